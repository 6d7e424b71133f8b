/-! WHAT CAN BE REACHED: the class, by sets of bits. -/
theorem mk_l : ∀ q, q < 64 → tb 9187201950435737471 q = decide (q % 8 ≠ 7) := by decide +kernel
theorem mk_r : ∀ q, q < 64 → tb (-9187201950435737472) q = decide (q % 8 = 7) := by decide +kernel
theorem mk_a : ∀ q, q < 64 → tb (-72340172838076674) q = decide (q % 8 ≠ 0) := by decide +kernel
theorem mk_b : ∀ q, q < 64 → tb 72340172838076673 q = decide (q % 8 = 0) := by decide +kernel
theorem nx_6 : ∀ q, q < 64 → nx q 6 = if q < 8 then q + 56 else q - 8 := by decide +kernel
theorem nx_2 : ∀ q, q < 64 → nx q 2 = if 56 ≤ q then q - 56 else q + 8 := by decide +kernel
theorem nx_4 : ∀ q, q < 64 → nx q 4 = if q % 8 = 0 then q + 7 else q - 1 := by decide +kernel
theorem nx_0 : ∀ q, q < 64 → nx q 0 = if q % 8 = 7 then q - 7 else q + 1 := by decide +kernel
theorem nx_inv : ∀ j, j < 4 → ∀ p, p < 64 → nx (nx p (2 * j)) (2 * ((j + 2) % 4)) = p := by decide +kernel
theorem wb_6 {a : Int64} {q : Nat} (hq : q < 64) : tb ((a <<< (Int32.toInt64 8 &&& 63)) ||| (Int64.toUInt64 a >>> (Int64.toUInt64 (Int32.toInt64 56) &&& Int64.toUInt64 63)).toInt64) q = tb a (nx q 6) := by
  rw [tb_or, tb_shl (c := 8) (k := 8) rfl (by decide), tb_shr (c := 56) (k := 56) rfl (by decide), nx_6 q hq, decide_eq_true hq, Bool.true_and]
  by_cases h : q < 8
  · rw [if_pos h, decide_eq_true h]; simp
  · rw [if_neg h, decide_eq_false h, tb_hi (q := q + 56) (by omega)]; simp
theorem wb_2 {a : Int64} {q : Nat} (hq : q < 64) : tb ((Int64.toUInt64 a >>> (Int64.toUInt64 (Int32.toInt64 8) &&& Int64.toUInt64 63)).toInt64 ||| (a <<< (Int32.toInt64 56 &&& 63))) q = tb a (nx q 2) := by
  rw [tb_or, tb_shl (c := 56) (k := 56) rfl (by decide), tb_shr (c := 8) (k := 8) rfl (by decide), nx_2 q hq, decide_eq_true hq, Bool.true_and]
  by_cases h : 56 ≤ q
  · rw [if_pos h, decide_eq_false (show ¬ q < 56 by omega), tb_hi (q := q + 8) (by omega)]; simp
  · rw [if_neg h, decide_eq_true (show q < 56 by omega)]; simp
theorem wb_4 {a : Int64} {q : Nat} (hq : q < 64) : tb (((a &&& (9187201950435737471 : Int64)) <<< (Int32.toInt64 1 &&& 63)) ||| (Int64.toUInt64 (a &&& (-9187201950435737472 : Int64)) >>> (Int64.toUInt64 (Int32.toInt64 7) &&& Int64.toUInt64 63)).toInt64) q = tb a (nx q 4) := by
  rw [tb_or, tb_shl (c := 1) (k := 1) rfl (by decide), tb_shr (c := 7) (k := 7) rfl (by decide), nx_4 q hq, decide_eq_true hq, Bool.true_and, tb_and, tb_and]
  by_cases h : q % 8 = 0
  · rw [if_pos h]
    have h7 : q + 7 < 64 := by omega
    rw [mk_r _ h7, decide_eq_true (show (q + 7) % 8 = 7 by omega)]
    by_cases h1 : q < 1
    · rw [decide_eq_true h1]; simp
    · rw [mk_l (q - 1) (by omega), decide_eq_false (show ¬ ((q - 1) % 8 ≠ 7) by omega)]; simp
  · rw [if_neg h, decide_eq_false (show ¬ q < 1 by omega), mk_l (q - 1) (by omega), decide_eq_true (show (q - 1) % 8 ≠ 7 by omega)]
    have : (tb a (q + 7) && tb (-9187201950435737472) (q + 7)) = false := by
      rcases Nat.lt_or_ge (q + 7) 64 with z | z
      · rw [mk_r _ z, decide_eq_false (show ¬ (q + 7) % 8 = 7 by omega), Bool.and_false]
      · rw [tb_hi z, Bool.false_and]
    rw [this]; simp
theorem wb_0 {a : Int64} {q : Nat} (hq : q < 64) : tb ((Int64.toUInt64 (a &&& (-72340172838076674 : Int64)) >>> (Int64.toUInt64 (Int32.toInt64 1) &&& Int64.toUInt64 63)).toInt64 ||| ((a &&& (72340172838076673 : Int64)) <<< (Int32.toInt64 7 &&& 63))) q = tb a (nx q 0) := by
  rw [tb_or, tb_shl (c := 7) (k := 7) rfl (by decide), tb_shr (c := 1) (k := 1) rfl (by decide), nx_0 q hq, decide_eq_true hq, Bool.true_and, tb_and, tb_and]
  by_cases h : q % 8 = 7
  · rw [if_pos h, decide_eq_false (show ¬ q < 7 by omega), mk_b (q - 7) (by omega), decide_eq_true (show (q - 7) % 8 = 0 by omega)]
    have : (tb a (q + 1) && tb (-72340172838076674) (q + 1)) = false := by
      rcases Nat.lt_or_ge (q + 1) 64 with z | z
      · rw [mk_a _ z, decide_eq_false (show ¬ ((q + 1) % 8 ≠ 0) by omega), Bool.and_false]
      · rw [tb_hi z, Bool.false_and]
    rw [this]; simp
  · rw [if_neg h, mk_a (q + 1) (by omega), decide_eq_true (show (q + 1) % 8 ≠ 0 by omega)]
    by_cases h1 : q < 7
    · rw [decide_eq_true h1]; simp
    · rw [mk_b (q - 7) (by omega), decide_eq_false (show ¬ ((q - 7) % 8 = 0) by omega)]; simp
theorem wb_is {a : Int64} {q : Nat} (hq : q < 64) : tb (f_X10_withNeighbours a) q = ((((tb a q || tb a (nx q 6)) || tb a (nx q 2)) || tb a (nx q 4)) || tb a (nx q 0)) := by
  unfold f_X10_withNeighbours
  rw [tb_or (q := q), tb_or (q := q), tb_or (q := q), tb_or (q := q), wb_6 hq, wb_2 hq, wb_4 hq, wb_0 hq]
/-- counting bits -/
theorem pc_le {f : Nat → Bool} {k : Nat} : ∀ {j : Nat}, pcT f k j ≤ k := by
  induction k with
  | zero => intro j; exact Nat.le_refl _
  | succ k ih => intro j; rw [pcT]; have := ih (j := j + 1); split <;> omega
theorem pc_mo {f g : Nat → Bool} {k : Nat} : ∀ {j : Nat}, (∀ q, j ≤ q → q < j + k → f q = true → g q = true) → pcT f k j ≤ pcT g k j := by
  induction k with
  | zero => intro j _; exact Nat.le_refl _
  | succ k ih =>
    intro j h
    rw [pcT, pcT]
    have := ih (j := j + 1) (fun q a b => h q (by omega) (by omega))
    have h0 := h j (Nat.le_refl _) (by omega)
    cases hf : f j with
    | true => rw [h0 hf]; omega
    | false =>
      rw [if_neg (show ¬ (false = true) by decide)]
      split <;> omega
theorem pc_lt {f g : Nat → Bool} {k : Nat} : ∀ {j q : Nat}, (∀ q, j ≤ q → q < j + k → f q = true → g q = true) → j ≤ q → q < j + k → f q = false → g q = true → pcT f k j + 1 ≤ pcT g k j := by
  induction k with
  | zero => intro j q _ a b; omega
  | succ k ih =>
    intro j q h a b e1 e2
    rw [pcT, pcT]
    by_cases z : q = j
    · subst z
      rw [e1, e2, if_neg (show ¬ (false = true) by decide), if_pos rfl]
      have := pc_mo (f := f) (g := g) (k := k) (j := q + 1) (fun q a b => h q (by omega) (by omega))
      omega
    · have := ih (j := j + 1) (q := q) (fun q a b => h q (by omega) (by omega)) (by omega) (by omega) e1 e2
      have h0 := h j (Nat.le_refl _) (by omega)
      cases hf : f j with
      | true => rw [h0 hf]; omega
      | false =>
        rw [if_neg (show ¬ (false = true) by decide)]
        split <;> omega
theorem tb_ne {a b : Int64} (h : ¬ a = b) (hs : ∀ q, q < 64 → tb b q = true → tb a q = true) : ∃ q, q < 64 ∧ tb b q = false ∧ tb a q = true := by
  apply Classical.byContradiction
  intro no
  apply h
  apply tb_ext
  intro q hq
  cases ea : tb a q with
  | false =>
    cases eb : tb b q with
    | false => rfl
    | true => rw [hs q hq eb] at ea; cases ea
  | true =>
    cases eb : tb b q with
    | true => rfl
    | false => exact absurd ⟨q, hq, eb, ea⟩ no
theorem cb_s {T : Int64} {c0 : Nat} {k : Nat} : ∀ {s : Int64}, 64 < pcT (tb s) 64 0 + k → (∀ q, q < 64 → tb s q = true → tb T q = false ∧ Rch (tb T) c0 q) → tb s c0 = true → tb (cbs T k s) c0 = true ∧ (∀ q, q < 64 → tb (cbs T k s) q = true → Rch (tb T) c0 q) ∧ ∀ p j, p < 64 → tb (cbs T k s) p = true → j < 4 → tb T (nx p (2 * j)) = false → tb (cbs T k s) (nx p (2 * j)) = true := by
  induction k with
  | zero =>
    intro s h
    have := pc_le (f := tb s) (k := 64) (j := 0)
    omega
  | succ k ih =>
    intro s h hs h0
    rw [cbs]
    have bits : ∀ q, q < 64 → tb (f_X10_withNeighbours s &&& (T ^^^ (-1))) q = ((((((tb s q || tb s (nx q 6)) || tb s (nx q 2)) || tb s (nx q 4)) || tb s (nx q 0))) && !tb T q) := fun q hq => by rw [tb_and, tb_not hq, wb_is hq]
    have sub : ∀ q, q < 64 → tb s q = true → tb (f_X10_withNeighbours s &&& (T ^^^ (-1))) q = true := fun q hq e => by rw [bits q hq, e, (hs q hq e).1]; rfl
    have fwd : ∀ p j, p < 64 → tb s p = true → j < 4 → tb T (nx p (2 * j)) = false → tb (f_X10_withNeighbours s &&& (T ^^^ (-1))) (nx p (2 * j)) = true := by
      intro p j hp e hj ht
      rw [bits _ nx_lt, ht]
      have iv := nx_inv j hj p hp
      have cs : j = 0 ∨ j = 1 ∨ j = 2 ∨ j = 3 := by omega
      rcases cs with z | z | z | z <;> subst z <;> simp only [Nat.reduceMul, Nat.reduceAdd, Nat.reduceMod] at iv ⊢ <;> rw [iv, e] <;> simp
    have back : ∀ q, q < 64 → tb (f_X10_withNeighbours s &&& (T ^^^ (-1))) q = true → tb T q = false ∧ Rch (tb T) c0 q := by
      intro q hq e
      rw [bits q hq, Bool.and_eq_true, Bool.not_eq_true'] at e
      refine ⟨e.2, ?_⟩
      have st : ∀ w, w < 4 → tb s (nx q (2 * w)) = true → Rch (tb T) c0 q := by
        intro w hw z
        have iv := nx_inv w hw q hq
        have := Rch_s (tr := tb T) (c0 := c0) (p := nx q (2 * w)) (j := (w + 2) % 4) (hs _ nx_lt z).2 nx_lt (Nat.mod_lt _ (by decide)) (by rw [iv]; exact e.2)
        rw [iv] at this
        exact this
      have e1 := e.1
      rw [Bool.or_eq_true, Bool.or_eq_true, Bool.or_eq_true, Bool.or_eq_true] at e1
      rcases e1 with (((z | z) | z) | z) | z
      · exact (hs q hq z).2
      · exact st 3 (by decide) z
      · exact st 1 (by decide) z
      · exact st 2 (by decide) z
      · exact st 0 (by decide) z
    by_cases e : lg_cmp ((f_X10_withNeighbours s) &&& (T ^^^ (-1))) s = 0
    · rw [if_pos e]
      have e2 := lg_cmp_0.1 e
      rw [e2] at fwd
      exact ⟨h0, fun q hq z => (hs q hq z).2, fwd⟩
    · rw [if_neg e]
      obtain ⟨q, hq, q1, q2⟩ := tb_ne (fun z => e (lg_cmp_0.2 z)) sub
      have c6 : c0 < 64 := by
        rcases Nat.lt_or_ge c0 64 with z | z
        · exact z
        · rw [tb_hi z] at h0; cases h0
      have lt := pc_lt (f := tb s) (g := tb (f_X10_withNeighbours s &&& (T ^^^ (-1)))) (k := 64) (j := 0) (q := q) (fun q _ b => sub q (by omega)) (Nat.zero_le _) (by omega) q1 q2
      exact ih (by omega) back (sub c0 c6 h0)
theorem cb_0 {T : Int64} {k : Nat} : cbs T k 0 = 0 := by
  cases k with
  | zero => rfl
  | succ k =>
    rw [cbs, if_pos]
    apply lg_cmp_0.2
    apply tb_ext
    intro q hq
    rw [tb_and, wb_is hq]
    simp only [tb_0, Bool.or_false, Bool.false_and]
section RCB
variable {t : Nat} {x : kK} {y : kY}
theorem cbs_is {T : Int64} {c0 : Nat} (h6 : c0 < 64) (hc : tb T c0 = false) {q : Nat} (hq : q < 64) : tb (cbs T 64 (tbN c0 &&& (T ^^^ (-1)))) q = true ↔ Rch (tb T) c0 q := by
  have b : ∀ q, q < 64 → tb (tbN c0 &&& (T ^^^ (-1))) q = decide (q = c0) := by
    intro q hq
    rw [tb_and, tb_N h6 hq, tb_not hq]
    by_cases e : q = c0
    · subst e; rw [hc]; simp
    · rw [decide_eq_false e]; simp
  have b0 : tb (tbN c0 &&& (T ^^^ (-1))) c0 = true := by rw [b c0 h6]; exact decide_eq_true rfl
  have cnt : 1 ≤ pcT (tb (tbN c0 &&& (T ^^^ (-1)))) 64 0 := by
    have := pc_lt (f := fun _ => false) (g := tb (tbN c0 &&& (T ^^^ (-1)))) (k := 64) (j := 0) (q := c0) (fun _ _ _ z => by cases z) (Nat.zero_le _) (by omega) rfl b0
    omega
  obtain ⟨a1, a2, a3⟩ := cb_s (T := T) (c0 := c0) (k := 64) (s := tbN c0 &&& (T ^^^ (-1))) (by omega) (fun q hq z => by
    rw [b q hq] at z
    have z := of_decide_eq_true z
    subst z
    exact ⟨hc, Rch_0⟩) b0
  have is := Rch_is (tr := tb T) (c0 := c0) (q := q) (S := fun c => c < 64 ∧ tb (cbs T 64 (tbN c0 &&& (T ^^^ (-1)))) c = true) ⟨h6, a1⟩ (fun p j hp hs hj ht => ⟨nx_lt, a3 p j hp hs.2 hj ht⟩) (fun hs => a2 q hq hs.2)
  exact ⟨fun z => is.1 ⟨hq, z⟩, fun z => (is.2 z).2⟩
theorem q_reach (X : RX t x y) {a b : Int32} : RX t x (g_X12_reach y a b) ∧ (okL (o_X11_reach x a b) (g_X12_reach y a b) (f_X12_reach y a b) ∨ exE (o_X11_reach x a b) (g_X12_reach y a b) "java/lang/IndexOutOfBoundsException" 1) := by
  unfold o_X11_reach
  rcases ce_cs a b with ⟨e1, e2⟩ | ⟨e1, e2, p, q, hp, hq, rfl, rfl, e3⟩
  · have g : g_X12_reach y a b = yS y 0 1 := by unfold g_X12_reach; rw [if_pos e2]
    rw [if_pos e1, g]
    exact ⟨RX_s X 1, Or.inr ⟨rfl, rfl⟩⟩
  · rw [e1, if_neg z10, cell_nI hp hq]
    have h6 : 8 * q + p < 64 := by omega
    cases hc : tb (x.1 0).1 (8 * q + p) with
    | true =>
      obtain ⟨r1, r2, r3⟩ := q_rchY_t X e2 h6 e3 hc
      refine ⟨r2, Or.inl ⟨?_, r3⟩⟩
      have z : tbN (8 * q + p) &&& ((x.1 0).1 ^^^ (-1)) = 0 := by
        apply tb_ext
        intro r hr
        rw [tb_and, tb_N h6 hr, tb_not hr, tb_0]
        by_cases e : r = 8 * q + p
        · subst e; rw [hc]; simp
        · rw [decide_eq_false e]; simp
      have z2 : cbs (x.1 0).1 64 (((1 : Int64) <<< ((nI (8 * q + p)).toInt64 &&& 63)) &&& ((x.1 0).1 ^^^ (-1))) = 0 := by
        show cbs (x.1 0).1 64 (tbN (8 * q + p) &&& ((x.1 0).1 ^^^ (-1))) = 0
        rw [z, cb_0]
      rw [z2, r1]
    | false =>
      obtain ⟨r1, r2, r3⟩ := q_rchY X e2 h6 e3 hc
      refine ⟨r2, Or.inl ⟨?_, r3⟩⟩
      have z2 : cbs (x.1 0).1 64 (((1 : Int64) <<< ((nI (8 * q + p)).toInt64 &&& 63)) &&& ((x.1 0).1 ^^^ (-1))) = f_X12_reach y (nI p) (nI q) := by
        show cbs (x.1 0).1 64 (tbN (8 * q + p) &&& ((x.1 0).1 ^^^ (-1))) = _
        apply tb_ext
        intro r hr
        rw [Bool.eq_iff_iff, cbs_is h6 hc hr, r1 r hr]
      rw [z2]
end RCB
