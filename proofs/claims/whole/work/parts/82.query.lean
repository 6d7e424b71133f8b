/-! QUERIES that look at numbers, cells, parties, pleas; save and restore. -/
def okL (o : kOut) (y : kY) (v : Int64) : Prop := o = .inl (some (.long v)) ∧ y.1 0 = 0
section QRY
variable {t hb : Nat} {x : kK} {y : kY}
theorem RX_s (X : RX t x y) (z : Int32) : RX t x (yS y 0 z) :=
  RX_q X (Nat.le_refl _) rfl (fun _ _ _ => rfl) (fun _ _ => rfl) X.O.2.1 (fun k h0 _ _ => by rw [ys_1, pk_un h0]) (fun _ _ _ => rfl)
theorem tl {k : Nat} (hk : k < 2 ^ 31) : f_X12_tells y (nI k) = y.2 0 k := by unfold f_X12_tells; rw [nI_clamp hk]
theorem q_bench (X : RX t x y) : RX t x (g_X12_bench y) ∧ f_X11_bench x = f_X12_bench y ∧ (g_X12_bench y).1 0 = 0 := ⟨RX_s X 0, X.R.n0.trans (tl (k := 3) (by omega)).symm, rfl⟩
theorem q_partyCount (X : RX t x y) : RX t x (g_X12_partyCount y) ∧ f_X11_partyCount x = f_X12_partyCount y ∧ (g_X12_partyCount y).1 0 = 0 := ⟨RX_s X 0, X.R.n3.trans (tl (k := 6) (by omega)).symm, rfl⟩
theorem q_boomerangs (X : RX t x y) : RX t x (g_X12_boomerangs y) ∧ f_X11_boomerangs x = f_X12_boomerangs y ∧ (g_X12_boomerangs y).1 0 = 0 := ⟨RX_s X 0, X.R.n7.trans (tl (k := 2) (by omega)).symm, rfl⟩
theorem q_throwCount (X : RX t x y) : RX t x (g_X12_throwCount y) ∧ f_X11_throwCount x = f_X12_throwCount y ∧ (g_X12_throwCount y).1 0 = 0 := ⟨RX_s X 0, X.R.n12.trans (tl (k := 9) (by omega)).symm, rfl⟩
theorem q_sittingBits (X : RX t x y) : RX t x (g_X12_sittingBits y) ∧ f_X11_sittingBits x = f_X12_sittingBits y ∧ (g_X12_sittingBits y).1 0 = 0 := ⟨RX_s X 0, X.R.n5.trans (tl (k := 8) (by omega)).symm, rfl⟩
theorem q_pleaCount (X : RX t x y) : RX t x (g_X12_pleaCount y) ∧ f_X11_pleaCount x = f_X12_pleaCount y ∧ (g_X12_pleaCount y).1 0 = 0 := ⟨RX_s X 0, X.R.n6.trans (tl (k := 7) (by omega)).symm, rfl⟩
theorem q_hour (X : RX t x y) : RX t x (g_X12_hour y) ∧ f_X11_hour x = f_X12_hour y ∧ (g_X12_hour y).1 0 = 0 := ⟨RX_s X 0, X.R.n4.trans (tl (k := 0) (by omega)).symm, rfl⟩
theorem q_coins (X : RX t x y) : RX t x (g_X12_coins y) ∧ f_X11_coins x = f_X12_coins y ∧ (g_X12_coins y).1 0 = 0 := ⟨RX_s X 0, X.R.n8.trans (tl (k := 1) (by omega)).symm, rfl⟩
theorem q_coinsByAccounts (X : RX t x y) : RX t x (g_X12_coinsByAccounts y) ∧ f_X11_coinsByAccounts x = f_X12_coinsByAccounts y ∧ (g_X12_coinsByAccounts y).1 0 = 0 := ⟨RX_s X 0, (Eq.symm X.R.A).trans (X.R.n8.trans (tl (k := 1) (by omega)).symm), rfl⟩
/-! trees -/
theorem bi_0 {v : Nat → Int32} {T : Int64} (h : ∀ q, q < 64 → v (12 + q) = if tb T q = true then 1 else 0) {k : Nat} : ∀ {j : Nat} {s : Int64}, j + k = 64 → ∀ q, q < 64 → tb (biL v 0 k j s) q = (tb s q || (decide (j ≤ q) && tb T q)) := by
  induction k with
  | zero =>
    intro j s hj q hq
    rw [biL, decide_eq_false (by omega), Bool.false_and, Bool.or_false]
  | succ k ih =>
    intro j s hj q hq
    have hj6 : j < 64 := by omega
    have ht : f_X12_isTree v (nI j) = if tb T j = true then 1 else 0 := by
      rw [isTree_at hj6, h j hj6]
      cases tb T j <;> rfl
    rw [biL, if_pos rfl, ht]
    cases b : tb T j with
    | true =>
      rw [if_pos rfl, if_neg z10, ih (by omega) q hq, tb_or]
      have e : tb ((1 : Int64) <<< (Int32.toInt64 (nI j) &&& 63)) q = decide (q = j) := tb_N hj6 hq
      rw [e]
      by_cases z : q = j
      · subst z; rw [b, decide_eq_true rfl]; simp
      · rw [decide_eq_false z, Bool.or_false]
        congr 2
        exact decide_eq_decide.2 ⟨fun _ => by omega, fun _ => by omega⟩
    | false =>
      rw [if_neg (show ¬ (false = true) by decide), if_pos rfl, ih (by omega) q hq, tb_or, tb_0, Bool.or_false]
      by_cases z : q = j
      · subst z; rw [b, Bool.and_false, Bool.and_false]
      · congr 2
        exact decide_eq_decide.2 ⟨fun _ => by omega, fun _ => by omega⟩
theorem tuJ_is {j : Nat} (hj : j < 64) : ((((8 * ((nI j) - (nI j) / 8 * 8)) + 8) - 1) - ((nI j) / 8)) = nI (8 * (j % 8) + 7 - j / 8) := by
  have h : ∀ j, j < 64 → ((((8 * ((nI j) - (nI j) / 8 * 8)) + 8) - 1) - ((nI j) / 8)) = nI (8 * (j % 8) + 7 - j / 8) := by decide +kernel
  exact h j hj
theorem tuJ_tu {q j : Nat} (hq : q < 64) (hj : j < 64) : (q = 8 * (j % 8) + 7 - j / 8) ↔ tuI q = j := by
  unfold tuI
  omega
theorem bi_1 {v : Nat → Int32} {T : Int64} (h : ∀ q, q < 64 → v (12 + q) = if tb T q = true then 1 else 0) {k : Nat} : ∀ {j : Nat} {s : Int64}, j + k = 64 → ∀ q, q < 64 → tb (biL v 1 k j s) q = (tb s q || (decide (j ≤ tuI q) && tb T (tuI q))) := by
  induction k with
  | zero =>
    intro j s hj q hq
    have : tuI q < 64 := by unfold tuI; omega
    rw [biL, decide_eq_false (by omega), Bool.false_and, Bool.or_false]
  | succ k ih =>
    intro j s hj q hq
    have hj6 : j < 64 := by omega
    have ht : f_X12_isTree v (nI j) = if tb T j = true then 1 else 0 := by
      rw [isTree_at hj6, h j hj6]
      cases tb T j <;> rfl
    rw [biL, if_neg z10, ht]
    cases b : tb T j with
    | true =>
      rw [if_pos rfl, if_neg z10, ih (by omega) q hq, tb_or, tuJ_is hj6]
      have e : tb ((1 : Int64) <<< (Int32.toInt64 (nI (8 * (j % 8) + 7 - j / 8)) &&& 63)) q = decide (q = 8 * (j % 8) + 7 - j / 8) := tb_N (by omega) hq
      rw [e]
      have tu := tuJ_tu hq hj6
      by_cases z : tuI q = j
      · rw [decide_eq_true (tu.2 z), z, b, decide_eq_true (Nat.le_refl j)]; simp
      · rw [decide_eq_false (fun w => z (tu.1 w)), Bool.or_false]
        congr 2
        exact decide_eq_decide.2 ⟨fun _ => by omega, fun _ => by omega⟩
    | false =>
      rw [if_neg (show ¬ (false = true) by decide), if_pos rfl, ih (by omega) q hq, tb_or, tb_0, Bool.or_false]
      by_cases z : tuI q = j
      · rw [z, b, Bool.and_false, Bool.and_false]
      · congr 2
        exact decide_eq_decide.2 ⟨fun _ => by omega, fun _ => by omega⟩
theorem q_treeBits (X : RX t x y) : RX t x (g_X12_treeBits y) ∧ f_X11_treeBits x = f_X12_treeBits y ∧ (g_X12_treeBits y).1 0 = 0 := by
  refine ⟨RX_s X 0, ?_, rfl⟩
  unfold f_X11_treeBits f_X12_treeBits f_X12_bits
  apply tb_ext
  intro q hq
  rw [bi_0 X.R.T (by omega) q hq, tb_0, decide_eq_true (Nat.zero_le q)]
  simp
theorem q_turnedTrees (X : RX t x y) : RX t x (g_X12_turnedTrees y) ∧ f_X11_turnedTrees x = f_X12_turnedTrees y ∧ (g_X12_turnedTrees y).1 0 = 0 := by
  refine ⟨RX_s X 0, ?_, rfl⟩
  unfold f_X11_turnedTrees f_X12_turnedTrees f_X12_bits
  apply tb_ext
  intro q hq
  rw [bi_1 X.R.T (by omega) q hq, tb_0, tb_turned hq, decide_eq_true (Nat.zero_le _)]
  simp
theorem q_turnedTreesByCells (X : RX t x y) : RX t x (g_X12_turnedTreesByCells y) ∧ f_X11_turnedTreesByCells x = f_X12_turnedTreesByCells y ∧ (g_X12_turnedTreesByCells y).1 0 = 0 := by
  refine ⟨RX_s X 0, ?_, rfl⟩
  unfold f_X11_turnedTreesByCells f_X12_turnedTreesByCells f_X12_turnedTrees f_X12_bits
  apply tb_ext
  intro q hq
  rw [bi_1 X.R.T (by omega) q hq, tb_0, tb_tcO (by omega) q hq, tb_0, decide_eq_true (Nat.zero_le _)]
  cases tb (x.1 0).1 (tuI q) <;> simp
/-! parties -/
theorem pty_cs (R : RJ hb t (x.1 0) (y.2 0)) (a : Int32) : (b2i (decide (0 ≤ a ∧ a < (x.1 0).2.1 3)) = 0 ∧ f_X12_isParty (y.2 0) a = 0) ∨ (b2i (decide (0 ≤ a ∧ a < (x.1 0).2.1 3)) = 1 ∧ f_X12_isParty (y.2 0) a = 1 ∧ ∃ q, q < nP (y.2 0) ∧ a = nI q) := by
  have h8 := R.nP8
  have e6 : (x.1 0).2.1 3 = nI (nP (y.2 0)) := by rw [R.n3]; exact R.eP
  have ip : f_X12_isParty (y.2 0) a = f_X12_isIn a 0 (nI (nP (y.2 0)) - 1) := by unfold f_X12_isParty; rw [← R.eP]
  rcases in_cs a (n := nP (y.2 0)) (by omega) with ⟨i1, i2⟩ | ⟨i1, q, hq, rfl⟩
  · exact Or.inl ⟨hpQ_f e6 (by omega) i2, ip.trans i1⟩
  · exact Or.inr ⟨hpQ_t e6 (by omega) hq, ip.trans i1, q, hq, rfl⟩
theorem ple_cs (R : RJ hb t (x.1 0) (y.2 0)) (a : Int32) : (f_X3_hasPlea x a = 0 ∧ f_X12_isPlea (y.2 0) a = 0) ∨ (f_X3_hasPlea x a = 1 ∧ f_X12_isPlea (y.2 0) a = 1 ∧ ∃ l, l < nL (y.2 0) ∧ a = nI l) := by
  have h8 := R.nL8
  have ec : (x.1 0).2.1 6 = nI (nL (y.2 0)) := by rw [R.n6]; exact R.eL
  have ip : f_X12_isPlea (y.2 0) a = f_X12_isIn a 0 (nI (nL (y.2 0)) - 1) := by unfold f_X12_isPlea; rw [← R.eL]
  rcases in_cs a (n := nL (y.2 0)) (by omega) with ⟨i1, i2⟩ | ⟨i1, l, hl, rfl⟩
  · exact Or.inl ⟨hl_f ec i2, ip.trans i1⟩
  · exact Or.inr ⟨hl_t ec (by omega) hl, ip.trans i1, l, hl, rfl⟩
theorem cop {v : Nat → Int32} {q : Nat} (hq : q < 8) : f_X12_cellOfParty v (nI q) = v (76 + 2 * q) := by
  unfold f_X12_cellOfParty
  rw [show (2 : Int32) = nI 2 from rfl, pk_mul, show (76 : Int32) = nI 76 from rfl, nI_add, nI_clamp (by omega)]
theorem cos {q : Nat} (hq : q < 8) : Int32.toNatClampNeg (76 + 2 * nI q + 1) = 76 + 2 * q + 1 := by
  rw [show (2 : Int32) = nI 2 from rfl, pk_mul, show (76 : Int32) = nI 76 from rfl, nI_add, nI_1, nI_clamp (by omega)]
theorem q_cellOf (X : RX t x y) {a : Int32} : RX t x (g_X12_cellOf y a) ∧ (okI (o_X11_cellOf x a) (g_X12_cellOf y a) (f_X12_cellOf y a) ∨ exE (o_X11_cellOf x a) (g_X12_cellOf y a) "java/lang/IndexOutOfBoundsException" 1) := by
  have n8 := X.R.nP8
  unfold o_X11_cellOf g_X12_cellOf f_X12_cellOf
  rcases pty_cs X.R a with ⟨e1, e2⟩ | ⟨e1, e2, q, hq, rfl⟩
  · rw [if_pos e1, if_pos e2, if_pos e2]
    exact ⟨RX_s X 1, Or.inr ⟨rfl, rfl⟩⟩
  · rw [e1, e2, if_neg z10, if_neg z10, if_neg z10, nI_clamp (by omega), cop (by omega), (X.R.P.1 q hq).1]
    exact ⟨RX_s X 0, Or.inl ⟨rfl, rfl⟩⟩
theorem q_servedCount (X : RX t x y) {a : Int32} : RX t x (g_X12_servedCount y a) ∧ (okI (o_X11_servedCount x a) (g_X12_servedCount y a) (f_X12_servedCount y a) ∨ exE (o_X11_servedCount x a) (g_X12_servedCount y a) "java/lang/IndexOutOfBoundsException" 1) := by
  have n8 := X.R.nP8
  unfold o_X11_servedCount g_X12_servedCount f_X12_servedCount
  rcases pty_cs X.R a with ⟨e1, e2⟩ | ⟨e1, e2, q, hq, rfl⟩
  · rw [if_pos e1, if_pos e2, if_pos e2]
    exact ⟨RX_s X 1, Or.inr ⟨rfl, rfl⟩⟩
  · rw [e1, e2, if_neg z10, if_neg z10, if_neg z10, nI_clamp (by omega), cos (by omega), (X.R.P.1 q hq).2]
    exact ⟨RX_s X 0, Or.inl ⟨rfl, rfl⟩⟩
theorem q_partyIn (X : RX t x y) {a b : Int32} : RX t x (g_X12_partyIn y a b) ∧ (okI (o_X11_partyIn x a b) (g_X12_partyIn y a b) (f_X12_partyIn y a b) ∨ exE (o_X11_partyIn x a b) (g_X12_partyIn y a b) "java/lang/IndexOutOfBoundsException" 1 ∨ exE (o_X11_partyIn x a b) (g_X12_partyIn y a b) "java/util/NoSuchElementException" 2) := by
  have n8 := X.R.nP8
  unfold o_X11_partyIn g_X12_partyIn f_X12_partyIn f_X11_cellAt
  rw [stand_eq X.R]
  rcases ce_cs a b with ⟨e1, e2⟩ | ⟨e1, e2, -⟩
  · rw [if_pos e1, if_pos e2, if_pos e2]
    exact ⟨RX_s X 1, Or.inr (Or.inl ⟨rfl, rfl⟩)⟩
  · rw [e1, e2, if_neg z10, if_neg z10, if_neg z10]
    rcases pF_s (f := (x.1 0).2.2 0) (c := 8 * b + a) (k := Int32.toNatClampNeg ((x.1 0).2.1 3)) (j := 0) with ⟨e, -⟩ | ⟨i, -, i2, -, e, -⟩
    · rw [e, if_pos rfl, if_neg (show ¬ (0 : Int32) ≤ -1 by decide), if_neg (show ¬ (0 : Int32) ≤ -1 by decide)]
      exact ⟨RX_s X 2, Or.inr (Or.inr ⟨rfl, rfl⟩)⟩
    · have i3 : i < 8 := by rw [X.R.k3] at i2; omega
      have i0 : (0 : Int32) ≤ nI i := nI_pos' (by omega)
      have im : ¬ nI i = (-1 : Int32) := by
        intro z
        have z2 : nI i < 0 := by rw [z]; decide
        exact nI_pos (by omega) z2
      rw [e, if_neg im, if_pos i0, if_pos i0]
      exact ⟨RX_s X 0, Or.inl ⟨rfl, rfl⟩⟩
/-! pleas -/
theorem q_pleaParty (X : RX t x y) {a : Int32} : RX t x (g_X12_pleaParty y a) ∧ (okI (o_X11_pleaParty x a) (g_X12_pleaParty y a) (f_X12_pleaParty y a) ∨ exE (o_X11_pleaParty x a) (g_X12_pleaParty y a) "java/lang/IndexOutOfBoundsException" 1) := by
  have n8 := X.R.nL8
  unfold o_X11_pleaParty g_X12_pleaParty f_X12_pleaParty f_X12_looks g_X12_looks
  rcases ple_cs X.R a with ⟨e1, e2⟩ | ⟨e1, e2, l, hl, rfl⟩
  · rw [if_pos e1, if_pos e2, if_pos e2, if_pos rfl, if_pos rfl]
    exact ⟨RX_s X 1, Or.inr ⟨rfl, rfl⟩⟩
  · rw [e1, e2, if_neg z10, if_neg z10, if_neg z10, if_neg z10, if_neg z10, ys_2, pl_0 (by omega), nI_clamp (by omega), (X.R.L l hl).1]
    exact ⟨RX_s X 0, Or.inl ⟨rfl, rfl⟩⟩
theorem q_pleaFrom (X : RX t x y) {a : Int32} : RX t x (g_X12_pleaFrom y a) ∧ (okI (o_X11_pleaFrom x a) (g_X12_pleaFrom y a) (f_X12_pleaFrom y a) ∨ exE (o_X11_pleaFrom x a) (g_X12_pleaFrom y a) "java/lang/IndexOutOfBoundsException" 1) := by
  have n8 := X.R.nL8
  unfold o_X11_pleaFrom g_X12_pleaFrom f_X12_pleaFrom f_X12_looks g_X12_looks
  rcases ple_cs X.R a with ⟨e1, e2⟩ | ⟨e1, e2, l, hl, rfl⟩
  · rw [if_pos e1, if_pos e2, if_pos e2, if_pos rfl, if_pos rfl]
    exact ⟨RX_s X 1, Or.inr ⟨rfl, rfl⟩⟩
  · rw [e1, e2, if_neg z10, if_neg z10, if_neg z10, if_neg z10, if_neg z10, ys_2, pl_1 (by omega), nI_clamp (by omega), (X.R.L l hl).2.1]
    exact ⟨RX_s X 0, Or.inl ⟨rfl, rfl⟩⟩
theorem q_pleaUntil (X : RX t x y) {a : Int32} : RX t x (g_X12_pleaUntil y a) ∧ (okI (o_X11_pleaUntil x a) (g_X12_pleaUntil y a) (f_X12_pleaUntil y a) ∨ exE (o_X11_pleaUntil x a) (g_X12_pleaUntil y a) "java/lang/IndexOutOfBoundsException" 1) := by
  have n8 := X.R.nL8
  unfold o_X11_pleaUntil g_X12_pleaUntil f_X12_pleaUntil f_X12_looks g_X12_looks f_X12_until f_X3_lastHour
  rcases ple_cs X.R a with ⟨e1, e2⟩ | ⟨e1, e2, l, hl, rfl⟩
  · rw [if_pos e1, if_pos e2, if_pos e2, if_pos rfl, if_pos rfl]
    exact ⟨RX_s X 1, Or.inr ⟨rfl, rfl⟩⟩
  · rw [e1, e2, if_neg z10, if_neg z10, if_neg z10, if_neg z10, if_neg z10, ys_2, pl_1 (by omega), nI_clamp (by omega), (X.R.L l hl).2.1]
    exact ⟨RX_s X 0, Or.inl ⟨rfl, rfl⟩⟩
/-! refusals, errors -/
theorem q_refusalReason (X : RX t x y) : RX t x (g_X12_refusalReason y) ∧ (okI (o_X11_refusalReason x) (g_X12_refusalReason y) (f_X12_refusalReason y) ∨ exE (o_X11_refusalReason x) (g_X12_refusalReason y) "java/util/NoSuchElementException" 1) := by
  unfold o_X11_refusalReason g_X12_refusalReason f_X12_refusalReason
  rw [X.K.1]
  by_cases e : y.1 4 = 0
  · rw [if_pos e, if_pos e]
    exact ⟨RX_s X 1, Or.inr ⟨rfl, rfl⟩⟩
  · rw [if_neg e, if_neg e, if_neg e]
    exact ⟨RX_s X 0, Or.inl ⟨rfl, rfl⟩⟩
theorem q_refusalDetail (X : RX t x y) : RX t x (g_X12_refusalDetail y) ∧ (okI (o_X11_refusalDetail x) (g_X12_refusalDetail y) (f_X12_refusalDetail y) ∨ exE (o_X11_refusalDetail x) (g_X12_refusalDetail y) "java/util/NoSuchElementException" 1) := by
  unfold o_X11_refusalDetail g_X12_refusalDetail f_X12_refusalDetail
  rw [X.K.1, X.K.2]
  by_cases e : y.1 4 = 0
  · rw [if_pos e, if_pos e]
    exact ⟨RX_s X 1, Or.inr ⟨rfl, rfl⟩⟩
  · rw [if_neg e, if_neg e, if_neg e]
    exact ⟨RX_s X 0, Or.inl ⟨rfl, rfl⟩⟩
theorem neg_cs {z : Int32} {n : Nat} (hn : n < 2 ^ 31) (h : z = -1 ∨ isN z n) : (z = -1 ∧ ¬ 0 ≤ z) ∨ (¬ z = -1 ∧ 0 ≤ z) := by
  rcases h with h | ⟨i, hi, h⟩
  · subst h; exact Or.inl ⟨rfl, by decide⟩
  · subst h
    refine Or.inr ⟨fun w => ?_, nI_pos' (by omega)⟩
    have z2 : nI i < 0 := by rw [w]; decide
    exact nI_pos (by omega) z2
theorem q_errorPosition (X : RX t x y) : RX t x (g_X12_errorPosition y) ∧ (okI (o_X11_errorPosition x) (g_X12_errorPosition y) (f_X12_errorPosition y) ∨ exE (o_X11_errorPosition x) (g_X12_errorPosition y) "java/util/NoSuchElementException" 1) := by
  unfold o_X11_errorPosition g_X12_errorPosition f_X12_errorPosition
  rw [X.E.1.1]
  rcases neg_cs (by omega) X.E.1.2 with ⟨e1, e2⟩ | ⟨e1, e2⟩
  · rw [if_pos e1, if_neg e2, if_neg e2]
    exact ⟨RX_s X 1, Or.inr ⟨rfl, rfl⟩⟩
  · rw [if_neg e1, if_pos e2, if_pos e2]
    exact ⟨RX_s X 0, Or.inl ⟨rfl, rfl⟩⟩
theorem q_failedCommand (X : RX t x y) : RX t x (g_X12_failedCommand y) ∧ (okI (o_X11_failedCommand x) (g_X12_failedCommand y) (f_X12_failedCommand y) ∨ exE (o_X11_failedCommand x) (g_X12_failedCommand y) "java/util/NoSuchElementException" 1) := by
  unfold o_X11_failedCommand g_X12_failedCommand f_X12_failedCommand
  rw [X.E.2.1]
  rcases neg_cs (by omega) X.E.2.2 with ⟨e1, e2⟩ | ⟨e1, e2⟩
  · rw [if_pos e1, if_neg e2, if_neg e2]
    exact ⟨RX_s X 1, Or.inr ⟨rfl, rfl⟩⟩
  · rw [if_neg e1, if_pos e2, if_pos e2]
    exact ⟨RX_s X 0, Or.inl ⟨rfl, rfl⟩⟩
end QRY
