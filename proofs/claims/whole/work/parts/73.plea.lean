def bt (x : Int32) (i : Nat) : Bool := x.toBitVec.getLsbD i
theorem b_ext {x y : Int32} (h : ∀ i, i < 32 → bt x i = bt y i) : x = y := Int32.toBitVec_inj.mp (BitVec.eq_of_getLsbD_eq (fun i hi => h i hi))
theorem b_or (x y : Int32) (i : Nat) : bt (x ||| y) i = (bt x i || bt y i) := by unfold bt; rw [Int32.toBitVec_or, BitVec.getLsbD_or]
theorem b_and (x y : Int32) (i : Nat) : bt (x &&& y) i = (bt x i && bt y i) := by unfold bt; rw [Int32.toBitVec_and, BitVec.getLsbD_and]
theorem b_xor (x y : Int32) (i : Nat) : bt (x ^^^ y) i = (bt x i ^^ bt y i) := by unfold bt; rw [Int32.toBitVec_xor, BitVec.getLsbD_xor]
theorem b_m1 : ∀ i, i < 32 → bt (-1) i = true := by decide +kernel
theorem b_0 (i : Nat) : bt 0 i = false := BitVec.getLsbD_zero
theorem s_l : ∀ n, n < 32 → ((nI n &&& 31).toBitVec.smod 32).toNat = n := by decide +kernel
theorem s_u : ∀ n, n < 32 → (((nI n).toUInt32 &&& Int32.toUInt32 31).toBitVec % 32).toNat = n := by decide +kernel
theorem b_shl (n : Nat) (hn : n < 32) (x : Int32) {i : Nat} (hi : i < 32) : bt (x <<< (nI n &&& 31)) i = (decide (n ≤ i) && bt x (i - n)) := by
  unfold bt
  rw [Int32.toBitVec_shiftLeft]
  show (x.toBitVec <<< ((nI n &&& 31).toBitVec.smod 32).toNat).getLsbD i = _
  rw [s_l n hn, BitVec.getLsbD_shiftLeft]
  rcases Nat.lt_or_ge i n with h | h
  · simp [h, Nat.not_le.mpr h]
  · simp [hi, h, Nat.not_lt.mpr h]
theorem b_ushr (n : Nat) (hn : n < 32) (x : Int32) (i : Nat) : bt ((x.toUInt32 >>> ((nI n).toUInt32 &&& Int32.toUInt32 31)).toInt32) i = bt x (n + i) := by
  show (x.toUInt32 >>> ((nI n).toUInt32 &&& Int32.toUInt32 31)).toBitVec.getLsbD i = x.toUInt32.toBitVec.getLsbD (n + i)
  rw [UInt32.toBitVec_shiftRight]
  show (x.toUInt32.toBitVec >>> (((nI n).toUInt32 &&& Int32.toUInt32 31).toBitVec % 32).toNat).getLsbD i = _
  rw [s_u n hn, BitVec.getLsbD_ushiftRight]
theorem b_sshr (n : Nat) (hn : n < 32) (x : Int32) {i : Nat} (hi : i < 32) : bt (x >>> (nI n &&& 31)) i = if n + i < 32 then bt x (n + i) else bt x 31 := by
  unfold bt
  rw [Int32.toBitVec_shiftRight]
  show (x.toBitVec.sshiftRight ((nI n &&& 31).toBitVec.smod 32).toNat).getLsbD i = _
  rw [s_l n hn, BitVec.getLsbD_sshiftRight, BitVec.msb_eq_getLsbD_last]
  simp [hi]
/-! PLEAS AND HOURS, on both sides. (The rows b_ and s_ above are the kit's, given for pasting.) -/
abbrev T3 : Type := Int32 × Int32 × Int32
def kRow (c : kCo) (l : Nat) : T3 := (c.2.2 1 l, c.2.2 2 l, c.2.2 3 l)
def vRow (v : Nat → Int32) (l : Nat) : T3 := (v (92 + 3 * l), v (92 + 3 * l + 1), v (92 + 3 * l + 2))
def ls (F : Nat → T3) : Nat → Nat → List T3
  | _, 0 => []
  | a, n + 1 => F a :: ls F (a + 1) n
theorem ls_app {F : Nat → T3} {n : Nat} : ∀ {a : Nat}, ls F a (n + 1) = ls F a n ++ [F (a + n)] := by
  induction n with
  | zero => intro a; rfl
  | succ n ih =>
    intro a
    rw [ls, ih, ls, show a + 1 + n = a + (n + 1) by omega]
    rfl
theorem ls_c {F G : Nat → T3} {n : Nat} : ∀ {a b : Nat}, (∀ i, i < n → F (a + i) = G (b + i)) → ls F a n = ls G b n := by
  induction n with
  | zero => intro a b _; rfl
  | succ n ih =>
    intro a b h
    rw [ls, ls, ih (a := a + 1) (b := b + 1) (fun i hi => by have := h (i + 1) (by omega); rw [show a + 1 + i = a + (i + 1) by omega, show b + 1 + i = b + (i + 1) by omega]; exact this)]
    rw [show F a = G b from h 0 (by omega)]
theorem ls_e {F G : Nat → T3} {n : Nat} : ∀ {m a b : Nat}, ls F a n = ls G b m → n = m ∧ ∀ i, i < n → F (a + i) = G (b + i) := by
  induction n with
  | zero =>
    intro m a b h
    cases m with
    | zero => exact ⟨rfl, fun i hi => by omega⟩
    | succ m => cases h
  | succ n ih =>
    intro m a b h
    cases m with
    | zero => cases h
    | succ m =>
      rw [ls, ls] at h
      obtain ⟨h1, h2⟩ := List.cons.inj h
      obtain ⟨e, h3⟩ := ih h2
      subst e
      refine ⟨rfl, fun i hi => ?_⟩
      cases i with
      | zero => exact h1
      | succ i =>
        have := h3 i (by omega)
        rw [show a + 1 + i = a + (i + 1) by omega, show b + 1 + i = b + (i + 1) by omega] at this
        exact this
theorem ls_m {F : Nat → T3} {n : Nat} : ∀ {a i : Nat}, i < n → F (a + i) ∈ ls F a n := by
  induction n with
  | zero => intro a i hi; omega
  | succ n ih =>
    intro a i hi
    rw [ls]
    cases i with
    | zero => exact List.mem_cons_self
    | succ i =>
      have := ih (a := a + 1) (i := i) (by omega)
      rw [show a + 1 + i = a + (i + 1) by omega] at this
      exact List.mem_cons_of_mem _ this
def keepB (hr : Int32) (q : T3) : Bool := !decide (q.2.1 + 24 < hr)
/-! the class -/
theorem mv_r {x : kK} {a b : Nat} (ha : a < 2 ^ 31) (hb : b < 2 ^ 31) (i : Nat) : kRow ((g_X3_movePlea x (nI a) (nI b)).1 0) i = if i = b then kRow (x.1 0) a else kRow (x.1 0) i := by
  have e1 : ((g_X3_movePlea x (nI a) (nI b)).1 0).2.2 1 = upd ((x.1 0).2.2 1) b ((x.1 0).2.2 1 a) := by
    rw [show ((g_X3_movePlea x (nI a) (nI b)).1 0).2.2 1 = upd ((x.1 0).2.2 1) (nI b).toNatClampNeg ((x.1 0).2.2 1 (nI a).toNatClampNeg) from rfl, nI_clamp ha, nI_clamp hb]
  have e2 : ((g_X3_movePlea x (nI a) (nI b)).1 0).2.2 2 = upd ((x.1 0).2.2 2) b ((x.1 0).2.2 2 a) := by
    rw [show ((g_X3_movePlea x (nI a) (nI b)).1 0).2.2 2 = upd ((x.1 0).2.2 2) (nI b).toNatClampNeg ((x.1 0).2.2 2 (nI a).toNatClampNeg) from rfl, nI_clamp ha, nI_clamp hb]
  have e3 : ((g_X3_movePlea x (nI a) (nI b)).1 0).2.2 3 = upd ((x.1 0).2.2 3) b ((x.1 0).2.2 3 a) := by
    rw [show ((g_X3_movePlea x (nI a) (nI b)).1 0).2.2 3 = upd ((x.1 0).2.2 3) (nI b).toNatClampNeg ((x.1 0).2.2 3 (nI a).toNatClampNeg) from rfl, nI_clamp ha, nI_clamp hb]
  unfold kRow
  rw [e1, e2, e3]
  by_cases h : i = b
  · subst h; rw [if_pos rfl, pk_us, pk_us, pk_us]
  · rw [if_neg h, pk_un h, pk_un h, pk_un h]
/-- what else stands in a core -/
def coE (c d : kCo) : Prop := d.1 = c.1 ∧ d.2.2 0 = c.2.2 0 ∧ d.2.2 4 = c.2.2 4
theorem coE_t {c d e : kCo} (h1 : coE c d) (h2 : coE d e) : coE c e := ⟨h2.1.trans h1.1, h2.2.1.trans h1.2.1, h2.2.2.trans h1.2.2⟩
theorem mv_e {x : kK} {a b : Int32} : coE (x.1 0) ((g_X3_movePlea x a b).1 0) := ⟨rfl, rfl, rfl⟩
theorem sk_r {k : Nat} : ∀ {x : kK} {j : Nat}, j + k < 2 ^ 30 → ∀ i, kRow ((skL x k j).1 0) i = if j ≤ i ∧ i < j + k then kRow (x.1 0) (i + 1) else kRow (x.1 0) i := by
  induction k with
  | zero => intro x j _ i; rw [skL, if_neg (by omega)]
  | succ k ih =>
    intro x j hj i
    rw [skL, nI_pred, ih (by omega), mv_r (by omega) (by omega), mv_r (by omega) (by omega)]
    by_cases h1 : i = j
    · subst h1
      rw [if_neg (by omega), if_pos rfl, if_pos (by omega)]
    · by_cases h2 : j + 1 ≤ i ∧ i < j + 1 + k
      · rw [if_pos h2, if_neg (by omega), if_pos (by omega)]
      · rw [if_neg h2, if_neg h1, if_neg (by omega)]
theorem sk_e {k : Nat} : ∀ {x : kK} {j : Nat}, coE (x.1 0) ((skL x k j).1 0) := by
  induction k with
  | zero => intro x j; exact ⟨rfl, rfl, rfl⟩
  | succ k ih => intro x j; rw [skL]; exact coE_t mv_e ih
theorem ph_e {hr : Int32} {k : Nat} : ∀ {x : kK} {j p : Nat}, coE (x.1 0) ((phL hr k x j p).1.1 0) := by
  induction k with
  | zero => intro x j p; exact ⟨rfl, rfl, rfl⟩
  | succ k ih =>
    intro x j p
    rw [phL]
    split
    · exact ih
    · exact coE_t mv_e ih
theorem ph_l {hr : Int32} {k : Nat} : ∀ {x : kK} {j p : Nat}, p ≤ j → j + k < 2 ^ 30 → ls (kRow ((phL hr k x j p).1.1 0)) 0 (phL hr k x j p).2 = ls (kRow (x.1 0)) 0 p ++ (ls (kRow (x.1 0)) j k).filter (keepB hr) := by
  induction k with
  | zero => intro x j p _ _; rw [phL, ls, List.filter_nil, List.append_nil]
  | succ k ih =>
    intro x j p hp hj
    have lh : f_X3_lastHour x (nI j) = (kRow (x.1 0) j).2.1 + 24 := by
      unfold f_X3_lastHour kRow
      rw [nI_clamp (by omega)]
    rw [phL, ls, lh, List.filter_cons]
    by_cases h : (kRow (x.1 0) j).2.1 + 24 < hr
    · have kb : keepB hr (kRow (x.1 0) j) = false := by unfold keepB; rw [decide_eq_true h]; rfl
      rw [if_pos h, kb, ih (by omega) (by omega)]
      rfl
    · have kb : keepB hr (kRow (x.1 0) j) = true := by unfold keepB; rw [decide_eq_false h]; rfl
      rw [if_neg h, kb, ih (by omega) (by omega), if_pos rfl]
      have f1 : ls (kRow ((g_X3_movePlea x (nI j) (nI p)).1 0)) 0 (p + 1) = ls (kRow (x.1 0)) 0 p ++ [kRow (x.1 0) j] := by
        rw [ls_app]
        congr 1
        · apply ls_c
          intro i hi
          rw [mv_r (by omega) (by omega), if_neg (by omega)]
        · rw [mv_r (by omega) (by omega), if_pos (by omega)]
      have f2 : ls (kRow ((g_X3_movePlea x (nI j) (nI p)).1 0)) (j + 1) k = ls (kRow (x.1 0)) (j + 1) k := by
        apply ls_c
        intro i hi
        rw [mv_r (by omega) (by omega), if_neg (by omega)]
      rw [f1, f2, List.append_assoc]
      rfl
/-! the reference -/
theorem go_l {k : Nat} : ∀ {y : kY} {j : Nat}, j + k = 116 → (goL k y j).1 = y.1 ∧ (∀ r, r ≠ 0 → (goL k y j).2 r = y.2 r) ∧ ∀ i, (goL k y j).2 0 i = if j ≤ i ∧ i < 116 then (if i + 3 < 116 then y.2 0 (i + 3) else 0) else y.2 0 i := by
  induction k with
  | zero =>
    intro y j hj
    refine ⟨rfl, fun _ _ => rfl, fun i => ?_⟩
    rw [goL, if_neg (by omega)]
  | succ k ih =>
    intro y j hj
    have st : ∀ w : Int32, (∀ i, (yR y 0 (upd (y.2 0) j w)).2 0 i = if i = j then w else y.2 0 i) := fun w i => rfl
    rw [goL, show (3 : Int32) = nI 3 from rfl, nI_add, nI_clamp (show j < 2 ^ 31 by omega), nI_clamp (show j + 3 < 2 ^ 31 by omega)]
    have go : ∀ w : Int32, w = (if j + 3 < 116 then y.2 0 (j + 3) else 0) → (goL k (yR y 0 (upd (y.2 0) j w)) (j + 1)).1 = y.1 ∧ (∀ r, r ≠ 0 → (goL k (yR y 0 (upd (y.2 0) j w)) (j + 1)).2 r = y.2 r) ∧ ∀ i, (goL k (yR y 0 (upd (y.2 0) j w)) (j + 1)).2 0 i = if j ≤ i ∧ i < 116 then (if i + 3 < 116 then y.2 0 (i + 3) else 0) else y.2 0 i := by
      intro w hw
      obtain ⟨a1, a2, a3⟩ := ih (y := yR y 0 (upd (y.2 0) j w)) (j := j + 1) (by omega)
      refine ⟨a1, fun r hr => (a2 r hr).trans (if_neg hr), fun i => ?_⟩
      rw [a3, st, st]
      by_cases h1 : i = j
      · subst h1
        rw [if_neg (by omega), if_pos rfl, if_pos (by omega), hw]
      · by_cases h2 : j + 1 ≤ i ∧ i < 116
        · rw [if_pos h2, if_neg (show ¬ i + 3 = j by omega), if_pos (show j ≤ i ∧ i < 116 by omega)]
        · rw [if_neg h2, if_neg h1, if_neg (by omega)]
    by_cases h : (116 : Int32) ≤ nI (j + 3)
    · rw [if_pos h]
      refine go 0 ?_
      rw [if_neg]
      intro z
      exact nI_ge (a := j + 3) (b := 116) z (by omega) h
    · rw [if_neg h]
      refine go _ ?_
      rw [if_pos]
      rcases Nat.lt_or_ge (j + 3) 116 with z | z
      · exact z
      · exact absurd (nI_le (a := 116) z (by omega)) h
theorem pl_0 {l : Nat} (hl : l < 2 ^ 20) : Int32.toNatClampNeg (f_X12_pleaAt (nI l) 0) = 92 + 3 * l := by
  unfold f_X12_pleaAt
  rw [show (3 : Int32) = nI 3 from rfl, pk_mul, show (92 : Int32) = nI 92 from rfl, nI_add, show (0 : Int32) = nI 0 from rfl, nI_add, nI_clamp (by omega)]
  omega
theorem pl_1 {l : Nat} (hl : l < 2 ^ 20) : Int32.toNatClampNeg (f_X12_pleaAt (nI l) 1) = 92 + 3 * l + 1 := by
  unfold f_X12_pleaAt
  rw [show (3 : Int32) = nI 3 from rfl, pk_mul, show (92 : Int32) = nI 92 from rfl, nI_add, show (1 : Int32) = nI 1 from rfl, nI_add, nI_clamp (by omega)]
theorem pl_2 {l : Nat} (hl : l < 2 ^ 20) : Int32.toNatClampNeg (f_X12_pleaAt (nI l) 2) = 92 + 3 * l + 2 := by
  unfold f_X12_pleaAt
  rw [show (3 : Int32) = nI 3 from rfl, pk_mul, show (92 : Int32) = nI 92 from rfl, nI_add, show (2 : Int32) = nI 2 from rfl, nI_add, nI_clamp (by omega)]
theorem goes_i {y : kY} {l : Nat} (hl : l < 8) : (g_X12_goes y (nI l)).1 = y.1 ∧ (∀ r, r ≠ 0 → (g_X12_goes y (nI l)).2 r = y.2 r) ∧ (g_X12_goes y (nI l)).2 0 7 = y.2 0 7 - 1 ∧ ∀ i, i ≠ 7 → (g_X12_goes y (nI l)).2 0 i = if 92 + 3 * l ≤ i ∧ i < 116 then (if i + 3 < 116 then y.2 0 (i + 3) else 0) else y.2 0 i := by
  obtain ⟨a1, a2, a3⟩ := go_l (y := y) (j := 92 + 3 * l) (k := 116 - (92 + 3 * l)) (by omega)
  unfold g_X12_goes
  rw [pl_0 (by omega)]
  refine ⟨a1, fun r hr => (if_neg hr).trans (a2 r hr), ?_, fun i hi => ?_⟩
  · show upd ((goL (116 - (92 + 3 * l)) y (92 + 3 * l)).2 0) 7 ((goL (116 - (92 + 3 * l)) y (92 + 3 * l)).2 0 7 - 1) 7 = _
    rw [pk_us, a3, if_neg (by omega)]
  · show upd _ 7 _ i = _
    rw [pk_un hi, a3]
theorem goes_r {y : kY} {l : Nat} (hl : l < 8) {i : Nat} (hi : i < 8) : vRow ((g_X12_goes y (nI l)).2 0) i = if i < l then vRow (y.2 0) i else if i < 7 then vRow (y.2 0) (i + 1) else (0, 0, 0) := by
  obtain ⟨-, -, -, a⟩ := goes_i (y := y) hl
  unfold vRow
  rw [a _ (by omega), a _ (by omega), a _ (by omega)]
  by_cases h1 : i < l
  · rw [if_pos h1, if_neg (by omega), if_neg (by omega), if_neg (by omega)]
  · rw [if_neg h1, if_pos (show 92 + 3 * l ≤ 92 + 3 * i ∧ 92 + 3 * i < 116 by omega), if_pos (show 92 + 3 * l ≤ 92 + 3 * i + 1 ∧ 92 + 3 * i + 1 < 116 by omega), if_pos (show 92 + 3 * l ≤ 92 + 3 * i + 2 ∧ 92 + 3 * i + 2 < 116 by omega)]
    by_cases h2 : i < 7
    · rw [if_pos h2, if_pos (show 92 + 3 * i + 3 < 116 by omega), if_pos (show 92 + 3 * i + 1 + 3 < 116 by omega), if_pos (show 92 + 3 * i + 2 + 3 < 116 by omega), show 92 + 3 * i + 3 = 92 + 3 * (i + 1) by omega, show 92 + 3 * i + 1 + 3 = 92 + 3 * (i + 1) + 1 by omega, show 92 + 3 * i + 2 + 3 = 92 + 3 * (i + 1) + 2 by omega]
    · rw [if_neg h2, if_neg (show ¬ 92 + 3 * i + 3 < 116 by omega), if_neg (show ¬ 92 + 3 * i + 1 + 3 < 116 by omega), if_neg (show ¬ 92 + 3 * i + 2 + 3 < 116 by omega)]
/-- fewer pleas: those that stay were there, each once -/
def plE (m m2 : Nat) (v w : Nat → Int32) : Prop := m2 ≤ m ∧ (∀ i, i < 92 → i ≠ 7 → w i = v i) ∧ (∃ e : Nat → Nat, (∀ i, i < m2 → e i < m ∧ vRow w i = vRow v (e i)) ∧ ∀ i j, i < m2 → j < m2 → e i = e j → i = j) ∧ ∀ i, i < 8 → vRow w i = (0, 0, 0) ∨ ∃ j, j < 8 ∧ vRow w i = vRow v j
theorem plE_r {m : Nat} {v : Nat → Int32} : plE m m v v := ⟨Nat.le_refl _, fun _ _ _ => rfl, ⟨fun i => i, fun i hi => ⟨hi, rfl⟩, fun i j _ _ e => e⟩, fun i hi => Or.inr ⟨i, hi, rfl⟩⟩
theorem plE_t {m m2 m3 : Nat} {u v w : Nat → Int32} (h1 : plE m m2 u v) (h2 : plE m2 m3 v w) : plE m m3 u w := by
  obtain ⟨a1, a2, ⟨e, a3, a4⟩, a5⟩ := h1
  obtain ⟨b1, b2, ⟨f, b3, b4⟩, b5⟩ := h2
  refine ⟨by omega, fun i h h7 => (b2 i h h7).trans (a2 i h h7), ⟨fun i => e (f i), fun i hi => ⟨(a3 _ (b3 i hi).1).1, (b3 i hi).2.trans (a3 _ (b3 i hi).1).2⟩, fun i j hi hj z => b4 i j hi hj (a4 _ _ (b3 i hi).1 (b3 j hj).1 z)⟩, fun i hi => ?_⟩
  rcases b5 i hi with h | ⟨j, hj, h⟩
  · exact Or.inl h
  · rcases a5 j hj with h2 | ⟨j2, hj2, h2⟩
    · exact Or.inl (h.trans h2)
    · exact Or.inr ⟨j2, hj2, h.trans h2⟩
theorem goes_E {y : kY} {l m : Nat} (hl : l < m) (hm : m ≤ 8) : plE m (m - 1) (y.2 0) ((g_X12_goes y (nI l)).2 0) := by
  obtain ⟨-, -, -, a⟩ := goes_i (y := y) (l := l) (by omega)
  refine ⟨by omega, fun i h h7 => by rw [a i h7, if_neg (by omega)], ⟨fun i => if i < l then i else i + 1, fun i hi => ?_, fun i j hi hj z => ?_⟩, fun i hi => ?_⟩
  · rw [goes_r (by omega) (by omega)]
    dsimp only
    by_cases h : i < l
    · rw [if_pos h, if_pos h]; exact ⟨by omega, rfl⟩
    · rw [if_neg h, if_neg h, if_pos (by omega)]; exact ⟨by omega, rfl⟩
  · have z : (if i < l then i else i + 1) = if j < l then j else j + 1 := z
    split at z <;> split at z <;> omega
  · rw [goes_r (by omega) hi]
    by_cases h : i < l
    · rw [if_pos h]; exact Or.inr ⟨i, hi, rfl⟩
    · rw [if_neg h]
      by_cases h2 : i < 7
      · rw [if_pos h2]; exact Or.inr ⟨i + 1, by omega, rfl⟩
      · rw [if_neg h2]; exact Or.inl rfl
theorem ho_l {p k : Nat} (hp : p ≤ 8) : ∀ {y : kY} {j m s : Nat}, j + k = p → k ≤ m → m ≤ 8 → y.2 0 7 = nI m → ∃ m2, (hoL p k y j (nI s)).1.2 0 7 = nI m2 ∧ plE m m2 (y.2 0) ((hoL p k y j (nI s)).1.2 0) ∧ ls (vRow ((hoL p k y j (nI s)).1.2 0)) 0 m2 = (ls (vRow (y.2 0)) 0 k).filter (keepB (y.2 0 0)) ++ ls (vRow (y.2 0)) k (m - k) ∧ (hoL p k y j (nI s)).2 = nI (s + (m - m2)) ∧ (hoL p k y j (nI s)).1.1 = y.1 ∧ ∀ r, r ≠ 0 → (hoL p k y j (nI s)).1.2 r = y.2 r := by
  induction k with
  | zero =>
    intro y j m s _ _ _ h7
    refine ⟨m, h7, plE_r, ?_, ?_, rfl, fun _ _ => rfl⟩
    · rw [hoL, ls, List.filter_nil, List.nil_append, Nat.sub_zero]
    · rw [hoL, Nat.sub_self]; rfl
  | succ k ih =>
    intro y j m s hj hk hm h7
    have ek : nI (p - j) - 1 = nI k := by rw [show p - j = k + 1 by omega, nI_pred]
    have eu : f_X12_until (y.2 0) (nI k) = (vRow (y.2 0) k).2.1 + 24 := by
      unfold f_X12_until vRow
      rw [pl_1 (by omega)]
    rw [hoL, ek, eu]
    by_cases h : (vRow (y.2 0) k).2.1 + 24 < y.2 0 0
    · have kb : keepB (y.2 0 0) (vRow (y.2 0) k) = false := by unfold keepB; rw [decide_eq_true h]; rfl
      obtain ⟨g1, g2, g3, g4⟩ := goes_i (y := y) (l := k) (by omega)
      have gE := goes_E (y := y) (l := k) (m := m) (by omega) hm
      have g0 : (g_X12_goes y (nI k)).2 0 0 = y.2 0 0 := gE.2.1 0 (by omega) (by omega)
      obtain ⟨m2, a1, a2, a3, a4, a5, a6⟩ := ih (y := g_X12_goes y (nI k)) (j := j + 1) (m := m - 1) (s := s + 1) (by omega) (by omega) (by omega) (by rw [g3, h7, show m = m - 1 + 1 by omega, nI_pred, Nat.add_sub_cancel])
      rw [if_pos h]
      rw [show nI s + Int32.ofInt 1 = nI (s + 1) from nI_1 s]
      refine ⟨m2, a1, plE_t gE a2, ?_, ?_, a5.trans g1, fun r hr => (a6 r hr).trans (g2 r hr)⟩
      · rw [a3, g0, ls_app, List.filter_append, Nat.zero_add]
        have f1 : ls (vRow ((g_X12_goes y (nI k)).2 0)) 0 k = ls (vRow (y.2 0)) 0 k := by
          apply ls_c
          intro i hi
          rw [goes_r (by omega) (by omega), if_pos (by omega)]
        have f2 : ls (vRow ((g_X12_goes y (nI k)).2 0)) k (m - 1 - k) = ls (vRow (y.2 0)) (k + 1) (m - (k + 1)) := by
          rw [show m - 1 - k = m - (k + 1) by omega]
          apply ls_c
          intro i hi
          rw [goes_r (by omega) (by omega), if_neg (by omega), if_pos (by omega), show k + i + 1 = k + 1 + i by omega]
        rw [f1, f2, List.filter_cons, kb]
        simp
      · rw [a4]
        congr 1
        have := a2.1
        omega
    · have kb : keepB (y.2 0 0) (vRow (y.2 0) k) = true := by unfold keepB; rw [decide_eq_false h]; rfl
      obtain ⟨m2, a1, a2, a3, a4, a5, a6⟩ := ih (y := y) (j := j + 1) (m := m) (s := s) (by omega) (by omega) hm h7
      rw [if_neg h]
      refine ⟨m2, a1, a2, ?_, a4, a5, a6⟩
      rw [a3, ls_app, List.filter_append, Nat.zero_add, List.filter_cons, kb, if_pos rfl, show m - k = (m - (k + 1)) + 1 by omega, ls]
      simp
/-! invariants of pleas where some go -/
theorem vL_E {hb h2 m m2 : Nat} {v w : Nat → Int32} (h : vL hb v) (hv : v 7 = nI m) (hw : w 7 = nI m2) (hm : m ≤ 8) (e : (∃ e : Nat → Nat, (∀ i, i < m2 → e i < m ∧ vRow w i = vRow v (e i)) ∧ ∀ i j, i < m2 → j < m2 → e i = e j → i = j) ∧ ∀ i, i < 8 → vRow w i = (0, 0, 0) ∨ ∃ j, j < 8 ∧ vRow w i = vRow v j) (m28 : m2 ≤ 8) (hh : hb ≤ h2) (hk : ∀ l, l < m2 → (w 0).toNatClampNeg ≤ hF w l + 24) (h0 : (v 0).toNatClampNeg ≤ (w 0).toNatClampNeg) : vL h2 w := by
  obtain ⟨⟨f, e3, e4⟩, e5⟩ := e
  have nm : nL v = m := by rw [nL, hv, nI_clamp (by omega)]
  have nm2 : nL w = m2 := by rw [nL, hw, nI_clamp (by omega)]
  have r0 : ∀ {i j}, vRow w i = vRow v j → w (92 + 3 * i) = v (92 + 3 * j) ∧ w (92 + 3 * i + 1) = v (92 + 3 * j + 1) ∧ w (92 + 3 * i + 2) = v (92 + 3 * j + 2) := by
    intro i j z
    obtain ⟨z1, z2⟩ := Prod.mk.inj z
    obtain ⟨z2, z3⟩ := Prod.mk.inj z2
    exact ⟨z1, z2, z3⟩
  refine ⟨fun l hl => ?_, fun l hl => ?_⟩
  · rcases e5 l hl with z | ⟨j, hj, z⟩
    · obtain ⟨z1, z2⟩ := Prod.mk.inj z
      obtain ⟨z2, z3⟩ := Prod.mk.inj z2
      rw [z1, z2, z3]
      exact ⟨⟨0, by omega, rfl⟩, ⟨0, by omega, rfl⟩, ⟨0, by omega, rfl⟩⟩
    · obtain ⟨z1, z2, z3⟩ := r0 z
      rw [z1, z2, z3]
      exact ⟨(h.1 j hj).1, isN_m (h.1 j hj).2.1 (by omega), (h.1 j hj).2.2⟩
  · rw [nm2] at hl
    obtain ⟨q1, q2⟩ := e3 l hl
    obtain ⟨z1, z2, z3⟩ := r0 q2
    have hv2 := h.2 (f l) (by rw [nm]; exact q1)
    refine ⟨hk l hl, ?_, fun j hj z => ?_⟩
    · rw [hF, z2]
      have := hv2.2.1
      rw [hF] at this
      omega
    · rw [nm2] at hj
      obtain ⟨p1, p2⟩ := e3 j hj
      have y1 := (r0 p2).1
      apply e4 j l hj hl
      apply hv2.2.2 (f j) (by rw [nm]; exact p1)
      rw [← y1, ← z1]
      exact z
theorem vRow_0 {w : Nat → Int32} {a : Int32} (i : Nat) : vRow (fun i => if i = 0 then a else w i) i = vRow w i := by
  unfold vRow
  dsimp only
  rw [if_neg (by omega), if_neg (by omega), if_neg (by omega)]
section PLS
variable {hb t : Nat} {x : kK} {y : kY}
theorem rcL_i {c : kCo} {v : Nat → Int32} : reL c v ↔ ∀ l, l < nL v → kRow c l = vRow v l := by
  constructor
  · intro h l hl
    obtain ⟨a, b, c⟩ := h l hl
    unfold kRow vRow
    rw [a, b, c]
  · intro h l hl
    have z := h l hl
    obtain ⟨z1, z2⟩ := Prod.mk.inj z
    obtain ⟨z2, z3⟩ := Prod.mk.inj z2
    exact ⟨z1, z2, z3⟩
/-- the core and the row behind a change of pleas and of the hour -/
theorem RJ_pl (R : RJ hb t (x.1 0) (y.2 0)) {c : kCo} {w : Nat → Int32} {h2 m2 : Nat} {z : Int32} (hh : hb ≤ h2) (hc : coE (x.1 0) c) (hn : c.2.1 = upd (upd (x.1 0).2.1 4 z) 6 (nI m2)) (hz : w 0 = z) (hzb : isN z (h2 + 1)) (hz0 : (y.2 0 0).toNatClampNeg ≤ z.toNatClampNeg) (h7 : w 7 = nI m2) (e : plE (nL (y.2 0)) m2 (fun i => if i = 0 then z else y.2 0 i) w) (hl : ∀ l, l < m2 → kRow c l = vRow w l) (hk : ∀ l, l < m2 → z.toNatClampNeg ≤ hF w l + 24) : RJ h2 t c w := by
  have n8 := R.nL8
  have m8 : m2 ≤ 8 := Nat.le_trans e.1 n8
  have u : ∀ i, i < 92 → i ≠ 7 → i ≠ 0 → w i = y.2 0 i := fun i h1 h2 h3 => (e.2.1 i h1 h2).trans (if_neg h3)
  have nw : nL w = m2 := by rw [nL, h7, nI_clamp (by omega)]
  refine ⟨⟨?_, rcT_c R.T hc.1 (fun i q1 q2 => u i (by omega) (by omega) (by omega)), rcP_c R.P hc.2.1 hc.2.2 (u 6 (by omega) (by omega) (by omega)) R.nP8 (fun i q1 q2 => u i (by omega) (by omega) (by omega)), rcL_i.2 (fun l q => hl l (by rw [nw] at q; exact q)), ?_⟩, ?_, vP_c R.Q (fun i q1 q2 => u i (by omega) (by omega) (by omega)), vD_c R.D R.Q R.B.2.2.1 (u 3 (by omega) (by omega) (by omega)) (u 6 (by omega) (by omega) (by omega)) R.nP8 (fun i q1 q2 => u i (by omega) (by omega) (by omega)), ?_⟩
  · have h1 := rcN_S (rcN_S R.N (k := 4) (by decide) (by decide) z) (k := 6) (by decide) (by decide) (nI m2)
    refine rcN_c (rcN_v h1 ?_) hn
    intro i q1 q2
    show w i = upd (upd (y.2 0) 0 z) 7 (nI m2) i
    by_cases i7 : i = 7
    · subst i7; rw [pk_us]; exact h7
    · rw [pk_un i7]
      by_cases i0 : i = 0
      · subst i0; rw [pk_us]; exact hz
      · rw [pk_un i0]; exact u i (by omega) i7 i0
  · unfold rcA
    rw [hn]
    exact R.A
  · obtain ⟨b1, b2, b3, b4, b5, b6, b7, ⟨a, b, q1, q2, q3, q4⟩, b9⟩ := R.B
    exact ⟨by rw [u 6 (by omega) (by omega) (by omega)]; exact b1, ⟨m2, by omega, h7⟩, by rw [u 3 (by omega) (by omega) (by omega)]; exact b3, by rw [u 4 (by omega) (by omega) (by omega)]; exact b4, by rw [u 5 (by omega) (by omega) (by omega)]; exact b5, by rw [hz]; exact hzb, by rw [u 2 (by omega) (by omega) (by omega)]; exact b7, ⟨a, b, q1, q2, by rw [u 10 (by omega) (by omega) (by omega)]; exact q3, by rw [u 9 (by omega) (by omega) (by omega)]; exact q4⟩, by rw [u 11 (by omega) (by omega) (by omega)]; exact b9⟩
  · obtain ⟨⟨f, f1, f2⟩, f3⟩ := e.2.2
    refine vL_E R.E R.eL h7 n8 ⟨⟨f, fun i hi => ⟨(f1 i hi).1, (f1 i hi).2.trans (vRow_0 (f i))⟩, f2⟩, fun i hi => ?_⟩ m8 hh (fun l q => ?_) ?_
    · rcases f3 i hi with q | ⟨j, hj, q⟩
      · exact Or.inl q
      · exact Or.inr ⟨j, hj, q.trans (vRow_0 j)⟩
    · rw [hz]; exact hk l q
    · rw [hz]; exact hz0
/-- a plea is struck off -/
theorem strike_ok (R : RJ hb t (x.1 0) (y.2 0)) {l : Nat} (hl : l < nL (y.2 0)) : RJ hb t ((g_X3_strike x (nI l)).1 0) ((g_X12_goes y (nI l)).2 0) ∧ (g_X12_goes y (nI l)).1 = y.1 := by
  have n8 := R.nL8
  obtain ⟨g1, g2, g3, g4⟩ := goes_i (y := y) (l := l) (by omega)
  have gE := goes_E (y := y) (l := l) hl n8
  have ec : (x.1 0).2.1 6 = nI (nL (y.2 0)) := by rw [R.n6]; exact R.eL
  generalize hm : nL (y.2 0) = m at *
  have e7 : (g_X12_goes y (nI l)).2 0 7 = nI (m - 1) := by
    rw [g3, show y.2 0 7 = nI m by rw [← hm]; exact R.eL, show m = m - 1 + 1 by omega, nI_pred, Nat.add_sub_cancel]
  refine ⟨?_, g1⟩
  have cr : (g_X3_strike x (nI l)).1 0 = cS ((skL x (m - (l + 1)) l).1 0) 6 (nI (m - 1)) := by
    unfold g_X3_strike
    rw [ec, nI_clamp (by omega), nI_clamp (by omega), show nI m - 1 = nI (m - 1) by rw [show m = m - 1 + 1 by omega, nI_pred, Nat.add_sub_cancel]]
    rfl
  rw [cr]
  have z0 : (g_X12_goes y (nI l)).2 0 0 = y.2 0 0 := gE.2.1 0 (by omega) (by omega)
  refine RJ_pl R (m2 := m - 1) (z := y.2 0 0) (Nat.le_refl _) ?_ ?_ z0 R.B.2.2.2.2.2.1 (Nat.le_refl _) e7 ?_ ?_ ?_
  · exact sk_e (x := x) (k := m - (l + 1)) (j := l)
  · show upd ((skL x (m - (l + 1)) l).1 0).2.1 6 (nI (m - 1)) = _
    rw [skL_n]
    congr 1
    funext k
    by_cases k4 : k = 4
    · subst k4; rw [pk_us]; exact R.n4
    · rw [pk_un k4]
  · rw [hm]
    have ef : (fun i => if i = 0 then y.2 0 0 else y.2 0 i) = y.2 0 := by
      funext i
      by_cases i0 : i = 0
      · subst i0; exact if_pos rfl
      · exact if_neg i0
    rw [ef]
    exact gE
  · intro i hi
    have RL := rcL_i.1 R.L
    rw [hm] at RL
    show kRow ((skL x (m - (l + 1)) l).1 0) i = _
    rw [sk_r (by omega), goes_r (by omega) (by omega)]
    by_cases h : i < l
    · rw [if_neg (by omega), if_pos h]; exact RL i (by omega)
    · rw [if_pos (by omega), if_neg h, if_pos (by omega)]; exact RL (i + 1) (by omega)
  · intro i hi
    obtain ⟨-, -, ⟨f, e3, -⟩, -⟩ := gE
    obtain ⟨q1, q2⟩ := e3 i hi
    obtain ⟨z1, z2⟩ := Prod.mk.inj q2
    obtain ⟨z2, z3⟩ := Prod.mk.inj z2
    rw [hF, z2]
    exact (R.E.2 (f i) (by rw [hm]; exact q1)).1
/-- an hour passes -/
theorem hour_ok (R : RJ hb t (x.1 0) (y.2 0)) (hh : hb < 2 ^ 29) : RJ (hb + 1) t ((g_X3_passHour x).1 0) ((g_X12_hourPasses y).2 0) ∧ f_X3_passHour x = f_X12_hourPasses y ∧ (g_X12_hourPasses y).1 = y.1 := by
  have n8 := R.nL8
  have ec : (x.1 0).2.1 6 = nI (nL (y.2 0)) := by rw [R.n6]; exact R.eL
  have ev := R.eL
  obtain ⟨H, hH, eH⟩ := R.B.2.2.2.2.2.1
  generalize hm : nL (y.2 0) = m at *
  have w0 : y.2 0 0 + 1 = nI (H + 1) := by rw [eH, nI_1]
  obtain ⟨m2, a1, a2, a3, a4, a5, -⟩ := ho_l (p := m) (k := m) n8 (y := yR y 0 (upd (y.2 0) 0 (nI (H + 1)))) (j := 0) (m := m) (s := 0) (by omega) (Nat.le_refl _) n8 (show upd (y.2 0) 0 (nI (H + 1)) 7 = nI m by rw [pk_un (by decide)]; exact ev)
  have hq : g_X12_hourPasses y = (hoL m m (yR y 0 (upd (y.2 0) 0 (nI (H + 1)))) 0 (nI 0)).1 ∧ f_X12_hourPasses y = (hoL m m (yR y 0 (upd (y.2 0) 0 (nI (H + 1)))) 0 (nI 0)).2 := by
    unfold g_X12_hourPasses f_X12_hourPasses
    rw [ev, nI_clamp (by omega), w0]
    exact ⟨rfl, rfl⟩
  rw [hq.1, hq.2]
  generalize (hoL m m (yR y 0 (upd (y.2 0) 0 (nI (H + 1)))) 0 (nI 0)).1 = y2 at *
  generalize (hoL m m (yR y 0 (upd (y.2 0) 0 (nI (H + 1)))) 0 (nI 0)).2 = val at *
  have p1 := ph_l (hr := nI (H + 1)) (k := m) (x := nS x 4 (nI (H + 1))) (j := 0) (p := 0) (Nat.le_refl _) (by omega)
  have p2 := phL_n (hr := nI (H + 1)) (k := m) (x := nS x 4 (nI (H + 1))) (j := 0) (p := 0)
  have p3 := ph_e (hr := nI (H + 1)) (k := m) (x := nS x 4 (nI (H + 1))) (j := 0) (p := 0)
  have fg : fg_X3_passHour x = phL (nI (H + 1)) m (nS x 4 (nI (H + 1))) 0 0 := by
    unfold fg_X3_passHour
    rw [ec, nI_clamp (by omega), R.n4, w0]
  have gx : (g_X3_passHour x).1 0 = cS ((phL (nI (H + 1)) m (nS x 4 (nI (H + 1))) 0 0).1.1 0) 6 (nI (phL (nI (H + 1)) m (nS x 4 (nI (H + 1))) 0 0).2) := by
    unfold g_X3_passHour
    rw [fg]
    rfl
  have fx : f_X3_passHour x = nI m - nI (phL (nI (H + 1)) m (nS x 4 (nI (H + 1))) 0 0).2 := by
    unfold f_X3_passHour
    rw [fg, ec]
  rw [gx, fx]
  generalize (phL (nI (H + 1)) m (nS x 4 (nI (H + 1))) 0 0).1 = x2 at *
  generalize (phL (nI (H + 1)) m (nS x 4 (nI (H + 1))) 0 0).2 = p at *
  have RL := rcL_i.1 R.L
  rw [hm] at RL
  have s0 : (yR y 0 (upd (y.2 0) 0 (nI (H + 1)))).2 0 = upd (y.2 0) 0 (nI (H + 1)) := rfl
  have s1 : ls (vRow (upd (y.2 0) 0 (nI (H + 1)))) 0 m = ls (kRow (x.1 0)) 0 m := by
    apply ls_c
    intro i hi
    rw [RL _ (by omega)]
    unfold vRow
    rw [pk_un (by omega), pk_un (by omega), pk_un (by omega)]
  rw [s0, pk_us, s1, Nat.sub_self, ls, List.append_nil] at a3
  rw [ls, List.nil_append, show kRow ((nS x 4 (nI (H + 1))).1 0) = kRow (x.1 0) from rfl] at p1
  obtain ⟨e1, e2⟩ := ls_e (p1.trans a3.symm)
  subst e1
  rw [s0] at a2
  have y0 : y2.2 0 0 = nI (H + 1) := by rw [a2.2.1 0 (by omega) (by omega), pk_us]
  refine ⟨?_, ?_, a5⟩
  · refine RJ_pl R (m2 := p) (z := nI (H + 1)) (by omega) ?_ ?_ y0 ⟨H + 1, by omega, rfl⟩ (by rw [eH, nI_clamp (by omega), nI_clamp (by omega)]; omega) a1 ?_ ?_ ?_
    · exact p3
    · show upd (x2.1 0).2.1 6 (nI p) = _
      rw [p2]
      rfl
    · rw [hm]
      have ef : (fun i => if i = 0 then nI (H + 1) else y.2 0 i) = upd (y.2 0) 0 (nI (H + 1)) := rfl
      rw [ef]
      exact a2
    · intro l hl
      have := e2 l hl
      rw [Nat.zero_add] at this
      exact this
    · intro l hl
      have mem := ls_m (F := vRow (y2.2 0)) (a := 0) hl
      rw [a3] at mem
      have kp := (List.mem_filter.1 mem).2
      rw [Nat.zero_add] at kp
      unfold keepB at kp
      have kp2 : ¬ (vRow (y2.2 0) l).2.1 + 24 < nI (H + 1) := by
        intro z
        rw [decide_eq_true z] at kp
        cases kp
      obtain ⟨-, -, ⟨f, q3, -⟩, -⟩ := a2
      obtain ⟨q1, q2⟩ := q3 l hl
      have bf := (R.E.1 (f l) (by omega)).2.1
      have er : (vRow (y2.2 0) l).2.1 = y.2 0 (92 + 3 * f l + 1) := by
        rw [q2]
        show upd (y.2 0) 0 (nI (H + 1)) (92 + 3 * f l + 1) = _
        rw [pk_un (by omega)]
      obtain ⟨F, hF1, hF2⟩ := bf
      rw [nI_clamp (by omega)]
      have e9 : hF (y2.2 0) l = F := by
        show ((vRow (y2.2 0) l).2.1).toNatClampNeg = F
        rw [er, hF2, nI_clamp (by omega)]
      rw [e9]
      rw [er, hF2, show (24 : Int32) = nI 24 from rfl, nI_add] at kp2
      rcases Nat.lt_or_ge (F + 24) (H + 1) with z | z
      · exact absurd (nI_lt z (by omega)) kp2
      · exact z
  · rw [a4, pk_sub a2.1, Nat.zero_add]
end PLS
