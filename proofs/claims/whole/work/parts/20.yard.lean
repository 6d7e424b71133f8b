/-! THE YARD: its methods, called on the present yard (number 2) -/
def b2i (b : Bool) : Int32 := cond b 1 0
theorem lg_cmp_0 {x y : Int64} : lg_cmp x y = 0 ↔ x = y := by
  unfold lg_cmp
  constructor
  · intro h
    by_cases h1 : y < x
    · rw [if_pos h1] at h; exact absurd h (by decide)
    · rw [if_neg h1] at h
      by_cases h2 : x = y
      · exact h2
      · rw [if_neg h2] at h; exact absurd h (by decide)
  · intro h
    subst h
    rw [if_neg (Int64.lt_irrefl), if_pos rfl]
/-- bit c of t, as the machine looks it up -/
def bitA (t : Int64) (c : Int32) : Bool := decide (¬ ((t.toUInt64 >>> (c.toInt64.toUInt64 &&& Int64.toUInt64 63)).toInt64 &&& 1) = 0)
theorem bitA_f {t : Int64} {c : Int32} (h : lg_cmp ((t.toUInt64 >>> (c.toInt64.toUInt64 &&& Int64.toUInt64 63)).toInt64 &&& 1) 0 = 0) : 0 = b2i (bitA t c) := by
  unfold bitA; rw [decide_eq_false (fun q => q (lg_cmp_0.mp h))]; rfl
theorem bitA_t {t : Int64} {c : Int32} (h : ¬ lg_cmp ((t.toUInt64 >>> (c.toInt64.toUInt64 &&& Int64.toUInt64 63)).toInt64 &&& 1) 0 = 0) : 1 = b2i (bitA t c) := by
  have e : bitA t c = true := decide_eq_true (fun q => h (lg_cmp_0.mpr q))
  rw [e]; rfl
theorem kRi {a b : Int32} (h : a = b) : some (Value.int a) = some (Value.int b) := by rw [h]
theorem b2i_t {p : Prop} [Decidable p] (h : p) : 1 = b2i (decide p) := by rw [decide_eq_true h]; rfl
theorem b2i_f {p : Prop} [Decidable p] (h : ¬ p) : 0 = b2i (decide p) := by rw [decide_eq_false h]; rfl

set_option maxRecDepth 100000 in
set_option maxHeartbeats 4000000 in
theorem m_X10_hasTree {x : kK} {r : kH} {c : Int32} : kMet kX10_hasTree false 0 0 [.ref 2, .int c] (kTp (kHc x) r) 130 (kRt (some (.int (b2i (bitA (x.1 0).1 c)))) (kTp (kHc x) r) 130) := by
  refine kMet.in (by decide) rfl rfl _ rfl ?_
  refine k_aload_n (i := 0) dX10_hasTree_0 (rfl : 0 + 1 = 1) rfl rfl ?_
  refine k_get 10 0 fg_X10_15 dX10_hasTree_1 (rfl : 1 + 3 = 4) (Nat.le_of_ble_eq_true rfl) rfl rfl ?_
  refine k_iload_n (i := 1) dX10_hasTree_4 (rfl : 4 + 1 = 5) rfl rfl ?_
  refine k_lushr dX10_hasTree_5 (rfl : 5 + 1 = 6) ?_
  refine k_lconst (v := 1) dX10_hasTree_6 (rfl : 6 + 1 = 7) (by decide) ?_
  refine k_land dX10_hasTree_7 (rfl : 7 + 1 = 8) ?_
  refine k_lconst (v := 0) dX10_hasTree_8 (rfl : 8 + 1 = 9) (by decide) ?_
  refine k_lcmp dX10_hasTree_9 (rfl : 9 + 1 = 10) ?_
  refine k_if_eq (tgt := 17) dX10_hasTree_10 (rfl : 10 + 3 = 13) (by decide) (fun b10 => ?_) (fun b10 => ?_)
  · refine k_iconst (v := 0) dX10_hasTree_17 (rfl : 17 + 1 = 18) (by decide) ?_
    refine k_iret rfl rfl dX10_hasTree_18 (Nat.le_of_ble_eq_true rfl) (Nat.le_of_ble_eq_true rfl) ?_
    exact kRt_of (kRi (by first | exact bitA_f b10 | exact bitA_t b10)) rfl
  · refine k_iconst (v := 1) dX10_hasTree_13 (rfl : 13 + 1 = 14) (by decide) ?_
    refine k_goto (tgt := 18) dX10_hasTree_14 (by decide) ?_
    refine k_iret rfl rfl dX10_hasTree_18 (Nat.le_of_ble_eq_true rfl) (Nat.le_of_ble_eq_true rfl) ?_
    exact kRt_of (kRi (by first | exact bitA_f b10 | exact bitA_t b10)) rfl
theorem k_ls {K : kM} {R : Room} {F : kFn} {mu : Bool} {pc : Nat} {ls ls2 st : List Value} {h : kH} {N cs ss : Nat} (e : ls = ls2) (k : kEv K R F mu pc ls2 st h N cs ss) : kEv K R F mu pc ls st h N cs ss := e ▸ k
def nT (x : kK) (t : Int64) : kK := kkC x 0 (cT (x.1 0) t)
def nS (x : kK) (k : Nat) (v : Int32) : kK := kkC x 0 (cS (x.1 0) k v)
def nR (x : kK) (k : Nat) (f : Nat → Int32) : kK := kkC x 0 (cR (x.1 0) k f)
/-- what always holds of a core -/
def kIv (c : kCo) : Prop := (∃ n, n ≤ 8 ∧ c.2.1 3 = nI n) ∧ (∃ n, n ≤ 8 ∧ c.2.1 6 = nI n) ∧ (∃ n, n < 64 ∧ c.2.1 0 = nI n) ∧ (∃ n, n < 8 ∧ c.2.1 1 = nI n) ∧ (∃ n, n ≤ 3 ∧ c.2.1 2 = nI n)
set_option maxRecDepth 100000 in
set_option maxHeartbeats 4000000 in
theorem m_X10_hasParty {x : kK} {r : kH} {c : Int32} : kMet kX10_hasParty false 0 0 [.ref 2, .int c] (kTp (kHc x) r) 130 (kRt (some (.int (b2i (decide (0 ≤ c ∧ c < (x.1 0).2.1 3))))) (kTp (kHc x) r) 130) := by
  refine kMet.in (by decide) rfl rfl _ rfl ?_
  refine k_iload_n (i := 1) dX10_hasParty_0 (rfl : 0 + 1 = 1) rfl rfl ?_
  refine k_if_lt (tgt := 16) dX10_hasParty_1 (rfl : 1 + 3 = 4) (by decide) (fun b1 => ?_) (fun b1 => ?_)
  · refine k_iconst (v := 0) dX10_hasParty_16 (rfl : 16 + 1 = 17) (by decide) ?_
    refine k_iret rfl rfl dX10_hasParty_17 (Nat.le_of_ble_eq_true rfl) (Nat.le_of_ble_eq_true rfl) ?_
    refine kRt_of (kRi ?_) rfl
    first
      | (refine b2i_f ?_; simp only [Int32.lt_iff_toInt_lt, Int32.le_iff_toInt_le, Int32.toInt_zero] at *; omega)
      | (refine b2i_t ?_; simp only [Int32.lt_iff_toInt_lt, Int32.le_iff_toInt_le, Int32.toInt_zero] at *; omega)
  · refine k_iload_n (i := 1) dX10_hasParty_4 (rfl : 4 + 1 = 5) rfl rfl ?_
    refine k_aload_n (i := 0) dX10_hasParty_5 (rfl : 5 + 1 = 6) rfl rfl ?_
    refine k_get 10 4 fg_X10_29 dX10_hasParty_6 (rfl : 6 + 3 = 9) (Nat.le_of_ble_eq_true rfl) rfl rfl ?_
    refine k_icmp_ge (tgt := 16) dX10_hasParty_9 (rfl : 9 + 3 = 12) (by decide) (fun b9 => ?_) (fun b9 => ?_)
    · refine k_iconst (v := 0) dX10_hasParty_16 (rfl : 16 + 1 = 17) (by decide) ?_
      refine k_iret rfl rfl dX10_hasParty_17 (Nat.le_of_ble_eq_true rfl) (Nat.le_of_ble_eq_true rfl) ?_
      refine kRt_of (kRi ?_) rfl
      first
        | (refine b2i_f ?_; simp only [Int32.lt_iff_toInt_lt, Int32.le_iff_toInt_le, Int32.toInt_zero] at *; omega)
        | (refine b2i_t ?_; simp only [Int32.lt_iff_toInt_lt, Int32.le_iff_toInt_le, Int32.toInt_zero] at *; omega)
    · refine k_iconst (v := 1) dX10_hasParty_12 (rfl : 12 + 1 = 13) (by decide) ?_
      refine k_goto (tgt := 17) dX10_hasParty_13 (by decide) ?_
      refine k_iret rfl rfl dX10_hasParty_17 (Nat.le_of_ble_eq_true rfl) (Nat.le_of_ble_eq_true rfl) ?_
      refine kRt_of (kRi ?_) rfl
      first
        | (refine b2i_f ?_; simp only [Int32.lt_iff_toInt_lt, Int32.le_iff_toInt_le, Int32.toInt_zero] at *; omega)
        | (refine b2i_t ?_; simp only [Int32.lt_iff_toInt_lt, Int32.le_iff_toInt_le, Int32.toInt_zero] at *; omega)
/-- the first place from j on, k places far, where f is c; else -1 -/
def pFind (f : Nat → Int32) (c : Int32) : Nat → Nat → Int32
  | 0, _ => -1
  | k + 1, j => if f j = c then nI j else pFind f c k (j + 1)
set_option maxRecDepth 100000 in
set_option maxHeartbeats 4000000 in
theorem l_X10_partyAt {x : kK} {r : kH} {c : Int32} {n : Nat} (hn : n ≤ 8) (en : (x.1 0).2.1 3 = nI n) : ∀ k j : Nat, j + k = n → kEv kX10_partyAt (kRm kX10_partyAt 0 0) (kFm false 0 0 (kRt (some (.int (pFind ((x.1 0).2.2 0) c k j))) (kTp (kHc x) r) 130)) false 2 [.ref 2, .int c, .int (nI j)] [] (kTp (kHc x) r) 130 0 0 := by
  intro k
  induction k with
  | zero =>
    intro j hj
    refine k_iload_n (i := 2) dX10_partyAt_2 (rfl : 2 + 1 = 3) rfl rfl ?_
    refine k_aload_n (i := 0) dX10_partyAt_3 (rfl : 3 + 1 = 4) rfl rfl ?_
    refine k_get 10 4 fg_X10_29 dX10_partyAt_4 (rfl : 4 + 3 = 7) (Nat.le_of_ble_eq_true rfl) rfl rfl ?_
    refine k_icmp_ge (tgt := 28) dX10_partyAt_7 (rfl : 7 + 3 = 10) (by decide) (fun b7 => ?_) (fun b7 => by exact absurd (nI_le (show n ≤ j by omega) (by omega)) (by rw [en] at b7; exact b7))
    refine k_iconst (v := (-1)) dX10_partyAt_28 (rfl : 28 + 1 = 29) (by decide) ?_
    refine k_iret rfl rfl dX10_partyAt_29 (Nat.le_of_ble_eq_true rfl) (Nat.le_of_ble_eq_true rfl) ?_
    exact kRt_rfl
  | succ k ih =>
    intro j hj
    refine k_iload_n (i := 2) dX10_partyAt_2 (rfl : 2 + 1 = 3) rfl rfl ?_
    refine k_aload_n (i := 0) dX10_partyAt_3 (rfl : 3 + 1 = 4) rfl rfl ?_
    refine k_get 10 4 fg_X10_29 dX10_partyAt_4 (rfl : 4 + 3 = 7) (Nat.le_of_ble_eq_true rfl) rfl rfl ?_
    refine k_icmp_ge (tgt := 28) dX10_partyAt_7 (rfl : 7 + 3 = 10) (by decide) (fun b7 => by exact absurd (by rw [en] at b7; exact b7) (nI_ge (show j < n by omega) (by omega))) (fun b7 => ?_)
    refine k_aload_n (i := 0) dX10_partyAt_10 (rfl : 10 + 1 = 11) rfl rfl ?_
    refine k_get 10 5 fg_X10_9 dX10_partyAt_11 (rfl : 11 + 3 = 14) (Nat.le_of_ble_eq_true rfl) rfl rfl ?_
    refine k_iload_n (i := 2) dX10_partyAt_14 (rfl : 14 + 1 = 15) rfl rfl ?_
    refine k_iald dX10_partyAt_15 (rfl : 15 + 1 = 16) (Nat.le_of_ble_eq_true rfl) rfl (vp_in_nI (by omega) (by omega)) ?_
    refine k_iload_n (i := 1) dX10_partyAt_16 (rfl : 16 + 1 = 17) rfl rfl ?_
    refine k_icmp_ne (tgt := 22) dX10_partyAt_17 (rfl : 17 + 3 = 20) (by decide) (fun b17 => ?_) (fun b17 => ?_)
    · refine k_iinc (i := 2) (v := nI (j + 1)) dX10_partyAt_22 (rfl : 22 + 3 = 25) rfl (Nat.le_of_ble_eq_true rfl) (nI_1 _) ?_
      refine k_goto (tgt := 2) dX10_partyAt_25 (by decide) ?_
      refine Eq.mp ?_ (ih (j + 1) (by omega))
      rw [pFind, if_neg (by rw [nI_clamp (by omega)] at b17; exact b17)]
      rfl
    · refine k_iload_n (i := 2) dX10_partyAt_20 (rfl : 20 + 1 = 21) rfl rfl ?_
      refine k_iret rfl rfl dX10_partyAt_21 (Nat.le_of_ble_eq_true rfl) (Nat.le_of_ble_eq_true rfl) ?_
      refine kRt_of (kRi ?_) rfl
      rw [pFind, if_pos]
      exact (by rw [nI_clamp (by omega)] at b17; exact b17)
set_option maxRecDepth 100000 in
set_option maxHeartbeats 4000000 in
theorem m_X10_partyAt {x : kK} {r : kH} {c : Int32} {n : Nat} (hn : n ≤ 8) (en : (x.1 0).2.1 3 = nI n) : kMet kX10_partyAt false 0 0 [.ref 2, .int c] (kTp (kHc x) r) 130 (kRt (some (.int (pFind ((x.1 0).2.2 0) c n 0))) (kTp (kHc x) r) 130) := by
  refine kMet.in (by decide) rfl rfl _ rfl ?_
  refine k_iconst (v := 0) dX10_partyAt_0 (rfl : 0 + 1 = 1) (by decide) ?_
  refine k_istore_n (i := 2) dX10_partyAt_1 (rfl : 1 + 1 = 2) rfl (Nat.le_of_ble_eq_true rfl) ?_
  exact l_X10_partyAt hn en n 0 (by omega)
theorem m2_X10_partyAt {x : kK} {r : kH} (iv : kIv (x.1 0)) {c : Int32} : kMet kX10_partyAt false 0 0 [.ref 2, .int c] (kTp (kHc x) r) 130 (kRt (some (.int (pFind ((x.1 0).2.2 0) c (Int32.toNatClampNeg ((x.1 0).2.1 3)) 0))) (kTp (kHc x) r) 130) := by
  obtain ⟨n, hn, en⟩ := iv.1
  rw [en, nI_clamp (by omega)]
  exact m_X10_partyAt hn en
def f_X11_isCell (a1 : Int32) (a2 : Int32) : Int32 := if a1 < 0 then 0 else (if 8 ≤ a1 then 0 else (if a2 < 0 then 0 else (if 8 ≤ a2 then 0 else 1)))
set_option maxRecDepth 100000 in
set_option maxHeartbeats 4000000 in
theorem m_X11_isCell {h : kH} {N : Nat} {a1 : Int32} {a2 : Int32} : kMet kX11_isCell false 0 0 [.int a1, .int a2] h N (kRt (some (.int (f_X11_isCell a1 a2))) h N) := by
  refine kMet.in (by decide) rfl rfl _ rfl ?_
  refine k_iload_n (i := 0) dX11_isCell_0 (rfl : 0 + 1 = 1) rfl rfl ?_
  refine k_if_lt (tgt := 24) dX11_isCell_1 (rfl : 1 + 3 = 4) (by decide) (fun b1 => ?_) (fun b1 => ?_)
  · refine k_iconst (v := 0) dX11_isCell_24 (rfl : 24 + 1 = 25) (by decide) ?_
    refine k_iret rfl rfl dX11_isCell_25 (Nat.le_of_ble_eq_true rfl) (Nat.le_of_ble_eq_true rfl) ?_
    exact kRt_of (congrArg (fun z => some (Value.int z)) (Eq.symm (if_pos (show a1 < 0 from b1)))) rfl
  · refine k_iload_n (i := 0) dX11_isCell_4 (rfl : 4 + 1 = 5) rfl rfl ?_
    refine k_bipush (v := 8) dX11_isCell_5 (rfl : 5 + 2 = 7) (by decide) ?_
    refine k_icmp_ge (tgt := 24) dX11_isCell_7 (rfl : 7 + 3 = 10) (by decide) (fun b7 => ?_) (fun b7 => ?_)
    · refine k_iconst (v := 0) dX11_isCell_24 (rfl : 24 + 1 = 25) (by decide) ?_
      refine k_iret rfl rfl dX11_isCell_25 (Nat.le_of_ble_eq_true rfl) (Nat.le_of_ble_eq_true rfl) ?_
      exact kRt_of (congrArg (fun z => some (Value.int z)) (Eq.symm (Eq.trans (if_neg (show ¬ (a1 < 0) from b1)) (if_pos (show 8 ≤ a1 from b7))))) rfl
    · refine k_iload_n (i := 1) dX11_isCell_10 (rfl : 10 + 1 = 11) rfl rfl ?_
      refine k_if_lt (tgt := 24) dX11_isCell_11 (rfl : 11 + 3 = 14) (by decide) (fun b11 => ?_) (fun b11 => ?_)
      · refine k_iconst (v := 0) dX11_isCell_24 (rfl : 24 + 1 = 25) (by decide) ?_
        refine k_iret rfl rfl dX11_isCell_25 (Nat.le_of_ble_eq_true rfl) (Nat.le_of_ble_eq_true rfl) ?_
        exact kRt_of (congrArg (fun z => some (Value.int z)) (Eq.symm (Eq.trans (if_neg (show ¬ (a1 < 0) from b1)) (Eq.trans (if_neg (show ¬ (8 ≤ a1) from b7)) (if_pos (show a2 < 0 from b11)))))) rfl
      · refine k_iload_n (i := 1) dX11_isCell_14 (rfl : 14 + 1 = 15) rfl rfl ?_
        refine k_bipush (v := 8) dX11_isCell_15 (rfl : 15 + 2 = 17) (by decide) ?_
        refine k_icmp_ge (tgt := 24) dX11_isCell_17 (rfl : 17 + 3 = 20) (by decide) (fun b17 => ?_) (fun b17 => ?_)
        · refine k_iconst (v := 0) dX11_isCell_24 (rfl : 24 + 1 = 25) (by decide) ?_
          refine k_iret rfl rfl dX11_isCell_25 (Nat.le_of_ble_eq_true rfl) (Nat.le_of_ble_eq_true rfl) ?_
          exact kRt_of (congrArg (fun z => some (Value.int z)) (Eq.symm (Eq.trans (if_neg (show ¬ (a1 < 0) from b1)) (Eq.trans (if_neg (show ¬ (8 ≤ a1) from b7)) (Eq.trans (if_neg (show ¬ (a2 < 0) from b11)) (if_pos (show 8 ≤ a2 from b17))))))) rfl
        · refine k_iconst (v := 1) dX11_isCell_20 (rfl : 20 + 1 = 21) (by decide) ?_
          refine k_goto (tgt := 25) dX11_isCell_21 (by decide) ?_
          refine k_iret rfl rfl dX11_isCell_25 (Nat.le_of_ble_eq_true rfl) (Nat.le_of_ble_eq_true rfl) ?_
          exact kRt_of (congrArg (fun z => some (Value.int z)) (Eq.symm (Eq.trans (if_neg (show ¬ (a1 < 0) from b1)) (Eq.trans (if_neg (show ¬ (8 ≤ a1) from b7)) (Eq.trans (if_neg (show ¬ (a2 < 0) from b11)) (if_neg (show ¬ (8 ≤ a2) from b17))))))) rfl
def f_X11_cellAt (a1 : Int32) (a2 : Int32) : Int32 := ((8 * a2) + a1)
set_option maxRecDepth 100000 in
set_option maxHeartbeats 4000000 in
theorem m_X11_cellAt {h : kH} {N : Nat} {a1 : Int32} {a2 : Int32} : kMet kX11_cellAt false 0 0 [.int a1, .int a2] h N (kRt (some (.int (f_X11_cellAt a1 a2))) h N) := by
  refine kMet.in (by decide) rfl rfl _ rfl ?_
  refine k_bipush (v := 8) dX11_cellAt_0 (rfl : 0 + 2 = 2) (by decide) ?_
  refine k_iload_n (i := 1) dX11_cellAt_2 (rfl : 2 + 1 = 3) rfl rfl ?_
  refine k_imul dX11_cellAt_3 (rfl : 3 + 1 = 4) ?_
  refine k_iload_n (i := 0) dX11_cellAt_4 (rfl : 4 + 1 = 5) rfl rfl ?_
  refine k_iadd dX11_cellAt_5 (rfl : 5 + 1 = 6) ?_
  refine k_iret rfl rfl dX11_cellAt_6 (Nat.le_of_ble_eq_true rfl) (Nat.le_of_ble_eq_true rfl) ?_
  exact kRt_of rfl rfl
def f_X11_isThrow (a1 : Int32) : Int32 := if a1 < 0 then 0 else (if 64 ≤ a1 then 0 else 1)
set_option maxRecDepth 100000 in
set_option maxHeartbeats 4000000 in
theorem m_X11_isThrow {h : kH} {N : Nat} {a1 : Int32} : kMet kX11_isThrow false 0 0 [.int a1] h N (kRt (some (.int (f_X11_isThrow a1))) h N) := by
  refine kMet.in (by decide) rfl rfl _ rfl ?_
  refine k_iload_n (i := 0) dX11_isThrow_0 (rfl : 0 + 1 = 1) rfl rfl ?_
  refine k_if_lt (tgt := 14) dX11_isThrow_1 (rfl : 1 + 3 = 4) (by decide) (fun b1 => ?_) (fun b1 => ?_)
  · refine k_iconst (v := 0) dX11_isThrow_14 (rfl : 14 + 1 = 15) (by decide) ?_
    refine k_iret rfl rfl dX11_isThrow_15 (Nat.le_of_ble_eq_true rfl) (Nat.le_of_ble_eq_true rfl) ?_
    exact kRt_of (congrArg (fun z => some (Value.int z)) (Eq.symm (if_pos (show a1 < 0 from b1)))) rfl
  · refine k_iload_n (i := 0) dX11_isThrow_4 (rfl : 4 + 1 = 5) rfl rfl ?_
    refine k_bipush (v := 64) dX11_isThrow_5 (rfl : 5 + 2 = 7) (by decide) ?_
    refine k_icmp_ge (tgt := 14) dX11_isThrow_7 (rfl : 7 + 3 = 10) (by decide) (fun b7 => ?_) (fun b7 => ?_)
    · refine k_iconst (v := 0) dX11_isThrow_14 (rfl : 14 + 1 = 15) (by decide) ?_
      refine k_iret rfl rfl dX11_isThrow_15 (Nat.le_of_ble_eq_true rfl) (Nat.le_of_ble_eq_true rfl) ?_
      exact kRt_of (congrArg (fun z => some (Value.int z)) (Eq.symm (Eq.trans (if_neg (show ¬ (a1 < 0) from b1)) (if_pos (show 64 ≤ a1 from b7))))) rfl
    · refine k_iconst (v := 1) dX11_isThrow_10 (rfl : 10 + 1 = 11) (by decide) ?_
      refine k_goto (tgt := 15) dX11_isThrow_11 (by decide) ?_
      refine k_iret rfl rfl dX11_isThrow_15 (Nat.le_of_ble_eq_true rfl) (Nat.le_of_ble_eq_true rfl) ?_
      exact kRt_of (congrArg (fun z => some (Value.int z)) (Eq.symm (Eq.trans (if_neg (show ¬ (a1 < 0) from b1)) (if_neg (show ¬ (64 ≤ a1) from b7))))) rfl
def f_X11_armOf (a1 : Int32) : Int32 := (1 + ((a1 / 8) - (a1 / 8) / 4 * 4))
set_option maxRecDepth 100000 in
set_option maxHeartbeats 4000000 in
theorem m_X11_armOf {h : kH} {N : Nat} {a1 : Int32} : kMet kX11_armOf false 0 0 [.int a1] h N (kRt (some (.int (f_X11_armOf a1))) h N) := by
  refine kMet.in (by decide) rfl rfl _ rfl ?_
  refine k_iconst (v := 1) dX11_armOf_0 (rfl : 0 + 1 = 1) (by decide) ?_
  refine k_iload_n (i := 0) dX11_armOf_1 (rfl : 1 + 1 = 2) rfl rfl ?_
  refine k_bipush (v := 8) dX11_armOf_2 (rfl : 2 + 2 = 4) (by decide) ?_
  refine k_idiv dX11_armOf_4 (rfl : 4 + 1 = 5) (by decide) ?_
  refine k_iconst (v := 4) dX11_armOf_5 (rfl : 5 + 1 = 6) (by decide) ?_
  refine k_irem dX11_armOf_6 (rfl : 6 + 1 = 7) (by decide) ?_
  refine k_iadd dX11_armOf_7 (rfl : 7 + 1 = 8) ?_
  refine k_iret rfl rfl dX11_armOf_8 (Nat.le_of_ble_eq_true rfl) (Nat.le_of_ble_eq_true rfl) ?_
  exact kRt_of rfl rfl
def f_X10_exchange (a1 : Int64) (a2 : Int64) (a3 : Int32) : Int64 := ((a1 ^^^ ((a1 ^^^ (Int64.toUInt64 a1 >>> (Int64.toUInt64 (Int32.toInt64 a3) &&& Int64.toUInt64 63)).toInt64) &&& a2)) ^^^ (((a1 ^^^ (Int64.toUInt64 a1 >>> (Int64.toUInt64 (Int32.toInt64 a3) &&& Int64.toUInt64 63)).toInt64) &&& a2) <<< (Int32.toInt64 a3 &&& 63)))
set_option maxRecDepth 100000 in
set_option maxHeartbeats 4000000 in
theorem m_X10_exchange {h : kH} {N : Nat} {a1 : Int64} {a2 : Int64} {a3 : Int32} : kMet kX10_exchange false 0 0 [.long a1, .long a2, .int a3] h N (kRt (some (.long (f_X10_exchange a1 a2 a3))) h N) := by
  refine kMet.in (by decide) rfl rfl _ rfl ?_
  refine k_lload_n (i := 0) dX10_exchange_0 (rfl : 0 + 1 = 1) rfl rfl ?_
  refine k_lload_n (i := 0) dX10_exchange_1 (rfl : 1 + 1 = 2) rfl rfl ?_
  refine k_iload (i := 4) dX10_exchange_2 (rfl : 2 + 2 = 4) rfl ?_
  refine k_lushr dX10_exchange_4 (rfl : 4 + 1 = 5) ?_
  refine k_lxor dX10_exchange_5 (rfl : 5 + 1 = 6) ?_
  refine k_lload_n (i := 2) dX10_exchange_6 (rfl : 6 + 1 = 7) rfl rfl ?_
  refine k_land dX10_exchange_7 (rfl : 7 + 1 = 8) ?_
  refine k_lstore (i := 5) dX10_exchange_8 (rfl : 8 + 2 = 10) (Nat.le_of_ble_eq_true rfl) ?_
  refine k_ls (ls2 := [.long a1, .retAddr 0, .long a2, .retAddr 0, .int a3, .long ((a1 ^^^ (Int64.toUInt64 a1 >>> (Int64.toUInt64 (Int32.toInt64 a3) &&& Int64.toUInt64 63)).toInt64) &&& a2), .retAddr 0]) rfl ?_
  refine k_lload_n (i := 0) dX10_exchange_10 (rfl : 10 + 1 = 11) rfl rfl ?_
  refine k_lload (i := 5) dX10_exchange_11 (rfl : 11 + 2 = 13) rfl ?_
  refine k_lxor dX10_exchange_13 (rfl : 13 + 1 = 14) ?_
  refine k_lload (i := 5) dX10_exchange_14 (rfl : 14 + 2 = 16) rfl ?_
  refine k_iload (i := 4) dX10_exchange_16 (rfl : 16 + 2 = 18) rfl ?_
  refine k_lshl dX10_exchange_18 (rfl : 18 + 1 = 19) ?_
  refine k_lxor dX10_exchange_19 (rfl : 19 + 1 = 20) ?_
  refine k_lret rfl dX10_exchange_20 (Nat.le_of_ble_eq_true rfl) (Nat.le_of_ble_eq_true rfl) ?_
  exact kRt_of rfl rfl
def f_X10_turnedByExchange (x : kK)  : Int64 := (f_X10_exchange (f_X10_exchange (f_X10_exchange (f_X10_exchange (f_X10_exchange (f_X10_exchange ((x.1 0).1) (47851476196393130 : Int64) 7) (225176545447116 : Int64) 14) (4042322160 : Int64) 28) (6148914691236517205 : Int64) 1) (3689348814741910323 : Int64) 2) (1085102592571150095 : Int64) 4)
set_option maxRecDepth 100000 in
set_option maxHeartbeats 4000000 in
theorem m_X10_turnedByExchange {x : kK} {r : kH} : kMet kX10_turnedByExchange false 0 0 [.ref 2] (kTp (kHc x) r) 130 (kRt (some (.long (f_X10_turnedByExchange x ))) (kTp (kHc x) r) 130) := by
  refine kMet.in (by decide) rfl rfl _ rfl ?_
  refine k_aload_n (i := 0) dX10_turnedByExchange_0 (rfl : 0 + 1 = 1) rfl rfl ?_
  refine k_get 10 0 fg_X10_15 dX10_turnedByExchange_1 (rfl : 1 + 3 = 4) (Nat.le_of_ble_eq_true rfl) rfl rfl ?_
  refine k_ldc2 dX10_turnedByExchange_4 (rfl : 4 + 3 = 7) kc_X10_46 ?_
  refine k_bipush (v := 7) dX10_turnedByExchange_7 (rfl : 7 + 2 = 9) (by decide) ?_
  refine k_callSd3 cv_X10_48 ⟨Nat.le_of_ble_eq_true rfl, Nat.le_of_ble_eq_true rfl⟩ (m_X10_exchange) dX10_turnedByExchange_9 (rfl : 9 + 3 = 12) rfl ⟨Nat.le_of_ble_eq_true rfl, Nat.le_of_ble_eq_true rfl⟩ ?_
  refine k_lstore_n (i := 1) dX10_turnedByExchange_12 (rfl : 12 + 1 = 13) rfl (Nat.le_of_ble_eq_true rfl) ?_
  refine k_ls (ls2 := [.ref 2, .long (f_X10_exchange ((x.1 0).1) (47851476196393130 : Int64) 7), .retAddr 0]) rfl ?_
  refine k_lload_n (i := 1) dX10_turnedByExchange_13 (rfl : 13 + 1 = 14) rfl rfl ?_
  refine k_ldc2 dX10_turnedByExchange_14 (rfl : 14 + 3 = 17) kc_X10_52 ?_
  refine k_bipush (v := 14) dX10_turnedByExchange_17 (rfl : 17 + 2 = 19) (by decide) ?_
  refine k_callSd3 cv_X10_48 ⟨Nat.le_of_ble_eq_true rfl, Nat.le_of_ble_eq_true rfl⟩ (m_X10_exchange) dX10_turnedByExchange_19 (rfl : 19 + 3 = 22) rfl ⟨Nat.le_of_ble_eq_true rfl, Nat.le_of_ble_eq_true rfl⟩ ?_
  refine k_lstore_n (i := 1) dX10_turnedByExchange_22 (rfl : 22 + 1 = 23) rfl (Nat.le_of_ble_eq_true rfl) ?_
  refine k_ls (ls2 := [.ref 2, .long (f_X10_exchange (f_X10_exchange ((x.1 0).1) (47851476196393130 : Int64) 7) (225176545447116 : Int64) 14), .retAddr 0]) rfl ?_
  refine k_lload_n (i := 1) dX10_turnedByExchange_23 (rfl : 23 + 1 = 24) rfl rfl ?_
  refine k_ldc2 dX10_turnedByExchange_24 (rfl : 24 + 3 = 27) kc_X10_54 ?_
  refine k_bipush (v := 28) dX10_turnedByExchange_27 (rfl : 27 + 2 = 29) (by decide) ?_
  refine k_callSd3 cv_X10_48 ⟨Nat.le_of_ble_eq_true rfl, Nat.le_of_ble_eq_true rfl⟩ (m_X10_exchange) dX10_turnedByExchange_29 (rfl : 29 + 3 = 32) rfl ⟨Nat.le_of_ble_eq_true rfl, Nat.le_of_ble_eq_true rfl⟩ ?_
  refine k_lstore_n (i := 1) dX10_turnedByExchange_32 (rfl : 32 + 1 = 33) rfl (Nat.le_of_ble_eq_true rfl) ?_
  refine k_ls (ls2 := [.ref 2, .long (f_X10_exchange (f_X10_exchange (f_X10_exchange ((x.1 0).1) (47851476196393130 : Int64) 7) (225176545447116 : Int64) 14) (4042322160 : Int64) 28), .retAddr 0]) rfl ?_
  refine k_lload_n (i := 1) dX10_turnedByExchange_33 (rfl : 33 + 1 = 34) rfl rfl ?_
  refine k_ldc2 dX10_turnedByExchange_34 (rfl : 34 + 3 = 37) kc_X10_56 ?_
  refine k_iconst (v := 1) dX10_turnedByExchange_37 (rfl : 37 + 1 = 38) (by decide) ?_
  refine k_callSd3 cv_X10_48 ⟨Nat.le_of_ble_eq_true rfl, Nat.le_of_ble_eq_true rfl⟩ (m_X10_exchange) dX10_turnedByExchange_38 (rfl : 38 + 3 = 41) rfl ⟨Nat.le_of_ble_eq_true rfl, Nat.le_of_ble_eq_true rfl⟩ ?_
  refine k_lstore_n (i := 1) dX10_turnedByExchange_41 (rfl : 41 + 1 = 42) rfl (Nat.le_of_ble_eq_true rfl) ?_
  refine k_ls (ls2 := [.ref 2, .long (f_X10_exchange (f_X10_exchange (f_X10_exchange (f_X10_exchange ((x.1 0).1) (47851476196393130 : Int64) 7) (225176545447116 : Int64) 14) (4042322160 : Int64) 28) (6148914691236517205 : Int64) 1), .retAddr 0]) rfl ?_
  refine k_lload_n (i := 1) dX10_turnedByExchange_42 (rfl : 42 + 1 = 43) rfl rfl ?_
  refine k_ldc2 dX10_turnedByExchange_43 (rfl : 43 + 3 = 46) kc_X10_58 ?_
  refine k_iconst (v := 2) dX10_turnedByExchange_46 (rfl : 46 + 1 = 47) (by decide) ?_
  refine k_callSd3 cv_X10_48 ⟨Nat.le_of_ble_eq_true rfl, Nat.le_of_ble_eq_true rfl⟩ (m_X10_exchange) dX10_turnedByExchange_47 (rfl : 47 + 3 = 50) rfl ⟨Nat.le_of_ble_eq_true rfl, Nat.le_of_ble_eq_true rfl⟩ ?_
  refine k_lstore_n (i := 1) dX10_turnedByExchange_50 (rfl : 50 + 1 = 51) rfl (Nat.le_of_ble_eq_true rfl) ?_
  refine k_ls (ls2 := [.ref 2, .long (f_X10_exchange (f_X10_exchange (f_X10_exchange (f_X10_exchange (f_X10_exchange ((x.1 0).1) (47851476196393130 : Int64) 7) (225176545447116 : Int64) 14) (4042322160 : Int64) 28) (6148914691236517205 : Int64) 1) (3689348814741910323 : Int64) 2), .retAddr 0]) rfl ?_
  refine k_lload_n (i := 1) dX10_turnedByExchange_51 (rfl : 51 + 1 = 52) rfl rfl ?_
  refine k_ldc2 dX10_turnedByExchange_52 (rfl : 52 + 3 = 55) kc_X10_60 ?_
  refine k_iconst (v := 4) dX10_turnedByExchange_55 (rfl : 55 + 1 = 56) (by decide) ?_
  refine k_callSd3 cv_X10_48 ⟨Nat.le_of_ble_eq_true rfl, Nat.le_of_ble_eq_true rfl⟩ (m_X10_exchange) dX10_turnedByExchange_56 (rfl : 56 + 3 = 59) rfl ⟨Nat.le_of_ble_eq_true rfl, Nat.le_of_ble_eq_true rfl⟩ ?_
  refine k_lret rfl dX10_turnedByExchange_59 (Nat.le_of_ble_eq_true rfl) (Nat.le_of_ble_eq_true rfl) ?_
  exact kRt_of rfl rfl
def f_X10_withNeighbours (a1 : Int64) : Int64 := ((((a1 ||| ((a1 <<< (Int32.toInt64 8 &&& 63)) ||| (Int64.toUInt64 a1 >>> (Int64.toUInt64 (Int32.toInt64 56) &&& Int64.toUInt64 63)).toInt64)) ||| ((Int64.toUInt64 a1 >>> (Int64.toUInt64 (Int32.toInt64 8) &&& Int64.toUInt64 63)).toInt64 ||| (a1 <<< (Int32.toInt64 56 &&& 63)))) ||| (((a1 &&& (9187201950435737471 : Int64)) <<< (Int32.toInt64 1 &&& 63)) ||| (Int64.toUInt64 (a1 &&& (-9187201950435737472 : Int64)) >>> (Int64.toUInt64 (Int32.toInt64 7) &&& Int64.toUInt64 63)).toInt64)) ||| ((Int64.toUInt64 (a1 &&& (-72340172838076674 : Int64)) >>> (Int64.toUInt64 (Int32.toInt64 1) &&& Int64.toUInt64 63)).toInt64 ||| ((a1 &&& (72340172838076673 : Int64)) <<< (Int32.toInt64 7 &&& 63))))
set_option maxRecDepth 100000 in
set_option maxHeartbeats 4000000 in
theorem m_X10_withNeighbours {h : kH} {N : Nat} {a1 : Int64} : kMet kX10_withNeighbours false 0 0 [.long a1] h N (kRt (some (.long (f_X10_withNeighbours a1))) h N) := by
  refine kMet.in (by decide) rfl rfl _ rfl ?_
  refine k_lload_n (i := 0) dX10_withNeighbours_0 (rfl : 0 + 1 = 1) rfl rfl ?_
  refine k_bipush (v := 8) dX10_withNeighbours_1 (rfl : 1 + 2 = 3) (by decide) ?_
  refine k_lshl dX10_withNeighbours_3 (rfl : 3 + 1 = 4) ?_
  refine k_lload_n (i := 0) dX10_withNeighbours_4 (rfl : 4 + 1 = 5) rfl rfl ?_
  refine k_bipush (v := 56) dX10_withNeighbours_5 (rfl : 5 + 2 = 7) (by decide) ?_
  refine k_lushr dX10_withNeighbours_7 (rfl : 7 + 1 = 8) ?_
  refine k_lor dX10_withNeighbours_8 (rfl : 8 + 1 = 9) ?_
  refine k_lstore_n (i := 2) dX10_withNeighbours_9 (rfl : 9 + 1 = 10) rfl (Nat.le_of_ble_eq_true rfl) ?_
  refine k_ls (ls2 := [.long a1, .retAddr 0, .long ((a1 <<< (Int32.toInt64 8 &&& 63)) ||| (Int64.toUInt64 a1 >>> (Int64.toUInt64 (Int32.toInt64 56) &&& Int64.toUInt64 63)).toInt64), .retAddr 0, .retAddr 0, .retAddr 0, .retAddr 0, .retAddr 0, .retAddr 0, .retAddr 0]) rfl ?_
  refine k_lload_n (i := 0) dX10_withNeighbours_10 (rfl : 10 + 1 = 11) rfl rfl ?_
  refine k_bipush (v := 8) dX10_withNeighbours_11 (rfl : 11 + 2 = 13) (by decide) ?_
  refine k_lushr dX10_withNeighbours_13 (rfl : 13 + 1 = 14) ?_
  refine k_lload_n (i := 0) dX10_withNeighbours_14 (rfl : 14 + 1 = 15) rfl rfl ?_
  refine k_bipush (v := 56) dX10_withNeighbours_15 (rfl : 15 + 2 = 17) (by decide) ?_
  refine k_lshl dX10_withNeighbours_17 (rfl : 17 + 1 = 18) ?_
  refine k_lor dX10_withNeighbours_18 (rfl : 18 + 1 = 19) ?_
  refine k_lstore (i := 4) dX10_withNeighbours_19 (rfl : 19 + 2 = 21) (Nat.le_of_ble_eq_true rfl) ?_
  refine k_ls (ls2 := [.long a1, .retAddr 0, .long ((a1 <<< (Int32.toInt64 8 &&& 63)) ||| (Int64.toUInt64 a1 >>> (Int64.toUInt64 (Int32.toInt64 56) &&& Int64.toUInt64 63)).toInt64), .retAddr 0, .long ((Int64.toUInt64 a1 >>> (Int64.toUInt64 (Int32.toInt64 8) &&& Int64.toUInt64 63)).toInt64 ||| (a1 <<< (Int32.toInt64 56 &&& 63))), .retAddr 0, .retAddr 0, .retAddr 0, .retAddr 0, .retAddr 0]) rfl ?_
  refine k_lload_n (i := 0) dX10_withNeighbours_21 (rfl : 21 + 1 = 22) rfl rfl ?_
  refine k_ldc2 dX10_withNeighbours_22 (rfl : 22 + 3 = 25) kc_X10_72 ?_
  refine k_land dX10_withNeighbours_25 (rfl : 25 + 1 = 26) ?_
  refine k_iconst (v := 1) dX10_withNeighbours_26 (rfl : 26 + 1 = 27) (by decide) ?_
  refine k_lshl dX10_withNeighbours_27 (rfl : 27 + 1 = 28) ?_
  refine k_lload_n (i := 0) dX10_withNeighbours_28 (rfl : 28 + 1 = 29) rfl rfl ?_
  refine k_ldc2 dX10_withNeighbours_29 (rfl : 29 + 3 = 32) kc_X10_74 ?_
  refine k_land dX10_withNeighbours_32 (rfl : 32 + 1 = 33) ?_
  refine k_bipush (v := 7) dX10_withNeighbours_33 (rfl : 33 + 2 = 35) (by decide) ?_
  refine k_lushr dX10_withNeighbours_35 (rfl : 35 + 1 = 36) ?_
  refine k_lor dX10_withNeighbours_36 (rfl : 36 + 1 = 37) ?_
  refine k_lstore (i := 6) dX10_withNeighbours_37 (rfl : 37 + 2 = 39) (Nat.le_of_ble_eq_true rfl) ?_
  refine k_ls (ls2 := [.long a1, .retAddr 0, .long ((a1 <<< (Int32.toInt64 8 &&& 63)) ||| (Int64.toUInt64 a1 >>> (Int64.toUInt64 (Int32.toInt64 56) &&& Int64.toUInt64 63)).toInt64), .retAddr 0, .long ((Int64.toUInt64 a1 >>> (Int64.toUInt64 (Int32.toInt64 8) &&& Int64.toUInt64 63)).toInt64 ||| (a1 <<< (Int32.toInt64 56 &&& 63))), .retAddr 0, .long (((a1 &&& (9187201950435737471 : Int64)) <<< (Int32.toInt64 1 &&& 63)) ||| (Int64.toUInt64 (a1 &&& (-9187201950435737472 : Int64)) >>> (Int64.toUInt64 (Int32.toInt64 7) &&& Int64.toUInt64 63)).toInt64), .retAddr 0, .retAddr 0, .retAddr 0]) rfl ?_
  refine k_lload_n (i := 0) dX10_withNeighbours_39 (rfl : 39 + 1 = 40) rfl rfl ?_
  refine k_ldc2 dX10_withNeighbours_40 (rfl : 40 + 3 = 43) kc_X10_76 ?_
  refine k_land dX10_withNeighbours_43 (rfl : 43 + 1 = 44) ?_
  refine k_iconst (v := 1) dX10_withNeighbours_44 (rfl : 44 + 1 = 45) (by decide) ?_
  refine k_lushr dX10_withNeighbours_45 (rfl : 45 + 1 = 46) ?_
  refine k_lload_n (i := 0) dX10_withNeighbours_46 (rfl : 46 + 1 = 47) rfl rfl ?_
  refine k_ldc2 dX10_withNeighbours_47 (rfl : 47 + 3 = 50) kc_X10_78 ?_
  refine k_land dX10_withNeighbours_50 (rfl : 50 + 1 = 51) ?_
  refine k_bipush (v := 7) dX10_withNeighbours_51 (rfl : 51 + 2 = 53) (by decide) ?_
  refine k_lshl dX10_withNeighbours_53 (rfl : 53 + 1 = 54) ?_
  refine k_lor dX10_withNeighbours_54 (rfl : 54 + 1 = 55) ?_
  refine k_lstore (i := 8) dX10_withNeighbours_55 (rfl : 55 + 2 = 57) (Nat.le_of_ble_eq_true rfl) ?_
  refine k_ls (ls2 := [.long a1, .retAddr 0, .long ((a1 <<< (Int32.toInt64 8 &&& 63)) ||| (Int64.toUInt64 a1 >>> (Int64.toUInt64 (Int32.toInt64 56) &&& Int64.toUInt64 63)).toInt64), .retAddr 0, .long ((Int64.toUInt64 a1 >>> (Int64.toUInt64 (Int32.toInt64 8) &&& Int64.toUInt64 63)).toInt64 ||| (a1 <<< (Int32.toInt64 56 &&& 63))), .retAddr 0, .long (((a1 &&& (9187201950435737471 : Int64)) <<< (Int32.toInt64 1 &&& 63)) ||| (Int64.toUInt64 (a1 &&& (-9187201950435737472 : Int64)) >>> (Int64.toUInt64 (Int32.toInt64 7) &&& Int64.toUInt64 63)).toInt64), .retAddr 0, .long ((Int64.toUInt64 (a1 &&& (-72340172838076674 : Int64)) >>> (Int64.toUInt64 (Int32.toInt64 1) &&& Int64.toUInt64 63)).toInt64 ||| ((a1 &&& (72340172838076673 : Int64)) <<< (Int32.toInt64 7 &&& 63))), .retAddr 0]) rfl ?_
  refine k_lload_n (i := 0) dX10_withNeighbours_57 (rfl : 57 + 1 = 58) rfl rfl ?_
  refine k_lload_n (i := 2) dX10_withNeighbours_58 (rfl : 58 + 1 = 59) rfl rfl ?_
  refine k_lor dX10_withNeighbours_59 (rfl : 59 + 1 = 60) ?_
  refine k_lload (i := 4) dX10_withNeighbours_60 (rfl : 60 + 2 = 62) rfl ?_
  refine k_lor dX10_withNeighbours_62 (rfl : 62 + 1 = 63) ?_
  refine k_lload (i := 6) dX10_withNeighbours_63 (rfl : 63 + 2 = 65) rfl ?_
  refine k_lor dX10_withNeighbours_65 (rfl : 65 + 1 = 66) ?_
  refine k_lload (i := 8) dX10_withNeighbours_66 (rfl : 66 + 2 = 68) rfl ?_
  refine k_lor dX10_withNeighbours_68 (rfl : 68 + 1 = 69) ?_
  refine k_lret rfl dX10_withNeighbours_69 (Nat.le_of_ble_eq_true rfl) (Nat.le_of_ble_eq_true rfl) ?_
  exact kRt_of rfl rfl
def f_X11_refuse (x : kK) (a1 : Int32) (a2 : Int32) : Int32 := 4
def g_X11_refuse (x : kK) (a1 : Int32) (a2 : Int32) : kK := (kkS (kkS x 9 a1) 10 a2)
set_option maxRecDepth 100000 in
set_option maxHeartbeats 4000000 in
theorem m_X11_refuse {x : kK} {r : kH} {a1 : Int32} {a2 : Int32} : kMet kX11_refuse false 0 0 [.ref 0, .int a1, .int a2] (kTp (kHc x) r) 130 (kRt (some (.int (f_X11_refuse x a1 a2))) (kTp (kHc (g_X11_refuse x a1 a2)) r) 130) := by
  refine kMet.in (by decide) rfl rfl _ rfl ?_
  refine k_aload_n (i := 0) dX11_refuse_0 (rfl : 0 + 1 = 1) rfl rfl ?_
  refine k_iload_n (i := 1) dX11_refuse_1 (rfl : 1 + 1 = 2) rfl rfl ?_
  refine k_put 11 10 fp_X11_324 dX11_refuse_2 (rfl : 2 + 3 = 5) (Nat.le_of_ble_eq_true rfl) rfl (Nat.le_of_ble_eq_true rfl) rfl rfl ?_
  refine kf_C9 (v := a1) rfl ?_
  refine k_aload_n (i := 0) dX11_refuse_5 (rfl : 5 + 1 = 6) rfl rfl ?_
  refine k_iload_n (i := 2) dX11_refuse_6 (rfl : 6 + 1 = 7) rfl rfl ?_
  refine k_put 11 11 fp_X11_329 dX11_refuse_7 (rfl : 7 + 3 = 10) (Nat.le_of_ble_eq_true rfl) rfl (Nat.le_of_ble_eq_true rfl) rfl rfl ?_
  refine kf_C10 (v := a2) rfl ?_
  refine k_iconst (v := 4) dX11_refuse_10 (rfl : 10 + 1 = 11) (by decide) ?_
  refine k_iret rfl rfl dX11_refuse_11 (Nat.le_of_ble_eq_true rfl) (Nat.le_of_ble_eq_true rfl) ?_
  exact kRt_of rfl rfl
def f_X11_refuseTreeIn (x : kK) (a1 : Int32) : Int32 := if (b2i (bitA (x.1 0).1 a1)) = 0 then 0 else (f_X11_refuse x 1 a1)
def g_X11_refuseTreeIn (x : kK) (a1 : Int32) : kK := if (b2i (bitA (x.1 0).1 a1)) = 0 then x else (g_X11_refuse x 1 a1)
set_option maxRecDepth 100000 in
set_option maxHeartbeats 4000000 in
theorem m_X11_refuseTreeIn {x : kK} {r : kH} {a1 : Int32} : kMet kX11_refuseTreeIn false 0 0 [.ref 0, .int a1] (kTp (kHc x) r) 130 (kRt (some (.int (f_X11_refuseTreeIn x a1))) (kTp (kHc (g_X11_refuseTreeIn x a1)) r) 130) := by
  refine kMet.in (by decide) rfl rfl _ rfl ?_
  refine k_aload_n (i := 0) dX11_refuseTreeIn_0 (rfl : 0 + 1 = 1) rfl rfl ?_
  refine k_get 11 0 fg_X11_12 dX11_refuseTreeIn_1 (rfl : 1 + 3 = 4) (Nat.le_of_ble_eq_true rfl) rfl rfl ?_
  refine k_get 9 0 fg_X11_100 dX11_refuseTreeIn_4 (rfl : 4 + 3 = 7) (Nat.le_of_ble_eq_true rfl) rfl rfl ?_
  refine k_iload_n (i := 1) dX11_refuseTreeIn_7 (rfl : 7 + 1 = 8) rfl rfl ?_
  refine k_callVd1 cv_X11_444 ⟨Nat.le_of_ble_eq_true rfl, Nat.le_of_ble_eq_true rfl⟩ (m_X10_hasTree) dX11_refuseTreeIn_8 (rfl : 8 + 3 = 11) (Nat.le_of_ble_eq_true rfl) rfl rfl rfl ⟨Nat.le_of_ble_eq_true rfl, Nat.le_of_ble_eq_true rfl⟩ ?_
  refine k_if_eq (tgt := 23) dX11_refuseTreeIn_11 (rfl : 11 + 3 = 14) (by decide) (fun b11 => ?_) (fun b11 => ?_)
  · refine k_iconst (v := 0) dX11_refuseTreeIn_23 (rfl : 23 + 1 = 24) (by decide) ?_
    refine k_iret rfl rfl dX11_refuseTreeIn_24 (Nat.le_of_ble_eq_true rfl) (Nat.le_of_ble_eq_true rfl) ?_
    exact kRt_of (congrArg (fun z => some (Value.int z)) (Eq.symm (if_pos (show (b2i (bitA (x.1 0).1 a1)) = 0 from b11)))) (congrArg (fun z => kTp (kHc z) r) (Eq.symm (if_pos (show (b2i (bitA (x.1 0).1 a1)) = 0 from b11))))
  · refine k_aload_n (i := 0) dX11_refuseTreeIn_14 (rfl : 14 + 1 = 15) rfl rfl ?_
    refine k_iconst (v := 1) dX11_refuseTreeIn_15 (rfl : 15 + 1 = 16) (by decide) ?_
    refine k_iload_n (i := 1) dX11_refuseTreeIn_16 (rfl : 16 + 1 = 17) rfl rfl ?_
    refine k_callVd2 cv_X11_447 ⟨Nat.le_of_ble_eq_true rfl, Nat.le_of_ble_eq_true rfl⟩ (m_X11_refuse) dX11_refuseTreeIn_17 (rfl : 17 + 3 = 20) (Nat.le_of_ble_eq_true rfl) rfl rfl rfl ⟨Nat.le_of_ble_eq_true rfl, Nat.le_of_ble_eq_true rfl⟩ ?_
    refine k_goto (tgt := 24) dX11_refuseTreeIn_20 (by decide) ?_
    refine k_iret rfl rfl dX11_refuseTreeIn_24 (Nat.le_of_ble_eq_true rfl) (Nat.le_of_ble_eq_true rfl) ?_
    exact kRt_of (congrArg (fun z => some (Value.int z)) (Eq.symm (if_neg (show ¬ ((b2i (bitA (x.1 0).1 a1)) = 0) from b11)))) (congrArg (fun z => kTp (kHc z) r) (Eq.symm (if_neg (show ¬ ((b2i (bitA (x.1 0).1 a1)) = 0) from b11))))
def f_X11_refusePartyIn (x : kK) (a1 : Int32) : Int32 := if (pFind ((x.1 0).2.2 0) a1 (Int32.toNatClampNeg ((x.1 0).2.1 3)) 0) = (-1) then 0 else (f_X11_refuse x 2 (pFind ((x.1 0).2.2 0) a1 (Int32.toNatClampNeg ((x.1 0).2.1 3)) 0))
def g_X11_refusePartyIn (x : kK) (a1 : Int32) : kK := if (pFind ((x.1 0).2.2 0) a1 (Int32.toNatClampNeg ((x.1 0).2.1 3)) 0) = (-1) then x else (g_X11_refuse x 2 (pFind ((x.1 0).2.2 0) a1 (Int32.toNatClampNeg ((x.1 0).2.1 3)) 0))
set_option maxRecDepth 100000 in
set_option maxHeartbeats 4000000 in
theorem m_X11_refusePartyIn {x : kK} {r : kH} (iv : kIv (x.1 0)) {a1 : Int32} : kMet kX11_refusePartyIn false 0 0 [.ref 0, .int a1] (kTp (kHc x) r) 130 (kRt (some (.int (f_X11_refusePartyIn x a1))) (kTp (kHc (g_X11_refusePartyIn x a1)) r) 130) := by
  refine kMet.in (by decide) rfl rfl _ rfl ?_
  refine k_aload_n (i := 0) dX11_refusePartyIn_0 (rfl : 0 + 1 = 1) rfl rfl ?_
  refine k_get 11 0 fg_X11_12 dX11_refusePartyIn_1 (rfl : 1 + 3 = 4) (Nat.le_of_ble_eq_true rfl) rfl rfl ?_
  refine k_get 9 0 fg_X11_100 dX11_refusePartyIn_4 (rfl : 4 + 3 = 7) (Nat.le_of_ble_eq_true rfl) rfl rfl ?_
  refine k_iload_n (i := 1) dX11_refusePartyIn_7 (rfl : 7 + 1 = 8) rfl rfl ?_
  refine k_callVd1 cv_X11_181 ⟨Nat.le_of_ble_eq_true rfl, Nat.le_of_ble_eq_true rfl⟩ (m2_X10_partyAt iv) dX11_refusePartyIn_8 (rfl : 8 + 3 = 11) (Nat.le_of_ble_eq_true rfl) rfl rfl rfl ⟨Nat.le_of_ble_eq_true rfl, Nat.le_of_ble_eq_true rfl⟩ ?_
  refine k_istore_n (i := 2) dX11_refusePartyIn_11 (rfl : 11 + 1 = 12) rfl (Nat.le_of_ble_eq_true rfl) ?_
  refine k_ls (ls2 := [.ref 0, .int a1, .int (pFind ((x.1 0).2.2 0) a1 (Int32.toNatClampNeg ((x.1 0).2.1 3)) 0)]) rfl ?_
  refine k_iload_n (i := 2) dX11_refusePartyIn_12 (rfl : 12 + 1 = 13) rfl rfl ?_
  refine k_iconst (v := (-1)) dX11_refusePartyIn_13 (rfl : 13 + 1 = 14) (by decide) ?_
  refine k_icmp_eq (tgt := 26) dX11_refusePartyIn_14 (rfl : 14 + 3 = 17) (by decide) (fun b14 => ?_) (fun b14 => ?_)
  · refine k_iconst (v := 0) dX11_refusePartyIn_26 (rfl : 26 + 1 = 27) (by decide) ?_
    refine k_iret rfl rfl dX11_refusePartyIn_27 (Nat.le_of_ble_eq_true rfl) (Nat.le_of_ble_eq_true rfl) ?_
    exact kRt_of (congrArg (fun z => some (Value.int z)) (Eq.symm (if_pos (show (pFind ((x.1 0).2.2 0) a1 (Int32.toNatClampNeg ((x.1 0).2.1 3)) 0) = (-1) from b14)))) (congrArg (fun z => kTp (kHc z) r) (Eq.symm (if_pos (show (pFind ((x.1 0).2.2 0) a1 (Int32.toNatClampNeg ((x.1 0).2.1 3)) 0) = (-1) from b14))))
  · refine k_aload_n (i := 0) dX11_refusePartyIn_17 (rfl : 17 + 1 = 18) rfl rfl ?_
    refine k_iconst (v := 2) dX11_refusePartyIn_18 (rfl : 18 + 1 = 19) (by decide) ?_
    refine k_iload_n (i := 2) dX11_refusePartyIn_19 (rfl : 19 + 1 = 20) rfl rfl ?_
    refine k_callVd2 cv_X11_447 ⟨Nat.le_of_ble_eq_true rfl, Nat.le_of_ble_eq_true rfl⟩ (m_X11_refuse) dX11_refusePartyIn_20 (rfl : 20 + 3 = 23) (Nat.le_of_ble_eq_true rfl) rfl rfl rfl ⟨Nat.le_of_ble_eq_true rfl, Nat.le_of_ble_eq_true rfl⟩ ?_
    refine k_goto (tgt := 27) dX11_refusePartyIn_23 (by decide) ?_
    refine k_iret rfl rfl dX11_refusePartyIn_27 (Nat.le_of_ble_eq_true rfl) (Nat.le_of_ble_eq_true rfl) ?_
    exact kRt_of (congrArg (fun z => some (Value.int z)) (Eq.symm (if_neg (show ¬ ((pFind ((x.1 0).2.2 0) a1 (Int32.toNatClampNeg ((x.1 0).2.1 3)) 0) = (-1)) from b14)))) (congrArg (fun z => kTp (kHc z) r) (Eq.symm (if_neg (show ¬ ((pFind ((x.1 0).2.2 0) a1 (Int32.toNatClampNeg ((x.1 0).2.1 3)) 0) = (-1)) from b14))))
def f_X11_refuseBenchIn (x : kK) (a1 : Int32) : Int32 := if ((x.1 0).2.1 0) = a1 then (f_X11_refuse x 3 a1) else 0
def g_X11_refuseBenchIn (x : kK) (a1 : Int32) : kK := if ((x.1 0).2.1 0) = a1 then (g_X11_refuse x 3 a1) else x
set_option maxRecDepth 100000 in
set_option maxHeartbeats 4000000 in
theorem m_X11_refuseBenchIn {x : kK} {r : kH} {a1 : Int32} : kMet kX11_refuseBenchIn false 0 0 [.ref 0, .int a1] (kTp (kHc x) r) 130 (kRt (some (.int (f_X11_refuseBenchIn x a1))) (kTp (kHc (g_X11_refuseBenchIn x a1)) r) 130) := by
  refine kMet.in (by decide) rfl rfl _ rfl ?_
  refine k_aload_n (i := 0) dX11_refuseBenchIn_0 (rfl : 0 + 1 = 1) rfl rfl ?_
  refine k_get 11 0 fg_X11_12 dX11_refuseBenchIn_1 (rfl : 1 + 3 = 4) (Nat.le_of_ble_eq_true rfl) rfl rfl ?_
  refine k_get 9 0 fg_X11_100 dX11_refuseBenchIn_4 (rfl : 4 + 3 = 7) (Nat.le_of_ble_eq_true rfl) rfl rfl ?_
  refine k_get 10 1 fg_X11_142 dX11_refuseBenchIn_7 (rfl : 7 + 3 = 10) (Nat.le_of_ble_eq_true rfl) rfl rfl ?_
  refine k_iload_n (i := 1) dX11_refuseBenchIn_10 (rfl : 10 + 1 = 11) rfl rfl ?_
  refine k_icmp_ne (tgt := 23) dX11_refuseBenchIn_11 (rfl : 11 + 3 = 14) (by decide) (fun b11 => ?_) (fun b11 => ?_)
  · refine k_iconst (v := 0) dX11_refuseBenchIn_23 (rfl : 23 + 1 = 24) (by decide) ?_
    refine k_iret rfl rfl dX11_refuseBenchIn_24 (Nat.le_of_ble_eq_true rfl) (Nat.le_of_ble_eq_true rfl) ?_
    exact kRt_of (congrArg (fun z => some (Value.int z)) (Eq.symm (if_neg (show ¬ (((x.1 0).2.1 0) = a1) from b11)))) (congrArg (fun z => kTp (kHc z) r) (Eq.symm (if_neg (show ¬ (((x.1 0).2.1 0) = a1) from b11))))
  · refine k_aload_n (i := 0) dX11_refuseBenchIn_14 (rfl : 14 + 1 = 15) rfl rfl ?_
    refine k_iconst (v := 3) dX11_refuseBenchIn_15 (rfl : 15 + 1 = 16) (by decide) ?_
    refine k_iload_n (i := 1) dX11_refuseBenchIn_16 (rfl : 16 + 1 = 17) rfl rfl ?_
    refine k_callVd2 cv_X11_447 ⟨Nat.le_of_ble_eq_true rfl, Nat.le_of_ble_eq_true rfl⟩ (m_X11_refuse) dX11_refuseBenchIn_17 (rfl : 17 + 3 = 20) (Nat.le_of_ble_eq_true rfl) rfl rfl rfl ⟨Nat.le_of_ble_eq_true rfl, Nat.le_of_ble_eq_true rfl⟩ ?_
    refine k_goto (tgt := 24) dX11_refuseBenchIn_20 (by decide) ?_
    refine k_iret rfl rfl dX11_refuseBenchIn_24 (Nat.le_of_ble_eq_true rfl) (Nat.le_of_ble_eq_true rfl) ?_
    exact kRt_of (congrArg (fun z => some (Value.int z)) (Eq.symm (if_pos (show ((x.1 0).2.1 0) = a1 from b11)))) (congrArg (fun z => kTp (kHc z) r) (Eq.symm (if_pos (show ((x.1 0).2.1 0) = a1 from b11))))
