/-! THE YARD: its methods, called on the present yard (number 2) -/
def b2i (b : Bool) : Int32 := cond b 1 0
theorem lg_cmp_0 {x y : Int64} : lg_cmp x y = 0 ↔ x = y := by
  unfold lg_cmp
  constructor
  · intro h
    by_cases h1 : y < x
    · rw [if_pos h1] at h; exact absurd h (by decide)
    · rw [if_neg h1] at h
      by_cases h2 : x = y
      · exact h2
      · rw [if_neg h2] at h; exact absurd h (by decide)
  · intro h
    subst h
    rw [if_neg (Int64.lt_irrefl), if_pos rfl]
/-- bit c of t, as the machine looks it up -/
def bitA (t : Int64) (c : Int32) : Bool := decide (¬ ((t.toUInt64 >>> (c.toInt64.toUInt64 &&& Int64.toUInt64 63)).toInt64 &&& 1) = 0)
theorem bitA_f {t : Int64} {c : Int32} (h : lg_cmp ((t.toUInt64 >>> (c.toInt64.toUInt64 &&& Int64.toUInt64 63)).toInt64 &&& 1) 0 = 0) : 0 = b2i (bitA t c) := by
  unfold bitA; rw [decide_eq_false (fun q => q (lg_cmp_0.mp h))]; rfl
theorem bitA_t {t : Int64} {c : Int32} (h : ¬ lg_cmp ((t.toUInt64 >>> (c.toInt64.toUInt64 &&& Int64.toUInt64 63)).toInt64 &&& 1) 0 = 0) : 1 = b2i (bitA t c) := by
  unfold bitA; rw [decide_eq_true (fun q => h (lg_cmp_0.mpr q))]; rfl
theorem kRi {a b : Int32} (h : a = b) : some (Value.int a) = some (Value.int b) := by rw [h]
theorem b2i_t {p : Prop} [Decidable p] (h : p) : 1 = b2i (decide p) := by rw [decide_eq_true h]; rfl
theorem b2i_f {p : Prop} [Decidable p] (h : ¬ p) : 0 = b2i (decide p) := by rw [decide_eq_false h]; rfl

set_option maxRecDepth 100000 in
set_option maxHeartbeats 4000000 in
theorem m_X10_hasTree {x : kK} {r : kH} {c : Int32} : kMet kX10_hasTree false 0 0 [.ref 2, .int c] (kTp (kHc x) r) 130 (kRt (some (.int (b2i (bitA (x.1 0).1 c)))) (kTp (kHc x) r) 130) := by
  refine kMet.in (by decide) rfl rfl _ rfl ?_
  refine k_aload_n (i := 0) dX10_hasTree_0 (rfl : 0 + 1 = 1) rfl rfl ?_
  refine k_get 10 0 fg_X10_15 dX10_hasTree_1 (rfl : 1 + 3 = 4) (Nat.le_of_ble_eq_true rfl) rfl rfl ?_
  refine k_iload_n (i := 1) dX10_hasTree_4 (rfl : 4 + 1 = 5) rfl rfl ?_
  refine k_lushr dX10_hasTree_5 (rfl : 5 + 1 = 6) ?_
  refine k_lconst (v := 1) dX10_hasTree_6 (rfl : 6 + 1 = 7) (by decide) ?_
  refine k_land dX10_hasTree_7 (rfl : 7 + 1 = 8) ?_
  refine k_lconst (v := 0) dX10_hasTree_8 (rfl : 8 + 1 = 9) (by decide) ?_
  refine k_lcmp dX10_hasTree_9 (rfl : 9 + 1 = 10) ?_
  refine k_if_eq (tgt := 17) dX10_hasTree_10 (rfl : 10 + 3 = 13) (by decide) (fun b10 => ?_) (fun b10 => ?_)
  · refine k_iconst (v := 0) dX10_hasTree_17 (rfl : 17 + 1 = 18) (by decide) ?_
    refine k_iret rfl rfl dX10_hasTree_18 (Nat.le_of_ble_eq_true rfl) (Nat.le_of_ble_eq_true rfl) ?_
    exact kRt_of (kRi (by first | exact bitA_f b10 | exact bitA_t b10)) rfl
  · refine k_iconst (v := 1) dX10_hasTree_13 (rfl : 13 + 1 = 14) (by decide) ?_
    refine k_goto (tgt := 18) dX10_hasTree_14 (by decide) ?_
    refine k_iret rfl rfl dX10_hasTree_18 (Nat.le_of_ble_eq_true rfl) (Nat.le_of_ble_eq_true rfl) ?_
    exact kRt_of (kRi (by first | exact bitA_f b10 | exact bitA_t b10)) rfl
set_option maxRecDepth 100000 in
set_option maxHeartbeats 4000000 in
theorem m_X10_hasParty {x : kK} {r : kH} {c : Int32} : kMet kX10_hasParty false 0 0 [.ref 2, .int c] (kTp (kHc x) r) 130 (kRt (some (.int (b2i (decide (0 ≤ c ∧ c < (x.1 0).2.1 3))))) (kTp (kHc x) r) 130) := by
  refine kMet.in (by decide) rfl rfl _ rfl ?_
  refine k_iload_n (i := 1) dX10_hasParty_0 (rfl : 0 + 1 = 1) rfl rfl ?_
  refine k_if_lt (tgt := 16) dX10_hasParty_1 (rfl : 1 + 3 = 4) (by decide) (fun b1 => ?_) (fun b1 => ?_)
  · refine k_iconst (v := 0) dX10_hasParty_16 (rfl : 16 + 1 = 17) (by decide) ?_
    refine k_iret rfl rfl dX10_hasParty_17 (Nat.le_of_ble_eq_true rfl) (Nat.le_of_ble_eq_true rfl) ?_
    refine kRt_of (kRi ?_) rfl
    first
      | (refine b2i_f ?_; simp only [Int32.lt_iff_toInt_lt, Int32.le_iff_toInt_le, Int32.toInt_zero] at *; omega)
      | (refine b2i_t ?_; simp only [Int32.lt_iff_toInt_lt, Int32.le_iff_toInt_le, Int32.toInt_zero] at *; omega)
  · refine k_iload_n (i := 1) dX10_hasParty_4 (rfl : 4 + 1 = 5) rfl rfl ?_
    refine k_aload_n (i := 0) dX10_hasParty_5 (rfl : 5 + 1 = 6) rfl rfl ?_
    refine k_get 10 4 fg_X10_29 dX10_hasParty_6 (rfl : 6 + 3 = 9) (Nat.le_of_ble_eq_true rfl) rfl rfl ?_
    refine k_icmp_ge (tgt := 16) dX10_hasParty_9 (rfl : 9 + 3 = 12) (by decide) (fun b9 => ?_) (fun b9 => ?_)
    · refine k_iconst (v := 0) dX10_hasParty_16 (rfl : 16 + 1 = 17) (by decide) ?_
      refine k_iret rfl rfl dX10_hasParty_17 (Nat.le_of_ble_eq_true rfl) (Nat.le_of_ble_eq_true rfl) ?_
      refine kRt_of (kRi ?_) rfl
      first
        | (refine b2i_f ?_; simp only [Int32.lt_iff_toInt_lt, Int32.le_iff_toInt_le, Int32.toInt_zero] at *; omega)
        | (refine b2i_t ?_; simp only [Int32.lt_iff_toInt_lt, Int32.le_iff_toInt_le, Int32.toInt_zero] at *; omega)
    · refine k_iconst (v := 1) dX10_hasParty_12 (rfl : 12 + 1 = 13) (by decide) ?_
      refine k_goto (tgt := 17) dX10_hasParty_13 (by decide) ?_
      refine k_iret rfl rfl dX10_hasParty_17 (Nat.le_of_ble_eq_true rfl) (Nat.le_of_ble_eq_true rfl) ?_
      refine kRt_of (kRi ?_) rfl
      first
        | (refine b2i_f ?_; simp only [Int32.lt_iff_toInt_lt, Int32.le_iff_toInt_le, Int32.toInt_zero] at *; omega)
        | (refine b2i_t ?_; simp only [Int32.lt_iff_toInt_lt, Int32.le_iff_toInt_le, Int32.toInt_zero] at *; omega)
