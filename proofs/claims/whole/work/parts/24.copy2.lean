/-- a State's first number -/
def bs (k : Nat) : Nat := if k < 3 then 9 * k + 1 else 9 * k + 3
theorem bs_lt {k : Nat} (h : k < 11) : bs k + 9 ≤ 102 := by unfold bs; split <;> omega
theorem bs_ne {d s : Nat} (h : d ≠ s) : bs d + 9 ≤ bs s ∨ bs s + 9 ≤ bs d := by unfold bs; split <;> split <;> omega
theorem kHc_bl {x : kK} {k t : Nat} (hk : k < 11) (ht : t < 9) : kHc x (bs k + t) = kBl (bs k) (x.1 k) t := by
  match k, hk with
  | 0, _ => match t, ht with
    | 0, _ => rfl
    | 1, _ => rfl
    | 2, _ => rfl
    | 3, _ => rfl
    | 4, _ => rfl
    | 5, _ => rfl
    | 6, _ => rfl
    | 7, _ => rfl
    | 8, _ => rfl
  | 1, _ => match t, ht with
    | 0, _ => rfl
    | 1, _ => rfl
    | 2, _ => rfl
    | 3, _ => rfl
    | 4, _ => rfl
    | 5, _ => rfl
    | 6, _ => rfl
    | 7, _ => rfl
    | 8, _ => rfl
  | 2, _ => match t, ht with
    | 0, _ => rfl
    | 1, _ => rfl
    | 2, _ => rfl
    | 3, _ => rfl
    | 4, _ => rfl
    | 5, _ => rfl
    | 6, _ => rfl
    | 7, _ => rfl
    | 8, _ => rfl
  | 3, _ => match t, ht with
    | 0, _ => rfl
    | 1, _ => rfl
    | 2, _ => rfl
    | 3, _ => rfl
    | 4, _ => rfl
    | 5, _ => rfl
    | 6, _ => rfl
    | 7, _ => rfl
    | 8, _ => rfl
  | 4, _ => match t, ht with
    | 0, _ => rfl
    | 1, _ => rfl
    | 2, _ => rfl
    | 3, _ => rfl
    | 4, _ => rfl
    | 5, _ => rfl
    | 6, _ => rfl
    | 7, _ => rfl
    | 8, _ => rfl
  | 5, _ => match t, ht with
    | 0, _ => rfl
    | 1, _ => rfl
    | 2, _ => rfl
    | 3, _ => rfl
    | 4, _ => rfl
    | 5, _ => rfl
    | 6, _ => rfl
    | 7, _ => rfl
    | 8, _ => rfl
  | 6, _ => match t, ht with
    | 0, _ => rfl
    | 1, _ => rfl
    | 2, _ => rfl
    | 3, _ => rfl
    | 4, _ => rfl
    | 5, _ => rfl
    | 6, _ => rfl
    | 7, _ => rfl
    | 8, _ => rfl
  | 7, _ => match t, ht with
    | 0, _ => rfl
    | 1, _ => rfl
    | 2, _ => rfl
    | 3, _ => rfl
    | 4, _ => rfl
    | 5, _ => rfl
    | 6, _ => rfl
    | 7, _ => rfl
    | 8, _ => rfl
  | 8, _ => match t, ht with
    | 0, _ => rfl
    | 1, _ => rfl
    | 2, _ => rfl
    | 3, _ => rfl
    | 4, _ => rfl
    | 5, _ => rfl
    | 6, _ => rfl
    | 7, _ => rfl
    | 8, _ => rfl
  | 9, _ => match t, ht with
    | 0, _ => rfl
    | 1, _ => rfl
    | 2, _ => rfl
    | 3, _ => rfl
    | 4, _ => rfl
    | 5, _ => rfl
    | 6, _ => rfl
    | 7, _ => rfl
    | 8, _ => rfl
  | 10, _ => match t, ht with
    | 0, _ => rfl
    | 1, _ => rfl
    | 2, _ => rfl
    | 3, _ => rfl
    | 4, _ => rfl
    | 5, _ => rfl
    | 6, _ => rfl
    | 7, _ => rfl
    | 8, _ => rfl
theorem kTp_a {a b : kH} {i : Nat} (h : i < 116) : kTp a b i = a i := by unfold kTp; rw [blt_t h]; rfl
theorem kTp_bl {x : kK} {r : kH} {k t : Nat} (hk : k < 11) (ht : t < 9) : kTp (kHc x) r (bs k + t) = kBl (bs k) (x.1 k) t := by
  have := bs_lt hk
  rw [kTp_a (by omega), kHc_bl hk ht]
theorem kHc_off {x : kK} {d : Nat} {c : kCo} {i : Nat} (hb : ∀ t, t < 9 → i ≠ bs d + t) : kHc (kkC x d c) i = kHc x i := by
  have up : ∀ j, j ≠ d → (kkC x d c).1 j = x.1 j := fun j hj => by simp [kkC, va_up, hj]
  unfold kHc
  cases h0 : Nat.beq i 0 with
  | true => rfl
  | false =>
    cases h1 : Nat.blt i 10 with
    | true =>
      have h1 : i < 10 := Nat.le_of_ble_eq_true h1
      have h0 : i ≠ 0 := fun q => by subst q; cases h0
      rw [up 0 (fun q => by subst q; exact hb (i - 1) (by omega) (by show i = 1 + (i - 1); omega))]
      rfl
    | false =>
      have h1 : ¬ i < 10 := fun q => by rw [blt_t q] at h1; cases h1
      cases h2 : Nat.blt i 19 with
      | true =>
        have h2 : i < 19 := Nat.le_of_ble_eq_true h2
        rw [up 1 (fun q => by subst q; exact hb (i - 10) (by omega) (by show i = 10 + (i - 10); omega))]
        rfl
      | false =>
        have h2 : ¬ i < 19 := fun q => by rw [blt_t q] at h2; cases h2
        cases h3 : Nat.blt i 28 with
        | true =>
          have h3 : i < 28 := Nat.le_of_ble_eq_true h3
          rw [up 2 (fun q => by subst q; exact hb (i - 19) (by omega) (by show i = 19 + (i - 19); omega))]
          rfl
        | false =>
          have h3 : ¬ i < 28 := fun q => by rw [blt_t q] at h3; cases h3
          cases h4 : Nat.beq i 28 with
          | true => rfl
          | false =>
            have h4 : i ≠ 28 := fun q => by subst q; cases h4
            cases h5 : Nat.beq i 29 with
            | true => rfl
            | false =>
              have h5 : i ≠ 29 := fun q => by subst q; cases h5
              cases h6 : Nat.blt i 102 with
              | true =>
                have h6 : i < 102 := Nat.le_of_ble_eq_true h6
                rw [up (3 + (i - 30) / 9) (fun q => hb ((i - 30) % 9) (by omega) (by rw [← q]; unfold bs; rw [if_neg (by omega)]; omega))]
                rfl
              | false => rfl
theorem kEq_rf {e : kE} : kEq e e := Or.inl rfl
theorem kEq_cp {n : Nat} {f g : Nat → Int32} : kEq (kI n (va_cpy g f 0 0 n)) (kI n g) := Or.inr ⟨0, n, _, _, rfl, rfl, fun j hj => by rw [pk_cpy_in (Nat.zero_le _) (by omega)]; congr 1; omega⟩
set_option maxRecDepth 100000 in
set_option maxHeartbeats 4000000 in
theorem kSt_copy {x : kK} {r : kH} {d s : Nat} (hd : d < 11) (hs : s < 11) (hne : d ≠ s) : ∀ i, i < 130 → kEq ((kU (kU (kU (kU (kU (kU (kU (kU (kTp (kHc x) r) (bs d + 1) (kBl (bs d) (x.1 s) 1)) (bs d + 2) (kI 8 (va_cpy ((x.1 s).2.2 0) ((x.1 d).2.2 0) 0 0 8))) (bs d + 3) (kBl (bs d) (x.1 s) 3)) (bs d + 4) (kI 8 (va_cpy ((x.1 s).2.2 1) ((x.1 d).2.2 1) 0 0 8))) (bs d + 5) (kI 8 (va_cpy ((x.1 s).2.2 2) ((x.1 d).2.2 2) 0 0 8))) (bs d + 6) (kI 8 (va_cpy ((x.1 s).2.2 3) ((x.1 d).2.2 3) 0 0 8))) (bs d + 7) (kBl (bs d) (x.1 s) 7)) (bs d + 8) (kI 8 (va_cpy ((x.1 s).2.2 4) ((x.1 d).2.2 4) 0 0 8))) i) (kTp (kHc (kkC x d (x.1 s))) r i) := by
  intro i hi
  have q1 := bs_lt hd
  have hx : (kkC x d (x.1 s)).1 d = x.1 s := by simp [kkC, va_up]
  by_cases e8 : i = bs d + 8
  · subst e8
    rw [kU_s, kTp_bl hd (t := 8) (by decide), hx]
    exact kEq_cp
  by_cases e7 : i = bs d + 7
  · subst e7
    rw [kU_n (by omega)]
    rw [kU_s, kTp_bl hd (t := 7) (by decide), hx]
    exact kEq_rf
  by_cases e6 : i = bs d + 6
  · subst e6
    rw [kU_n (by omega)]
    rw [kU_n (by omega)]
    rw [kU_s, kTp_bl hd (t := 6) (by decide), hx]
    exact kEq_cp
  by_cases e5 : i = bs d + 5
  · subst e5
    rw [kU_n (by omega)]
    rw [kU_n (by omega)]
    rw [kU_n (by omega)]
    rw [kU_s, kTp_bl hd (t := 5) (by decide), hx]
    exact kEq_cp
  by_cases e4 : i = bs d + 4
  · subst e4
    rw [kU_n (by omega)]
    rw [kU_n (by omega)]
    rw [kU_n (by omega)]
    rw [kU_n (by omega)]
    rw [kU_s, kTp_bl hd (t := 4) (by decide), hx]
    exact kEq_cp
  by_cases e3 : i = bs d + 3
  · subst e3
    rw [kU_n (by omega)]
    rw [kU_n (by omega)]
    rw [kU_n (by omega)]
    rw [kU_n (by omega)]
    rw [kU_n (by omega)]
    rw [kU_s, kTp_bl hd (t := 3) (by decide), hx]
    exact kEq_rf
  by_cases e2 : i = bs d + 2
  · subst e2
    rw [kU_n (by omega)]
    rw [kU_n (by omega)]
    rw [kU_n (by omega)]
    rw [kU_n (by omega)]
    rw [kU_n (by omega)]
    rw [kU_n (by omega)]
    rw [kU_s, kTp_bl hd (t := 2) (by decide), hx]
    exact kEq_cp
  by_cases e1 : i = bs d + 1
  · subst e1
    rw [kU_n (by omega)]
    rw [kU_n (by omega)]
    rw [kU_n (by omega)]
    rw [kU_n (by omega)]
    rw [kU_n (by omega)]
    rw [kU_n (by omega)]
    rw [kU_n (by omega)]
    rw [kU_s, kTp_bl hd (t := 1) (by decide), hx]
    exact kEq_rf
  rw [kU_n e8, kU_n e7, kU_n e6, kU_n e5, kU_n e4, kU_n e3, kU_n e2, kU_n e1]
  by_cases e0 : i = bs d
  · subst e0
    rw [show kTp (kHc x) r (bs d) = _ from kTp_bl (t := 0) hd (by decide), show kTp (kHc (kkC x d (x.1 s))) r (bs d) = _ from kTp_bl (t := 0) hd (by decide)]
    exact kEq_rf
  · unfold kTp
    rw [kHc_off (x := x) (d := d) (c := x.1 s) (i := i) (fun t ht => ?_)]
    · exact kEq_rf
    · match t, ht with
      | 0, _ => exact e0
      | 1, _ => exact e1
      | 2, _ => exact e2
      | 3, _ => exact e3
      | 4, _ => exact e4
      | 5, _ => exact e5
      | 6, _ => exact e6
      | 7, _ => exact e7
      | 8, _ => exact e8
set_option maxRecDepth 100000 in
set_option maxHeartbeats 4000000 in
theorem m_X9_copyFrom {x : kK} {r : kH} {d s : Nat} (hd : d < 11) (hs : s < 11) (hne : d ≠ s) : kMet kX9_copyFrom false 0 0 [.ref (bs d), .ref (bs s)] (kTp (kHc x) r) 130 (kRt none (kTp (kHc (kkC x d (x.1 s))) r) 130) := by
  refine kMet.in (by decide) rfl rfl _ rfl ?_
  have q1 := bs_lt hd
  have q2 := bs_lt hs
  have q3 := bs_ne hne
  refine k_aload_n (i := 0) dX9_copyFrom_0 (rfl : 0 + 1 = 1) rfl rfl ?_
  refine k_get 9 0 fg_X9_10 dX9_copyFrom_1 (rfl : 1 + 3 = 4) (by omega) (kTp_bl hd (t := 0) (by decide)) rfl ?_
  refine k_aload_n (i := 1) dX9_copyFrom_4 (rfl : 4 + 1 = 5) rfl rfl ?_
  refine k_get 9 0 fg_X9_10 dX9_copyFrom_5 (rfl : 5 + 3 = 8) (by omega) (kTp_bl hs (t := 0) (by decide)) rfl ?_
  refine k_callVv1 cv_X9_30 ⟨Nat.le_of_ble_eq_true rfl, Nat.le_of_ble_eq_true rfl⟩ (m_X10_copyFrom (by omega) (by omega) (by omega) (by omega) (kTp_bl hd (t := 1) (by decide)) (kTp_bl hs (t := 1) (by decide)) (kTp_bl hd (t := 2) (by decide)) (kTp_bl hs (t := 2) (by decide)) (by omega) (by omega) (by omega) (by omega) (by omega) (by omega)) dX9_copyFrom_8 (rfl : 8 + 3 = 11) (by omega) (kTp_bl hd (t := 1) (by decide)) rfl rfl ⟨Nat.le_of_ble_eq_true rfl, Nat.le_of_ble_eq_true rfl⟩ ?_
  refine k_aload_n (i := 0) dX9_copyFrom_11 (rfl : 11 + 1 = 12) rfl rfl ?_
  refine k_get 9 1 fg_X9_19 dX9_copyFrom_12 (rfl : 12 + 3 = 15) (by omega) (Eq.trans (kU_n (by omega)) (Eq.trans (kU_n (by omega)) (kTp_bl hd (t := 0) (by decide)))) rfl ?_
  refine k_aload_n (i := 1) dX9_copyFrom_15 (rfl : 15 + 1 = 16) rfl rfl ?_
  refine k_get 9 1 fg_X9_19 dX9_copyFrom_16 (rfl : 16 + 3 = 19) (by omega) (Eq.trans (kU_n (by omega)) (Eq.trans (kU_n (by omega)) (kTp_bl hs (t := 0) (by decide)))) rfl ?_
  refine k_callVv1 cv_X9_34 ⟨Nat.le_of_ble_eq_true rfl, Nat.le_of_ble_eq_true rfl⟩ (m_X3_copyFrom (by omega) (by omega) (by omega) (by omega) (by omega) (by omega) (by omega) (by omega) (Eq.trans (kU_n (by omega)) (Eq.trans (kU_n (by omega)) (kTp_bl hd (t := 3) (by decide)))) (Eq.trans (kU_n (by omega)) (Eq.trans (kU_n (by omega)) (kTp_bl hs (t := 3) (by decide)))) (Eq.trans (kU_n (by omega)) (Eq.trans (kU_n (by omega)) (kTp_bl hd (t := 4) (by decide)))) (Eq.trans (kU_n (by omega)) (Eq.trans (kU_n (by omega)) (kTp_bl hs (t := 4) (by decide)))) (Eq.trans (kU_n (by omega)) (Eq.trans (kU_n (by omega)) (kTp_bl hd (t := 5) (by decide)))) (Eq.trans (kU_n (by omega)) (Eq.trans (kU_n (by omega)) (kTp_bl hs (t := 5) (by decide)))) (Eq.trans (kU_n (by omega)) (Eq.trans (kU_n (by omega)) (kTp_bl hd (t := 6) (by decide)))) (Eq.trans (kU_n (by omega)) (Eq.trans (kU_n (by omega)) (kTp_bl hs (t := 6) (by decide)))) (by omega) (by omega) (by omega) (by omega) (by omega) (by omega) (by omega) (by omega) (by omega) (by omega) (by omega) (by omega) (by omega) (by omega) (by omega) (by omega) (by omega) (by omega) (by omega) (by omega) (by omega) (by omega) (by omega) (by omega) (by omega) (by omega) (by omega) (by omega)) dX9_copyFrom_19 (rfl : 19 + 3 = 22) (by omega) (Eq.trans (kU_n (by omega)) (Eq.trans (kU_n (by omega)) (kTp_bl hd (t := 3) (by decide)))) rfl rfl ⟨Nat.le_of_ble_eq_true rfl, Nat.le_of_ble_eq_true rfl⟩ ?_
  refine k_aload_n (i := 0) dX9_copyFrom_22 (rfl : 22 + 1 = 23) rfl rfl ?_
  refine k_get 9 2 fg_X9_26 dX9_copyFrom_23 (rfl : 23 + 3 = 26) (by omega) (Eq.trans (kU_n (by omega)) (Eq.trans (kU_n (by omega)) (Eq.trans (kU_n (by omega)) (Eq.trans (kU_n (by omega)) (Eq.trans (kU_n (by omega)) (Eq.trans (kU_n (by omega)) (kTp_bl hd (t := 0) (by decide)))))))) rfl ?_
  refine k_aload_n (i := 1) dX9_copyFrom_26 (rfl : 26 + 1 = 27) rfl rfl ?_
  refine k_get 9 2 fg_X9_26 dX9_copyFrom_27 (rfl : 27 + 3 = 30) (by omega) (Eq.trans (kU_n (by omega)) (Eq.trans (kU_n (by omega)) (Eq.trans (kU_n (by omega)) (Eq.trans (kU_n (by omega)) (Eq.trans (kU_n (by omega)) (Eq.trans (kU_n (by omega)) (kTp_bl hs (t := 0) (by decide)))))))) rfl ?_
  refine k_callVv1 cv_X9_37 ⟨Nat.le_of_ble_eq_true rfl, Nat.le_of_ble_eq_true rfl⟩ (m_X7_copyFrom (by omega) (by omega) (by omega) (by omega) (Eq.trans (kU_n (by omega)) (Eq.trans (kU_n (by omega)) (Eq.trans (kU_n (by omega)) (Eq.trans (kU_n (by omega)) (Eq.trans (kU_n (by omega)) (Eq.trans (kU_n (by omega)) (kTp_bl hd (t := 7) (by decide)))))))) (Eq.trans (kU_n (by omega)) (Eq.trans (kU_n (by omega)) (Eq.trans (kU_n (by omega)) (Eq.trans (kU_n (by omega)) (Eq.trans (kU_n (by omega)) (Eq.trans (kU_n (by omega)) (kTp_bl hs (t := 7) (by decide)))))))) (Eq.trans (kU_n (by omega)) (Eq.trans (kU_n (by omega)) (Eq.trans (kU_n (by omega)) (Eq.trans (kU_n (by omega)) (Eq.trans (kU_n (by omega)) (Eq.trans (kU_n (by omega)) (kTp_bl hd (t := 8) (by decide)))))))) (Eq.trans (kU_n (by omega)) (Eq.trans (kU_n (by omega)) (Eq.trans (kU_n (by omega)) (Eq.trans (kU_n (by omega)) (Eq.trans (kU_n (by omega)) (Eq.trans (kU_n (by omega)) (kTp_bl hs (t := 8) (by decide)))))))) (by omega) (by omega) (by omega) (by omega) (by omega) (by omega)) dX9_copyFrom_30 (rfl : 30 + 3 = 33) (by omega) (Eq.trans (kU_n (by omega)) (Eq.trans (kU_n (by omega)) (Eq.trans (kU_n (by omega)) (Eq.trans (kU_n (by omega)) (Eq.trans (kU_n (by omega)) (Eq.trans (kU_n (by omega)) (kTp_bl hd (t := 7) (by decide)))))))) rfl rfl ⟨Nat.le_of_ble_eq_true rfl, Nat.le_of_ble_eq_true rfl⟩ ?_
  refine k_alike (fun i hi => kSt_copy hd hs hne (r := r) i hi) ?_
  refine k_vret rfl dX9_copyFrom_33 (Nat.le_of_ble_eq_true rfl) (Nat.le_of_ble_eq_true rfl) ?_
  exact kRt_rfl
