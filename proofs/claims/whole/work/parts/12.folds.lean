theorem blt_t {a b : Nat} (h : a < b) : Nat.blt a b = true := Nat.ble_eq_true_of_le h
theorem blt_f {a b : Nat} (h : b ≤ a) : Nat.blt a b = false := by
  cases h9 : Nat.blt a b with
  | false => rfl
  | true => exact absurd (Nat.le_of_ble_eq_true h9) (by omega)
theorem beq_f {a b : Nat} (h : a ≠ b) : Nat.beq a b = false := by
  cases h9 : Nat.beq a b with
  | false => rfl
  | true => exact absurd (Nat.eq_of_beq_eq_true h9) h
/-! FOLDS: behind a store, the state as numbers again; calls whose end is plain -/
theorem kBl_S1 {b : Nat} {c : kCo} {k : Nat} {v : Int32} (hk : Nat.blt k 4 = true) : ∀ u, u < 9 → u ≠ 1 → kBl b (cS c k v) u = kBl b c u := by
  intro u hu hn
  have hk : k < 4 := Nat.le_of_ble_eq_true hk
  match u, hu, hn with
  | 0, _, _ => rfl
  | 2, _, _ => rfl
  | 3, _, _ => simp [kBl, cS, upd, show (4 : Nat) ≠ k by omega, show (5 : Nat) ≠ k by omega, show (6 : Nat) ≠ k by omega]
  | 4, _, _ => rfl
  | 5, _, _ => rfl
  | 6, _, _ => rfl
  | 7, _, _ => simp [kBl, cS, upd, show (7 : Nat) ≠ k by omega, show (8 : Nat) ≠ k by omega, show (9 : Nat) ≠ k by omega, show (10 : Nat) ≠ k by omega, show (11 : Nat) ≠ k by omega, show (12 : Nat) ≠ k by omega, show (13 : Nat) ≠ k by omega, show (14 : Nat) ≠ k by omega]
  | 8, _, _ => rfl
theorem kBl_S3 {b : Nat} {c : kCo} {k : Nat} {v : Int32} (hk : 4 ≤ k ∧ k < 7) : ∀ u, u < 9 → u ≠ 3 → kBl b (cS c k v) u = kBl b c u := by
  intro u hu hn
  match u, hu, hn with
  | 0, _, _ => rfl
  | 1, _, _ => simp [kBl, cS, upd, show (0 : Nat) ≠ k by omega, show (1 : Nat) ≠ k by omega, show (2 : Nat) ≠ k by omega, show (3 : Nat) ≠ k by omega]
  | 2, _, _ => rfl
  | 4, _, _ => rfl
  | 5, _, _ => rfl
  | 6, _, _ => rfl
  | 7, _, _ => simp [kBl, cS, upd, show (7 : Nat) ≠ k by omega, show (8 : Nat) ≠ k by omega, show (9 : Nat) ≠ k by omega, show (10 : Nat) ≠ k by omega, show (11 : Nat) ≠ k by omega, show (12 : Nat) ≠ k by omega, show (13 : Nat) ≠ k by omega, show (14 : Nat) ≠ k by omega]
  | 8, _, _ => rfl
theorem kBl_S7 {b : Nat} {c : kCo} {k : Nat} {v : Int32} (hk : 7 ≤ k) : ∀ u, u < 9 → u ≠ 7 → kBl b (cS c k v) u = kBl b c u := by
  intro u hu hn
  match u, hu, hn with
  | 0, _, _ => rfl
  | 1, _, _ => simp [kBl, cS, upd, show (0 : Nat) ≠ k by omega, show (1 : Nat) ≠ k by omega, show (2 : Nat) ≠ k by omega, show (3 : Nat) ≠ k by omega]
  | 2, _, _ => rfl
  | 3, _, _ => simp [kBl, cS, upd, show (4 : Nat) ≠ k by omega, show (5 : Nat) ≠ k by omega, show (6 : Nat) ≠ k by omega]
  | 4, _, _ => rfl
  | 5, _, _ => rfl
  | 6, _, _ => rfl
  | 8, _, _ => rfl
theorem kBl_T {b : Nat} {c : kCo} {t : Int64} : ∀ u, u < 9 → u ≠ 1 → kBl b (cT c t) u = kBl b c u := by
  intro u hu hn
  match u, hu, hn with
  | 0, _, _ => rfl
  | 2, _, _ => rfl
  | 3, _, _ => rfl
  | 4, _, _ => rfl
  | 5, _, _ => rfl
  | 6, _, _ => rfl
  | 7, _, _ => rfl
  | 8, _, _ => rfl
theorem kBl_R0 {b : Nat} {c : kCo} {f : Nat → Int32} : ∀ u, u < 9 → u ≠ 2 → kBl b (cR c 0 f) u = kBl b c u := by
  intro u hu hn
  match u, hu, hn with
  | 0, _, _ => rfl
  | 1, _, _ => rfl
  | 2, _, hn => exact absurd rfl hn
  | 3, _, _ => rfl
  | 4, _, _ => rfl
  | 5, _, _ => rfl
  | 6, _, _ => rfl
  | 7, _, _ => rfl
  | 8, _, _ => rfl
theorem kBl_R1 {b : Nat} {c : kCo} {f : Nat → Int32} : ∀ u, u < 9 → u ≠ 4 → kBl b (cR c 1 f) u = kBl b c u := by
  intro u hu hn
  match u, hu, hn with
  | 0, _, _ => rfl
  | 1, _, _ => rfl
  | 2, _, _ => rfl
  | 3, _, _ => rfl
  | 4, _, hn => exact absurd rfl hn
  | 5, _, _ => rfl
  | 6, _, _ => rfl
  | 7, _, _ => rfl
  | 8, _, _ => rfl
theorem kBl_R2 {b : Nat} {c : kCo} {f : Nat → Int32} : ∀ u, u < 9 → u ≠ 5 → kBl b (cR c 2 f) u = kBl b c u := by
  intro u hu hn
  match u, hu, hn with
  | 0, _, _ => rfl
  | 1, _, _ => rfl
  | 2, _, _ => rfl
  | 3, _, _ => rfl
  | 4, _, _ => rfl
  | 5, _, hn => exact absurd rfl hn
  | 6, _, _ => rfl
  | 7, _, _ => rfl
  | 8, _, _ => rfl
theorem kBl_R3 {b : Nat} {c : kCo} {f : Nat → Int32} : ∀ u, u < 9 → u ≠ 6 → kBl b (cR c 3 f) u = kBl b c u := by
  intro u hu hn
  match u, hu, hn with
  | 0, _, _ => rfl
  | 1, _, _ => rfl
  | 2, _, _ => rfl
  | 3, _, _ => rfl
  | 4, _, _ => rfl
  | 5, _, _ => rfl
  | 6, _, hn => exact absurd rfl hn
  | 7, _, _ => rfl
  | 8, _, _ => rfl
theorem kBl_R4 {b : Nat} {c : kCo} {f : Nat → Int32} : ∀ u, u < 9 → u ≠ 8 → kBl b (cR c 4 f) u = kBl b c u := by
  intro u hu hn
  match u, hu, hn with
  | 0, _, _ => rfl
  | 1, _, _ => rfl
  | 2, _, _ => rfl
  | 3, _, _ => rfl
  | 4, _, _ => rfl
  | 5, _, _ => rfl
  | 6, _, _ => rfl
  | 7, _, _ => rfl
  | 8, _, hn => exact absurd rfl hn
section KF
variable {K J : kM} {R : Room} {F : kFn} {mu : Bool} {pc pc' : Nat} {ls st : List Value} {x : kK} {r : kH} {e : kE} {N cs ss mc ms : Nat} {h : kH}
theorem kf_T {t : Int64} (he : e = kHc (kkC x 0 (cT (x.1 0) t)) 2)
    (k : kEv K R F mu pc ls st (kTp (kHc (kkC x 0 (cT (x.1 0) t))) r) N cs ss) : kEv K R F mu pc ls st (kU (kTp (kHc x) r) 2 e) N cs ss := by
  rw [kTp_U rfl, kU_to he (kHc_core rfl 1 (by decide) kBl_T)]
  exact k
theorem kf_S1 (k9 : Nat) {v : Int32} (hk : Nat.blt k9 4 = true) (he : e = kHc (kkC x 0 (cS (x.1 0) k9 v)) 2)
    (k : kEv K R F mu pc ls st (kTp (kHc (kkC x 0 (cS (x.1 0) k9 v))) r) N cs ss) : kEv K R F mu pc ls st (kU (kTp (kHc x) r) 2 e) N cs ss := by
  rw [kTp_U rfl, kU_to he (kHc_core rfl 1 (by decide) (kBl_S1 hk))]
  exact k
theorem kf_S3 (k9 : Nat) {v : Int32} (hk : Nat.ble 4 k9 = true ∧ Nat.blt k9 7 = true) (he : e = kHc (kkC x 0 (cS (x.1 0) k9 v)) 4)
    (k : kEv K R F mu pc ls st (kTp (kHc (kkC x 0 (cS (x.1 0) k9 v))) r) N cs ss) : kEv K R F mu pc ls st (kU (kTp (kHc x) r) 4 e) N cs ss := by
  rw [kTp_U rfl, kU_to he (kHc_core rfl 3 (by decide) (kBl_S3 ⟨Nat.le_of_ble_eq_true hk.1, Nat.le_of_ble_eq_true hk.2⟩))]
  exact k
theorem kf_S7 (k9 : Nat) {v : Int32} (hk : Nat.ble 7 k9 = true) (he : e = kHc (kkC x 0 (cS (x.1 0) k9 v)) 8)
    (k : kEv K R F mu pc ls st (kTp (kHc (kkC x 0 (cS (x.1 0) k9 v))) r) N cs ss) : kEv K R F mu pc ls st (kU (kTp (kHc x) r) 8 e) N cs ss := by
  rw [kTp_U rfl, kU_to he (kHc_core rfl 7 (by decide) (kBl_S7 (Nat.le_of_ble_eq_true hk)))]
  exact k
theorem kf_R0 {f : Nat → Int32} (he : e = kHc (kkC x 0 (cR (x.1 0) 0 f)) 3)
    (k : kEv K R F mu pc ls st (kTp (kHc (kkC x 0 (cR (x.1 0) 0 f))) r) N cs ss) : kEv K R F mu pc ls st (kU (kTp (kHc x) r) 3 e) N cs ss := by
  rw [kTp_U rfl, kU_to he (kHc_core rfl 2 (by decide) kBl_R0)]
  exact k
theorem kf_R1 {f : Nat → Int32} (he : e = kHc (kkC x 0 (cR (x.1 0) 1 f)) 5)
    (k : kEv K R F mu pc ls st (kTp (kHc (kkC x 0 (cR (x.1 0) 1 f))) r) N cs ss) : kEv K R F mu pc ls st (kU (kTp (kHc x) r) 5 e) N cs ss := by
  rw [kTp_U rfl, kU_to he (kHc_core rfl 4 (by decide) kBl_R1)]
  exact k
theorem kf_R2 {f : Nat → Int32} (he : e = kHc (kkC x 0 (cR (x.1 0) 2 f)) 6)
    (k : kEv K R F mu pc ls st (kTp (kHc (kkC x 0 (cR (x.1 0) 2 f))) r) N cs ss) : kEv K R F mu pc ls st (kU (kTp (kHc x) r) 6 e) N cs ss := by
  rw [kTp_U rfl, kU_to he (kHc_core rfl 5 (by decide) kBl_R2)]
  exact k
theorem kf_R3 {f : Nat → Int32} (he : e = kHc (kkC x 0 (cR (x.1 0) 3 f)) 7)
    (k : kEv K R F mu pc ls st (kTp (kHc (kkC x 0 (cR (x.1 0) 3 f))) r) N cs ss) : kEv K R F mu pc ls st (kU (kTp (kHc x) r) 7 e) N cs ss := by
  rw [kTp_U rfl, kU_to he (kHc_core rfl 6 (by decide) kBl_R3)]
  exact k
theorem kf_R4 {f : Nat → Int32} (he : e = kHc (kkC x 0 (cR (x.1 0) 4 f)) 9)
    (k : kEv K R F mu pc ls st (kTp (kHc (kkC x 0 (cR (x.1 0) 4 f))) r) N cs ss) : kEv K R F mu pc ls st (kU (kTp (kHc x) r) 9 e) N cs ss := by
  rw [kTp_U rfl, kU_to he (kHc_core rfl 8 (by decide) kBl_R4)]
  exact k
theorem kf_C8 {v : Int32} (he : e = kHc (kkS x 8 v) 0)
    (k : kEv K R F mu pc ls st (kTp (kHc (kkS x 8 v)) r) N cs ss) : kEv K R F mu pc ls st (kU (kTp (kHc x) r) 0 e) N cs ss := by
  rw [kTp_U rfl, kU_to he (kHc_S (fun j hj hc => ?_))]
  · exact k
  rcases hc with rfl | rfl | hc
  · first | rfl | exact absurd rfl hj
  · first | rfl | exact absurd rfl hj
  · obtain ⟨u, rfl⟩ : ∃ u, j = 102 + u := ⟨j - 102, by omega⟩
    have e0 : ∀ y : kK, kHc y (102 + u) = kHx y u := by
      intro y
      unfold kHc
      have n1 : Nat.beq (102 + u) 0 = false := beq_f (by omega)
      have n2 : Nat.blt (102 + u) 28 = false := blt_f (by omega)
      have n6 : Nat.blt (102 + u) 10 = false := blt_f (by omega)
      have n7 : Nat.blt (102 + u) 19 = false := blt_f (by omega)
      have n3 : Nat.beq (102 + u) 28 = false := beq_f (by omega)
      have n4 : Nat.beq (102 + u) 29 = false := beq_f (by omega)
      have n5 : Nat.blt (102 + u) 102 = false := blt_f (by omega)
      rw [n1, n6, n7, n2, n3, n4, n5]
      simp
    rw [e0, e0]
    match u, hj with
    | 0, hj => first | rfl | exact absurd rfl hj
    | 1, hj => first | rfl | exact absurd rfl hj
    | 2, hj => first | rfl | exact absurd rfl hj
    | 3, hj => first | rfl | exact absurd rfl hj
    | 4, hj => first | rfl | exact absurd rfl hj
    | 5, hj => first | rfl | exact absurd rfl hj
    | 6, hj => first | rfl | exact absurd rfl hj
    | 7, hj => first | rfl | exact absurd rfl hj
    | 8, hj => first | rfl | exact absurd rfl hj
    | 9, hj => first | rfl | exact absurd rfl hj
    | 10, hj => first | rfl | exact absurd rfl hj
    | 11, hj => first | rfl | exact absurd rfl hj
    | 12, hj => first | rfl | exact absurd rfl hj
    | 13, hj => first | rfl | exact absurd rfl hj
    | u + 14, hj => rfl
theorem kf_C9 {v : Int32} (he : e = kHc (kkS x 9 v) 0)
    (k : kEv K R F mu pc ls st (kTp (kHc (kkS x 9 v)) r) N cs ss) : kEv K R F mu pc ls st (kU (kTp (kHc x) r) 0 e) N cs ss := by
  rw [kTp_U rfl, kU_to he (kHc_S (fun j hj hc => ?_))]
  · exact k
  rcases hc with rfl | rfl | hc
  · first | rfl | exact absurd rfl hj
  · first | rfl | exact absurd rfl hj
  · obtain ⟨u, rfl⟩ : ∃ u, j = 102 + u := ⟨j - 102, by omega⟩
    have e0 : ∀ y : kK, kHc y (102 + u) = kHx y u := by
      intro y
      unfold kHc
      have n1 : Nat.beq (102 + u) 0 = false := beq_f (by omega)
      have n2 : Nat.blt (102 + u) 28 = false := blt_f (by omega)
      have n6 : Nat.blt (102 + u) 10 = false := blt_f (by omega)
      have n7 : Nat.blt (102 + u) 19 = false := blt_f (by omega)
      have n3 : Nat.beq (102 + u) 28 = false := beq_f (by omega)
      have n4 : Nat.beq (102 + u) 29 = false := beq_f (by omega)
      have n5 : Nat.blt (102 + u) 102 = false := blt_f (by omega)
      rw [n1, n6, n7, n2, n3, n4, n5]
      simp
    rw [e0, e0]
    match u, hj with
    | 0, hj => first | rfl | exact absurd rfl hj
    | 1, hj => first | rfl | exact absurd rfl hj
    | 2, hj => first | rfl | exact absurd rfl hj
    | 3, hj => first | rfl | exact absurd rfl hj
    | 4, hj => first | rfl | exact absurd rfl hj
    | 5, hj => first | rfl | exact absurd rfl hj
    | 6, hj => first | rfl | exact absurd rfl hj
    | 7, hj => first | rfl | exact absurd rfl hj
    | 8, hj => first | rfl | exact absurd rfl hj
    | 9, hj => first | rfl | exact absurd rfl hj
    | 10, hj => first | rfl | exact absurd rfl hj
    | 11, hj => first | rfl | exact absurd rfl hj
    | 12, hj => first | rfl | exact absurd rfl hj
    | 13, hj => first | rfl | exact absurd rfl hj
    | u + 14, hj => rfl
theorem kf_C10 {v : Int32} (he : e = kHc (kkS x 10 v) 0)
    (k : kEv K R F mu pc ls st (kTp (kHc (kkS x 10 v)) r) N cs ss) : kEv K R F mu pc ls st (kU (kTp (kHc x) r) 0 e) N cs ss := by
  rw [kTp_U rfl, kU_to he (kHc_S (fun j hj hc => ?_))]
  · exact k
  rcases hc with rfl | rfl | hc
  · first | rfl | exact absurd rfl hj
  · first | rfl | exact absurd rfl hj
  · obtain ⟨u, rfl⟩ : ∃ u, j = 102 + u := ⟨j - 102, by omega⟩
    have e0 : ∀ y : kK, kHc y (102 + u) = kHx y u := by
      intro y
      unfold kHc
      have n1 : Nat.beq (102 + u) 0 = false := beq_f (by omega)
      have n2 : Nat.blt (102 + u) 28 = false := blt_f (by omega)
      have n6 : Nat.blt (102 + u) 10 = false := blt_f (by omega)
      have n7 : Nat.blt (102 + u) 19 = false := blt_f (by omega)
      have n3 : Nat.beq (102 + u) 28 = false := beq_f (by omega)
      have n4 : Nat.beq (102 + u) 29 = false := beq_f (by omega)
      have n5 : Nat.blt (102 + u) 102 = false := blt_f (by omega)
      rw [n1, n6, n7, n2, n3, n4, n5]
      simp
    rw [e0, e0]
    match u, hj with
    | 0, hj => first | rfl | exact absurd rfl hj
    | 1, hj => first | rfl | exact absurd rfl hj
    | 2, hj => first | rfl | exact absurd rfl hj
    | 3, hj => first | rfl | exact absurd rfl hj
    | 4, hj => first | rfl | exact absurd rfl hj
    | 5, hj => first | rfl | exact absurd rfl hj
    | 6, hj => first | rfl | exact absurd rfl hj
    | 7, hj => first | rfl | exact absurd rfl hj
    | 8, hj => first | rfl | exact absurd rfl hj
    | 9, hj => first | rfl | exact absurd rfl hj
    | 10, hj => first | rfl | exact absurd rfl hj
    | 11, hj => first | rfl | exact absurd rfl hj
    | 12, hj => first | rfl | exact absurd rfl hj
    | 13, hj => first | rfl | exact absurd rfl hj
    | u + 14, hj => rfl
theorem kf_C11 {v : Int32} (he : e = kHc (kkS x 11 v) 0)
    (k : kEv K R F mu pc ls st (kTp (kHc (kkS x 11 v)) r) N cs ss) : kEv K R F mu pc ls st (kU (kTp (kHc x) r) 0 e) N cs ss := by
  rw [kTp_U rfl, kU_to he (kHc_S (fun j hj hc => ?_))]
  · exact k
  rcases hc with rfl | rfl | hc
  · first | rfl | exact absurd rfl hj
  · first | rfl | exact absurd rfl hj
  · obtain ⟨u, rfl⟩ : ∃ u, j = 102 + u := ⟨j - 102, by omega⟩
    have e0 : ∀ y : kK, kHc y (102 + u) = kHx y u := by
      intro y
      unfold kHc
      have n1 : Nat.beq (102 + u) 0 = false := beq_f (by omega)
      have n2 : Nat.blt (102 + u) 28 = false := blt_f (by omega)
      have n6 : Nat.blt (102 + u) 10 = false := blt_f (by omega)
      have n7 : Nat.blt (102 + u) 19 = false := blt_f (by omega)
      have n3 : Nat.beq (102 + u) 28 = false := beq_f (by omega)
      have n4 : Nat.beq (102 + u) 29 = false := beq_f (by omega)
      have n5 : Nat.blt (102 + u) 102 = false := blt_f (by omega)
      rw [n1, n6, n7, n2, n3, n4, n5]
      simp
    rw [e0, e0]
    match u, hj with
    | 0, hj => first | rfl | exact absurd rfl hj
    | 1, hj => first | rfl | exact absurd rfl hj
    | 2, hj => first | rfl | exact absurd rfl hj
    | 3, hj => first | rfl | exact absurd rfl hj
    | 4, hj => first | rfl | exact absurd rfl hj
    | 5, hj => first | rfl | exact absurd rfl hj
    | 6, hj => first | rfl | exact absurd rfl hj
    | 7, hj => first | rfl | exact absurd rfl hj
    | 8, hj => first | rfl | exact absurd rfl hj
    | 9, hj => first | rfl | exact absurd rfl hj
    | 10, hj => first | rfl | exact absurd rfl hj
    | 11, hj => first | rfl | exact absurd rfl hj
    | 12, hj => first | rfl | exact absurd rfl hj
    | 13, hj => first | rfl | exact absurd rfl hj
    | u + 14, hj => rfl
theorem kf_C12 {v : Int32} (he : e = kHc (kkS x 12 v) 0)
    (k : kEv K R F mu pc ls st (kTp (kHc (kkS x 12 v)) r) N cs ss) : kEv K R F mu pc ls st (kU (kTp (kHc x) r) 0 e) N cs ss := by
  rw [kTp_U rfl, kU_to he (kHc_S (fun j hj hc => ?_))]
  · exact k
  rcases hc with rfl | rfl | hc
  · first | rfl | exact absurd rfl hj
  · first | rfl | exact absurd rfl hj
  · obtain ⟨u, rfl⟩ : ∃ u, j = 102 + u := ⟨j - 102, by omega⟩
    have e0 : ∀ y : kK, kHc y (102 + u) = kHx y u := by
      intro y
      unfold kHc
      have n1 : Nat.beq (102 + u) 0 = false := beq_f (by omega)
      have n2 : Nat.blt (102 + u) 28 = false := blt_f (by omega)
      have n6 : Nat.blt (102 + u) 10 = false := blt_f (by omega)
      have n7 : Nat.blt (102 + u) 19 = false := blt_f (by omega)
      have n3 : Nat.beq (102 + u) 28 = false := beq_f (by omega)
      have n4 : Nat.beq (102 + u) 29 = false := beq_f (by omega)
      have n5 : Nat.blt (102 + u) 102 = false := blt_f (by omega)
      rw [n1, n6, n7, n2, n3, n4, n5]
      simp
    rw [e0, e0]
    match u, hj with
    | 0, hj => first | rfl | exact absurd rfl hj
    | 1, hj => first | rfl | exact absurd rfl hj
    | 2, hj => first | rfl | exact absurd rfl hj
    | 3, hj => first | rfl | exact absurd rfl hj
    | 4, hj => first | rfl | exact absurd rfl hj
    | 5, hj => first | rfl | exact absurd rfl hj
    | 6, hj => first | rfl | exact absurd rfl hj
    | 7, hj => first | rfl | exact absurd rfl hj
    | 8, hj => first | rfl | exact absurd rfl hj
    | 9, hj => first | rfl | exact absurd rfl hj
    | 10, hj => first | rfl | exact absurd rfl hj
    | 11, hj => first | rfl | exact absurd rfl hj
    | 12, hj => first | rfl | exact absurd rfl hj
    | 13, hj => first | rfl | exact absurd rfl hj
    | u + 14, hj => rfl
theorem kf_C0 {v : Int32} (he : e = kHc (kkS x 0 v) 28)
    (k : kEv K R F mu pc ls st (kTp (kHc (kkS x 0 v)) r) N cs ss) : kEv K R F mu pc ls st (kU (kTp (kHc x) r) 28 e) N cs ss := by
  rw [kTp_U rfl, kU_to he (kHc_S (fun j hj hc => ?_))]
  · exact k
  rcases hc with rfl | rfl | hc
  · first | rfl | exact absurd rfl hj
  · first | rfl | exact absurd rfl hj
  · obtain ⟨u, rfl⟩ : ∃ u, j = 102 + u := ⟨j - 102, by omega⟩
    have e0 : ∀ y : kK, kHc y (102 + u) = kHx y u := by
      intro y
      unfold kHc
      have n1 : Nat.beq (102 + u) 0 = false := beq_f (by omega)
      have n2 : Nat.blt (102 + u) 28 = false := blt_f (by omega)
      have n6 : Nat.blt (102 + u) 10 = false := blt_f (by omega)
      have n7 : Nat.blt (102 + u) 19 = false := blt_f (by omega)
      have n3 : Nat.beq (102 + u) 28 = false := beq_f (by omega)
      have n4 : Nat.beq (102 + u) 29 = false := beq_f (by omega)
      have n5 : Nat.blt (102 + u) 102 = false := blt_f (by omega)
      rw [n1, n6, n7, n2, n3, n4, n5]
      simp
    rw [e0, e0]
    match u, hj with
    | 0, hj => first | rfl | exact absurd rfl hj
    | 1, hj => first | rfl | exact absurd rfl hj
    | 2, hj => first | rfl | exact absurd rfl hj
    | 3, hj => first | rfl | exact absurd rfl hj
    | 4, hj => first | rfl | exact absurd rfl hj
    | 5, hj => first | rfl | exact absurd rfl hj
    | 6, hj => first | rfl | exact absurd rfl hj
    | 7, hj => first | rfl | exact absurd rfl hj
    | 8, hj => first | rfl | exact absurd rfl hj
    | 9, hj => first | rfl | exact absurd rfl hj
    | 10, hj => first | rfl | exact absurd rfl hj
    | 11, hj => first | rfl | exact absurd rfl hj
    | 12, hj => first | rfl | exact absurd rfl hj
    | 13, hj => first | rfl | exact absurd rfl hj
    | u + 14, hj => rfl
theorem kf_C1 {v : Int32} (he : e = kHc (kkS x 1 v) 28)
    (k : kEv K R F mu pc ls st (kTp (kHc (kkS x 1 v)) r) N cs ss) : kEv K R F mu pc ls st (kU (kTp (kHc x) r) 28 e) N cs ss := by
  rw [kTp_U rfl, kU_to he (kHc_S (fun j hj hc => ?_))]
  · exact k
  rcases hc with rfl | rfl | hc
  · first | rfl | exact absurd rfl hj
  · first | rfl | exact absurd rfl hj
  · obtain ⟨u, rfl⟩ : ∃ u, j = 102 + u := ⟨j - 102, by omega⟩
    have e0 : ∀ y : kK, kHc y (102 + u) = kHx y u := by
      intro y
      unfold kHc
      have n1 : Nat.beq (102 + u) 0 = false := beq_f (by omega)
      have n2 : Nat.blt (102 + u) 28 = false := blt_f (by omega)
      have n6 : Nat.blt (102 + u) 10 = false := blt_f (by omega)
      have n7 : Nat.blt (102 + u) 19 = false := blt_f (by omega)
      have n3 : Nat.beq (102 + u) 28 = false := beq_f (by omega)
      have n4 : Nat.beq (102 + u) 29 = false := beq_f (by omega)
      have n5 : Nat.blt (102 + u) 102 = false := blt_f (by omega)
      rw [n1, n6, n7, n2, n3, n4, n5]
      simp
    rw [e0, e0]
    match u, hj with
    | 0, hj => first | rfl | exact absurd rfl hj
    | 1, hj => first | rfl | exact absurd rfl hj
    | 2, hj => first | rfl | exact absurd rfl hj
    | 3, hj => first | rfl | exact absurd rfl hj
    | 4, hj => first | rfl | exact absurd rfl hj
    | 5, hj => first | rfl | exact absurd rfl hj
    | 6, hj => first | rfl | exact absurd rfl hj
    | 7, hj => first | rfl | exact absurd rfl hj
    | 8, hj => first | rfl | exact absurd rfl hj
    | 9, hj => first | rfl | exact absurd rfl hj
    | 10, hj => first | rfl | exact absurd rfl hj
    | 11, hj => first | rfl | exact absurd rfl hj
    | 12, hj => first | rfl | exact absurd rfl hj
    | 13, hj => first | rfl | exact absurd rfl hj
    | u + 14, hj => rfl
theorem kf_C2 {v : Int32} (he : e = kHc (kkS x 2 v) 102)
    (k : kEv K R F mu pc ls st (kTp (kHc (kkS x 2 v)) r) N cs ss) : kEv K R F mu pc ls st (kU (kTp (kHc x) r) 102 e) N cs ss := by
  rw [kTp_U rfl, kU_to he (kHc_S (fun j hj hc => ?_))]
  · exact k
  rcases hc with rfl | rfl | hc
  · first | rfl | exact absurd rfl hj
  · first | rfl | exact absurd rfl hj
  · obtain ⟨u, rfl⟩ : ∃ u, j = 102 + u := ⟨j - 102, by omega⟩
    have e0 : ∀ y : kK, kHc y (102 + u) = kHx y u := by
      intro y
      unfold kHc
      have n1 : Nat.beq (102 + u) 0 = false := beq_f (by omega)
      have n2 : Nat.blt (102 + u) 28 = false := blt_f (by omega)
      have n6 : Nat.blt (102 + u) 10 = false := blt_f (by omega)
      have n7 : Nat.blt (102 + u) 19 = false := blt_f (by omega)
      have n3 : Nat.beq (102 + u) 28 = false := beq_f (by omega)
      have n4 : Nat.beq (102 + u) 29 = false := beq_f (by omega)
      have n5 : Nat.blt (102 + u) 102 = false := blt_f (by omega)
      rw [n1, n6, n7, n2, n3, n4, n5]
      simp
    rw [e0, e0]
    match u, hj with
    | 0, hj => first | rfl | exact absurd rfl hj
    | 1, hj => first | rfl | exact absurd rfl hj
    | 2, hj => first | rfl | exact absurd rfl hj
    | 3, hj => first | rfl | exact absurd rfl hj
    | 4, hj => first | rfl | exact absurd rfl hj
    | 5, hj => first | rfl | exact absurd rfl hj
    | 6, hj => first | rfl | exact absurd rfl hj
    | 7, hj => first | rfl | exact absurd rfl hj
    | 8, hj => first | rfl | exact absurd rfl hj
    | 9, hj => first | rfl | exact absurd rfl hj
    | 10, hj => first | rfl | exact absurd rfl hj
    | 11, hj => first | rfl | exact absurd rfl hj
    | 12, hj => first | rfl | exact absurd rfl hj
    | 13, hj => first | rfl | exact absurd rfl hj
    | u + 14, hj => rfl
theorem kf_C3 {v : Int32} (he : e = kHc (kkS x 3 v) 102)
    (k : kEv K R F mu pc ls st (kTp (kHc (kkS x 3 v)) r) N cs ss) : kEv K R F mu pc ls st (kU (kTp (kHc x) r) 102 e) N cs ss := by
  rw [kTp_U rfl, kU_to he (kHc_S (fun j hj hc => ?_))]
  · exact k
  rcases hc with rfl | rfl | hc
  · first | rfl | exact absurd rfl hj
  · first | rfl | exact absurd rfl hj
  · obtain ⟨u, rfl⟩ : ∃ u, j = 102 + u := ⟨j - 102, by omega⟩
    have e0 : ∀ y : kK, kHc y (102 + u) = kHx y u := by
      intro y
      unfold kHc
      have n1 : Nat.beq (102 + u) 0 = false := beq_f (by omega)
      have n2 : Nat.blt (102 + u) 28 = false := blt_f (by omega)
      have n6 : Nat.blt (102 + u) 10 = false := blt_f (by omega)
      have n7 : Nat.blt (102 + u) 19 = false := blt_f (by omega)
      have n3 : Nat.beq (102 + u) 28 = false := beq_f (by omega)
      have n4 : Nat.beq (102 + u) 29 = false := beq_f (by omega)
      have n5 : Nat.blt (102 + u) 102 = false := blt_f (by omega)
      rw [n1, n6, n7, n2, n3, n4, n5]
      simp
    rw [e0, e0]
    match u, hj with
    | 0, hj => first | rfl | exact absurd rfl hj
    | 1, hj => first | rfl | exact absurd rfl hj
    | 2, hj => first | rfl | exact absurd rfl hj
    | 3, hj => first | rfl | exact absurd rfl hj
    | 4, hj => first | rfl | exact absurd rfl hj
    | 5, hj => first | rfl | exact absurd rfl hj
    | 6, hj => first | rfl | exact absurd rfl hj
    | 7, hj => first | rfl | exact absurd rfl hj
    | 8, hj => first | rfl | exact absurd rfl hj
    | 9, hj => first | rfl | exact absurd rfl hj
    | 10, hj => first | rfl | exact absurd rfl hj
    | 11, hj => first | rfl | exact absurd rfl hj
    | 12, hj => first | rfl | exact absurd rfl hj
    | 13, hj => first | rfl | exact absurd rfl hj
    | u + 14, hj => rfl
theorem kf_C4 {v : Int32} (he : e = kHc (kkS x 4 v) 109)
    (k : kEv K R F mu pc ls st (kTp (kHc (kkS x 4 v)) r) N cs ss) : kEv K R F mu pc ls st (kU (kTp (kHc x) r) 109 e) N cs ss := by
  rw [kTp_U rfl, kU_to he (kHc_S (fun j hj hc => ?_))]
  · exact k
  rcases hc with rfl | rfl | hc
  · first | rfl | exact absurd rfl hj
  · first | rfl | exact absurd rfl hj
  · obtain ⟨u, rfl⟩ : ∃ u, j = 102 + u := ⟨j - 102, by omega⟩
    have e0 : ∀ y : kK, kHc y (102 + u) = kHx y u := by
      intro y
      unfold kHc
      have n1 : Nat.beq (102 + u) 0 = false := beq_f (by omega)
      have n2 : Nat.blt (102 + u) 28 = false := blt_f (by omega)
      have n6 : Nat.blt (102 + u) 10 = false := blt_f (by omega)
      have n7 : Nat.blt (102 + u) 19 = false := blt_f (by omega)
      have n3 : Nat.beq (102 + u) 28 = false := beq_f (by omega)
      have n4 : Nat.beq (102 + u) 29 = false := beq_f (by omega)
      have n5 : Nat.blt (102 + u) 102 = false := blt_f (by omega)
      rw [n1, n6, n7, n2, n3, n4, n5]
      simp
    rw [e0, e0]
    match u, hj with
    | 0, hj => first | rfl | exact absurd rfl hj
    | 1, hj => first | rfl | exact absurd rfl hj
    | 2, hj => first | rfl | exact absurd rfl hj
    | 3, hj => first | rfl | exact absurd rfl hj
    | 4, hj => first | rfl | exact absurd rfl hj
    | 5, hj => first | rfl | exact absurd rfl hj
    | 6, hj => first | rfl | exact absurd rfl hj
    | 7, hj => first | rfl | exact absurd rfl hj
    | 8, hj => first | rfl | exact absurd rfl hj
    | 9, hj => first | rfl | exact absurd rfl hj
    | 10, hj => first | rfl | exact absurd rfl hj
    | 11, hj => first | rfl | exact absurd rfl hj
    | 12, hj => first | rfl | exact absurd rfl hj
    | 13, hj => first | rfl | exact absurd rfl hj
    | u + 14, hj => rfl
theorem kf_C5 {v : Int32} (he : e = kHc (kkS x 5 v) 109)
    (k : kEv K R F mu pc ls st (kTp (kHc (kkS x 5 v)) r) N cs ss) : kEv K R F mu pc ls st (kU (kTp (kHc x) r) 109 e) N cs ss := by
  rw [kTp_U rfl, kU_to he (kHc_S (fun j hj hc => ?_))]
  · exact k
  rcases hc with rfl | rfl | hc
  · first | rfl | exact absurd rfl hj
  · first | rfl | exact absurd rfl hj
  · obtain ⟨u, rfl⟩ : ∃ u, j = 102 + u := ⟨j - 102, by omega⟩
    have e0 : ∀ y : kK, kHc y (102 + u) = kHx y u := by
      intro y
      unfold kHc
      have n1 : Nat.beq (102 + u) 0 = false := beq_f (by omega)
      have n2 : Nat.blt (102 + u) 28 = false := blt_f (by omega)
      have n6 : Nat.blt (102 + u) 10 = false := blt_f (by omega)
      have n7 : Nat.blt (102 + u) 19 = false := blt_f (by omega)
      have n3 : Nat.beq (102 + u) 28 = false := beq_f (by omega)
      have n4 : Nat.beq (102 + u) 29 = false := beq_f (by omega)
      have n5 : Nat.blt (102 + u) 102 = false := blt_f (by omega)
      rw [n1, n6, n7, n2, n3, n4, n5]
      simp
    rw [e0, e0]
    match u, hj with
    | 0, hj => first | rfl | exact absurd rfl hj
    | 1, hj => first | rfl | exact absurd rfl hj
    | 2, hj => first | rfl | exact absurd rfl hj
    | 3, hj => first | rfl | exact absurd rfl hj
    | 4, hj => first | rfl | exact absurd rfl hj
    | 5, hj => first | rfl | exact absurd rfl hj
    | 6, hj => first | rfl | exact absurd rfl hj
    | 7, hj => first | rfl | exact absurd rfl hj
    | 8, hj => first | rfl | exact absurd rfl hj
    | 9, hj => first | rfl | exact absurd rfl hj
    | 10, hj => first | rfl | exact absurd rfl hj
    | 11, hj => first | rfl | exact absurd rfl hj
    | 12, hj => first | rfl | exact absurd rfl hj
    | 13, hj => first | rfl | exact absurd rfl hj
    | u + 14, hj => rfl
theorem kf_C6 {v : Int32} (he : e = kHc (kkS x 6 v) 109)
    (k : kEv K R F mu pc ls st (kTp (kHc (kkS x 6 v)) r) N cs ss) : kEv K R F mu pc ls st (kU (kTp (kHc x) r) 109 e) N cs ss := by
  rw [kTp_U rfl, kU_to he (kHc_S (fun j hj hc => ?_))]
  · exact k
  rcases hc with rfl | rfl | hc
  · first | rfl | exact absurd rfl hj
  · first | rfl | exact absurd rfl hj
  · obtain ⟨u, rfl⟩ : ∃ u, j = 102 + u := ⟨j - 102, by omega⟩
    have e0 : ∀ y : kK, kHc y (102 + u) = kHx y u := by
      intro y
      unfold kHc
      have n1 : Nat.beq (102 + u) 0 = false := beq_f (by omega)
      have n2 : Nat.blt (102 + u) 28 = false := blt_f (by omega)
      have n6 : Nat.blt (102 + u) 10 = false := blt_f (by omega)
      have n7 : Nat.blt (102 + u) 19 = false := blt_f (by omega)
      have n3 : Nat.beq (102 + u) 28 = false := beq_f (by omega)
      have n4 : Nat.beq (102 + u) 29 = false := beq_f (by omega)
      have n5 : Nat.blt (102 + u) 102 = false := blt_f (by omega)
      rw [n1, n6, n7, n2, n3, n4, n5]
      simp
    rw [e0, e0]
    match u, hj with
    | 0, hj => first | rfl | exact absurd rfl hj
    | 1, hj => first | rfl | exact absurd rfl hj
    | 2, hj => first | rfl | exact absurd rfl hj
    | 3, hj => first | rfl | exact absurd rfl hj
    | 4, hj => first | rfl | exact absurd rfl hj
    | 5, hj => first | rfl | exact absurd rfl hj
    | 6, hj => first | rfl | exact absurd rfl hj
    | 7, hj => first | rfl | exact absurd rfl hj
    | 8, hj => first | rfl | exact absurd rfl hj
    | 9, hj => first | rfl | exact absurd rfl hj
    | 10, hj => first | rfl | exact absurd rfl hj
    | 11, hj => first | rfl | exact absurd rfl hj
    | 12, hj => first | rfl | exact absurd rfl hj
    | 13, hj => first | rfl | exact absurd rfl hj
    | u + 14, hj => rfl
theorem kf_C7 {v : Int32} (he : e = kHc (kkS x 7 v) 113)
    (k : kEv K R F mu pc ls st (kTp (kHc (kkS x 7 v)) r) N cs ss) : kEv K R F mu pc ls st (kU (kTp (kHc x) r) 113 e) N cs ss := by
  rw [kTp_U rfl, kU_to he (kHc_S (fun j hj hc => ?_))]
  · exact k
  rcases hc with rfl | rfl | hc
  · first | rfl | exact absurd rfl hj
  · first | rfl | exact absurd rfl hj
  · obtain ⟨u, rfl⟩ : ∃ u, j = 102 + u := ⟨j - 102, by omega⟩
    have e0 : ∀ y : kK, kHc y (102 + u) = kHx y u := by
      intro y
      unfold kHc
      have n1 : Nat.beq (102 + u) 0 = false := beq_f (by omega)
      have n2 : Nat.blt (102 + u) 28 = false := blt_f (by omega)
      have n6 : Nat.blt (102 + u) 10 = false := blt_f (by omega)
      have n7 : Nat.blt (102 + u) 19 = false := blt_f (by omega)
      have n3 : Nat.beq (102 + u) 28 = false := beq_f (by omega)
      have n4 : Nat.beq (102 + u) 29 = false := beq_f (by omega)
      have n5 : Nat.blt (102 + u) 102 = false := blt_f (by omega)
      rw [n1, n6, n7, n2, n3, n4, n5]
      simp
    rw [e0, e0]
    match u, hj with
    | 0, hj => first | rfl | exact absurd rfl hj
    | 1, hj => first | rfl | exact absurd rfl hj
    | 2, hj => first | rfl | exact absurd rfl hj
    | 3, hj => first | rfl | exact absurd rfl hj
    | 4, hj => first | rfl | exact absurd rfl hj
    | 5, hj => first | rfl | exact absurd rfl hj
    | 6, hj => first | rfl | exact absurd rfl hj
    | 7, hj => first | rfl | exact absurd rfl hj
    | 8, hj => first | rfl | exact absurd rfl hj
    | 9, hj => first | rfl | exact absurd rfl hj
    | 10, hj => first | rfl | exact absurd rfl hj
    | 11, hj => first | rfl | exact absurd rfl hj
    | 12, hj => first | rfl | exact absurd rfl hj
    | 13, hj => first | rfl | exact absurd rfl hj
    | u + 14, hj => rfl
theorem kf_X0 {f : Nat → Int32} (he : e = kHc (kkR x 0 f) 103)
    (k : kEv K R F mu pc ls st (kTp (kHc (kkR x 0 f)) r) N cs ss) : kEv K R F mu pc ls st (kU (kTp (kHc x) r) 103 e) N cs ss := by
  rw [kTp_U rfl, kU_to he (fun j hj => ?_)]
  · exact k
  unfold kHc
  by_cases hc : 102 ≤ j
  · obtain ⟨u, rfl⟩ : ∃ u, j = 102 + u := ⟨j - 102, by omega⟩
    have n5 : Nat.blt (102 + u) 102 = false := blt_f (by omega)
    rw [n5, show 102 + u - 102 = u by omega]
    have e1 : kHx x u = kHx (kkR x 0 f) u := by
      match u, hj with
      | 0, hj => first | rfl | exact absurd rfl hj
      | 1, hj => first | rfl | exact absurd rfl hj
      | 2, hj => first | rfl | exact absurd rfl hj
      | 3, hj => first | rfl | exact absurd rfl hj
      | 4, hj => first | rfl | exact absurd rfl hj
      | 5, hj => first | rfl | exact absurd rfl hj
      | 6, hj => first | rfl | exact absurd rfl hj
      | 7, hj => first | rfl | exact absurd rfl hj
      | 8, hj => first | rfl | exact absurd rfl hj
      | 9, hj => first | rfl | exact absurd rfl hj
      | 10, hj => first | rfl | exact absurd rfl hj
      | 11, hj => first | rfl | exact absurd rfl hj
      | 12, hj => first | rfl | exact absurd rfl hj
      | 13, hj => first | rfl | exact absurd rfl hj
      | u + 14, hj => rfl
    rw [e1]
    rfl
  · have n5 : Nat.blt j 102 = true := blt_t (by omega)
    rw [n5]
    rfl
theorem kf_X1 {f : Nat → Int32} (he : e = kHc (kkR x 1 f) 105)
    (k : kEv K R F mu pc ls st (kTp (kHc (kkR x 1 f)) r) N cs ss) : kEv K R F mu pc ls st (kU (kTp (kHc x) r) 105 e) N cs ss := by
  rw [kTp_U rfl, kU_to he (fun j hj => ?_)]
  · exact k
  unfold kHc
  by_cases hc : 102 ≤ j
  · obtain ⟨u, rfl⟩ : ∃ u, j = 102 + u := ⟨j - 102, by omega⟩
    have n5 : Nat.blt (102 + u) 102 = false := blt_f (by omega)
    rw [n5, show 102 + u - 102 = u by omega]
    have e1 : kHx x u = kHx (kkR x 1 f) u := by
      match u, hj with
      | 0, hj => first | rfl | exact absurd rfl hj
      | 1, hj => first | rfl | exact absurd rfl hj
      | 2, hj => first | rfl | exact absurd rfl hj
      | 3, hj => first | rfl | exact absurd rfl hj
      | 4, hj => first | rfl | exact absurd rfl hj
      | 5, hj => first | rfl | exact absurd rfl hj
      | 6, hj => first | rfl | exact absurd rfl hj
      | 7, hj => first | rfl | exact absurd rfl hj
      | 8, hj => first | rfl | exact absurd rfl hj
      | 9, hj => first | rfl | exact absurd rfl hj
      | 10, hj => first | rfl | exact absurd rfl hj
      | 11, hj => first | rfl | exact absurd rfl hj
      | 12, hj => first | rfl | exact absurd rfl hj
      | 13, hj => first | rfl | exact absurd rfl hj
      | u + 14, hj => rfl
    rw [e1]
    rfl
  · have n5 : Nat.blt j 102 = true := blt_t (by omega)
    rw [n5]
    rfl
theorem kf_X2 {f : Nat → Int32} (he : e = kHc (kkR x 2 f) 106)
    (k : kEv K R F mu pc ls st (kTp (kHc (kkR x 2 f)) r) N cs ss) : kEv K R F mu pc ls st (kU (kTp (kHc x) r) 106 e) N cs ss := by
  rw [kTp_U rfl, kU_to he (fun j hj => ?_)]
  · exact k
  unfold kHc
  by_cases hc : 102 ≤ j
  · obtain ⟨u, rfl⟩ : ∃ u, j = 102 + u := ⟨j - 102, by omega⟩
    have n5 : Nat.blt (102 + u) 102 = false := blt_f (by omega)
    rw [n5, show 102 + u - 102 = u by omega]
    have e1 : kHx x u = kHx (kkR x 2 f) u := by
      match u, hj with
      | 0, hj => first | rfl | exact absurd rfl hj
      | 1, hj => first | rfl | exact absurd rfl hj
      | 2, hj => first | rfl | exact absurd rfl hj
      | 3, hj => first | rfl | exact absurd rfl hj
      | 4, hj => first | rfl | exact absurd rfl hj
      | 5, hj => first | rfl | exact absurd rfl hj
      | 6, hj => first | rfl | exact absurd rfl hj
      | 7, hj => first | rfl | exact absurd rfl hj
      | 8, hj => first | rfl | exact absurd rfl hj
      | 9, hj => first | rfl | exact absurd rfl hj
      | 10, hj => first | rfl | exact absurd rfl hj
      | 11, hj => first | rfl | exact absurd rfl hj
      | 12, hj => first | rfl | exact absurd rfl hj
      | 13, hj => first | rfl | exact absurd rfl hj
      | u + 14, hj => rfl
    rw [e1]
    rfl
  · have n5 : Nat.blt j 102 = true := blt_t (by omega)
    rw [n5]
    rfl
theorem kf_X3 {f : Nat → Int32} (he : e = kHc (kkR x 3 f) 107)
    (k : kEv K R F mu pc ls st (kTp (kHc (kkR x 3 f)) r) N cs ss) : kEv K R F mu pc ls st (kU (kTp (kHc x) r) 107 e) N cs ss := by
  rw [kTp_U rfl, kU_to he (fun j hj => ?_)]
  · exact k
  unfold kHc
  by_cases hc : 102 ≤ j
  · obtain ⟨u, rfl⟩ : ∃ u, j = 102 + u := ⟨j - 102, by omega⟩
    have n5 : Nat.blt (102 + u) 102 = false := blt_f (by omega)
    rw [n5, show 102 + u - 102 = u by omega]
    have e1 : kHx x u = kHx (kkR x 3 f) u := by
      match u, hj with
      | 0, hj => first | rfl | exact absurd rfl hj
      | 1, hj => first | rfl | exact absurd rfl hj
      | 2, hj => first | rfl | exact absurd rfl hj
      | 3, hj => first | rfl | exact absurd rfl hj
      | 4, hj => first | rfl | exact absurd rfl hj
      | 5, hj => first | rfl | exact absurd rfl hj
      | 6, hj => first | rfl | exact absurd rfl hj
      | 7, hj => first | rfl | exact absurd rfl hj
      | 8, hj => first | rfl | exact absurd rfl hj
      | 9, hj => first | rfl | exact absurd rfl hj
      | 10, hj => first | rfl | exact absurd rfl hj
      | 11, hj => first | rfl | exact absurd rfl hj
      | 12, hj => first | rfl | exact absurd rfl hj
      | 13, hj => first | rfl | exact absurd rfl hj
      | u + 14, hj => rfl
    rw [e1]
    rfl
  · have n5 : Nat.blt j 102 = true := blt_t (by omega)
    rw [n5]
    rfl
theorem kf_X4 {f : Nat → Int32} (he : e = kHc (kkR x 4 f) 108)
    (k : kEv K R F mu pc ls st (kTp (kHc (kkR x 4 f)) r) N cs ss) : kEv K R F mu pc ls st (kU (kTp (kHc x) r) 108 e) N cs ss := by
  rw [kTp_U rfl, kU_to he (fun j hj => ?_)]
  · exact k
  unfold kHc
  by_cases hc : 102 ≤ j
  · obtain ⟨u, rfl⟩ : ∃ u, j = 102 + u := ⟨j - 102, by omega⟩
    have n5 : Nat.blt (102 + u) 102 = false := blt_f (by omega)
    rw [n5, show 102 + u - 102 = u by omega]
    have e1 : kHx x u = kHx (kkR x 4 f) u := by
      match u, hj with
      | 0, hj => first | rfl | exact absurd rfl hj
      | 1, hj => first | rfl | exact absurd rfl hj
      | 2, hj => first | rfl | exact absurd rfl hj
      | 3, hj => first | rfl | exact absurd rfl hj
      | 4, hj => first | rfl | exact absurd rfl hj
      | 5, hj => first | rfl | exact absurd rfl hj
      | 6, hj => first | rfl | exact absurd rfl hj
      | 7, hj => first | rfl | exact absurd rfl hj
      | 8, hj => first | rfl | exact absurd rfl hj
      | 9, hj => first | rfl | exact absurd rfl hj
      | 10, hj => first | rfl | exact absurd rfl hj
      | 11, hj => first | rfl | exact absurd rfl hj
      | 12, hj => first | rfl | exact absurd rfl hj
      | 13, hj => first | rfl | exact absurd rfl hj
      | u + 14, hj => rfl
    rw [e1]
    rfl
  · have n5 : Nat.blt j 102 = true := blt_t (by omega)
    rw [n5]
    rfl
theorem kf_X5 {f : Nat → Int32} (he : e = kHc (kkR x 5 f) 110)
    (k : kEv K R F mu pc ls st (kTp (kHc (kkR x 5 f)) r) N cs ss) : kEv K R F mu pc ls st (kU (kTp (kHc x) r) 110 e) N cs ss := by
  rw [kTp_U rfl, kU_to he (fun j hj => ?_)]
  · exact k
  unfold kHc
  by_cases hc : 102 ≤ j
  · obtain ⟨u, rfl⟩ : ∃ u, j = 102 + u := ⟨j - 102, by omega⟩
    have n5 : Nat.blt (102 + u) 102 = false := blt_f (by omega)
    rw [n5, show 102 + u - 102 = u by omega]
    have e1 : kHx x u = kHx (kkR x 5 f) u := by
      match u, hj with
      | 0, hj => first | rfl | exact absurd rfl hj
      | 1, hj => first | rfl | exact absurd rfl hj
      | 2, hj => first | rfl | exact absurd rfl hj
      | 3, hj => first | rfl | exact absurd rfl hj
      | 4, hj => first | rfl | exact absurd rfl hj
      | 5, hj => first | rfl | exact absurd rfl hj
      | 6, hj => first | rfl | exact absurd rfl hj
      | 7, hj => first | rfl | exact absurd rfl hj
      | 8, hj => first | rfl | exact absurd rfl hj
      | 9, hj => first | rfl | exact absurd rfl hj
      | 10, hj => first | rfl | exact absurd rfl hj
      | 11, hj => first | rfl | exact absurd rfl hj
      | 12, hj => first | rfl | exact absurd rfl hj
      | 13, hj => first | rfl | exact absurd rfl hj
      | u + 14, hj => rfl
    rw [e1]
    rfl
  · have n5 : Nat.blt j 102 = true := blt_t (by omega)
    rw [n5]
    rfl
theorem kf_X6 {f : Nat → Int32} (he : e = kHc (kkR x 6 f) 112)
    (k : kEv K R F mu pc ls st (kTp (kHc (kkR x 6 f)) r) N cs ss) : kEv K R F mu pc ls st (kU (kTp (kHc x) r) 112 e) N cs ss := by
  rw [kTp_U rfl, kU_to he (fun j hj => ?_)]
  · exact k
  unfold kHc
  by_cases hc : 102 ≤ j
  · obtain ⟨u, rfl⟩ : ∃ u, j = 102 + u := ⟨j - 102, by omega⟩
    have n5 : Nat.blt (102 + u) 102 = false := blt_f (by omega)
    rw [n5, show 102 + u - 102 = u by omega]
    have e1 : kHx x u = kHx (kkR x 6 f) u := by
      match u, hj with
      | 0, hj => first | rfl | exact absurd rfl hj
      | 1, hj => first | rfl | exact absurd rfl hj
      | 2, hj => first | rfl | exact absurd rfl hj
      | 3, hj => first | rfl | exact absurd rfl hj
      | 4, hj => first | rfl | exact absurd rfl hj
      | 5, hj => first | rfl | exact absurd rfl hj
      | 6, hj => first | rfl | exact absurd rfl hj
      | 7, hj => first | rfl | exact absurd rfl hj
      | 8, hj => first | rfl | exact absurd rfl hj
      | 9, hj => first | rfl | exact absurd rfl hj
      | 10, hj => first | rfl | exact absurd rfl hj
      | 11, hj => first | rfl | exact absurd rfl hj
      | 12, hj => first | rfl | exact absurd rfl hj
      | 13, hj => first | rfl | exact absurd rfl hj
      | u + 14, hj => rfl
    rw [e1]
    rfl
  · have n5 : Nat.blt j 102 = true := blt_t (by omega)
    rw [n5]
    rfl
theorem kf_X7 {f : Nat → Int32} (he : e = kHc (kkR x 7 f) 114)
    (k : kEv K R F mu pc ls st (kTp (kHc (kkR x 7 f)) r) N cs ss) : kEv K R F mu pc ls st (kU (kTp (kHc x) r) 114 e) N cs ss := by
  rw [kTp_U rfl, kU_to he (fun j hj => ?_)]
  · exact k
  unfold kHc
  by_cases hc : 102 ≤ j
  · obtain ⟨u, rfl⟩ : ∃ u, j = 102 + u := ⟨j - 102, by omega⟩
    have n5 : Nat.blt (102 + u) 102 = false := blt_f (by omega)
    rw [n5, show 102 + u - 102 = u by omega]
    have e1 : kHx x u = kHx (kkR x 7 f) u := by
      match u, hj with
      | 0, hj => first | rfl | exact absurd rfl hj
      | 1, hj => first | rfl | exact absurd rfl hj
      | 2, hj => first | rfl | exact absurd rfl hj
      | 3, hj => first | rfl | exact absurd rfl hj
      | 4, hj => first | rfl | exact absurd rfl hj
      | 5, hj => first | rfl | exact absurd rfl hj
      | 6, hj => first | rfl | exact absurd rfl hj
      | 7, hj => first | rfl | exact absurd rfl hj
      | 8, hj => first | rfl | exact absurd rfl hj
      | 9, hj => first | rfl | exact absurd rfl hj
      | 10, hj => first | rfl | exact absurd rfl hj
      | 11, hj => first | rfl | exact absurd rfl hj
      | 12, hj => first | rfl | exact absurd rfl hj
      | 13, hj => first | rfl | exact absurd rfl hj
      | u + 14, hj => rfl
    rw [e1]
    rfl
  · have n5 : Nat.blt j 102 = true := blt_t (by omega)
    rw [n5]
    rfl
theorem kf_X8 {f : Nat → Int32} (he : e = kHc (kkR x 8 f) 115)
    (k : kEv K R F mu pc ls st (kTp (kHc (kkR x 8 f)) r) N cs ss) : kEv K R F mu pc ls st (kU (kTp (kHc x) r) 115 e) N cs ss := by
  rw [kTp_U rfl, kU_to he (fun j hj => ?_)]
  · exact k
  unfold kHc
  by_cases hc : 102 ≤ j
  · obtain ⟨u, rfl⟩ : ∃ u, j = 102 + u := ⟨j - 102, by omega⟩
    have n5 : Nat.blt (102 + u) 102 = false := blt_f (by omega)
    rw [n5, show 102 + u - 102 = u by omega]
    have e1 : kHx x u = kHx (kkR x 8 f) u := by
      match u, hj with
      | 0, hj => first | rfl | exact absurd rfl hj
      | 1, hj => first | rfl | exact absurd rfl hj
      | 2, hj => first | rfl | exact absurd rfl hj
      | 3, hj => first | rfl | exact absurd rfl hj
      | 4, hj => first | rfl | exact absurd rfl hj
      | 5, hj => first | rfl | exact absurd rfl hj
      | 6, hj => first | rfl | exact absurd rfl hj
      | 7, hj => first | rfl | exact absurd rfl hj
      | 8, hj => first | rfl | exact absurd rfl hj
      | 9, hj => first | rfl | exact absurd rfl hj
      | 10, hj => first | rfl | exact absurd rfl hj
      | 11, hj => first | rfl | exact absurd rfl hj
      | 12, hj => first | rfl | exact absurd rfl hj
      | 13, hj => first | rfl | exact absurd rfl hj
      | u + 14, hj => rfl
    rw [e1]
    rfl
  · have n5 : Nat.blt j 102 = true := blt_t (by omega)
    rw [n5]
    rfl
theorem kf_XE {f : Nat → Option Nat} (he : e = kHc (kkE x f) 111)
    (k : kEv K R F mu pc ls st (kTp (kHc (kkE x f)) r) N cs ss) : kEv K R F mu pc ls st (kU (kTp (kHc x) r) 111 e) N cs ss := by
  rw [kTp_U rfl, kU_to he (fun j hj => ?_)]
  · exact k
  unfold kHc
  by_cases hc : 102 ≤ j
  · obtain ⟨u, rfl⟩ : ∃ u, j = 102 + u := ⟨j - 102, by omega⟩
    have n5 : Nat.blt (102 + u) 102 = false := blt_f (by omega)
    rw [n5, show 102 + u - 102 = u by omega]
    have e1 : kHx x u = kHx (kkE x f) u := by
      match u, hj with
      | 0, hj => first | rfl | exact absurd rfl hj
      | 1, hj => first | rfl | exact absurd rfl hj
      | 2, hj => first | rfl | exact absurd rfl hj
      | 3, hj => first | rfl | exact absurd rfl hj
      | 4, hj => first | rfl | exact absurd rfl hj
      | 5, hj => first | rfl | exact absurd rfl hj
      | 6, hj => first | rfl | exact absurd rfl hj
      | 7, hj => first | rfl | exact absurd rfl hj
      | 8, hj => first | rfl | exact absurd rfl hj
      | 9, hj => first | rfl | exact absurd rfl hj
      | 10, hj => first | rfl | exact absurd rfl hj
      | 11, hj => first | rfl | exact absurd rfl hj
      | 12, hj => first | rfl | exact absurd rfl hj
      | 13, hj => first | rfl | exact absurd rfl hj
      | u + 14, hj => rfl
    rw [e1]
    rfl
  · have n5 : Nat.blt j 102 = true := blt_t (by omega)
    rw [n5]
    rfl
theorem k_callVd0 {idx r9 ci n0 : Nat} {fs : List Value} {T : u_T} {v : Value} {h' : kH} {N' : Nat} (cw : kCv K.1.cls idx J 0) (hR : kRoom R J) (m : kMet J mu mc ms (.ref r9 :: []) h N (kRt (some v) h' N')) (hd : decode K.2.1 pc = .ok (.invokevirtual idx, 3)) (hp : pc + 3 = pc') (hi : r9 < N) (he : h r9 = .inr (ci, fs)) (hci : vwCl[ci]? = some (J.1.cls, T, n0)) (hw : Nat.ble (st.map fun v => v.category).sum 8 = true) (hcs : cs + mc ≤ R.cells ∧ ss + ms ≤ R.slots)
    (kk : kEv K R F mu pc' ls (v :: st) h' N' (cs + mc) (ss + ms)) : kEv K R F mu pc ls (.ref r9 :: st) h N cs ss :=
  k_callV0 cw hR m hd hp hi he hci hw hcs (fun v1 h1 N1 hq => by obtain ⟨h1, rfl, rfl⟩ := hq; cases h1; exact kk) (fun E h1 N1 hq => by obtain ⟨hq, -⟩ := hq; cases hq)
theorem k_callVv0 {idx r9 ci n0 : Nat} {fs : List Value} {T : u_T} {h' : kH} {N' : Nat} (cw : kCv K.1.cls idx J 0) (hR : kRoom R J) (m : kMet J mu mc ms (.ref r9 :: []) h N (kRt none h' N')) (hd : decode K.2.1 pc = .ok (.invokevirtual idx, 3)) (hp : pc + 3 = pc') (hi : r9 < N) (he : h r9 = .inr (ci, fs)) (hci : vwCl[ci]? = some (J.1.cls, T, n0)) (hw : Nat.ble (st.map fun v => v.category).sum 8 = true) (hcs : cs + mc ≤ R.cells ∧ ss + ms ≤ R.slots)
    (kk : kEv K R F mu pc' ls st h' N' (cs + mc) (ss + ms)) : kEv K R F mu pc ls (.ref r9 :: st) h N cs ss :=
  k_callV0 cw hR m hd hp hi he hci hw hcs (fun v1 h1 N1 hq => by obtain ⟨h1, rfl, rfl⟩ := hq; cases h1; exact kk) (fun E h1 N1 hq => by obtain ⟨hq, -⟩ := hq; cases hq)
theorem k_callVd1 {idx r9 ci n0 : Nat} {fs : List Value} {T : u_T} {x1 : Value} {v : Value} {h' : kH} {N' : Nat} (cw : kCv K.1.cls idx J 1) (hR : kRoom R J) (m : kMet J mu mc ms (.ref r9 :: [x1]) h N (kRt (some v) h' N')) (hd : decode K.2.1 pc = .ok (.invokevirtual idx, 3)) (hp : pc + 3 = pc') (hi : r9 < N) (he : h r9 = .inr (ci, fs)) (hci : vwCl[ci]? = some (J.1.cls, T, n0)) (hw : Nat.ble (st.map fun v => v.category).sum 8 = true) (hcs : cs + mc ≤ R.cells ∧ ss + ms ≤ R.slots)
    (kk : kEv K R F mu pc' ls (v :: st) h' N' (cs + mc) (ss + ms)) : kEv K R F mu pc ls (x1 :: .ref r9 :: st) h N cs ss :=
  k_callV1 cw hR m hd hp hi he hci hw hcs (fun v1 h1 N1 hq => by obtain ⟨h1, rfl, rfl⟩ := hq; cases h1; exact kk) (fun E h1 N1 hq => by obtain ⟨hq, -⟩ := hq; cases hq)
theorem k_callVv1 {idx r9 ci n0 : Nat} {fs : List Value} {T : u_T} {x1 : Value} {h' : kH} {N' : Nat} (cw : kCv K.1.cls idx J 1) (hR : kRoom R J) (m : kMet J mu mc ms (.ref r9 :: [x1]) h N (kRt none h' N')) (hd : decode K.2.1 pc = .ok (.invokevirtual idx, 3)) (hp : pc + 3 = pc') (hi : r9 < N) (he : h r9 = .inr (ci, fs)) (hci : vwCl[ci]? = some (J.1.cls, T, n0)) (hw : Nat.ble (st.map fun v => v.category).sum 8 = true) (hcs : cs + mc ≤ R.cells ∧ ss + ms ≤ R.slots)
    (kk : kEv K R F mu pc' ls st h' N' (cs + mc) (ss + ms)) : kEv K R F mu pc ls (x1 :: .ref r9 :: st) h N cs ss :=
  k_callV1 cw hR m hd hp hi he hci hw hcs (fun v1 h1 N1 hq => by obtain ⟨h1, rfl, rfl⟩ := hq; cases h1; exact kk) (fun E h1 N1 hq => by obtain ⟨hq, -⟩ := hq; cases hq)
theorem k_callVd2 {idx r9 ci n0 : Nat} {fs : List Value} {T : u_T} {x1 x2 : Value} {v : Value} {h' : kH} {N' : Nat} (cw : kCv K.1.cls idx J 2) (hR : kRoom R J) (m : kMet J mu mc ms (.ref r9 :: [x1, x2]) h N (kRt (some v) h' N')) (hd : decode K.2.1 pc = .ok (.invokevirtual idx, 3)) (hp : pc + 3 = pc') (hi : r9 < N) (he : h r9 = .inr (ci, fs)) (hci : vwCl[ci]? = some (J.1.cls, T, n0)) (hw : Nat.ble (st.map fun v => v.category).sum 8 = true) (hcs : cs + mc ≤ R.cells ∧ ss + ms ≤ R.slots)
    (kk : kEv K R F mu pc' ls (v :: st) h' N' (cs + mc) (ss + ms)) : kEv K R F mu pc ls (x2 :: x1 :: .ref r9 :: st) h N cs ss :=
  k_callV2 cw hR m hd hp hi he hci hw hcs (fun v1 h1 N1 hq => by obtain ⟨h1, rfl, rfl⟩ := hq; cases h1; exact kk) (fun E h1 N1 hq => by obtain ⟨hq, -⟩ := hq; cases hq)
theorem k_callVv2 {idx r9 ci n0 : Nat} {fs : List Value} {T : u_T} {x1 x2 : Value} {h' : kH} {N' : Nat} (cw : kCv K.1.cls idx J 2) (hR : kRoom R J) (m : kMet J mu mc ms (.ref r9 :: [x1, x2]) h N (kRt none h' N')) (hd : decode K.2.1 pc = .ok (.invokevirtual idx, 3)) (hp : pc + 3 = pc') (hi : r9 < N) (he : h r9 = .inr (ci, fs)) (hci : vwCl[ci]? = some (J.1.cls, T, n0)) (hw : Nat.ble (st.map fun v => v.category).sum 8 = true) (hcs : cs + mc ≤ R.cells ∧ ss + ms ≤ R.slots)
    (kk : kEv K R F mu pc' ls st h' N' (cs + mc) (ss + ms)) : kEv K R F mu pc ls (x2 :: x1 :: .ref r9 :: st) h N cs ss :=
  k_callV2 cw hR m hd hp hi he hci hw hcs (fun v1 h1 N1 hq => by obtain ⟨h1, rfl, rfl⟩ := hq; cases h1; exact kk) (fun E h1 N1 hq => by obtain ⟨hq, -⟩ := hq; cases hq)
theorem k_callVd3 {idx r9 ci n0 : Nat} {fs : List Value} {T : u_T} {x1 x2 x3 : Value} {v : Value} {h' : kH} {N' : Nat} (cw : kCv K.1.cls idx J 3) (hR : kRoom R J) (m : kMet J mu mc ms (.ref r9 :: [x1, x2, x3]) h N (kRt (some v) h' N')) (hd : decode K.2.1 pc = .ok (.invokevirtual idx, 3)) (hp : pc + 3 = pc') (hi : r9 < N) (he : h r9 = .inr (ci, fs)) (hci : vwCl[ci]? = some (J.1.cls, T, n0)) (hw : Nat.ble (st.map fun v => v.category).sum 8 = true) (hcs : cs + mc ≤ R.cells ∧ ss + ms ≤ R.slots)
    (kk : kEv K R F mu pc' ls (v :: st) h' N' (cs + mc) (ss + ms)) : kEv K R F mu pc ls (x3 :: x2 :: x1 :: .ref r9 :: st) h N cs ss :=
  k_callV3 cw hR m hd hp hi he hci hw hcs (fun v1 h1 N1 hq => by obtain ⟨h1, rfl, rfl⟩ := hq; cases h1; exact kk) (fun E h1 N1 hq => by obtain ⟨hq, -⟩ := hq; cases hq)
theorem k_callVv3 {idx r9 ci n0 : Nat} {fs : List Value} {T : u_T} {x1 x2 x3 : Value} {h' : kH} {N' : Nat} (cw : kCv K.1.cls idx J 3) (hR : kRoom R J) (m : kMet J mu mc ms (.ref r9 :: [x1, x2, x3]) h N (kRt none h' N')) (hd : decode K.2.1 pc = .ok (.invokevirtual idx, 3)) (hp : pc + 3 = pc') (hi : r9 < N) (he : h r9 = .inr (ci, fs)) (hci : vwCl[ci]? = some (J.1.cls, T, n0)) (hw : Nat.ble (st.map fun v => v.category).sum 8 = true) (hcs : cs + mc ≤ R.cells ∧ ss + ms ≤ R.slots)
    (kk : kEv K R F mu pc' ls st h' N' (cs + mc) (ss + ms)) : kEv K R F mu pc ls (x3 :: x2 :: x1 :: .ref r9 :: st) h N cs ss :=
  k_callV3 cw hR m hd hp hi he hci hw hcs (fun v1 h1 N1 hq => by obtain ⟨h1, rfl, rfl⟩ := hq; cases h1; exact kk) (fun E h1 N1 hq => by obtain ⟨hq, -⟩ := hq; cases hq)
theorem k_callVd4 {idx r9 ci n0 : Nat} {fs : List Value} {T : u_T} {x1 x2 x3 x4 : Value} {v : Value} {h' : kH} {N' : Nat} (cw : kCv K.1.cls idx J 4) (hR : kRoom R J) (m : kMet J mu mc ms (.ref r9 :: [x1, x2, x3, x4]) h N (kRt (some v) h' N')) (hd : decode K.2.1 pc = .ok (.invokevirtual idx, 3)) (hp : pc + 3 = pc') (hi : r9 < N) (he : h r9 = .inr (ci, fs)) (hci : vwCl[ci]? = some (J.1.cls, T, n0)) (hw : Nat.ble (st.map fun v => v.category).sum 8 = true) (hcs : cs + mc ≤ R.cells ∧ ss + ms ≤ R.slots)
    (kk : kEv K R F mu pc' ls (v :: st) h' N' (cs + mc) (ss + ms)) : kEv K R F mu pc ls (x4 :: x3 :: x2 :: x1 :: .ref r9 :: st) h N cs ss :=
  k_callV4 cw hR m hd hp hi he hci hw hcs (fun v1 h1 N1 hq => by obtain ⟨h1, rfl, rfl⟩ := hq; cases h1; exact kk) (fun E h1 N1 hq => by obtain ⟨hq, -⟩ := hq; cases hq)
theorem k_callVv4 {idx r9 ci n0 : Nat} {fs : List Value} {T : u_T} {x1 x2 x3 x4 : Value} {h' : kH} {N' : Nat} (cw : kCv K.1.cls idx J 4) (hR : kRoom R J) (m : kMet J mu mc ms (.ref r9 :: [x1, x2, x3, x4]) h N (kRt none h' N')) (hd : decode K.2.1 pc = .ok (.invokevirtual idx, 3)) (hp : pc + 3 = pc') (hi : r9 < N) (he : h r9 = .inr (ci, fs)) (hci : vwCl[ci]? = some (J.1.cls, T, n0)) (hw : Nat.ble (st.map fun v => v.category).sum 8 = true) (hcs : cs + mc ≤ R.cells ∧ ss + ms ≤ R.slots)
    (kk : kEv K R F mu pc' ls st h' N' (cs + mc) (ss + ms)) : kEv K R F mu pc ls (x4 :: x3 :: x2 :: x1 :: .ref r9 :: st) h N cs ss :=
  k_callV4 cw hR m hd hp hi he hci hw hcs (fun v1 h1 N1 hq => by obtain ⟨h1, rfl, rfl⟩ := hq; cases h1; exact kk) (fun E h1 N1 hq => by obtain ⟨hq, -⟩ := hq; cases hq)
theorem k_callVd5 {idx r9 ci n0 : Nat} {fs : List Value} {T : u_T} {x1 x2 x3 x4 x5 : Value} {v : Value} {h' : kH} {N' : Nat} (cw : kCv K.1.cls idx J 5) (hR : kRoom R J) (m : kMet J mu mc ms (.ref r9 :: [x1, x2, x3, x4, x5]) h N (kRt (some v) h' N')) (hd : decode K.2.1 pc = .ok (.invokevirtual idx, 3)) (hp : pc + 3 = pc') (hi : r9 < N) (he : h r9 = .inr (ci, fs)) (hci : vwCl[ci]? = some (J.1.cls, T, n0)) (hw : Nat.ble (st.map fun v => v.category).sum 8 = true) (hcs : cs + mc ≤ R.cells ∧ ss + ms ≤ R.slots)
    (kk : kEv K R F mu pc' ls (v :: st) h' N' (cs + mc) (ss + ms)) : kEv K R F mu pc ls (x5 :: x4 :: x3 :: x2 :: x1 :: .ref r9 :: st) h N cs ss :=
  k_callV5 cw hR m hd hp hi he hci hw hcs (fun v1 h1 N1 hq => by obtain ⟨h1, rfl, rfl⟩ := hq; cases h1; exact kk) (fun E h1 N1 hq => by obtain ⟨hq, -⟩ := hq; cases hq)
theorem k_callVv5 {idx r9 ci n0 : Nat} {fs : List Value} {T : u_T} {x1 x2 x3 x4 x5 : Value} {h' : kH} {N' : Nat} (cw : kCv K.1.cls idx J 5) (hR : kRoom R J) (m : kMet J mu mc ms (.ref r9 :: [x1, x2, x3, x4, x5]) h N (kRt none h' N')) (hd : decode K.2.1 pc = .ok (.invokevirtual idx, 3)) (hp : pc + 3 = pc') (hi : r9 < N) (he : h r9 = .inr (ci, fs)) (hci : vwCl[ci]? = some (J.1.cls, T, n0)) (hw : Nat.ble (st.map fun v => v.category).sum 8 = true) (hcs : cs + mc ≤ R.cells ∧ ss + ms ≤ R.slots)
    (kk : kEv K R F mu pc' ls st h' N' (cs + mc) (ss + ms)) : kEv K R F mu pc ls (x5 :: x4 :: x3 :: x2 :: x1 :: .ref r9 :: st) h N cs ss :=
  k_callV5 cw hR m hd hp hi he hci hw hcs (fun v1 h1 N1 hq => by obtain ⟨h1, rfl, rfl⟩ := hq; cases h1; exact kk) (fun E h1 N1 hq => by obtain ⟨hq, -⟩ := hq; cases hq)
theorem k_callId0 {idx r9 : Nat} {v : Value} {h' : kH} {N' : Nat} (cw : kCi K.1.cls idx J 0) (hR : kRoom R J) (m : kMet J mu mc ms (.ref r9 :: []) h N (kRt (some v) h' N')) (hd : decode K.2.1 pc = .ok (.invokespecial idx, 3)) (hp : pc + 3 = pc') (hw : Nat.ble (st.map fun v => v.category).sum 8 = true) (hcs : cs + mc ≤ R.cells ∧ ss + ms ≤ R.slots)
    (kk : kEv K R F mu pc' ls (v :: st) h' N' (cs + mc) (ss + ms)) : kEv K R F mu pc ls (.ref r9 :: st) h N cs ss :=
  k_callI0 cw hR m hd hp hw hcs (fun v1 h1 N1 hq => by obtain ⟨h1, rfl, rfl⟩ := hq; cases h1; exact kk) (fun E h1 N1 hq => by obtain ⟨hq, -⟩ := hq; cases hq)
theorem k_callIv0 {idx r9 : Nat} {h' : kH} {N' : Nat} (cw : kCi K.1.cls idx J 0) (hR : kRoom R J) (m : kMet J mu mc ms (.ref r9 :: []) h N (kRt none h' N')) (hd : decode K.2.1 pc = .ok (.invokespecial idx, 3)) (hp : pc + 3 = pc') (hw : Nat.ble (st.map fun v => v.category).sum 8 = true) (hcs : cs + mc ≤ R.cells ∧ ss + ms ≤ R.slots)
    (kk : kEv K R F mu pc' ls st h' N' (cs + mc) (ss + ms)) : kEv K R F mu pc ls (.ref r9 :: st) h N cs ss :=
  k_callI0 cw hR m hd hp hw hcs (fun v1 h1 N1 hq => by obtain ⟨h1, rfl, rfl⟩ := hq; cases h1; exact kk) (fun E h1 N1 hq => by obtain ⟨hq, -⟩ := hq; cases hq)
theorem k_callId1 {idx r9 : Nat} {x1 : Value} {v : Value} {h' : kH} {N' : Nat} (cw : kCi K.1.cls idx J 1) (hR : kRoom R J) (m : kMet J mu mc ms (.ref r9 :: [x1]) h N (kRt (some v) h' N')) (hd : decode K.2.1 pc = .ok (.invokespecial idx, 3)) (hp : pc + 3 = pc') (hw : Nat.ble (st.map fun v => v.category).sum 8 = true) (hcs : cs + mc ≤ R.cells ∧ ss + ms ≤ R.slots)
    (kk : kEv K R F mu pc' ls (v :: st) h' N' (cs + mc) (ss + ms)) : kEv K R F mu pc ls (x1 :: .ref r9 :: st) h N cs ss :=
  k_callI1 cw hR m hd hp hw hcs (fun v1 h1 N1 hq => by obtain ⟨h1, rfl, rfl⟩ := hq; cases h1; exact kk) (fun E h1 N1 hq => by obtain ⟨hq, -⟩ := hq; cases hq)
theorem k_callIv1 {idx r9 : Nat} {x1 : Value} {h' : kH} {N' : Nat} (cw : kCi K.1.cls idx J 1) (hR : kRoom R J) (m : kMet J mu mc ms (.ref r9 :: [x1]) h N (kRt none h' N')) (hd : decode K.2.1 pc = .ok (.invokespecial idx, 3)) (hp : pc + 3 = pc') (hw : Nat.ble (st.map fun v => v.category).sum 8 = true) (hcs : cs + mc ≤ R.cells ∧ ss + ms ≤ R.slots)
    (kk : kEv K R F mu pc' ls st h' N' (cs + mc) (ss + ms)) : kEv K R F mu pc ls (x1 :: .ref r9 :: st) h N cs ss :=
  k_callI1 cw hR m hd hp hw hcs (fun v1 h1 N1 hq => by obtain ⟨h1, rfl, rfl⟩ := hq; cases h1; exact kk) (fun E h1 N1 hq => by obtain ⟨hq, -⟩ := hq; cases hq)
theorem k_callINd0 {idx r9 : Nat} {host : String} {v : Value} {h' : kH} {N' : Nat} (cw : kCiN K.1.cls idx J host 0) (hR : kRoom R J) (m : kMet J mu mc ms (.ref r9 :: []) h N (kRt (some v) h' N')) (hd : decode K.2.1 pc = .ok (.invokespecial idx, 3)) (hp : pc + 3 = pc') (hw : Nat.ble (st.map fun v => v.category).sum 8 = true) (hcs : cs + mc ≤ R.cells ∧ ss + ms ≤ R.slots)
    (kk : kEv K R F mu pc' ls (v :: st) h' N' (cs + mc) (ss + ms)) : kEv K R F mu pc ls (.ref r9 :: st) h N cs ss :=
  k_callIN0 cw hR m hd hp hw hcs (fun v1 h1 N1 hq => by obtain ⟨h1, rfl, rfl⟩ := hq; cases h1; exact kk) (fun E h1 N1 hq => by obtain ⟨hq, -⟩ := hq; cases hq)
theorem k_callINv0 {idx r9 : Nat} {host : String} {h' : kH} {N' : Nat} (cw : kCiN K.1.cls idx J host 0) (hR : kRoom R J) (m : kMet J mu mc ms (.ref r9 :: []) h N (kRt none h' N')) (hd : decode K.2.1 pc = .ok (.invokespecial idx, 3)) (hp : pc + 3 = pc') (hw : Nat.ble (st.map fun v => v.category).sum 8 = true) (hcs : cs + mc ≤ R.cells ∧ ss + ms ≤ R.slots)
    (kk : kEv K R F mu pc' ls st h' N' (cs + mc) (ss + ms)) : kEv K R F mu pc ls (.ref r9 :: st) h N cs ss :=
  k_callIN0 cw hR m hd hp hw hcs (fun v1 h1 N1 hq => by obtain ⟨h1, rfl, rfl⟩ := hq; cases h1; exact kk) (fun E h1 N1 hq => by obtain ⟨hq, -⟩ := hq; cases hq)
theorem k_callSd1 {idx : Nat} {x1 : Value} {v : Value} {h' : kH} {N' : Nat} (cw : kCs K.1.cls idx J 1) (hR : kRoom R J) (m : kMet J mu mc ms [x1] h N (kRt (some v) h' N')) (hd : decode K.2.1 pc = .ok (.invokestatic idx, 3)) (hp : pc + 3 = pc') (hw : Nat.ble (st.map fun v => v.category).sum 8 = true) (hcs : cs + mc ≤ R.cells ∧ ss + ms ≤ R.slots)
    (kk : kEv K R F mu pc' ls (v :: st) h' N' (cs + mc) (ss + ms)) : kEv K R F mu pc ls (x1 :: st) h N cs ss :=
  k_callS1 cw hR m hd hp hw hcs (fun v1 h1 N1 hq => by obtain ⟨h1, rfl, rfl⟩ := hq; cases h1; exact kk) (fun E h1 N1 hq => by obtain ⟨hq, -⟩ := hq; cases hq)
theorem k_callSv1 {idx : Nat} {x1 : Value} {h' : kH} {N' : Nat} (cw : kCs K.1.cls idx J 1) (hR : kRoom R J) (m : kMet J mu mc ms [x1] h N (kRt none h' N')) (hd : decode K.2.1 pc = .ok (.invokestatic idx, 3)) (hp : pc + 3 = pc') (hw : Nat.ble (st.map fun v => v.category).sum 8 = true) (hcs : cs + mc ≤ R.cells ∧ ss + ms ≤ R.slots)
    (kk : kEv K R F mu pc' ls st h' N' (cs + mc) (ss + ms)) : kEv K R F mu pc ls (x1 :: st) h N cs ss :=
  k_callS1 cw hR m hd hp hw hcs (fun v1 h1 N1 hq => by obtain ⟨h1, rfl, rfl⟩ := hq; cases h1; exact kk) (fun E h1 N1 hq => by obtain ⟨hq, -⟩ := hq; cases hq)
theorem k_callSd2 {idx : Nat} {x1 x2 : Value} {v : Value} {h' : kH} {N' : Nat} (cw : kCs K.1.cls idx J 2) (hR : kRoom R J) (m : kMet J mu mc ms [x1, x2] h N (kRt (some v) h' N')) (hd : decode K.2.1 pc = .ok (.invokestatic idx, 3)) (hp : pc + 3 = pc') (hw : Nat.ble (st.map fun v => v.category).sum 8 = true) (hcs : cs + mc ≤ R.cells ∧ ss + ms ≤ R.slots)
    (kk : kEv K R F mu pc' ls (v :: st) h' N' (cs + mc) (ss + ms)) : kEv K R F mu pc ls (x2 :: x1 :: st) h N cs ss :=
  k_callS2 cw hR m hd hp hw hcs (fun v1 h1 N1 hq => by obtain ⟨h1, rfl, rfl⟩ := hq; cases h1; exact kk) (fun E h1 N1 hq => by obtain ⟨hq, -⟩ := hq; cases hq)
theorem k_callSv2 {idx : Nat} {x1 x2 : Value} {h' : kH} {N' : Nat} (cw : kCs K.1.cls idx J 2) (hR : kRoom R J) (m : kMet J mu mc ms [x1, x2] h N (kRt none h' N')) (hd : decode K.2.1 pc = .ok (.invokestatic idx, 3)) (hp : pc + 3 = pc') (hw : Nat.ble (st.map fun v => v.category).sum 8 = true) (hcs : cs + mc ≤ R.cells ∧ ss + ms ≤ R.slots)
    (kk : kEv K R F mu pc' ls st h' N' (cs + mc) (ss + ms)) : kEv K R F mu pc ls (x2 :: x1 :: st) h N cs ss :=
  k_callS2 cw hR m hd hp hw hcs (fun v1 h1 N1 hq => by obtain ⟨h1, rfl, rfl⟩ := hq; cases h1; exact kk) (fun E h1 N1 hq => by obtain ⟨hq, -⟩ := hq; cases hq)
theorem k_callSd3 {idx : Nat} {x1 x2 x3 : Value} {v : Value} {h' : kH} {N' : Nat} (cw : kCs K.1.cls idx J 3) (hR : kRoom R J) (m : kMet J mu mc ms [x1, x2, x3] h N (kRt (some v) h' N')) (hd : decode K.2.1 pc = .ok (.invokestatic idx, 3)) (hp : pc + 3 = pc') (hw : Nat.ble (st.map fun v => v.category).sum 8 = true) (hcs : cs + mc ≤ R.cells ∧ ss + ms ≤ R.slots)
    (kk : kEv K R F mu pc' ls (v :: st) h' N' (cs + mc) (ss + ms)) : kEv K R F mu pc ls (x3 :: x2 :: x1 :: st) h N cs ss :=
  k_callS3 cw hR m hd hp hw hcs (fun v1 h1 N1 hq => by obtain ⟨h1, rfl, rfl⟩ := hq; cases h1; exact kk) (fun E h1 N1 hq => by obtain ⟨hq, -⟩ := hq; cases hq)
theorem k_callSv3 {idx : Nat} {x1 x2 x3 : Value} {h' : kH} {N' : Nat} (cw : kCs K.1.cls idx J 3) (hR : kRoom R J) (m : kMet J mu mc ms [x1, x2, x3] h N (kRt none h' N')) (hd : decode K.2.1 pc = .ok (.invokestatic idx, 3)) (hp : pc + 3 = pc') (hw : Nat.ble (st.map fun v => v.category).sum 8 = true) (hcs : cs + mc ≤ R.cells ∧ ss + ms ≤ R.slots)
    (kk : kEv K R F mu pc' ls st h' N' (cs + mc) (ss + ms)) : kEv K R F mu pc ls (x3 :: x2 :: x1 :: st) h N cs ss :=
  k_callS3 cw hR m hd hp hw hcs (fun v1 h1 N1 hq => by obtain ⟨h1, rfl, rfl⟩ := hq; cases h1; exact kk) (fun E h1 N1 hq => by obtain ⟨hq, -⟩ := hq; cases hq)
theorem k_callSNd1 {idx : Nat} {host : String} {x1 : Value} {v : Value} {h' : kH} {N' : Nat} (cw : kCsN K.1.cls idx J host 1) (hR : kRoom R J) (m : kMet J mu mc ms [x1] h N (kRt (some v) h' N')) (hd : decode K.2.1 pc = .ok (.invokestatic idx, 3)) (hp : pc + 3 = pc') (hw : Nat.ble (st.map fun v => v.category).sum 8 = true) (hcs : cs + mc ≤ R.cells ∧ ss + ms ≤ R.slots)
    (kk : kEv K R F mu pc' ls (v :: st) h' N' (cs + mc) (ss + ms)) : kEv K R F mu pc ls (x1 :: st) h N cs ss :=
  k_callSN1 cw hR m hd hp hw hcs (fun v1 h1 N1 hq => by obtain ⟨h1, rfl, rfl⟩ := hq; cases h1; exact kk) (fun E h1 N1 hq => by obtain ⟨hq, -⟩ := hq; cases hq)
theorem k_callSNv1 {idx : Nat} {host : String} {x1 : Value} {h' : kH} {N' : Nat} (cw : kCsN K.1.cls idx J host 1) (hR : kRoom R J) (m : kMet J mu mc ms [x1] h N (kRt none h' N')) (hd : decode K.2.1 pc = .ok (.invokestatic idx, 3)) (hp : pc + 3 = pc') (hw : Nat.ble (st.map fun v => v.category).sum 8 = true) (hcs : cs + mc ≤ R.cells ∧ ss + ms ≤ R.slots)
    (kk : kEv K R F mu pc' ls st h' N' (cs + mc) (ss + ms)) : kEv K R F mu pc ls (x1 :: st) h N cs ss :=
  k_callSN1 cw hR m hd hp hw hcs (fun v1 h1 N1 hq => by obtain ⟨h1, rfl, rfl⟩ := hq; cases h1; exact kk) (fun E h1 N1 hq => by obtain ⟨hq, -⟩ := hq; cases hq)
theorem k_callSNd2 {idx : Nat} {host : String} {x1 x2 : Value} {v : Value} {h' : kH} {N' : Nat} (cw : kCsN K.1.cls idx J host 2) (hR : kRoom R J) (m : kMet J mu mc ms [x1, x2] h N (kRt (some v) h' N')) (hd : decode K.2.1 pc = .ok (.invokestatic idx, 3)) (hp : pc + 3 = pc') (hw : Nat.ble (st.map fun v => v.category).sum 8 = true) (hcs : cs + mc ≤ R.cells ∧ ss + ms ≤ R.slots)
    (kk : kEv K R F mu pc' ls (v :: st) h' N' (cs + mc) (ss + ms)) : kEv K R F mu pc ls (x2 :: x1 :: st) h N cs ss :=
  k_callSN2 cw hR m hd hp hw hcs (fun v1 h1 N1 hq => by obtain ⟨h1, rfl, rfl⟩ := hq; cases h1; exact kk) (fun E h1 N1 hq => by obtain ⟨hq, -⟩ := hq; cases hq)
theorem k_callSNv2 {idx : Nat} {host : String} {x1 x2 : Value} {h' : kH} {N' : Nat} (cw : kCsN K.1.cls idx J host 2) (hR : kRoom R J) (m : kMet J mu mc ms [x1, x2] h N (kRt none h' N')) (hd : decode K.2.1 pc = .ok (.invokestatic idx, 3)) (hp : pc + 3 = pc') (hw : Nat.ble (st.map fun v => v.category).sum 8 = true) (hcs : cs + mc ≤ R.cells ∧ ss + ms ≤ R.slots)
    (kk : kEv K R F mu pc' ls st h' N' (cs + mc) (ss + ms)) : kEv K R F mu pc ls (x2 :: x1 :: st) h N cs ss :=
  k_callSN2 cw hR m hd hp hw hcs (fun v1 h1 N1 hq => by obtain ⟨h1, rfl, rfl⟩ := hq; cases h1; exact kk) (fun E h1 N1 hq => by obtain ⟨hq, -⟩ := hq; cases hq)
theorem k_callSTd0 {idx : Nat} {v : Value} {h' : kH} {N' : Nat} (cw : kCsT K.1.cls idx J 0) (hR : kRoom R J) (m : kMet J mu mc ms [] h N (kRt (some v) h' N')) (hd : decode K.2.1 pc = .ok (.invokestatic idx, 3)) (hp : pc + 3 = pc') (hw : Nat.ble (st.map fun v => v.category).sum 8 = true) (hcs : cs + mc ≤ R.cells ∧ ss + ms ≤ R.slots) (hht : kCode J = Cond.codeWith J.1 J.2.1 J.2.2.1 J.2.2.2.1 J.2.2.2.2.1)
    (kk : kEv K R F mu pc' ls (v :: st) h' N' (cs + mc) (ss + ms)) : kEv K R F mu pc ls (st) h N cs ss :=
  k_callST0 cw hR m hd hp hw hcs (fun v1 h1 N1 hq => by obtain ⟨h1, rfl, rfl⟩ := hq; cases h1; exact kk) (fun E h1 N1 hq => by obtain ⟨hq, -⟩ := hq; cases hq) hht
theorem k_callSTv0 {idx : Nat} {h' : kH} {N' : Nat} (cw : kCsT K.1.cls idx J 0) (hR : kRoom R J) (m : kMet J mu mc ms [] h N (kRt none h' N')) (hd : decode K.2.1 pc = .ok (.invokestatic idx, 3)) (hp : pc + 3 = pc') (hw : Nat.ble (st.map fun v => v.category).sum 8 = true) (hcs : cs + mc ≤ R.cells ∧ ss + ms ≤ R.slots) (hht : kCode J = Cond.codeWith J.1 J.2.1 J.2.2.1 J.2.2.2.1 J.2.2.2.2.1)
    (kk : kEv K R F mu pc' ls st h' N' (cs + mc) (ss + ms)) : kEv K R F mu pc ls (st) h N cs ss :=
  k_callST0 cw hR m hd hp hw hcs (fun v1 h1 N1 hq => by obtain ⟨h1, rfl, rfl⟩ := hq; cases h1; exact kk) (fun E h1 N1 hq => by obtain ⟨hq, -⟩ := hq; cases hq) hht
theorem k_callSTd1 {idx : Nat} {x1 : Value} {v : Value} {h' : kH} {N' : Nat} (cw : kCsT K.1.cls idx J 1) (hR : kRoom R J) (m : kMet J mu mc ms [x1] h N (kRt (some v) h' N')) (hd : decode K.2.1 pc = .ok (.invokestatic idx, 3)) (hp : pc + 3 = pc') (hw : Nat.ble (st.map fun v => v.category).sum 8 = true) (hcs : cs + mc ≤ R.cells ∧ ss + ms ≤ R.slots) (hht : kCode J = Cond.codeWith J.1 J.2.1 J.2.2.1 J.2.2.2.1 J.2.2.2.2.1)
    (kk : kEv K R F mu pc' ls (v :: st) h' N' (cs + mc) (ss + ms)) : kEv K R F mu pc ls (x1 :: st) h N cs ss :=
  k_callST1 cw hR m hd hp hw hcs (fun v1 h1 N1 hq => by obtain ⟨h1, rfl, rfl⟩ := hq; cases h1; exact kk) (fun E h1 N1 hq => by obtain ⟨hq, -⟩ := hq; cases hq) hht
theorem k_callSTv1 {idx : Nat} {x1 : Value} {h' : kH} {N' : Nat} (cw : kCsT K.1.cls idx J 1) (hR : kRoom R J) (m : kMet J mu mc ms [x1] h N (kRt none h' N')) (hd : decode K.2.1 pc = .ok (.invokestatic idx, 3)) (hp : pc + 3 = pc') (hw : Nat.ble (st.map fun v => v.category).sum 8 = true) (hcs : cs + mc ≤ R.cells ∧ ss + ms ≤ R.slots) (hht : kCode J = Cond.codeWith J.1 J.2.1 J.2.2.1 J.2.2.2.1 J.2.2.2.2.1)
    (kk : kEv K R F mu pc' ls st h' N' (cs + mc) (ss + ms)) : kEv K R F mu pc ls (x1 :: st) h N cs ss :=
  k_callST1 cw hR m hd hp hw hcs (fun v1 h1 N1 hq => by obtain ⟨h1, rfl, rfl⟩ := hq; cases h1; exact kk) (fun E h1 N1 hq => by obtain ⟨hq, -⟩ := hq; cases hq) hht
theorem k_callSTd2 {idx : Nat} {x1 x2 : Value} {v : Value} {h' : kH} {N' : Nat} (cw : kCsT K.1.cls idx J 2) (hR : kRoom R J) (m : kMet J mu mc ms [x1, x2] h N (kRt (some v) h' N')) (hd : decode K.2.1 pc = .ok (.invokestatic idx, 3)) (hp : pc + 3 = pc') (hw : Nat.ble (st.map fun v => v.category).sum 8 = true) (hcs : cs + mc ≤ R.cells ∧ ss + ms ≤ R.slots) (hht : kCode J = Cond.codeWith J.1 J.2.1 J.2.2.1 J.2.2.2.1 J.2.2.2.2.1)
    (kk : kEv K R F mu pc' ls (v :: st) h' N' (cs + mc) (ss + ms)) : kEv K R F mu pc ls (x2 :: x1 :: st) h N cs ss :=
  k_callST2 cw hR m hd hp hw hcs (fun v1 h1 N1 hq => by obtain ⟨h1, rfl, rfl⟩ := hq; cases h1; exact kk) (fun E h1 N1 hq => by obtain ⟨hq, -⟩ := hq; cases hq) hht
theorem k_callSTv2 {idx : Nat} {x1 x2 : Value} {h' : kH} {N' : Nat} (cw : kCsT K.1.cls idx J 2) (hR : kRoom R J) (m : kMet J mu mc ms [x1, x2] h N (kRt none h' N')) (hd : decode K.2.1 pc = .ok (.invokestatic idx, 3)) (hp : pc + 3 = pc') (hw : Nat.ble (st.map fun v => v.category).sum 8 = true) (hcs : cs + mc ≤ R.cells ∧ ss + ms ≤ R.slots) (hht : kCode J = Cond.codeWith J.1 J.2.1 J.2.2.1 J.2.2.2.1 J.2.2.2.2.1)
    (kk : kEv K R F mu pc' ls st h' N' (cs + mc) (ss + ms)) : kEv K R F mu pc ls (x2 :: x1 :: st) h N cs ss :=
  k_callST2 cw hR m hd hp hw hcs (fun v1 h1 N1 hq => by obtain ⟨h1, rfl, rfl⟩ := hq; cases h1; exact kk) (fun E h1 N1 hq => by obtain ⟨hq, -⟩ := hq; cases hq) hht
theorem k_callSTd3 {idx : Nat} {x1 x2 x3 : Value} {v : Value} {h' : kH} {N' : Nat} (cw : kCsT K.1.cls idx J 3) (hR : kRoom R J) (m : kMet J mu mc ms [x1, x2, x3] h N (kRt (some v) h' N')) (hd : decode K.2.1 pc = .ok (.invokestatic idx, 3)) (hp : pc + 3 = pc') (hw : Nat.ble (st.map fun v => v.category).sum 8 = true) (hcs : cs + mc ≤ R.cells ∧ ss + ms ≤ R.slots) (hht : kCode J = Cond.codeWith J.1 J.2.1 J.2.2.1 J.2.2.2.1 J.2.2.2.2.1)
    (kk : kEv K R F mu pc' ls (v :: st) h' N' (cs + mc) (ss + ms)) : kEv K R F mu pc ls (x3 :: x2 :: x1 :: st) h N cs ss :=
  k_callST3 cw hR m hd hp hw hcs (fun v1 h1 N1 hq => by obtain ⟨h1, rfl, rfl⟩ := hq; cases h1; exact kk) (fun E h1 N1 hq => by obtain ⟨hq, -⟩ := hq; cases hq) hht
theorem k_callSTv3 {idx : Nat} {x1 x2 x3 : Value} {h' : kH} {N' : Nat} (cw : kCsT K.1.cls idx J 3) (hR : kRoom R J) (m : kMet J mu mc ms [x1, x2, x3] h N (kRt none h' N')) (hd : decode K.2.1 pc = .ok (.invokestatic idx, 3)) (hp : pc + 3 = pc') (hw : Nat.ble (st.map fun v => v.category).sum 8 = true) (hcs : cs + mc ≤ R.cells ∧ ss + ms ≤ R.slots) (hht : kCode J = Cond.codeWith J.1 J.2.1 J.2.2.1 J.2.2.2.1 J.2.2.2.2.1)
    (kk : kEv K R F mu pc' ls st h' N' (cs + mc) (ss + ms)) : kEv K R F mu pc ls (x3 :: x2 :: x1 :: st) h N cs ss :=
  k_callST3 cw hR m hd hp hw hcs (fun v1 h1 N1 hq => by obtain ⟨h1, rfl, rfl⟩ := hq; cases h1; exact kk) (fun E h1 N1 hq => by obtain ⟨hq, -⟩ := hq; cases hq) hht
theorem k_callSTd4 {idx : Nat} {x1 x2 x3 x4 : Value} {v : Value} {h' : kH} {N' : Nat} (cw : kCsT K.1.cls idx J 4) (hR : kRoom R J) (m : kMet J mu mc ms [x1, x2, x3, x4] h N (kRt (some v) h' N')) (hd : decode K.2.1 pc = .ok (.invokestatic idx, 3)) (hp : pc + 3 = pc') (hw : Nat.ble (st.map fun v => v.category).sum 8 = true) (hcs : cs + mc ≤ R.cells ∧ ss + ms ≤ R.slots) (hht : kCode J = Cond.codeWith J.1 J.2.1 J.2.2.1 J.2.2.2.1 J.2.2.2.2.1)
    (kk : kEv K R F mu pc' ls (v :: st) h' N' (cs + mc) (ss + ms)) : kEv K R F mu pc ls (x4 :: x3 :: x2 :: x1 :: st) h N cs ss :=
  k_callST4 cw hR m hd hp hw hcs (fun v1 h1 N1 hq => by obtain ⟨h1, rfl, rfl⟩ := hq; cases h1; exact kk) (fun E h1 N1 hq => by obtain ⟨hq, -⟩ := hq; cases hq) hht
theorem k_callSTv4 {idx : Nat} {x1 x2 x3 x4 : Value} {h' : kH} {N' : Nat} (cw : kCsT K.1.cls idx J 4) (hR : kRoom R J) (m : kMet J mu mc ms [x1, x2, x3, x4] h N (kRt none h' N')) (hd : decode K.2.1 pc = .ok (.invokestatic idx, 3)) (hp : pc + 3 = pc') (hw : Nat.ble (st.map fun v => v.category).sum 8 = true) (hcs : cs + mc ≤ R.cells ∧ ss + ms ≤ R.slots) (hht : kCode J = Cond.codeWith J.1 J.2.1 J.2.2.1 J.2.2.2.1 J.2.2.2.2.1)
    (kk : kEv K R F mu pc' ls st h' N' (cs + mc) (ss + ms)) : kEv K R F mu pc ls (x4 :: x3 :: x2 :: x1 :: st) h N cs ss :=
  k_callST4 cw hR m hd hp hw hcs (fun v1 h1 N1 hq => by obtain ⟨h1, rfl, rfl⟩ := hq; cases h1; exact kk) (fun E h1 N1 hq => by obtain ⟨hq, -⟩ := hq; cases hq) hht
theorem k_callSTd5 {idx : Nat} {x1 x2 x3 x4 x5 : Value} {v : Value} {h' : kH} {N' : Nat} (cw : kCsT K.1.cls idx J 5) (hR : kRoom R J) (m : kMet J mu mc ms [x1, x2, x3, x4, x5] h N (kRt (some v) h' N')) (hd : decode K.2.1 pc = .ok (.invokestatic idx, 3)) (hp : pc + 3 = pc') (hw : Nat.ble (st.map fun v => v.category).sum 8 = true) (hcs : cs + mc ≤ R.cells ∧ ss + ms ≤ R.slots) (hht : kCode J = Cond.codeWith J.1 J.2.1 J.2.2.1 J.2.2.2.1 J.2.2.2.2.1)
    (kk : kEv K R F mu pc' ls (v :: st) h' N' (cs + mc) (ss + ms)) : kEv K R F mu pc ls (x5 :: x4 :: x3 :: x2 :: x1 :: st) h N cs ss :=
  k_callST5 cw hR m hd hp hw hcs (fun v1 h1 N1 hq => by obtain ⟨h1, rfl, rfl⟩ := hq; cases h1; exact kk) (fun E h1 N1 hq => by obtain ⟨hq, -⟩ := hq; cases hq) hht
theorem k_callSTv5 {idx : Nat} {x1 x2 x3 x4 x5 : Value} {h' : kH} {N' : Nat} (cw : kCsT K.1.cls idx J 5) (hR : kRoom R J) (m : kMet J mu mc ms [x1, x2, x3, x4, x5] h N (kRt none h' N')) (hd : decode K.2.1 pc = .ok (.invokestatic idx, 3)) (hp : pc + 3 = pc') (hw : Nat.ble (st.map fun v => v.category).sum 8 = true) (hcs : cs + mc ≤ R.cells ∧ ss + ms ≤ R.slots) (hht : kCode J = Cond.codeWith J.1 J.2.1 J.2.2.1 J.2.2.2.1 J.2.2.2.2.1)
    (kk : kEv K R F mu pc' ls st h' N' (cs + mc) (ss + ms)) : kEv K R F mu pc ls (x5 :: x4 :: x3 :: x2 :: x1 :: st) h N cs ss :=
  k_callST5 cw hR m hd hp hw hcs (fun v1 h1 N1 hq => by obtain ⟨h1, rfl, rfl⟩ := hq; cases h1; exact kk) (fun E h1 N1 hq => by obtain ⟨hq, -⟩ := hq; cases hq) hht
end KF
