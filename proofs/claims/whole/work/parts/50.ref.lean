/-! THE REFERENCE'S STATE: numbers (0 thrown, 1 changes, 2 errorAt, 3 failedAt, 4 reason, 5 detail, 6 isSaved, 7 flightN, 8 isStopped, 9 textN, 10 here, 11 end, 12 lineN, 13 isWrong, 14 isDoing) and rows (0 v, 1 before, 2 saved, 3 past, 4 flight, 5 mark, 6 text, 7 line, 8 isLeft, 9 words, 10 wordAt) -/
abbrev kY : Type := (Nat → Int32) × (Nat → Nat → Int32)
def yS (x : kY) (k : Nat) (v : Int32) : kY := (upd x.1 k v, x.2)
def yR (x : kY) (k : Nat) (f : Nat → Int32) : kY := (x.1, va_up x.2 k f)
def kHr (x : kY) (z : kE × kE) (i : Nat) : kE :=
  cond (Nat.beq i 116) (kO 12 [.int (x.1 0), .int (x.1 1), .int (x.1 2), .int (x.1 3), .int (x.1 4), .int (x.1 5), .int (x.1 6), .ref 117, .ref 118, .ref 119, .ref 120, .ref 121, .ref 122, .int (x.1 7), .int (x.1 8), .ref 123, .ref 124, .ref 125, .ref 126, .ref 127, .int (x.1 9), .int (x.1 10), .int (x.1 11), .int (x.1 12), .int (x.1 13), .int (x.1 14)])
  (cond (Nat.beq i 117) (kI 116 (x.2 0))
  (cond (Nat.beq i 118) (kI 116 (x.2 1))
  (cond (Nat.beq i 119) (kI 116 (x.2 2))
  (cond (Nat.beq i 120) (kI 928 (x.2 3))
  (cond (Nat.beq i 121) (kI 40 (x.2 4))
  (cond (Nat.beq i 122) (kI 64 (x.2 5))
  (cond (Nat.beq i 123) (kI 60 (x.2 6))
  (cond (Nat.beq i 124) (kI 40 (x.2 7))
  (cond (Nat.beq i 125) (kI 10 (x.2 8))
  (cond (Nat.beq i 126) (kI 52 (x.2 9))
  (cond (Nat.beq i 127) (kI 11 (x.2 10))
  (cond (Nat.beq i 128) z.1 (cond (Nat.beq i 129) z.2 (kI 0 (fun _ => 0)))))))))))))))
theorem kHr_Y {x : kY} {z : kE × kE} {k : Nat} {v : Int32} : ∀ j, j ≠ 116 → kHr x z j = kHr (yS x k v) z j := by
  intro j hj
  unfold kHr
  rw [beq_f hj]
  rfl
theorem kHr_Z0 {x : kY} {z : kE × kE} {f : Nat → Int32} : ∀ j, j ≠ 117 → kHr x z j = kHr (yR x 0 f) z j := by
  intro j hj
  unfold kHr
  rw [beq_f hj]
  rfl
theorem kHr_Z1 {x : kY} {z : kE × kE} {f : Nat → Int32} : ∀ j, j ≠ 118 → kHr x z j = kHr (yR x 1 f) z j := by
  intro j hj
  unfold kHr
  rw [beq_f hj]
  rfl
theorem kHr_Z2 {x : kY} {z : kE × kE} {f : Nat → Int32} : ∀ j, j ≠ 119 → kHr x z j = kHr (yR x 2 f) z j := by
  intro j hj
  unfold kHr
  rw [beq_f hj]
  rfl
theorem kHr_Z3 {x : kY} {z : kE × kE} {f : Nat → Int32} : ∀ j, j ≠ 120 → kHr x z j = kHr (yR x 3 f) z j := by
  intro j hj
  unfold kHr
  rw [beq_f hj]
  rfl
theorem kHr_Z4 {x : kY} {z : kE × kE} {f : Nat → Int32} : ∀ j, j ≠ 121 → kHr x z j = kHr (yR x 4 f) z j := by
  intro j hj
  unfold kHr
  rw [beq_f hj]
  rfl
theorem kHr_Z5 {x : kY} {z : kE × kE} {f : Nat → Int32} : ∀ j, j ≠ 122 → kHr x z j = kHr (yR x 5 f) z j := by
  intro j hj
  unfold kHr
  rw [beq_f hj]
  rfl
theorem kHr_Z6 {x : kY} {z : kE × kE} {f : Nat → Int32} : ∀ j, j ≠ 123 → kHr x z j = kHr (yR x 6 f) z j := by
  intro j hj
  unfold kHr
  rw [beq_f hj]
  rfl
theorem kHr_Z7 {x : kY} {z : kE × kE} {f : Nat → Int32} : ∀ j, j ≠ 124 → kHr x z j = kHr (yR x 7 f) z j := by
  intro j hj
  unfold kHr
  rw [beq_f hj]
  rfl
theorem kHr_Z8 {x : kY} {z : kE × kE} {f : Nat → Int32} : ∀ j, j ≠ 125 → kHr x z j = kHr (yR x 8 f) z j := by
  intro j hj
  unfold kHr
  rw [beq_f hj]
  rfl
theorem kHr_Z9 {x : kY} {z : kE × kE} {f : Nat → Int32} : ∀ j, j ≠ 126 → kHr x z j = kHr (yR x 9 f) z j := by
  intro j hj
  unfold kHr
  rw [beq_f hj]
  rfl
theorem kHr_Z10 {x : kY} {z : kE × kE} {f : Nat → Int32} : ∀ j, j ≠ 127 → kHr x z j = kHr (yR x 10 f) z j := by
  intro j hj
  unfold kHr
  rw [beq_f hj]
  rfl
section KFY
variable {K : kM} {R : Room} {F : kFn} {mu : Bool} {pc pc' : Nat} {ls st : List Value} {x : kY} {a9 : kH} {z9 : kE × kE} {N cs ss : Nat} {e : kE}
theorem kf_Y0 {v : Int32} (he : e = kHr (yS x 0 v) z9 116) (k : kEv K R F mu pc ls st (kTp a9 (kHr (yS x 0 v) z9)) N cs ss) : kEv K R F mu pc ls st (kU (kTp a9 (kHr x z9)) 116 e) N cs ss := by
  rw [kTp_V rfl, kU_to he kHr_Y]
  exact k
theorem kf_Y1 {v : Int32} (he : e = kHr (yS x 1 v) z9 116) (k : kEv K R F mu pc ls st (kTp a9 (kHr (yS x 1 v) z9)) N cs ss) : kEv K R F mu pc ls st (kU (kTp a9 (kHr x z9)) 116 e) N cs ss := by
  rw [kTp_V rfl, kU_to he kHr_Y]
  exact k
theorem kf_Y2 {v : Int32} (he : e = kHr (yS x 2 v) z9 116) (k : kEv K R F mu pc ls st (kTp a9 (kHr (yS x 2 v) z9)) N cs ss) : kEv K R F mu pc ls st (kU (kTp a9 (kHr x z9)) 116 e) N cs ss := by
  rw [kTp_V rfl, kU_to he kHr_Y]
  exact k
theorem kf_Y3 {v : Int32} (he : e = kHr (yS x 3 v) z9 116) (k : kEv K R F mu pc ls st (kTp a9 (kHr (yS x 3 v) z9)) N cs ss) : kEv K R F mu pc ls st (kU (kTp a9 (kHr x z9)) 116 e) N cs ss := by
  rw [kTp_V rfl, kU_to he kHr_Y]
  exact k
theorem kf_Y4 {v : Int32} (he : e = kHr (yS x 4 v) z9 116) (k : kEv K R F mu pc ls st (kTp a9 (kHr (yS x 4 v) z9)) N cs ss) : kEv K R F mu pc ls st (kU (kTp a9 (kHr x z9)) 116 e) N cs ss := by
  rw [kTp_V rfl, kU_to he kHr_Y]
  exact k
theorem kf_Y5 {v : Int32} (he : e = kHr (yS x 5 v) z9 116) (k : kEv K R F mu pc ls st (kTp a9 (kHr (yS x 5 v) z9)) N cs ss) : kEv K R F mu pc ls st (kU (kTp a9 (kHr x z9)) 116 e) N cs ss := by
  rw [kTp_V rfl, kU_to he kHr_Y]
  exact k
theorem kf_Y6 {v : Int32} (he : e = kHr (yS x 6 v) z9 116) (k : kEv K R F mu pc ls st (kTp a9 (kHr (yS x 6 v) z9)) N cs ss) : kEv K R F mu pc ls st (kU (kTp a9 (kHr x z9)) 116 e) N cs ss := by
  rw [kTp_V rfl, kU_to he kHr_Y]
  exact k
theorem kf_Y7 {v : Int32} (he : e = kHr (yS x 7 v) z9 116) (k : kEv K R F mu pc ls st (kTp a9 (kHr (yS x 7 v) z9)) N cs ss) : kEv K R F mu pc ls st (kU (kTp a9 (kHr x z9)) 116 e) N cs ss := by
  rw [kTp_V rfl, kU_to he kHr_Y]
  exact k
theorem kf_Y8 {v : Int32} (he : e = kHr (yS x 8 v) z9 116) (k : kEv K R F mu pc ls st (kTp a9 (kHr (yS x 8 v) z9)) N cs ss) : kEv K R F mu pc ls st (kU (kTp a9 (kHr x z9)) 116 e) N cs ss := by
  rw [kTp_V rfl, kU_to he kHr_Y]
  exact k
theorem kf_Y9 {v : Int32} (he : e = kHr (yS x 9 v) z9 116) (k : kEv K R F mu pc ls st (kTp a9 (kHr (yS x 9 v) z9)) N cs ss) : kEv K R F mu pc ls st (kU (kTp a9 (kHr x z9)) 116 e) N cs ss := by
  rw [kTp_V rfl, kU_to he kHr_Y]
  exact k
theorem kf_Y10 {v : Int32} (he : e = kHr (yS x 10 v) z9 116) (k : kEv K R F mu pc ls st (kTp a9 (kHr (yS x 10 v) z9)) N cs ss) : kEv K R F mu pc ls st (kU (kTp a9 (kHr x z9)) 116 e) N cs ss := by
  rw [kTp_V rfl, kU_to he kHr_Y]
  exact k
theorem kf_Y11 {v : Int32} (he : e = kHr (yS x 11 v) z9 116) (k : kEv K R F mu pc ls st (kTp a9 (kHr (yS x 11 v) z9)) N cs ss) : kEv K R F mu pc ls st (kU (kTp a9 (kHr x z9)) 116 e) N cs ss := by
  rw [kTp_V rfl, kU_to he kHr_Y]
  exact k
theorem kf_Y12 {v : Int32} (he : e = kHr (yS x 12 v) z9 116) (k : kEv K R F mu pc ls st (kTp a9 (kHr (yS x 12 v) z9)) N cs ss) : kEv K R F mu pc ls st (kU (kTp a9 (kHr x z9)) 116 e) N cs ss := by
  rw [kTp_V rfl, kU_to he kHr_Y]
  exact k
theorem kf_Y13 {v : Int32} (he : e = kHr (yS x 13 v) z9 116) (k : kEv K R F mu pc ls st (kTp a9 (kHr (yS x 13 v) z9)) N cs ss) : kEv K R F mu pc ls st (kU (kTp a9 (kHr x z9)) 116 e) N cs ss := by
  rw [kTp_V rfl, kU_to he kHr_Y]
  exact k
theorem kf_Y14 {v : Int32} (he : e = kHr (yS x 14 v) z9 116) (k : kEv K R F mu pc ls st (kTp a9 (kHr (yS x 14 v) z9)) N cs ss) : kEv K R F mu pc ls st (kU (kTp a9 (kHr x z9)) 116 e) N cs ss := by
  rw [kTp_V rfl, kU_to he kHr_Y]
  exact k
theorem kf_Z0 {f : Nat → Int32} (he : e = kHr (yR x 0 f) z9 117) (k : kEv K R F mu pc ls st (kTp a9 (kHr (yR x 0 f) z9)) N cs ss) : kEv K R F mu pc ls st (kU (kTp a9 (kHr x z9)) 117 e) N cs ss := by
  rw [kTp_V rfl, kU_to he kHr_Z0]
  exact k
theorem kf_Z1 {f : Nat → Int32} (he : e = kHr (yR x 1 f) z9 118) (k : kEv K R F mu pc ls st (kTp a9 (kHr (yR x 1 f) z9)) N cs ss) : kEv K R F mu pc ls st (kU (kTp a9 (kHr x z9)) 118 e) N cs ss := by
  rw [kTp_V rfl, kU_to he kHr_Z1]
  exact k
theorem kf_Z2 {f : Nat → Int32} (he : e = kHr (yR x 2 f) z9 119) (k : kEv K R F mu pc ls st (kTp a9 (kHr (yR x 2 f) z9)) N cs ss) : kEv K R F mu pc ls st (kU (kTp a9 (kHr x z9)) 119 e) N cs ss := by
  rw [kTp_V rfl, kU_to he kHr_Z2]
  exact k
theorem kf_Z3 {f : Nat → Int32} (he : e = kHr (yR x 3 f) z9 120) (k : kEv K R F mu pc ls st (kTp a9 (kHr (yR x 3 f) z9)) N cs ss) : kEv K R F mu pc ls st (kU (kTp a9 (kHr x z9)) 120 e) N cs ss := by
  rw [kTp_V rfl, kU_to he kHr_Z3]
  exact k
theorem kf_Z4 {f : Nat → Int32} (he : e = kHr (yR x 4 f) z9 121) (k : kEv K R F mu pc ls st (kTp a9 (kHr (yR x 4 f) z9)) N cs ss) : kEv K R F mu pc ls st (kU (kTp a9 (kHr x z9)) 121 e) N cs ss := by
  rw [kTp_V rfl, kU_to he kHr_Z4]
  exact k
theorem kf_Z5 {f : Nat → Int32} (he : e = kHr (yR x 5 f) z9 122) (k : kEv K R F mu pc ls st (kTp a9 (kHr (yR x 5 f) z9)) N cs ss) : kEv K R F mu pc ls st (kU (kTp a9 (kHr x z9)) 122 e) N cs ss := by
  rw [kTp_V rfl, kU_to he kHr_Z5]
  exact k
theorem kf_Z6 {f : Nat → Int32} (he : e = kHr (yR x 6 f) z9 123) (k : kEv K R F mu pc ls st (kTp a9 (kHr (yR x 6 f) z9)) N cs ss) : kEv K R F mu pc ls st (kU (kTp a9 (kHr x z9)) 123 e) N cs ss := by
  rw [kTp_V rfl, kU_to he kHr_Z6]
  exact k
theorem kf_Z7 {f : Nat → Int32} (he : e = kHr (yR x 7 f) z9 124) (k : kEv K R F mu pc ls st (kTp a9 (kHr (yR x 7 f) z9)) N cs ss) : kEv K R F mu pc ls st (kU (kTp a9 (kHr x z9)) 124 e) N cs ss := by
  rw [kTp_V rfl, kU_to he kHr_Z7]
  exact k
theorem kf_Z8 {f : Nat → Int32} (he : e = kHr (yR x 8 f) z9 125) (k : kEv K R F mu pc ls st (kTp a9 (kHr (yR x 8 f) z9)) N cs ss) : kEv K R F mu pc ls st (kU (kTp a9 (kHr x z9)) 125 e) N cs ss := by
  rw [kTp_V rfl, kU_to he kHr_Z8]
  exact k
theorem kf_Z9 {f : Nat → Int32} (he : e = kHr (yR x 9 f) z9 126) (k : kEv K R F mu pc ls st (kTp a9 (kHr (yR x 9 f) z9)) N cs ss) : kEv K R F mu pc ls st (kU (kTp a9 (kHr x z9)) 126 e) N cs ss := by
  rw [kTp_V rfl, kU_to he kHr_Z9]
  exact k
theorem kf_Z10 {f : Nat → Int32} (he : e = kHr (yR x 10 f) z9 127) (k : kEv K R F mu pc ls st (kTp a9 (kHr (yR x 10 f) z9)) N cs ss) : kEv K R F mu pc ls st (kU (kTp a9 (kHr x z9)) 127 e) N cs ss := by
  rw [kTp_V rfl, kU_to he kHr_Z10]
  exact k
theorem k_ialdc {i n c : Nat} {f : Nat → Int32} {j : Int32} {h : kH} (hc : j.toNatClampNeg = c) (hd : decode K.2.1 pc = .ok (.iaload, 1)) (hp : pc + 1 = pc') (hi : i < N) (he : h i = kI n f) (hin : vp_in j n)
    (kk : kEv K R F mu pc' ls (.int (f c) :: st) h N cs ss) : kEv K R F mu pc ls (.int j :: .ref i :: st) h N cs ss := by
  subst hc
  exact k_iald hd hp hi he hin kk
theorem k_ialdv {i n c : Nat} {f : Nat → Int32} {j v : Int32} {h : kH} (hc : j.toNatClampNeg = c) (hv : f c = v) (hd : decode K.2.1 pc = .ok (.iaload, 1)) (hp : pc + 1 = pc') (hi : i < N) (he : h i = kI n f) (hin : vp_in j n)
    (kk : kEv K R F mu pc' ls (.int v :: st) h N cs ss) : kEv K R F mu pc ls (.int j :: .ref i :: st) h N cs ss := by
  subst hc
  subst hv
  exact k_iald hd hp hi he hin kk
theorem k_iastc {i n c : Nat} {f : Nat → Int32} {j v : Int32} {h : kH} (hc : j.toNatClampNeg = c) (hd : decode K.2.1 pc = .ok (.iastore, 1)) (hp : pc + 1 = pc') (hi : i < N) (he : h i = kI n f) (hin : vp_in j n)
    (kk : kEv K R F mu pc' ls st (kU h i (kI n (upd f c v))) N cs ss) : kEv K R F mu pc ls (.int v :: .int j :: .ref i :: st) h N cs ss := by
  subst hc
  exact k_iast hd hp hi he hin kk
end KFY
