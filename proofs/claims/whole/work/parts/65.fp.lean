/-! SHARES AS FLOATS: of whole numbers below 2 ^ 24. A float between 0 and 2 by its fields: mkF. -/
def mkF (E F : Nat) : UInt32 := UInt32.ofNat (E * 8388608 + F)
theorem mkF_n {E F : Nat} (hE : E < 255) (hF : F < 8388608) : (mkF E F).toNat = E * 8388608 + F := by
  unfold mkF
  exact UInt32.toNat_ofNat_of_lt' (show _ < 4294967296 by omega)
theorem b32_t : FP.Core.b32.tails = 8388608 := by decide
theorem b32_x : FP.Core.b32.exps = 256 := by decide
theorem b32_q : FP.Core.b32.qmin = -149 := by decide
theorem b32_Q : FP.Core.b32.qmax = 104 := by decide
theorem b32_p : FP.Core.b32.p = 24 := rfl
theorem b64_t : FP.Core.b64.tails = 4503599627370496 := by decide
theorem b64_x : FP.Core.b64.exps = 2048 := by decide
theorem b64_q : FP.Core.b64.qmin = -1074 := by decide
theorem b64_Q : FP.Core.b64.qmax = 971 := by decide
theorem b64_p : FP.Core.b64.p = 53 := rfl
theorem dec_mk {E F : Nat} (h1 : 1 ≤ E) (hE : E < 255) (hF : F < 8388608) : FP.Core.decode FP.Core.b32 (mkF E F).toNat = .fin false (8388608 + F) ((E : Int) - 150) := by
  rw [mkF_n hE hF]
  have fe : FP.Core.fieldE FP.Core.b32 (E * 8388608 + F) = E := by unfold FP.Core.fieldE; rw [b32_t, b32_x]; omega
  have ft : FP.Core.fieldT FP.Core.b32 (E * 8388608 + F) = F := by unfold FP.Core.fieldT; rw [b32_t]; omega
  have fs : FP.Core.fieldS FP.Core.b32 (E * 8388608 + F) = false := by
    unfold FP.Core.fieldS
    rw [b32_t, b32_x, show (E * 8388608 + F) / 8388608 / 256 % 2 = 0 by omega]
    rfl
  unfold FP.Core.decode
  rw [fe, ft, fs, b32_t, b32_x, b32_q, if_neg (by omega), if_neg (by omega)]
  congr 1
  omega
theorem dec_0 : FP.Core.decode FP.Core.b32 (0 : UInt32).toNat = .fin false 0 (-149) := by decide +kernel
theorem enc_mk {F : Nat} {q : Int} (hF : F < 8388608) (h1 : -149 ≤ q) (h2 : q ≤ 104) : UInt32.ofNat (FP.Core.encode FP.Core.b32 (.fin false (8388608 + F) q)) = mkF (q + 150).toNat F := by
  unfold FP.Core.encode
  simp only
  rw [b32_t, if_neg (by omega)]
  unfold FP.Core.assemble mkF
  rw [b32_t, b32_x, b32_q]
  have e1 : (q - -149).toNat + 1 = (q + 150).toNat := by omega
  have e2 : (false.toNat * 256 + (q + 150).toNat) * 8388608 + (8388608 + F - 8388608) = (q + 150).toNat * 8388608 + F := by
    rw [Nat.add_sub_cancel_left, show false.toNat = 0 from rfl, Nat.zero_mul, Nat.zero_add]
  rw [e1, e2]
theorem log2_is {A l : Nat} (h1 : 2 ^ l ≤ A) (h2 : A < 2 ^ (l + 1)) : A.log2 = l := by
  have h0 : A ≠ 0 := by
    have := Nat.two_pow_pos l
    omega
  have a := (Nat.log2_lt h0).2 h2
  have b := (Nat.le_log2 h0).2 h1
  omega
theorem lead_1 {A : Nat} (h : A ≠ 0) : FP.Core.leading A 1 = (A.log2 : Int) := by
  unfold FP.Core.leading
  have e : (1 : Nat).log2 = 0 := by decide
  simp only [e]
  have h1 : ((A.log2 : Int) - ((0 : Nat) : Int)).toNat = A.log2 := by omega
  have h2 : (-((A.log2 : Int) - ((0 : Nat) : Int))).toNat = 0 := by omega
  rw [h1, h2, if_pos]
  · omega
  · rw [Nat.one_mul, Nat.pow_zero, Nat.mul_one]
    exact (Nat.le_log2 h).1 (Nat.le_refl _)
theorem near_1 (c : Nat) : FP.Core.nearest c 1 = c := by
  unfold FP.Core.nearest
  rw [Nat.mod_one, if_pos (by omega), Nat.div_one]
theorem near_m {c d : Nat} (hd : 0 < d) : FP.Core.nearest (c * d) d = c := by
  unfold FP.Core.nearest
  rw [Nat.mul_mod_left, if_pos (by omega), Nat.mul_div_cancel _ hd]
theorem near_b (A B : Nat) : A / B ≤ FP.Core.nearest A B ∧ FP.Core.nearest A B ≤ A / B + 1 := by
  unfold FP.Core.nearest
  split
  · omega
  · split <;> omega
/-- what fits after so many doublings -/
theorem rr_up {f : FP.Core.Fmt} {s : Bool} {A i P : Nat} {e : Int} (hp : f.p = P + 1) (hA : A ≠ 0) (h1 : 2 ^ P ≤ A * 2 ^ i) (h2 : A * 2 ^ i < 2 ^ (P + 1)) (hi : i ≤ P) (q1 : f.qmin ≤ e - i) (q2 : e - i ≤ f.qmax) : FP.Core.roundRatio f s A 1 e = .fin s (A * 2 ^ i) (e - i) := by
  have l1 : 2 ^ (P - i) ≤ A := by
    have : 2 ^ (P - i) * 2 ^ i ≤ A * 2 ^ i := by rw [← Nat.pow_add, Nat.sub_add_cancel hi]; exact h1
    exact Nat.le_of_mul_le_mul_right this (Nat.two_pow_pos i)
  have l2 : A < 2 ^ (P - i + 1) := by
    have : A * 2 ^ i < 2 ^ (P - i + 1) * 2 ^ i := by rw [← Nat.pow_add, show P - i + 1 + i = P + 1 by omega]; exact h2
    exact Nat.lt_of_mul_lt_mul_right this
  have lg := log2_is l1 l2
  have qu : FP.Core.quantum f A 1 e = e - i := by
    unfold FP.Core.quantum
    rw [lead_1 hA, lg, hp]
    omega
  unfold FP.Core.roundRatio
  rw [if_neg hA, qu]
  unfold FP.Core.roundAt FP.Core.unitsNum FP.Core.unitsDen
  rw [show (e - (e - (i : Int))).toNat = i by omega, show (e - (i : Int) - e).toNat = 0 by omega, Nat.pow_zero, Nat.one_mul, near_1]
  unfold FP.Core.settle FP.Core.bound
  rw [hp, if_pos h2, if_pos q2]
/-- what fits after so many halvings -/
theorem rr_dn {f : FP.Core.Fmt} {s : Bool} {c i P : Nat} {e : Int} (hp : f.p = P + 1) (h1 : 2 ^ P ≤ c) (h2 : c < 2 ^ (P + 1)) (q1 : f.qmin ≤ e + i) (q2 : e + i ≤ f.qmax) : FP.Core.roundRatio f s (c * 2 ^ i) 1 e = .fin s c (e + i) := by
  have hA : c * 2 ^ i ≠ 0 := by
    have := Nat.mul_pos (show 0 < c by have := Nat.two_pow_pos P; omega) (Nat.two_pow_pos i)
    omega
  have lg : (c * 2 ^ i).log2 = P + i := log2_is (by rw [Nat.pow_add]; exact Nat.mul_le_mul_right _ h1) (by rw [show P + i + 1 = (P + 1) + i by omega, Nat.pow_add]; exact Nat.mul_lt_mul_of_pos_right h2 (Nat.two_pow_pos i))
  have qu : FP.Core.quantum f (c * 2 ^ i) 1 e = e + i := by
    unfold FP.Core.quantum
    rw [lead_1 hA, lg, hp]
    omega
  unfold FP.Core.roundRatio
  rw [if_neg hA, qu]
  unfold FP.Core.roundAt FP.Core.unitsNum FP.Core.unitsDen
  rw [show (e - (e + (i : Int))).toNat = 0 by omega, show (e + (i : Int) - e).toNat = i by omega, Nat.pow_zero, Nat.mul_one, Nat.one_mul, near_m (Nat.two_pow_pos i)]
  unfold FP.Core.settle FP.Core.bound
  rw [hp, if_pos h2, if_pos q2]
/-- a number by its leading digit -/
theorem norm_of {a P : Nat} (h0 : 0 < a) (h : a < 2 ^ (P + 1)) : ∃ l, l ≤ P ∧ 2 ^ l ≤ a ∧ a < 2 ^ (l + 1) ∧ 2 ^ P ≤ a * 2 ^ (P - l) ∧ a * 2 ^ (P - l) < 2 ^ (P + 1) := by
  have hn : a ≠ 0 := by omega
  have h1 := (Nat.le_log2 hn).1 (Nat.le_refl _)
  have h2 : a < 2 ^ (a.log2 + 1) := (Nat.log2_lt hn).1 (Nat.lt_succ_self _)
  have h3 : a.log2 < P + 1 := (Nat.log2_lt hn).2 h
  refine ⟨a.log2, by omega, h1, h2, ?_, ?_⟩
  · have : 2 ^ a.log2 * 2 ^ (P - a.log2) ≤ a * 2 ^ (P - a.log2) := Nat.mul_le_mul_right _ h1
    rw [← Nat.pow_add, show a.log2 + (P - a.log2) = P by omega] at this
    exact this
  · have : a * 2 ^ (P - a.log2) < 2 ^ (a.log2 + 1) * 2 ^ (P - a.log2) := Nat.mul_lt_mul_of_pos_right h2 (Nat.two_pow_pos _)
    rw [← Nat.pow_add, show a.log2 + 1 + (P - a.log2) = P + 1 by omega] at this
    exact this
theorem ofInt_nI {a : Nat} (h : a < 2 ^ 31) : FP.Core.ofInt (nI a).toInt = .fin false a 0 := by
  unfold FP.Core.ofInt
  rw [nI_toInt h, decide_eq_false (by omega)]
  rfl
theorem i2f_mk {a : Nat} (h0 : 0 < a) (ha : a < 2 ^ 24) : ∃ l F, l ≤ 23 ∧ F < 8388608 ∧ a * 2 ^ (23 - l) = 8388608 + F ∧ 2 ^ l ≤ a ∧ a < 2 ^ (l + 1) ∧ FP.i2f (nI a) = mkF (127 + l) F := by
  obtain ⟨l, hl, a1, a2, b1, b2⟩ := norm_of (P := 23) h0 ha
  refine ⟨l, a * 2 ^ (23 - l) - 8388608, hl, by omega, by omega, a1, a2, ?_⟩
  show UInt32.ofNat (FP.Core.encode FP.Core.b32 (FP.Core.round FP.Core.b32 (FP.Core.ofInt (nI a).toInt))) = _
  rw [ofInt_nI (by omega)]
  show UInt32.ofNat (FP.Core.encode FP.Core.b32 (FP.Core.roundRatio FP.Core.b32 false a 1 0)) = _
  rw [rr_up (P := 23) (i := 23 - l) b32_p (by omega) b1 b2 (by omega) (by rw [b32_q]; omega) (by rw [b32_Q]; omega)]
  have e : a * 2 ^ (23 - l) = 8388608 + (a * 2 ^ (23 - l) - 8388608) := by omega
  rw [e, enc_mk (by omega) (by omega) (by omega), show ((0 : Int) - ((23 - l : Nat) : Int) + 150).toNat = 127 + l by omega, ← e]
/-- what a share is: 0, or a float from 2 ^ -24 to 1 by its fields -/
def isSh (f : UInt32) : Prop := f = 0 ∨ ∃ E F, 103 ≤ E ∧ E ≤ 127 ∧ F < 8388608 ∧ f = mkF E F
theorem settle_mk {m : Nat} {q : Int} (h1 : 8388608 ≤ m) (h2 : m ≤ 16777216) (q1 : -47 ≤ q) (q2 : q ≤ -24 ∨ (q = -23 ∧ m = 8388608)) : isSh (UInt32.ofNat (FP.Core.encode FP.Core.b32 (FP.Core.settle FP.Core.b32 false m q))) := by
  unfold FP.Core.settle FP.Core.bound
  rw [b32_p, b32_Q, b32_t]
  by_cases h : m < 2 ^ 24
  · rw [if_pos h, if_pos (by omega), show m = 8388608 + (m - 8388608) by omega, enc_mk (by omega) (by omega) (by omega)]
    exact Or.inr ⟨_, _, by omega, by omega, by omega, rfl⟩
  · rw [if_neg h, if_pos (by omega), show (8388608 : Nat) = 8388608 + 0 from rfl, enc_mk (by omega) (by omega) (by omega)]
    exact Or.inr ⟨_, _, by omega, by omega, by omega, rfl⟩
theorem quot_mk {c d : Nat} {e : Int} (c1 : 8388608 ≤ c) (c2 : c < 16777216) (d1 : 8388608 ≤ d) (d2 : d < 16777216) (e1 : -23 ≤ e) (e2 : e ≤ 0) (e3 : e = 0 → c ≤ d) : isSh (UInt32.ofNat (FP.Core.encode FP.Core.b32 (FP.Core.roundRatio FP.Core.b32 false c d e))) := by
  have lc : c.log2 = 23 := log2_is (by omega) (by omega)
  have ld : d.log2 = 23 := log2_is (by omega) (by omega)
  have lead : FP.Core.leading c d = if d ≤ c then 0 else -1 := by
    unfold FP.Core.leading
    simp only [lc, ld]
    simp
  unfold FP.Core.roundRatio
  rw [if_neg (by omega)]
  unfold FP.Core.roundAt FP.Core.quantum
  rw [lead, b32_q, b32_p]
  by_cases h : d ≤ c
  · rw [if_pos h, show max (-149 : Int) (0 + e - (((24 : Nat) : Int) - 1)) = e - 23 by omega]
    unfold FP.Core.unitsNum FP.Core.unitsDen
    rw [show (e - (e - 23)).toNat = 23 by omega, show (e - 23 - e).toNat = 0 by omega, Nat.pow_zero, Nat.mul_one]
    have nb := near_b (c * 2 ^ 23) d
    have n1 : 8388608 ≤ c * 2 ^ 23 / d := (Nat.le_div_iff_mul_le (by omega)).2 (by omega)
    have n2 : c * 2 ^ 23 / d < 16777216 := (Nat.div_lt_iff_lt_mul (by omega)).2 (by omega)
    refine settle_mk (by omega) (by omega) (by omega) ?_
    by_cases z : e = 0
    · right
      have : c = d := by have := e3 z; omega
      subst this
      refine ⟨by omega, ?_⟩
      rw [Nat.mul_comm, near_m (by omega)]
    · left; omega
  · rw [if_neg h, show max (-149 : Int) (-1 + e - (((24 : Nat) : Int) - 1)) = e - 24 by omega]
    unfold FP.Core.unitsNum FP.Core.unitsDen
    rw [show (e - (e - 24)).toNat = 24 by omega, show (e - 24 - e).toNat = 0 by omega, Nat.pow_zero, Nat.mul_one]
    have nb := near_b (c * 2 ^ 24) d
    have n1 : 8388608 ≤ c * 2 ^ 24 / d := (Nat.le_div_iff_mul_le (by omega)).2 (by omega)
    have n2 : c * 2 ^ 24 / d < 16777216 := (Nat.div_lt_iff_lt_mul (by omega)).2 (by omega)
    exact settle_mk (by omega) (by omega) (by omega) (Or.inl (by omega))
/-- the share of the throws that were caught -/
theorem share_sh {C T : Nat} (hT0 : 0 < T) (hC : C ≤ T) (hT : T < 2 ^ 24) : isSh (FP.fdiv (FP.i2f (nI C)) (FP.i2f (nI T))) := by
  obtain ⟨lt, Ft, t1, t2, t3, t4, t5, et⟩ := i2f_mk hT0 hT
  rw [et]
  show isSh (UInt32.ofNat (FP.Core.encode FP.Core.b32 (FP.Core.quotient FP.Core.b32 (FP.Core.decode FP.Core.b32 (FP.i2f (nI C)).toNat) (FP.Core.decode FP.Core.b32 (mkF (127 + lt) Ft).toNat))))
  rw [dec_mk (by omega) (by omega) t2]
  rcases Nat.eq_zero_or_pos C with z | z
  · subst z
    rw [show FP.i2f (nI 0) = 0 by decide +kernel, dec_0]
    unfold FP.Core.quotient
    simp only
    rw [if_neg (by omega)]
    unfold FP.Core.roundRatio
    rw [if_pos rfl, b32_q]
    left
    decide +kernel
  · obtain ⟨lc, Fc, c1, c2, c3, c4, c5, ec⟩ := i2f_mk z (by omega)
    rw [ec, dec_mk (by omega) (by omega) c2]
    unfold FP.Core.quotient
    simp only
    rw [if_neg (by omega)]
    have ll : lc ≤ lt := by
      rcases Nat.lt_or_ge lt lc with q | q
      · have := Nat.pow_le_pow_right (n := 2) (by decide) (show lt + 1 ≤ lc by omega)
        omega
      · exact q
    refine quot_mk (by omega) (by omega) (by omega) (by omega) (by omega) (by omega) ?_
    intro e0
    have : lc = lt := by omega
    subst this
    have := Nat.mul_le_mul_right (2 ^ (23 - lc)) hC
    omega
theorem n32_mk {E F : Nat} (hE : E < 255) (hF : F < 8388608) : vf_n32 (mkF E F) := by
  unfold vf_n32
  rw [UInt32.le_iff_toNat_le, UInt32.toNat_and, mkF_n hE hF]
  exact Nat.le_trans Nat.and_le_left (by show _ ≤ 2139095040; omega)
theorem n32_0 : vf_n32 0 := by unfold vf_n32; decide
theorem n32_sh {f : UInt32} (h : isSh f) : vf_n32 f := by
  rcases h with rfl | ⟨E, F, h1, h2, h3, rfl⟩
  · exact n32_0
  · exact n32_mk (by omega) h3
/-! doubles -/
theorem n64_of {n : Nat} (a b : Nat) (ha : a < 2) (hb : b ≤ 9218868437227405312) (e : n = a * 9223372036854775808 + b) : vf_n64 (UInt64.ofNat n) := by
  unfold vf_n64
  rw [UInt64.le_iff_toNat_le, UInt64.toNat_and, UInt64.toNat_ofNat_of_lt' (show _ < 18446744073709551616 by omega)]
  show n &&& (2 ^ 63 - 1) ≤ 9218868437227405312
  rw [Nat.and_two_pow_sub_one_eq_mod]
  omega
theorem n64_fin {s : Bool} {c : Nat} {q : Int} (hc : c < 9007199254740992) (h1 : -1074 ≤ q) (h2 : q ≤ 971) : vf_n64 (UInt64.ofNat (FP.Core.encode FP.Core.b64 (.fin s c q))) := by
  unfold FP.Core.encode
  simp only
  rw [b64_t, b64_q]
  unfold FP.Core.assemble
  rw [b64_t, b64_x]
  have hs : s.toNat < 2 := by cases s <;> decide
  split
  · exact n64_of s.toNat c hs (by omega) (by omega)
  · exact n64_of s.toNat (((q - -1074).toNat + 1) * 4503599627370496 + (c - 4503599627370496)) hs (by omega) (by omega)
theorem n64_inf {s : Bool} : vf_n64 (UInt64.ofNat (FP.Core.encode FP.Core.b64 (.inf s))) := by
  unfold FP.Core.encode
  simp only
  unfold FP.Core.assemble
  rw [b64_t, b64_x]
  have hs : s.toNat < 2 := by cases s <;> decide
  exact n64_of s.toNat 9218868437227405312 hs (by omega) (by omega)
theorem n64_bd {s : Bool} {c : Nat} {q : Int} (hc : c < 9007199254740992) (h1 : -1074 ≤ q) : vf_n64 (UInt64.ofNat (FP.Core.encode FP.Core.b64 (FP.Core.bound FP.Core.b64 s c q))) := by
  unfold FP.Core.bound
  rw [b64_Q]
  split
  · exact n64_fin hc h1 (by assumption)
  · exact n64_inf
theorem n64_rr {s : Bool} {A B : Nat} {e : Int} : vf_n64 (UInt64.ofNat (FP.Core.encode FP.Core.b64 (FP.Core.roundRatio FP.Core.b64 s A B e))) := by
  unfold FP.Core.roundRatio
  split
  · rw [b64_q]; exact n64_fin (by omega) (by omega) (by omega)
  · unfold FP.Core.roundAt
    have hq : -1074 ≤ FP.Core.quantum FP.Core.b64 A B e := by
      unfold FP.Core.quantum
      rw [b64_q]
      omega
    unfold FP.Core.settle
    rw [b64_p, b64_t]
    split
    · rename_i h
      exact n64_bd h hq
    · exact n64_bd (by omega) (by omega)
theorem n64_dec {x : UInt64} (h : vf_n64 x) : FP.Core.decode FP.Core.b64 x.toNat ≠ .nan := by
  unfold vf_n64 at h
  rw [UInt64.le_iff_toNat_le, UInt64.toNat_and] at h
  have h : x.toNat &&& (2 ^ 63 - 1) ≤ 9218868437227405312 := h
  rw [Nat.and_two_pow_sub_one_eq_mod] at h
  unfold FP.Core.decode FP.Core.fieldE FP.Core.fieldT
  rw [b64_t, b64_x]
  generalize x.toNat = n at h
  split
  · rename_i h1
    rw [if_pos (by omega)]
    intro z
    cases z
  · split <;> (intro z; cases z)
theorem dcmp_self {x : UInt64} (h : vf_n64 x) : FP.dcmp x x = some .eq := by
  have h := n64_dec h
  show FP.Core.order (FP.Core.decode FP.Core.b64 x.toNat) (FP.Core.decode FP.Core.b64 x.toNat) = some .eq
  revert h
  generalize FP.Core.decode FP.Core.b64 x.toNat = d
  intro h
  have cs : ∀ i : Int, compare i i = .eq := fun i => by simp [compare, compareOfLessAndEq]
  cases d with
  | nan => exact absurd rfl h
  | inf s => show some (compare _ _) = _; rw [cs]
  | fin s c q => show some (compare _ _) = _; rw [cs]
theorem n64_f2d {f : UInt32} (h : isSh f) : vf_n64 (FP.f2d f) := by
  have nn : FP.Core.fIsNaN f = false := by
    show decide (FP.Core.decode FP.Core.b32 f.toNat = .nan) = false
    rcases h with rfl | ⟨E, F, h1, h2, h3, rfl⟩
    · rw [dec_0]; rfl
    · rw [dec_mk (by omega) (by omega) h3]; rfl
  unfold FP.f2d
  rw [nn]
  show vf_n64 (UInt64.ofNat (FP.Core.encode FP.Core.b64 (FP.Core.round FP.Core.b64 (FP.Core.decode FP.Core.b32 f.toNat))))
  rcases h with rfl | ⟨E, F, h1, h2, h3, rfl⟩
  · rw [dec_0]; exact n64_rr
  · rw [dec_mk (by omega) (by omega) h3]; exact n64_rr
theorem dec_i2d {a : Nat} (h : a < 2 ^ 31) : ∃ c q, FP.Core.decode FP.Core.b64 (FP.i2d (nI a)).toNat = .fin false c q ∧ (0 < a → c ≠ 0) := by
  rcases Nat.eq_zero_or_pos a with z | z
  · subst z
    exact ⟨0, -1074, by decide +kernel, fun q => absurd q (by decide)⟩
  · obtain ⟨l, hl, a1, a2, b1, b2⟩ := norm_of (P := 52) z (Nat.lt_of_lt_of_le h (by decide))
    have e : FP.i2d (nI a) = UInt64.ofNat ((1023 + l) * 4503599627370496 + (a * 2 ^ (52 - l) - 4503599627370496)) := by
      show UInt64.ofNat (FP.Core.encode FP.Core.b64 (FP.Core.round FP.Core.b64 (FP.Core.ofInt (nI a).toInt))) = _
      rw [ofInt_nI h]
      show UInt64.ofNat (FP.Core.encode FP.Core.b64 (FP.Core.roundRatio FP.Core.b64 false a 1 0)) = _
      rw [rr_up (P := 52) (i := 52 - l) b64_p (by omega) b1 b2 (by omega) (by rw [b64_q]; omega) (by rw [b64_Q]; omega)]
      unfold FP.Core.encode
      simp only
      rw [b64_t, if_neg (by omega)]
      unfold FP.Core.assemble
      rw [b64_t, b64_x, b64_q]
      have e1 : ((0 : Int) - ((52 - l : Nat) : Int) - -1074).toNat + 1 = 1023 + l := by omega
      have e2 : (false.toNat * 2048 + (1023 + l)) = 1023 + l := by rw [show false.toNat = 0 from rfl, Nat.zero_mul, Nat.zero_add]
      rw [e1, e2]
    generalize hF : a * 2 ^ (52 - l) - 4503599627370496 = F at e
    have hF2 : F < 4503599627370496 := by omega
    refine ⟨4503599627370496 + F, -1074 + (((1023 + l : Nat) : Int) - 1), ?_, fun _ => by omega⟩
    rw [e, UInt64.toNat_ofNat_of_lt' (show _ < 18446744073709551616 by omega)]
    have fe : FP.Core.fieldE FP.Core.b64 ((1023 + l) * 4503599627370496 + F) = 1023 + l := by unfold FP.Core.fieldE; rw [b64_t, b64_x]; omega
    have ft : FP.Core.fieldT FP.Core.b64 ((1023 + l) * 4503599627370496 + F) = F := by unfold FP.Core.fieldT; rw [b64_t]; omega
    have fs : FP.Core.fieldS FP.Core.b64 ((1023 + l) * 4503599627370496 + F) = false := by
      unfold FP.Core.fieldS
      rw [b64_t, b64_x, show ((1023 + l) * 4503599627370496 + F) / 4503599627370496 / 2048 % 2 = 0 by omega]
      rfl
    unfold FP.Core.decode
    rw [fe, ft, fs, b64_t, b64_x, b64_q, if_neg (by omega), if_neg (by omega)]
theorem n64_mean {S T : Nat} (hT0 : 0 < T) (hT : T < 2 ^ 31) (hS : S < 2 ^ 31) : vf_n64 (FP.ddiv (FP.i2d (nI S)) (FP.i2d (nI T))) := by
  obtain ⟨c, q, e1, -⟩ := dec_i2d hS
  obtain ⟨d, r, e2, h2⟩ := dec_i2d hT
  show vf_n64 (UInt64.ofNat (FP.Core.encode FP.Core.b64 (FP.Core.quotient FP.Core.b64 (FP.Core.decode FP.Core.b64 (FP.i2d (nI S)).toNat) (FP.Core.decode FP.Core.b64 (FP.i2d (nI T)).toNat))))
  rw [e1, e2]
  unfold FP.Core.quotient
  simp only
  rw [if_neg (h2 hT0)]
  exact n64_rr
/-! the bits of a share, one by one -/
theorem fc_0 {E F : Nat} (h1 : 1 ≤ E) (hE : E < 255) (hF : F < 8388608) : FP.fcmp (mkF E F) FP.fconst0 = some .gt := by
  show FP.Core.order (FP.Core.decode FP.Core.b32 (mkF E F).toNat) (FP.Core.decode FP.Core.b32 (0 : UInt32).toNat) = some .gt
  rw [dec_mk h1 hE hF, dec_0]
  unfold FP.Core.order
  simp only
  congr 1
  unfold FP.Core.signed FP.Core.inUnits
  rw [Nat.zero_mul]
  have hp := Nat.mul_pos (show 0 < 8388608 + F by omega) (Nat.two_pow_pos (((E : Int) - 150 - min ((E : Int) - 150) (-149)).toNat))
  generalize (8388608 + F) * 2 ^ ((E : Int) - 150 - min ((E : Int) - 150) (-149)).toNat = X at hp
  simp only [Bool.false_eq_true, if_false, compare, compareOfLessAndEq]
  rw [if_neg (by omega), if_neg (by omega)]
theorem dec_f1 : FP.Core.decode FP.Core.b32 FP.fconst1.toNat = .fin false 8388608 (-23) := by decide +kernel
theorem dec_f2 : FP.Core.decode FP.Core.b32 FP.fconst2.toNat = .fin false 8388608 (-22) := by decide +kernel
theorem fc_1 {E F : Nat} (h1 : 1 ≤ E) (hE : E ≤ 127) (hF : F < 8388608) : FP.fcmp (mkF E F) FP.fconst1 = if E < 127 then some .lt else if F = 0 then some .eq else some .gt := by
  show FP.Core.order (FP.Core.decode FP.Core.b32 (mkF E F).toNat) (FP.Core.decode FP.Core.b32 FP.fconst1.toNat) = _
  rw [dec_mk h1 (by omega) hF, dec_f1]
  unfold FP.Core.order
  simp only
  unfold FP.Core.signed FP.Core.inUnits
  rw [show min ((E : Int) - 150) (-23) = (E : Int) - 150 by omega, Int.sub_self, show (-23 - ((E : Int) - 150)).toNat = 127 - E by omega]
  simp only [Int.toNat_zero, Nat.pow_zero, Nat.mul_one, Bool.false_eq_true, if_false, compare, compareOfLessAndEq]
  by_cases h : E < 127
  · have hp : 2 ≤ 2 ^ (127 - E) := by
      have := Nat.pow_le_pow_right (n := 2) (by decide) (show 1 ≤ 127 - E by omega)
      simpa using this
    have : 16777216 ≤ 8388608 * 2 ^ (127 - E) := by omega
    rw [if_pos h, if_pos (by omega)]
  · rw [if_neg h, show 127 - E = 0 by omega, Nat.pow_zero, Nat.mul_one]
    by_cases z : F = 0
    · subst z; rw [if_pos rfl, if_neg (by omega), if_pos (by omega)]
    · rw [if_neg z, if_neg (by omega), if_neg (by omega)]
theorem fm_2 {E F : Nat} (h1 : 1 ≤ E) (hE : E < 254) (hF : F < 8388608) : FP.fmul (mkF E F) FP.fconst2 = mkF (E + 1) F := by
  show UInt32.ofNat (FP.Core.encode FP.Core.b32 (FP.Core.round FP.Core.b32 (FP.Core.exactProduct (FP.Core.decode FP.Core.b32 (mkF E F).toNat) (FP.Core.decode FP.Core.b32 FP.fconst2.toNat)))) = _
  rw [dec_mk h1 (by omega) hF, dec_f2]
  show UInt32.ofNat (FP.Core.encode FP.Core.b32 (FP.Core.roundRatio FP.Core.b32 false ((8388608 + F) * 8388608) 1 ((E : Int) - 150 + -22))) = _
  rw [show (8388608 + F) * 8388608 = (8388608 + F) * 2 ^ 23 from rfl, rr_dn (P := 23) b32_p (by omega) (by omega) (by rw [b32_q]; omega) (by rw [b32_Q]; omega), enc_mk hF (by omega) (by omega)]
  rw [show ((E : Int) - 150 + -22 + ((23 : Nat) : Int) + 150).toNat = E + 1 by omega]
/-- 2 ^ 23 as a float -/
theorem dec_f23 {v : UInt32} (hv : v = 1258291200) : FP.Core.decode FP.Core.b32 v.toNat = .fin false 8388608 0 := by subst hv; decide +kernel
theorem fs_1 {F : Nat} (hF : F < 8388608) : (F = 0 ∧ FP.fsub (mkF 127 F) FP.fconst1 = 0) ∨ ∃ l, 0 < F ∧ l ≤ 22 ∧ 8388608 ≤ F * 2 ^ (23 - l) ∧ F * 2 ^ (23 - l) < 16777216 ∧ FP.fsub (mkF 127 F) FP.fconst1 = mkF (104 + l) (F * 2 ^ (23 - l) - 8388608) := by
  have e : FP.fsub (mkF 127 F) FP.fconst1 = UInt32.ofNat (FP.Core.encode FP.Core.b32 (FP.Core.round FP.Core.b32 (FP.Core.exactSum (FP.Core.decode FP.Core.b32 (mkF 127 F).toNat) (FP.Core.negate (FP.Core.decode FP.Core.b32 FP.fconst1.toNat))))) := rfl
  rw [e, dec_mk (by omega) (by omega) hF, dec_f1]
  have u : FP.Core.sumUnits false (8388608 + F) (((127 : Nat) : Int) - 150) (!false) 8388608 (-23) (-23) = (F : Int) := by
    unfold FP.Core.sumUnits FP.Core.signed FP.Core.inUnits
    simp
    omega
  have s : FP.Core.exactSum (.fin false (8388608 + F) (((127 : Nat) : Int) - 150)) (FP.Core.negate (.fin false 8388608 (-23))) = .fin (FP.Core.sumSign false true (F : Int)) F (-23) := by
    show FP.Core.Datum.fin (FP.Core.sumSign false (!false) (FP.Core.sumUnits false (8388608 + F) (((127 : Nat) : Int) - 150) (!false) 8388608 (-23) (min (((127 : Nat) : Int) - 150) (-23)))) (FP.Core.sumUnits false (8388608 + F) (((127 : Nat) : Int) - 150) (!false) 8388608 (-23) (min (((127 : Nat) : Int) - 150) (-23))).natAbs (min (((127 : Nat) : Int) - 150) (-23)) = _
    rw [show min (((127 : Nat) : Int) - 150) (-23) = -23 by decide, u]
    rfl
  rw [s]
  show _ ∨ ∃ l, _
  rcases Nat.eq_zero_or_pos F with z | z
  · subst z
    exact Or.inl ⟨rfl, by decide +kernel⟩
  · right
    obtain ⟨l, hl, a1, a2, b1, b2⟩ := norm_of (P := 23) z (by omega)
    have l22 : l ≤ 22 := by
      rcases Nat.lt_or_ge 22 l with q | q
      · have : l = 23 := by omega
        subst this
        omega
      · exact q
    refine ⟨l, z, l22, by omega, by omega, ?_⟩
    have sg : FP.Core.sumSign false true (F : Int) = false := by
      unfold FP.Core.sumSign
      rw [if_neg (by omega), decide_eq_false (by omega)]
    rw [sg]
    show UInt32.ofNat (FP.Core.encode FP.Core.b32 (FP.Core.roundRatio FP.Core.b32 false F 1 (-23))) = _
    rw [rr_up (P := 23) (i := 23 - l) b32_p (by omega) b1 b2 (by omega) (by rw [b32_q]; omega) (by rw [b32_Q]; omega)]
    have ee : F * 2 ^ (23 - l) = 8388608 + (F * 2 ^ (23 - l) - 8388608) := by omega
    rw [ee, enc_mk (by omega) (by omega) (by omega), show ((-23 : Int) - ((23 - l : Nat) : Int) + 150).toNat = 104 + l by omega, ← ee]
theorem fs_n {F : Nat} (hF : F < 8388608) : vf_n32 (FP.fsub (mkF 127 F) FP.fconst1) := by
  rcases fs_1 hF with ⟨-, e⟩ | ⟨l, h0, h1, h2, h3, e⟩
  · rw [e]; exact n32_0
  · rw [e]; exact n32_mk (by omega) (by omega)
theorem ff_23 {F : Nat} {v : UInt32} (hv : v = 1258291200) (hF : F < 8388608) : vf_n32 (FP.fmul (FP.fsub (mkF 127 F) FP.fconst1) v) ∧ FP.f2i (FP.fmul (FP.fsub (mkF 127 F) FP.fconst1) v) = nI F := by
  rcases fs_1 hF with ⟨z, e⟩ | ⟨l, h0, h1, h2, h3, e⟩
  · rw [e, hv, z]
    exact ⟨by unfold vf_n32; decide +kernel, by decide +kernel⟩
  · rw [e]
    have m : FP.fmul (mkF (104 + l) (F * 2 ^ (23 - l) - 8388608)) v = mkF (127 + l) (F * 2 ^ (23 - l) - 8388608) := by
      show UInt32.ofNat (FP.Core.encode FP.Core.b32 (FP.Core.round FP.Core.b32 (FP.Core.exactProduct (FP.Core.decode FP.Core.b32 (mkF (104 + l) (F * 2 ^ (23 - l) - 8388608)).toNat) (FP.Core.decode FP.Core.b32 v.toNat)))) = _
      rw [dec_mk (by omega) (by omega) (by omega), dec_f23 hv]
      have hG : F * 2 ^ (23 - l) - 8388608 < 8388608 := by omega
      generalize F * 2 ^ (23 - l) - 8388608 = G at hG ⊢
      show UInt32.ofNat (FP.Core.encode FP.Core.b32 (FP.Core.roundRatio FP.Core.b32 false ((8388608 + G) * 8388608) 1 (((104 + l : Nat) : Int) - 150 + 0))) = _
      rw [show (8388608 + G) * 8388608 = (8388608 + G) * 2 ^ 23 from rfl, rr_dn (P := 23) b32_p (by omega) (by omega) (by rw [b32_q]; omega) (by rw [b32_Q]; omega), enc_mk (by omega) (by omega) (by omega)]
      rw [show (((104 + l : Nat) : Int) - 150 + 0 + ((23 : Nat) : Int) + 150).toNat = 127 + l by omega]
    rw [m]
    refine ⟨n32_mk (by omega) (by omega), ?_⟩
    show FP.Core.toI (FP.Core.decode FP.Core.b32 (mkF (127 + l) (F * 2 ^ (23 - l) - 8388608)).toNat) = nI F
    rw [dec_mk (by omega) (by omega) (by omega), show 8388608 + (F * 2 ^ (23 - l) - 8388608) = F * 2 ^ (23 - l) by omega]
    unfold FP.Core.toI FP.Core.toInt
    simp only
    unfold FP.Core.truncate FP.Core.signed
    rw [show (((127 + l : Nat) : Int) - 150).toNat = 0 by omega, show (-(((127 + l : Nat) : Int) - 150)).toNat = 23 - l by omega, Nat.pow_zero, Nat.mul_one, Nat.mul_div_cancel _ (Nat.two_pow_pos _)]
    simp only [Bool.false_eq_true, if_false]
    rw [show max (-2 ^ 31 : Int) (min (2 ^ 31 - 1) (F : Int)) = (F : Int) by omega]
    rfl
theorem nI_or (a b : Nat) : nI a ||| nI b = nI (a ||| b) := by
  apply Int32.toBitVec_inj.1
  rw [Int32.toBitVec_or]
  show BitVec.ofNat 32 a ||| BitVec.ofNat 32 b = BitVec.ofNat 32 (a ||| b)
  apply BitVec.eq_of_getLsbD_eq
  intro i hi
  rw [BitVec.getLsbD_or, BitVec.getLsbD_ofNat, BitVec.getLsbD_ofNat, BitVec.getLsbD_ofNat, Nat.testBit_or, decide_eq_true hi]
  simp
theorem bits_mk {E F : Nat} (hE : E ≤ 127) (hF : F < 8388608) : (nI E <<< ((23 : Int32) &&& 31)) ||| nI F = (mkF E F).toInt32 := by
  rw [pk_shlN _ 23 (by decide) (by omega), nI_or, Nat.mul_comm, ← Nat.two_pow_add_eq_or_of_lt (by omega)]
  unfold mkF
  rw [Nat.mul_comm]
  rfl
