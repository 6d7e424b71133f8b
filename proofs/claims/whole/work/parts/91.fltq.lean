/-! THE SHARE AND THE MEAN, on both sides. -/
theorem fcmp_sh {f : UInt32} (h : isSh f) : FP.fcmp f f = some .eq := by
  have d : ∃ c q, FP.Core.decode FP.Core.b32 f.toNat = .fin false c q := by
    rcases h with h | ⟨E, F, h1, h2, h3, h4⟩
    · subst h; exact ⟨_, _, dec_0⟩
    · subst h4; exact ⟨_, _, dec_mk (by omega) (by omega) h3⟩
  obtain ⟨c, q, d⟩ := d
  show FP.Core.order (FP.Core.decode FP.Core.b32 f.toNat) (FP.Core.decode FP.Core.b32 f.toNat) = some .eq
  rw [d]
  have cs : ∀ i : Int, compare i i = .eq := fun i => by simp [compare, compareOfLessAndEq]
  show some (compare _ _) = _
  rw [cs]
section FLQ
variable {t : Nat} {x : kK} {y : kY}
theorem sh_RX (X : RX t x y) (ht : t < 2 ^ 20) (h : ¬ y.2 0 9 = 0) : isSh (FP.fdiv (FP.i2f (y.2 0 10)) (FP.i2f (y.2 0 9))) := by
  obtain ⟨-, -, -, -, -, -, -, ⟨a, b, q1, q2, q3, q4⟩, -⟩ := X.R.B
  rw [q3, q4]
  refine share_sh ?_ ?_ ?_
  · rcases Nat.eq_zero_or_pos b with z | z
    · subst z; exact absurd q4 h
    · exact z
  · exact q1
  · omega
theorem sh_K (X : RX t x y) (ht : t < 2 ^ 20) : ¬ (x.1 0).2.1 12 = 0 → isSh (FP.fdiv (FP.i2f ((x.1 0).2.1 13)) (FP.i2f ((x.1 0).2.1 12))) := by
  rw [X.R.n12, X.R.n13]
  exact sh_RX X ht
theorem mean_RX (X : RX t x y) (ht : t < 2 ^ 20) (h : ¬ y.2 0 9 = 0) : vf_n64 (FP.ddiv (FP.i2d (y.2 0 11)) (FP.i2d (y.2 0 9))) := by
  obtain ⟨-, -, -, -, -, -, -, ⟨a, b, q1, q2, q3, q4⟩, s, s1, s2⟩ := X.R.B
  rw [q4, s2]
  refine n64_mean ?_ (by omega) (by omega)
  rcases Nat.eq_zero_or_pos b with z | z
  · subst z; exact absurd q4 h
  · exact z
theorem mean_K (X : RX t x y) (ht : t < 2 ^ 20) : ¬ (x.1 0).2.1 12 = 0 → vf_n64 (FP.ddiv (FP.i2d ((x.1 0).2.1 14)) (FP.i2d ((x.1 0).2.1 12))) := by
  rw [X.R.n12, X.R.n14]
  exact mean_RX X ht
/-- values of floats and doubles -/
def okF (o : kOut) (y : kY) (v : UInt32) : Prop := o = .inl (some (.float v)) ∧ y.1 0 = 0
def okD (o : kOut) (y : kY) (v : UInt64) : Prop := o = .inl (some (.double v)) ∧ y.1 0 = 0
theorem q_caughtShare (X : RX t x y) : RX t x (g_X12_caughtShare y) ∧ ((¬ y.2 0 9 = 0 ∧ okF (o_X11_caughtShare x) (g_X12_caughtShare y) (f_X12_caughtShare y)) ∨ exE (o_X11_caughtShare x) (g_X12_caughtShare y) "java/lang/ArithmeticException" 1) := by
  unfold o_X11_caughtShare g_X12_caughtShare f_X12_caughtShare f_X7_shareOfCaught
  rw [X.R.n12, X.R.n13]
  by_cases h : y.2 0 9 = 0
  · rw [if_pos h, if_pos h]
    exact ⟨RX_s X 1, Or.inr ⟨rfl, rfl⟩⟩
  · rw [if_neg h, if_neg h, if_neg h]
    exact ⟨RX_s X 0, Or.inl ⟨h, rfl, rfl⟩⟩
theorem q_meanSteps (X : RX t x y) : RX t x (g_X12_meanSteps y) ∧ ((¬ y.2 0 9 = 0 ∧ okD (o_X11_meanSteps x) (g_X12_meanSteps y) (f_X12_meanSteps y)) ∨ exE (o_X11_meanSteps x) (g_X12_meanSteps y) "java/lang/ArithmeticException" 1) := by
  unfold o_X11_meanSteps g_X12_meanSteps f_X12_meanSteps
  rw [X.R.n12, X.R.n14]
  by_cases h : y.2 0 9 = 0
  · rw [if_pos h, if_pos h]
    exact ⟨RX_s X 1, Or.inr ⟨rfl, rfl⟩⟩
  · rw [if_neg h, if_neg h, if_neg h]
    exact ⟨RX_s X 0, Or.inl ⟨h, rfl, rfl⟩⟩
theorem q_caughtShareBits (X : RX t x y) (ht : t < 2 ^ 20) : RX t x (g_X12_caughtShareBits y) ∧ (okI (o_X11_caughtShareBits x) (g_X12_caughtShareBits y) (f_X12_caughtShareBits y) ∨ exE (o_X11_caughtShareBits x) (g_X12_caughtShareBits y) "java/lang/ArithmeticException" 1) := by
  unfold o_X11_caughtShareBits g_X12_caughtShareBits f_X12_caughtShareBits g_X12_caughtShare f_X12_caughtShare f_X7_shareOfCaught
  rw [X.R.n12, X.R.n13, ite_self]
  by_cases h : y.2 0 9 = 0
  · rw [if_pos h, if_pos h]
    exact ⟨RX_s X 1, Or.inr ⟨rfl, rfl⟩⟩
  · have sh := sh_RX X ht h
    rw [if_neg h, if_neg h, if_neg h, if_pos (show (yS y 0 0).1 0 = 0 from rfl)]
    have nn : f_Jxf58ca_isNaN_12338 (FP.fdiv (FP.i2f (y.2 0 10)) (FP.i2f (y.2 0 9))) = 0 := by
      unfold f_Jxf58ca_isNaN_12338
      rw [if_pos]
      rw [fcmp_sh sh]
      rfl
    unfold f_Jxf58ca_floatToIntBits_5c35a
    rw [if_pos nn]
    exact ⟨RX_s X 0, Or.inl ⟨rfl, rfl⟩⟩
end FLQ
