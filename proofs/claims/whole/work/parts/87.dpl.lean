/-! A PLEA DESCRIBED. -/
section DPL
variable {t hb : Nat} {x x2 : kK} {y y2 : kY}
theorem ks_1 {k : Nat} {v : Int32} : (kkS x k v).1 = x.1 := rfl
theorem cb_c (h : x2.1 = x.1) {a b : Int32} : f_X3_canBeHeard x2 a b = f_X3_canBeHeard x a b := by
  unfold f_X3_canBeHeard f_X3_lastHour f_X3_sitsAt
  rw [h]
theorem dpl_K {a : Int32} : o_X11_describePlea x a = (if f_X3_hasPlea x a = 0 then (.inr "java/lang/IndexOutOfBoundsException") else (if f_X3_canBeHeard x a ((x.1 0).2.1 4) = 0 then (.inl (some (.int ((dpK x ((x.1 0).2.2 1 (Int32.toNatClampNeg a)) ((x.1 0).2.2 2 (Int32.toNatClampNeg a)) ((x.1 0).2.2 2 (Int32.toNatClampNeg a) + 24)).2.1 7)))) else (.inl (some (.int ((g_X8_put (dpK x ((x.1 0).2.2 1 (Int32.toNatClampNeg a)) ((x.1 0).2.2 2 (Int32.toNatClampNeg a)) ((x.1 0).2.2 2 (Int32.toNatClampNeg a) + 24)) 42).2.1 7)))))) ∧ g_X11_describePlea x a = (if f_X3_hasPlea x a = 0 then x else (if f_X3_canBeHeard x a ((x.1 0).2.1 4) = 0 then dpK x ((x.1 0).2.2 1 (Int32.toNatClampNeg a)) ((x.1 0).2.2 2 (Int32.toNatClampNeg a)) ((x.1 0).2.2 2 (Int32.toNatClampNeg a) + 24) else g_X8_put (dpK x ((x.1 0).2.2 1 (Int32.toNatClampNeg a)) ((x.1 0).2.2 2 (Int32.toNatClampNeg a)) ((x.1 0).2.2 2 (Int32.toNatClampNeg a) + 24)) 42)) := by
  have c := cb_c (x := x) (x2 := dpK x ((x.1 0).2.2 1 (Int32.toNatClampNeg a)) ((x.1 0).2.2 2 (Int32.toNatClampNeg a)) ((x.1 0).2.2 2 (Int32.toNatClampNeg a) + 24)) dp_core (a := a) (b := (x.1 0).2.1 4)
  rw [← c]
  unfold o_X11_describePlea g_X11_describePlea dpK
  simp only [put_core, pnL_core, ks_1, f_X3_lastHour, and_self]
theorem dpl_Y {a : Int32} : f_X12_describePlea y a = (if f_X12_isPlea (y.2 0) a = 0 then 0 else (if f_X12_sitsAt (y.2 0) (y.2 0 0) = 0 then (dpY (yS y 0 0) (y.2 0 (Int32.toNatClampNeg (f_X12_pleaAt a 0))) (y.2 0 (Int32.toNatClampNeg (f_X12_pleaAt a 1))) (f_X12_until (y.2 0) a)).1 12 else (if y.2 0 0 < y.2 0 (Int32.toNatClampNeg (f_X12_pleaAt a 1)) then (dpY (yS y 0 0) (y.2 0 (Int32.toNatClampNeg (f_X12_pleaAt a 0))) (y.2 0 (Int32.toNatClampNeg (f_X12_pleaAt a 1))) (f_X12_until (y.2 0) a)).1 12 else (g_X12_writes (dpY (yS y 0 0) (y.2 0 (Int32.toNatClampNeg (f_X12_pleaAt a 0))) (y.2 0 (Int32.toNatClampNeg (f_X12_pleaAt a 1))) (f_X12_until (y.2 0) a)) 42).1 12))) ∧ g_X12_describePlea y a = (if f_X12_isPlea (y.2 0) a = 0 then yS y 0 1 else (if f_X12_sitsAt (y.2 0) (y.2 0 0) = 0 then dpY (yS y 0 0) (y.2 0 (Int32.toNatClampNeg (f_X12_pleaAt a 0))) (y.2 0 (Int32.toNatClampNeg (f_X12_pleaAt a 1))) (f_X12_until (y.2 0) a) else (if y.2 0 0 < y.2 0 (Int32.toNatClampNeg (f_X12_pleaAt a 1)) then dpY (yS y 0 0) (y.2 0 (Int32.toNatClampNeg (f_X12_pleaAt a 0))) (y.2 0 (Int32.toNatClampNeg (f_X12_pleaAt a 1))) (f_X12_until (y.2 0) a) else g_X12_writes (dpY (yS y 0 0) (y.2 0 (Int32.toNatClampNeg (f_X12_pleaAt a 0))) (y.2 0 (Int32.toNatClampNeg (f_X12_pleaAt a 1))) (f_X12_until (y.2 0) a)) 42))) := by
  unfold f_X12_describePlea g_X12_describePlea dpY f_X12_looks g_X12_looks
  by_cases h : f_X12_isPlea (y.2 0) a = 0
  · simp only [if_pos h, if_true, and_self]
  · simp only [if_neg h, wr_v, wn_v, ys_2, show ¬ (1 : Int32) = 0 by decide, if_false, and_self]
theorem q_describePlea (X : RX t x y) (ht : t < 2 ^ 20) {a : Int32} : RX t (g_X11_describePlea x a) (g_X12_describePlea y a) ∧ (okI (o_X11_describePlea x a) (g_X12_describePlea y a) (f_X12_describePlea y a) ∨ exE (o_X11_describePlea x a) (g_X12_describePlea y a) "java/lang/IndexOutOfBoundsException" 1) := by
  have n8 := X.R.nL8
  rw [dpl_K.1, dpl_K.2, dpl_Y.1, dpl_Y.2]
  rcases ple_cs X.R a with ⟨e1, e2⟩ | ⟨e1, e2, l, hl, rfl⟩
  · rw [if_pos e1, if_pos e1, if_pos e2, if_pos e2]
    exact ⟨RX_s X 1, Or.inr ⟨rfl, rfl⟩⟩
  · obtain ⟨F, H, f1, h1, eF, eH, eH2, eF2, hle, -⟩ := hrs X.R (by omega) hl
    obtain ⟨P, hP, eP⟩ := (X.R.E.1 l (by omega)).1
    have eP2 := (X.R.L l hl).1
    have un : f_X12_until (y.2 0) (nI l) = nI (F + 24) := by
      unfold f_X12_until
      rw [pl_1 (by omega), eF2]
      exact nI_add F 24
    have u2 : nI F + 24 = nI (F + 24) := nI_add F 24
    have cb : f_X3_canBeHeard x (nI l) (nI H) = (if nI H < nI F then 0 else (if f_X12_sitsAt (y.2 0) (nI H) = 0 then 0 else 1)) := by
      unfold f_X3_canBeHeard f_X3_lastHour
      rw [nI_clamp (show l < 2 ^ 31 by omega), eF, u2, sits_eq X.R (x := x) (by omega), if_neg (show ¬ nI (F + 24) < nI H from nI_nlt (by omega) (by omega))]
    rw [e1, e2, if_neg z10, if_neg z10, if_neg z10, if_neg z10, nI_clamp (show l < 2 ^ 31 by omega), pl_0 (by omega), pl_1 (by omega), un, eF2, eH2, eP, eP2, eP, eF, eH, u2, cb]
    obtain ⟨L, hL, l1, l2, l3⟩ := dp_ln (x := x) (y := yS y 0 0) (p := P) (f := F) (u := F + 24) (by omega) (by omega) (by omega)
    have Y := RX_ln (RX_s X 0) l2 l3 (by omega) l1
    have v0 : (dpY (yS y 0 0) (nI P) (nI F) (nI (F + 24))).1 0 = 0 := by rw [l3.1 0 (by decide)]; rfl
    have r1 : (dpK x (nI P) (nI F) (nI (F + 24))).2.1 7 = (dpY (yS y 0 0) (nI P) (nI F) (nI (F + 24))).1 12 := l1.1.trans l1.2.1.symm
    by_cases hs : f_X12_sitsAt (y.2 0) (nI H) = 0
    · rw [if_pos hs, if_pos hs, if_pos hs, ite_self, if_pos rfl, if_pos rfl, r1]
      exact ⟨Y, Or.inl ⟨rfl, v0⟩⟩
    · rw [if_neg hs, if_neg hs, if_neg hs]
      by_cases hf : nI H < nI F
      · rw [if_pos hf, if_pos hf, if_pos hf, if_pos rfl, if_pos rfl, r1]
        exact ⟨Y, Or.inl ⟨rfl, v0⟩⟩
      · rw [if_neg hf, if_neg hf, if_neg hf, if_neg z10, if_neg z10]
        obtain ⟨p1, p2, p3⟩ := LN_put l1 (by omega) (n := 42) (by omega)
        have Y2 := RX_ln Y p2 p3 (by omega) p1
        have r2 : (g_X8_put (dpK x (nI P) (nI F) (nI (F + 24))) 42).2.1 7 = (g_X12_writes (dpY (yS y 0 0) (nI P) (nI F) (nI (F + 24))) 42).1 12 := p1.1.trans p1.2.1.symm
        have v2 : (g_X12_writes (dpY (yS y 0 0) (nI P) (nI F) (nI (F + 24))) 42).1 0 = 0 := (p3.1 0 (by decide)).trans v0
        rw [r2]
        exact ⟨Y2, Or.inl ⟨rfl, v2⟩⟩
end DPL
