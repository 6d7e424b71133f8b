theorem pl_in {a : Int32} (h : kP8 a) (w : Int32) (hw : ∃ k, k < 3 ∧ w = nI k) : vp_in (f_X12_pleaAt a w) 116 := p8_plea h hw
theorem svL_ge {x : kY} {p : Int32} {n k : Nat} (hn : n ≤ 35) : ∀ {j : Nat}, j + k = n + 1 → Sum.elim (fun y : Int32 => ∃ m, m ≤ 36 ∧ y = nI m) (fun _ : Int32 => True) (svL x p n k j) := by
  induction k with
  | zero => intro j _; exact trivial
  | succ k ih =>
    intro j hj
    rw [svL]
    split
    · exact ⟨j, by omega, rfl⟩
    · exact ih (by omega)
theorem sv_ge {x : kY} {a p : Int32} (hn : kC64 a) (hv : kMv (x.2 0)) : ∃ m, m ≤ 36 ∧ f_X12_serves x a p = nI m := by
  have h := svL_ge (x := g_X12_flies x a) (p := p) (k := Int32.toNatClampNeg (f_X12_flies x a)) (j := 1) (fl_self hn hv).2 (by omega)
  unfold f_X12_serves
  revert h
  generalize svL (g_X12_flies x a) p (Int32.toNatClampNeg (f_X12_flies x a)) (Int32.toNatClampNeg (f_X12_flies x a)) 1 = z
  intro h
  cases z with
  | inl y => exact h
  | inr y => exact ⟨0, by omega, rfl⟩
theorem sv_z0 {x : kY} {a p : Int32} (hn : kC64 a) (hv : kMv (x.2 0)) (h : f_X12_serves x a p ≤ 0) : f_X12_serves x a p = 0 := by
  obtain ⟨m, hm, e⟩ := sv_ge (p := p) hn hv
  rw [e] at h ⊢
  rcases Nat.eq_zero_or_pos m with q | q
  · rw [q]; rfl
  · exact absurd h (nI_nle q (by omega))
/-- a party that has no plea finds room for one -/
def kRm1 (v : Nat → Int32) : Prop := ∀ a, ¬ f_X12_isParty v a = 0 → poL v a (Int32.toNatClampNeg (v 7)) 0 < 0 → kP8 (v 7)
def f_X12_summons (x : kY) (a1 : Int32) (a2 : Int32) : Int32 := if (f_X12_isParty (x.2 0) a1) = 0 then (f_X12_fail x 1) else (if (f_X12_isIn a2 0 63) = 0 then (f_X12_fail x 2) else (if ((x.2 0) 2) = 0 then (f_X12_refuses x 3 4 ((x.2 0) 1)) else (if (poL (x.2 0) a1 (Int32.toNatClampNeg ((x.2 0) 7)) 0) < 0 then (if (f_X12_serves x a2 a1) ≤ 0 then (if (f_X12_endsBy (yR (yR (yR (g_X12_serves x a2 a1) 0 (upd ((g_X12_serves x a2 a1).2 0) 1 ((((g_X12_serves x a2 a1).2 0) 1) - (f_X12_arm a2)))) 0 (upd (upd ((g_X12_serves x a2 a1).2 0) 1 ((((g_X12_serves x a2 a1).2 0) 1) - (f_X12_arm a2))) 9 ((((g_X12_serves x a2 a1).2 0) 9) + 1))) 0 (upd (upd (upd ((g_X12_serves x a2 a1).2 0) 1 ((((g_X12_serves x a2 a1).2 0) 1) - (f_X12_arm a2))) 9 ((((g_X12_serves x a2 a1).2 0) 9) + 1)) 11 ((((g_X12_serves x a2 a1).2 0) 11) + ((g_X12_serves x a2 a1).1 7)))) ) = 99 then 0 else 0) else 1) else (f_X12_refuses x 3 5 (poL (x.2 0) a1 (Int32.toNatClampNeg ((x.2 0) 7)) 0)))))
def g_X12_summons (x : kY) (a1 : Int32) (a2 : Int32) : kY := if (f_X12_isParty (x.2 0) a1) = 0 then (g_X12_fail x 1) else (if (f_X12_isIn a2 0 63) = 0 then (g_X12_fail x 2) else (if ((x.2 0) 2) = 0 then (g_X12_refuses x 3 4 ((x.2 0) 1)) else (if (poL (x.2 0) a1 (Int32.toNatClampNeg ((x.2 0) 7)) 0) < 0 then (if (f_X12_serves x a2 a1) ≤ 0 then (if (f_X12_endsBy (yR (yR (yR (g_X12_serves x a2 a1) 0 (upd ((g_X12_serves x a2 a1).2 0) 1 ((((g_X12_serves x a2 a1).2 0) 1) - (f_X12_arm a2)))) 0 (upd (upd ((g_X12_serves x a2 a1).2 0) 1 ((((g_X12_serves x a2 a1).2 0) 1) - (f_X12_arm a2))) 9 ((((g_X12_serves x a2 a1).2 0) 9) + 1))) 0 (upd (upd (upd ((g_X12_serves x a2 a1).2 0) 1 ((((g_X12_serves x a2 a1).2 0) 1) - (f_X12_arm a2))) 9 ((((g_X12_serves x a2 a1).2 0) 9) + 1)) 11 ((((g_X12_serves x a2 a1).2 0) 11) + ((g_X12_serves x a2 a1).1 7)))) ) = 99 then (yR (yR (yR (yR (yR (g_X12_serves x a2 a1) 0 (upd ((g_X12_serves x a2 a1).2 0) 1 ((((g_X12_serves x a2 a1).2 0) 1) - (f_X12_arm a2)))) 0 (upd (upd ((g_X12_serves x a2 a1).2 0) 1 ((((g_X12_serves x a2 a1).2 0) 1) - (f_X12_arm a2))) 9 ((((g_X12_serves x a2 a1).2 0) 9) + 1))) 0 (upd (upd (upd ((g_X12_serves x a2 a1).2 0) 1 ((((g_X12_serves x a2 a1).2 0) 1) - (f_X12_arm a2))) 9 ((((g_X12_serves x a2 a1).2 0) 9) + 1)) 11 ((((g_X12_serves x a2 a1).2 0) 11) + ((g_X12_serves x a2 a1).1 7)))) 0 (upd (upd (upd (upd ((g_X12_serves x a2 a1).2 0) 1 ((((g_X12_serves x a2 a1).2 0) 1) - (f_X12_arm a2))) 9 ((((g_X12_serves x a2 a1).2 0) 9) + 1)) 11 ((((g_X12_serves x a2 a1).2 0) 11) + ((g_X12_serves x a2 a1).1 7))) 10 ((((g_X12_serves x a2 a1).2 0) 10) + 1))) 0 (upd (upd (upd (upd (upd ((g_X12_serves x a2 a1).2 0) 1 ((((g_X12_serves x a2 a1).2 0) 1) - (f_X12_arm a2))) 9 ((((g_X12_serves x a2 a1).2 0) 9) + 1)) 11 ((((g_X12_serves x a2 a1).2 0) 11) + ((g_X12_serves x a2 a1).1 7))) 10 ((((g_X12_serves x a2 a1).2 0) 10) + 1)) 2 ((((g_X12_serves x a2 a1).2 0) 2) - 0))) else (yR (yR (yR (yR (yR (g_X12_serves x a2 a1) 0 (upd ((g_X12_serves x a2 a1).2 0) 1 ((((g_X12_serves x a2 a1).2 0) 1) - (f_X12_arm a2)))) 0 (upd (upd ((g_X12_serves x a2 a1).2 0) 1 ((((g_X12_serves x a2 a1).2 0) 1) - (f_X12_arm a2))) 9 ((((g_X12_serves x a2 a1).2 0) 9) + 1))) 0 (upd (upd (upd ((g_X12_serves x a2 a1).2 0) 1 ((((g_X12_serves x a2 a1).2 0) 1) - (f_X12_arm a2))) 9 ((((g_X12_serves x a2 a1).2 0) 9) + 1)) 11 ((((g_X12_serves x a2 a1).2 0) 11) + ((g_X12_serves x a2 a1).1 7)))) 0 (upd (upd (upd (upd ((g_X12_serves x a2 a1).2 0) 1 ((((g_X12_serves x a2 a1).2 0) 1) - (f_X12_arm a2))) 9 ((((g_X12_serves x a2 a1).2 0) 9) + 1)) 11 ((((g_X12_serves x a2 a1).2 0) 11) + ((g_X12_serves x a2 a1).1 7))) 10 ((((g_X12_serves x a2 a1).2 0) 10) + 0))) 0 (upd (upd (upd (upd (upd ((g_X12_serves x a2 a1).2 0) 1 ((((g_X12_serves x a2 a1).2 0) 1) - (f_X12_arm a2))) 9 ((((g_X12_serves x a2 a1).2 0) 9) + 1)) 11 ((((g_X12_serves x a2 a1).2 0) 11) + ((g_X12_serves x a2 a1).1 7))) 10 ((((g_X12_serves x a2 a1).2 0) 10) + 0)) 2 ((((g_X12_serves x a2 a1).2 0) 2) - 1)))) else (yR (yR (yR (yR (yR (yR (yR (yR (yR (g_X12_serves x a2 a1) 0 (upd ((g_X12_serves x a2 a1).2 0) 1 ((((g_X12_serves x a2 a1).2 0) 1) - (f_X12_arm a2)))) 0 (upd (upd ((g_X12_serves x a2 a1).2 0) 1 ((((g_X12_serves x a2 a1).2 0) 1) - (f_X12_arm a2))) 9 ((((g_X12_serves x a2 a1).2 0) 9) + 1))) 0 (upd (upd (upd ((g_X12_serves x a2 a1).2 0) 1 ((((g_X12_serves x a2 a1).2 0) 1) - (f_X12_arm a2))) 9 ((((g_X12_serves x a2 a1).2 0) 9) + 1)) 11 ((((g_X12_serves x a2 a1).2 0) 11) + (f_X12_serves x a2 a1)))) 0 (upd (upd (upd (upd ((g_X12_serves x a2 a1).2 0) 1 ((((g_X12_serves x a2 a1).2 0) 1) - (f_X12_arm a2))) 9 ((((g_X12_serves x a2 a1).2 0) 9) + 1)) 11 ((((g_X12_serves x a2 a1).2 0) 11) + (f_X12_serves x a2 a1))) 2 ((((g_X12_serves x a2 a1).2 0) 2) - 1))) 0 (upd (upd (upd (upd (upd ((g_X12_serves x a2 a1).2 0) 1 ((((g_X12_serves x a2 a1).2 0) 1) - (f_X12_arm a2))) 9 ((((g_X12_serves x a2 a1).2 0) 9) + 1)) 11 ((((g_X12_serves x a2 a1).2 0) 11) + (f_X12_serves x a2 a1))) 2 ((((g_X12_serves x a2 a1).2 0) 2) - 1)) (Int32.toNatClampNeg ((76 + (2 * a1)) + 1)) (((upd (upd (upd (upd ((g_X12_serves x a2 a1).2 0) 1 ((((g_X12_serves x a2 a1).2 0) 1) - (f_X12_arm a2))) 9 ((((g_X12_serves x a2 a1).2 0) 9) + 1)) 11 ((((g_X12_serves x a2 a1).2 0) 11) + (f_X12_serves x a2 a1))) 2 ((((g_X12_serves x a2 a1).2 0) 2) - 1)) (Int32.toNatClampNeg ((76 + (2 * a1)) + 1))) + 1))) 0 (upd ((yR (yR (yR (yR (yR (g_X12_serves x a2 a1) 0 (upd ((g_X12_serves x a2 a1).2 0) 1 ((((g_X12_serves x a2 a1).2 0) 1) - (f_X12_arm a2)))) 0 (upd (upd ((g_X12_serves x a2 a1).2 0) 1 ((((g_X12_serves x a2 a1).2 0) 1) - (f_X12_arm a2))) 9 ((((g_X12_serves x a2 a1).2 0) 9) + 1))) 0 (upd (upd (upd ((g_X12_serves x a2 a1).2 0) 1 ((((g_X12_serves x a2 a1).2 0) 1) - (f_X12_arm a2))) 9 ((((g_X12_serves x a2 a1).2 0) 9) + 1)) 11 ((((g_X12_serves x a2 a1).2 0) 11) + (f_X12_serves x a2 a1)))) 0 (upd (upd (upd (upd ((g_X12_serves x a2 a1).2 0) 1 ((((g_X12_serves x a2 a1).2 0) 1) - (f_X12_arm a2))) 9 ((((g_X12_serves x a2 a1).2 0) 9) + 1)) 11 ((((g_X12_serves x a2 a1).2 0) 11) + (f_X12_serves x a2 a1))) 2 ((((g_X12_serves x a2 a1).2 0) 2) - 1))) 0 (upd (upd (upd (upd (upd ((g_X12_serves x a2 a1).2 0) 1 ((((g_X12_serves x a2 a1).2 0) 1) - (f_X12_arm a2))) 9 ((((g_X12_serves x a2 a1).2 0) 9) + 1)) 11 ((((g_X12_serves x a2 a1).2 0) 11) + (f_X12_serves x a2 a1))) 2 ((((g_X12_serves x a2 a1).2 0) 2) - 1)) (Int32.toNatClampNeg ((76 + (2 * a1)) + 1)) (((upd (upd (upd (upd ((g_X12_serves x a2 a1).2 0) 1 ((((g_X12_serves x a2 a1).2 0) 1) - (f_X12_arm a2))) 9 ((((g_X12_serves x a2 a1).2 0) 9) + 1)) 11 ((((g_X12_serves x a2 a1).2 0) 11) + (f_X12_serves x a2 a1))) 2 ((((g_X12_serves x a2 a1).2 0) 2) - 1)) (Int32.toNatClampNeg ((76 + (2 * a1)) + 1))) + 1))).2 0) (Int32.toNatClampNeg (f_X12_pleaAt (((g_X12_serves x a2 a1).2 0) 7) 0)) a1)) 0 (upd ((yR (yR (yR (yR (yR (yR (g_X12_serves x a2 a1) 0 (upd ((g_X12_serves x a2 a1).2 0) 1 ((((g_X12_serves x a2 a1).2 0) 1) - (f_X12_arm a2)))) 0 (upd (upd ((g_X12_serves x a2 a1).2 0) 1 ((((g_X12_serves x a2 a1).2 0) 1) - (f_X12_arm a2))) 9 ((((g_X12_serves x a2 a1).2 0) 9) + 1))) 0 (upd (upd (upd ((g_X12_serves x a2 a1).2 0) 1 ((((g_X12_serves x a2 a1).2 0) 1) - (f_X12_arm a2))) 9 ((((g_X12_serves x a2 a1).2 0) 9) + 1)) 11 ((((g_X12_serves x a2 a1).2 0) 11) + (f_X12_serves x a2 a1)))) 0 (upd (upd (upd (upd ((g_X12_serves x a2 a1).2 0) 1 ((((g_X12_serves x a2 a1).2 0) 1) - (f_X12_arm a2))) 9 ((((g_X12_serves x a2 a1).2 0) 9) + 1)) 11 ((((g_X12_serves x a2 a1).2 0) 11) + (f_X12_serves x a2 a1))) 2 ((((g_X12_serves x a2 a1).2 0) 2) - 1))) 0 (upd (upd (upd (upd (upd ((g_X12_serves x a2 a1).2 0) 1 ((((g_X12_serves x a2 a1).2 0) 1) - (f_X12_arm a2))) 9 ((((g_X12_serves x a2 a1).2 0) 9) + 1)) 11 ((((g_X12_serves x a2 a1).2 0) 11) + (f_X12_serves x a2 a1))) 2 ((((g_X12_serves x a2 a1).2 0) 2) - 1)) (Int32.toNatClampNeg ((76 + (2 * a1)) + 1)) (((upd (upd (upd (upd ((g_X12_serves x a2 a1).2 0) 1 ((((g_X12_serves x a2 a1).2 0) 1) - (f_X12_arm a2))) 9 ((((g_X12_serves x a2 a1).2 0) 9) + 1)) 11 ((((g_X12_serves x a2 a1).2 0) 11) + (f_X12_serves x a2 a1))) 2 ((((g_X12_serves x a2 a1).2 0) 2) - 1)) (Int32.toNatClampNeg ((76 + (2 * a1)) + 1))) + 1))) 0 (upd ((yR (yR (yR (yR (yR (g_X12_serves x a2 a1) 0 (upd ((g_X12_serves x a2 a1).2 0) 1 ((((g_X12_serves x a2 a1).2 0) 1) - (f_X12_arm a2)))) 0 (upd (upd ((g_X12_serves x a2 a1).2 0) 1 ((((g_X12_serves x a2 a1).2 0) 1) - (f_X12_arm a2))) 9 ((((g_X12_serves x a2 a1).2 0) 9) + 1))) 0 (upd (upd (upd ((g_X12_serves x a2 a1).2 0) 1 ((((g_X12_serves x a2 a1).2 0) 1) - (f_X12_arm a2))) 9 ((((g_X12_serves x a2 a1).2 0) 9) + 1)) 11 ((((g_X12_serves x a2 a1).2 0) 11) + (f_X12_serves x a2 a1)))) 0 (upd (upd (upd (upd ((g_X12_serves x a2 a1).2 0) 1 ((((g_X12_serves x a2 a1).2 0) 1) - (f_X12_arm a2))) 9 ((((g_X12_serves x a2 a1).2 0) 9) + 1)) 11 ((((g_X12_serves x a2 a1).2 0) 11) + (f_X12_serves x a2 a1))) 2 ((((g_X12_serves x a2 a1).2 0) 2) - 1))) 0 (upd (upd (upd (upd (upd ((g_X12_serves x a2 a1).2 0) 1 ((((g_X12_serves x a2 a1).2 0) 1) - (f_X12_arm a2))) 9 ((((g_X12_serves x a2 a1).2 0) 9) + 1)) 11 ((((g_X12_serves x a2 a1).2 0) 11) + (f_X12_serves x a2 a1))) 2 ((((g_X12_serves x a2 a1).2 0) 2) - 1)) (Int32.toNatClampNeg ((76 + (2 * a1)) + 1)) (((upd (upd (upd (upd ((g_X12_serves x a2 a1).2 0) 1 ((((g_X12_serves x a2 a1).2 0) 1) - (f_X12_arm a2))) 9 ((((g_X12_serves x a2 a1).2 0) 9) + 1)) 11 ((((g_X12_serves x a2 a1).2 0) 11) + (f_X12_serves x a2 a1))) 2 ((((g_X12_serves x a2 a1).2 0) 2) - 1)) (Int32.toNatClampNeg ((76 + (2 * a1)) + 1))) + 1))).2 0) (Int32.toNatClampNeg (f_X12_pleaAt (((g_X12_serves x a2 a1).2 0) 7) 0)) a1)).2 0) (Int32.toNatClampNeg (f_X12_pleaAt (((g_X12_serves x a2 a1).2 0) 7) 1)) ((((yR (yR (yR (yR (yR (yR (g_X12_serves x a2 a1) 0 (upd ((g_X12_serves x a2 a1).2 0) 1 ((((g_X12_serves x a2 a1).2 0) 1) - (f_X12_arm a2)))) 0 (upd (upd ((g_X12_serves x a2 a1).2 0) 1 ((((g_X12_serves x a2 a1).2 0) 1) - (f_X12_arm a2))) 9 ((((g_X12_serves x a2 a1).2 0) 9) + 1))) 0 (upd (upd (upd ((g_X12_serves x a2 a1).2 0) 1 ((((g_X12_serves x a2 a1).2 0) 1) - (f_X12_arm a2))) 9 ((((g_X12_serves x a2 a1).2 0) 9) + 1)) 11 ((((g_X12_serves x a2 a1).2 0) 11) + (f_X12_serves x a2 a1)))) 0 (upd (upd (upd (upd ((g_X12_serves x a2 a1).2 0) 1 ((((g_X12_serves x a2 a1).2 0) 1) - (f_X12_arm a2))) 9 ((((g_X12_serves x a2 a1).2 0) 9) + 1)) 11 ((((g_X12_serves x a2 a1).2 0) 11) + (f_X12_serves x a2 a1))) 2 ((((g_X12_serves x a2 a1).2 0) 2) - 1))) 0 (upd (upd (upd (upd (upd ((g_X12_serves x a2 a1).2 0) 1 ((((g_X12_serves x a2 a1).2 0) 1) - (f_X12_arm a2))) 9 ((((g_X12_serves x a2 a1).2 0) 9) + 1)) 11 ((((g_X12_serves x a2 a1).2 0) 11) + (f_X12_serves x a2 a1))) 2 ((((g_X12_serves x a2 a1).2 0) 2) - 1)) (Int32.toNatClampNeg ((76 + (2 * a1)) + 1)) (((upd (upd (upd (upd ((g_X12_serves x a2 a1).2 0) 1 ((((g_X12_serves x a2 a1).2 0) 1) - (f_X12_arm a2))) 9 ((((g_X12_serves x a2 a1).2 0) 9) + 1)) 11 ((((g_X12_serves x a2 a1).2 0) 11) + (f_X12_serves x a2 a1))) 2 ((((g_X12_serves x a2 a1).2 0) 2) - 1)) (Int32.toNatClampNeg ((76 + (2 * a1)) + 1))) + 1))) 0 (upd ((yR (yR (yR (yR (yR (g_X12_serves x a2 a1) 0 (upd ((g_X12_serves x a2 a1).2 0) 1 ((((g_X12_serves x a2 a1).2 0) 1) - (f_X12_arm a2)))) 0 (upd (upd ((g_X12_serves x a2 a1).2 0) 1 ((((g_X12_serves x a2 a1).2 0) 1) - (f_X12_arm a2))) 9 ((((g_X12_serves x a2 a1).2 0) 9) + 1))) 0 (upd (upd (upd ((g_X12_serves x a2 a1).2 0) 1 ((((g_X12_serves x a2 a1).2 0) 1) - (f_X12_arm a2))) 9 ((((g_X12_serves x a2 a1).2 0) 9) + 1)) 11 ((((g_X12_serves x a2 a1).2 0) 11) + (f_X12_serves x a2 a1)))) 0 (upd (upd (upd (upd ((g_X12_serves x a2 a1).2 0) 1 ((((g_X12_serves x a2 a1).2 0) 1) - (f_X12_arm a2))) 9 ((((g_X12_serves x a2 a1).2 0) 9) + 1)) 11 ((((g_X12_serves x a2 a1).2 0) 11) + (f_X12_serves x a2 a1))) 2 ((((g_X12_serves x a2 a1).2 0) 2) - 1))) 0 (upd (upd (upd (upd (upd ((g_X12_serves x a2 a1).2 0) 1 ((((g_X12_serves x a2 a1).2 0) 1) - (f_X12_arm a2))) 9 ((((g_X12_serves x a2 a1).2 0) 9) + 1)) 11 ((((g_X12_serves x a2 a1).2 0) 11) + (f_X12_serves x a2 a1))) 2 ((((g_X12_serves x a2 a1).2 0) 2) - 1)) (Int32.toNatClampNeg ((76 + (2 * a1)) + 1)) (((upd (upd (upd (upd ((g_X12_serves x a2 a1).2 0) 1 ((((g_X12_serves x a2 a1).2 0) 1) - (f_X12_arm a2))) 9 ((((g_X12_serves x a2 a1).2 0) 9) + 1)) 11 ((((g_X12_serves x a2 a1).2 0) 11) + (f_X12_serves x a2 a1))) 2 ((((g_X12_serves x a2 a1).2 0) 2) - 1)) (Int32.toNatClampNeg ((76 + (2 * a1)) + 1))) + 1))).2 0) (Int32.toNatClampNeg (f_X12_pleaAt (((g_X12_serves x a2 a1).2 0) 7) 0)) a1)).2 0) 0) + ((f_X12_serves x a2 a1) / 4)))) 0 (upd ((yR (yR (yR (yR (yR (yR (yR (g_X12_serves x a2 a1) 0 (upd ((g_X12_serves x a2 a1).2 0) 1 ((((g_X12_serves x a2 a1).2 0) 1) - (f_X12_arm a2)))) 0 (upd (upd ((g_X12_serves x a2 a1).2 0) 1 ((((g_X12_serves x a2 a1).2 0) 1) - (f_X12_arm a2))) 9 ((((g_X12_serves x a2 a1).2 0) 9) + 1))) 0 (upd (upd (upd ((g_X12_serves x a2 a1).2 0) 1 ((((g_X12_serves x a2 a1).2 0) 1) - (f_X12_arm a2))) 9 ((((g_X12_serves x a2 a1).2 0) 9) + 1)) 11 ((((g_X12_serves x a2 a1).2 0) 11) + (f_X12_serves x a2 a1)))) 0 (upd (upd (upd (upd ((g_X12_serves x a2 a1).2 0) 1 ((((g_X12_serves x a2 a1).2 0) 1) - (f_X12_arm a2))) 9 ((((g_X12_serves x a2 a1).2 0) 9) + 1)) 11 ((((g_X12_serves x a2 a1).2 0) 11) + (f_X12_serves x a2 a1))) 2 ((((g_X12_serves x a2 a1).2 0) 2) - 1))) 0 (upd (upd (upd (upd (upd ((g_X12_serves x a2 a1).2 0) 1 ((((g_X12_serves x a2 a1).2 0) 1) - (f_X12_arm a2))) 9 ((((g_X12_serves x a2 a1).2 0) 9) + 1)) 11 ((((g_X12_serves x a2 a1).2 0) 11) + (f_X12_serves x a2 a1))) 2 ((((g_X12_serves x a2 a1).2 0) 2) - 1)) (Int32.toNatClampNeg ((76 + (2 * a1)) + 1)) (((upd (upd (upd (upd ((g_X12_serves x a2 a1).2 0) 1 ((((g_X12_serves x a2 a1).2 0) 1) - (f_X12_arm a2))) 9 ((((g_X12_serves x a2 a1).2 0) 9) + 1)) 11 ((((g_X12_serves x a2 a1).2 0) 11) + (f_X12_serves x a2 a1))) 2 ((((g_X12_serves x a2 a1).2 0) 2) - 1)) (Int32.toNatClampNeg ((76 + (2 * a1)) + 1))) + 1))) 0 (upd ((yR (yR (yR (yR (yR (g_X12_serves x a2 a1) 0 (upd ((g_X12_serves x a2 a1).2 0) 1 ((((g_X12_serves x a2 a1).2 0) 1) - (f_X12_arm a2)))) 0 (upd (upd ((g_X12_serves x a2 a1).2 0) 1 ((((g_X12_serves x a2 a1).2 0) 1) - (f_X12_arm a2))) 9 ((((g_X12_serves x a2 a1).2 0) 9) + 1))) 0 (upd (upd (upd ((g_X12_serves x a2 a1).2 0) 1 ((((g_X12_serves x a2 a1).2 0) 1) - (f_X12_arm a2))) 9 ((((g_X12_serves x a2 a1).2 0) 9) + 1)) 11 ((((g_X12_serves x a2 a1).2 0) 11) + (f_X12_serves x a2 a1)))) 0 (upd (upd (upd (upd ((g_X12_serves x a2 a1).2 0) 1 ((((g_X12_serves x a2 a1).2 0) 1) - (f_X12_arm a2))) 9 ((((g_X12_serves x a2 a1).2 0) 9) + 1)) 11 ((((g_X12_serves x a2 a1).2 0) 11) + (f_X12_serves x a2 a1))) 2 ((((g_X12_serves x a2 a1).2 0) 2) - 1))) 0 (upd (upd (upd (upd (upd ((g_X12_serves x a2 a1).2 0) 1 ((((g_X12_serves x a2 a1).2 0) 1) - (f_X12_arm a2))) 9 ((((g_X12_serves x a2 a1).2 0) 9) + 1)) 11 ((((g_X12_serves x a2 a1).2 0) 11) + (f_X12_serves x a2 a1))) 2 ((((g_X12_serves x a2 a1).2 0) 2) - 1)) (Int32.toNatClampNeg ((76 + (2 * a1)) + 1)) (((upd (upd (upd (upd ((g_X12_serves x a2 a1).2 0) 1 ((((g_X12_serves x a2 a1).2 0) 1) - (f_X12_arm a2))) 9 ((((g_X12_serves x a2 a1).2 0) 9) + 1)) 11 ((((g_X12_serves x a2 a1).2 0) 11) + (f_X12_serves x a2 a1))) 2 ((((g_X12_serves x a2 a1).2 0) 2) - 1)) (Int32.toNatClampNeg ((76 + (2 * a1)) + 1))) + 1))).2 0) (Int32.toNatClampNeg (f_X12_pleaAt (((g_X12_serves x a2 a1).2 0) 7) 0)) a1)) 0 (upd ((yR (yR (yR (yR (yR (yR (g_X12_serves x a2 a1) 0 (upd ((g_X12_serves x a2 a1).2 0) 1 ((((g_X12_serves x a2 a1).2 0) 1) - (f_X12_arm a2)))) 0 (upd (upd ((g_X12_serves x a2 a1).2 0) 1 ((((g_X12_serves x a2 a1).2 0) 1) - (f_X12_arm a2))) 9 ((((g_X12_serves x a2 a1).2 0) 9) + 1))) 0 (upd (upd (upd ((g_X12_serves x a2 a1).2 0) 1 ((((g_X12_serves x a2 a1).2 0) 1) - (f_X12_arm a2))) 9 ((((g_X12_serves x a2 a1).2 0) 9) + 1)) 11 ((((g_X12_serves x a2 a1).2 0) 11) + (f_X12_serves x a2 a1)))) 0 (upd (upd (upd (upd ((g_X12_serves x a2 a1).2 0) 1 ((((g_X12_serves x a2 a1).2 0) 1) - (f_X12_arm a2))) 9 ((((g_X12_serves x a2 a1).2 0) 9) + 1)) 11 ((((g_X12_serves x a2 a1).2 0) 11) + (f_X12_serves x a2 a1))) 2 ((((g_X12_serves x a2 a1).2 0) 2) - 1))) 0 (upd (upd (upd (upd (upd ((g_X12_serves x a2 a1).2 0) 1 ((((g_X12_serves x a2 a1).2 0) 1) - (f_X12_arm a2))) 9 ((((g_X12_serves x a2 a1).2 0) 9) + 1)) 11 ((((g_X12_serves x a2 a1).2 0) 11) + (f_X12_serves x a2 a1))) 2 ((((g_X12_serves x a2 a1).2 0) 2) - 1)) (Int32.toNatClampNeg ((76 + (2 * a1)) + 1)) (((upd (upd (upd (upd ((g_X12_serves x a2 a1).2 0) 1 ((((g_X12_serves x a2 a1).2 0) 1) - (f_X12_arm a2))) 9 ((((g_X12_serves x a2 a1).2 0) 9) + 1)) 11 ((((g_X12_serves x a2 a1).2 0) 11) + (f_X12_serves x a2 a1))) 2 ((((g_X12_serves x a2 a1).2 0) 2) - 1)) (Int32.toNatClampNeg ((76 + (2 * a1)) + 1))) + 1))) 0 (upd ((yR (yR (yR (yR (yR (g_X12_serves x a2 a1) 0 (upd ((g_X12_serves x a2 a1).2 0) 1 ((((g_X12_serves x a2 a1).2 0) 1) - (f_X12_arm a2)))) 0 (upd (upd ((g_X12_serves x a2 a1).2 0) 1 ((((g_X12_serves x a2 a1).2 0) 1) - (f_X12_arm a2))) 9 ((((g_X12_serves x a2 a1).2 0) 9) + 1))) 0 (upd (upd (upd ((g_X12_serves x a2 a1).2 0) 1 ((((g_X12_serves x a2 a1).2 0) 1) - (f_X12_arm a2))) 9 ((((g_X12_serves x a2 a1).2 0) 9) + 1)) 11 ((((g_X12_serves x a2 a1).2 0) 11) + (f_X12_serves x a2 a1)))) 0 (upd (upd (upd (upd ((g_X12_serves x a2 a1).2 0) 1 ((((g_X12_serves x a2 a1).2 0) 1) - (f_X12_arm a2))) 9 ((((g_X12_serves x a2 a1).2 0) 9) + 1)) 11 ((((g_X12_serves x a2 a1).2 0) 11) + (f_X12_serves x a2 a1))) 2 ((((g_X12_serves x a2 a1).2 0) 2) - 1))) 0 (upd (upd (upd (upd (upd ((g_X12_serves x a2 a1).2 0) 1 ((((g_X12_serves x a2 a1).2 0) 1) - (f_X12_arm a2))) 9 ((((g_X12_serves x a2 a1).2 0) 9) + 1)) 11 ((((g_X12_serves x a2 a1).2 0) 11) + (f_X12_serves x a2 a1))) 2 ((((g_X12_serves x a2 a1).2 0) 2) - 1)) (Int32.toNatClampNeg ((76 + (2 * a1)) + 1)) (((upd (upd (upd (upd ((g_X12_serves x a2 a1).2 0) 1 ((((g_X12_serves x a2 a1).2 0) 1) - (f_X12_arm a2))) 9 ((((g_X12_serves x a2 a1).2 0) 9) + 1)) 11 ((((g_X12_serves x a2 a1).2 0) 11) + (f_X12_serves x a2 a1))) 2 ((((g_X12_serves x a2 a1).2 0) 2) - 1)) (Int32.toNatClampNeg ((76 + (2 * a1)) + 1))) + 1))).2 0) (Int32.toNatClampNeg (f_X12_pleaAt (((g_X12_serves x a2 a1).2 0) 7) 0)) a1)).2 0) (Int32.toNatClampNeg (f_X12_pleaAt (((g_X12_serves x a2 a1).2 0) 7) 1)) ((((yR (yR (yR (yR (yR (yR (g_X12_serves x a2 a1) 0 (upd ((g_X12_serves x a2 a1).2 0) 1 ((((g_X12_serves x a2 a1).2 0) 1) - (f_X12_arm a2)))) 0 (upd (upd ((g_X12_serves x a2 a1).2 0) 1 ((((g_X12_serves x a2 a1).2 0) 1) - (f_X12_arm a2))) 9 ((((g_X12_serves x a2 a1).2 0) 9) + 1))) 0 (upd (upd (upd ((g_X12_serves x a2 a1).2 0) 1 ((((g_X12_serves x a2 a1).2 0) 1) - (f_X12_arm a2))) 9 ((((g_X12_serves x a2 a1).2 0) 9) + 1)) 11 ((((g_X12_serves x a2 a1).2 0) 11) + (f_X12_serves x a2 a1)))) 0 (upd (upd (upd (upd ((g_X12_serves x a2 a1).2 0) 1 ((((g_X12_serves x a2 a1).2 0) 1) - (f_X12_arm a2))) 9 ((((g_X12_serves x a2 a1).2 0) 9) + 1)) 11 ((((g_X12_serves x a2 a1).2 0) 11) + (f_X12_serves x a2 a1))) 2 ((((g_X12_serves x a2 a1).2 0) 2) - 1))) 0 (upd (upd (upd (upd (upd ((g_X12_serves x a2 a1).2 0) 1 ((((g_X12_serves x a2 a1).2 0) 1) - (f_X12_arm a2))) 9 ((((g_X12_serves x a2 a1).2 0) 9) + 1)) 11 ((((g_X12_serves x a2 a1).2 0) 11) + (f_X12_serves x a2 a1))) 2 ((((g_X12_serves x a2 a1).2 0) 2) - 1)) (Int32.toNatClampNeg ((76 + (2 * a1)) + 1)) (((upd (upd (upd (upd ((g_X12_serves x a2 a1).2 0) 1 ((((g_X12_serves x a2 a1).2 0) 1) - (f_X12_arm a2))) 9 ((((g_X12_serves x a2 a1).2 0) 9) + 1)) 11 ((((g_X12_serves x a2 a1).2 0) 11) + (f_X12_serves x a2 a1))) 2 ((((g_X12_serves x a2 a1).2 0) 2) - 1)) (Int32.toNatClampNeg ((76 + (2 * a1)) + 1))) + 1))) 0 (upd ((yR (yR (yR (yR (yR (g_X12_serves x a2 a1) 0 (upd ((g_X12_serves x a2 a1).2 0) 1 ((((g_X12_serves x a2 a1).2 0) 1) - (f_X12_arm a2)))) 0 (upd (upd ((g_X12_serves x a2 a1).2 0) 1 ((((g_X12_serves x a2 a1).2 0) 1) - (f_X12_arm a2))) 9 ((((g_X12_serves x a2 a1).2 0) 9) + 1))) 0 (upd (upd (upd ((g_X12_serves x a2 a1).2 0) 1 ((((g_X12_serves x a2 a1).2 0) 1) - (f_X12_arm a2))) 9 ((((g_X12_serves x a2 a1).2 0) 9) + 1)) 11 ((((g_X12_serves x a2 a1).2 0) 11) + (f_X12_serves x a2 a1)))) 0 (upd (upd (upd (upd ((g_X12_serves x a2 a1).2 0) 1 ((((g_X12_serves x a2 a1).2 0) 1) - (f_X12_arm a2))) 9 ((((g_X12_serves x a2 a1).2 0) 9) + 1)) 11 ((((g_X12_serves x a2 a1).2 0) 11) + (f_X12_serves x a2 a1))) 2 ((((g_X12_serves x a2 a1).2 0) 2) - 1))) 0 (upd (upd (upd (upd (upd ((g_X12_serves x a2 a1).2 0) 1 ((((g_X12_serves x a2 a1).2 0) 1) - (f_X12_arm a2))) 9 ((((g_X12_serves x a2 a1).2 0) 9) + 1)) 11 ((((g_X12_serves x a2 a1).2 0) 11) + (f_X12_serves x a2 a1))) 2 ((((g_X12_serves x a2 a1).2 0) 2) - 1)) (Int32.toNatClampNeg ((76 + (2 * a1)) + 1)) (((upd (upd (upd (upd ((g_X12_serves x a2 a1).2 0) 1 ((((g_X12_serves x a2 a1).2 0) 1) - (f_X12_arm a2))) 9 ((((g_X12_serves x a2 a1).2 0) 9) + 1)) 11 ((((g_X12_serves x a2 a1).2 0) 11) + (f_X12_serves x a2 a1))) 2 ((((g_X12_serves x a2 a1).2 0) 2) - 1)) (Int32.toNatClampNeg ((76 + (2 * a1)) + 1))) + 1))).2 0) (Int32.toNatClampNeg (f_X12_pleaAt (((g_X12_serves x a2 a1).2 0) 7) 0)) a1)).2 0) 0) + ((f_X12_serves x a2 a1) / 4)))).2 0) (Int32.toNatClampNeg (f_X12_pleaAt (((g_X12_serves x a2 a1).2 0) 7) 2)) (f_X12_arm a2))) 0 (upd ((yR (yR (yR (yR (yR (yR (yR (yR (g_X12_serves x a2 a1) 0 (upd ((g_X12_serves x a2 a1).2 0) 1 ((((g_X12_serves x a2 a1).2 0) 1) - (f_X12_arm a2)))) 0 (upd (upd ((g_X12_serves x a2 a1).2 0) 1 ((((g_X12_serves x a2 a1).2 0) 1) - (f_X12_arm a2))) 9 ((((g_X12_serves x a2 a1).2 0) 9) + 1))) 0 (upd (upd (upd ((g_X12_serves x a2 a1).2 0) 1 ((((g_X12_serves x a2 a1).2 0) 1) - (f_X12_arm a2))) 9 ((((g_X12_serves x a2 a1).2 0) 9) + 1)) 11 ((((g_X12_serves x a2 a1).2 0) 11) + (f_X12_serves x a2 a1)))) 0 (upd (upd (upd (upd ((g_X12_serves x a2 a1).2 0) 1 ((((g_X12_serves x a2 a1).2 0) 1) - (f_X12_arm a2))) 9 ((((g_X12_serves x a2 a1).2 0) 9) + 1)) 11 ((((g_X12_serves x a2 a1).2 0) 11) + (f_X12_serves x a2 a1))) 2 ((((g_X12_serves x a2 a1).2 0) 2) - 1))) 0 (upd (upd (upd (upd (upd ((g_X12_serves x a2 a1).2 0) 1 ((((g_X12_serves x a2 a1).2 0) 1) - (f_X12_arm a2))) 9 ((((g_X12_serves x a2 a1).2 0) 9) + 1)) 11 ((((g_X12_serves x a2 a1).2 0) 11) + (f_X12_serves x a2 a1))) 2 ((((g_X12_serves x a2 a1).2 0) 2) - 1)) (Int32.toNatClampNeg ((76 + (2 * a1)) + 1)) (((upd (upd (upd (upd ((g_X12_serves x a2 a1).2 0) 1 ((((g_X12_serves x a2 a1).2 0) 1) - (f_X12_arm a2))) 9 ((((g_X12_serves x a2 a1).2 0) 9) + 1)) 11 ((((g_X12_serves x a2 a1).2 0) 11) + (f_X12_serves x a2 a1))) 2 ((((g_X12_serves x a2 a1).2 0) 2) - 1)) (Int32.toNatClampNeg ((76 + (2 * a1)) + 1))) + 1))) 0 (upd ((yR (yR (yR (yR (yR (g_X12_serves x a2 a1) 0 (upd ((g_X12_serves x a2 a1).2 0) 1 ((((g_X12_serves x a2 a1).2 0) 1) - (f_X12_arm a2)))) 0 (upd (upd ((g_X12_serves x a2 a1).2 0) 1 ((((g_X12_serves x a2 a1).2 0) 1) - (f_X12_arm a2))) 9 ((((g_X12_serves x a2 a1).2 0) 9) + 1))) 0 (upd (upd (upd ((g_X12_serves x a2 a1).2 0) 1 ((((g_X12_serves x a2 a1).2 0) 1) - (f_X12_arm a2))) 9 ((((g_X12_serves x a2 a1).2 0) 9) + 1)) 11 ((((g_X12_serves x a2 a1).2 0) 11) + (f_X12_serves x a2 a1)))) 0 (upd (upd (upd (upd ((g_X12_serves x a2 a1).2 0) 1 ((((g_X12_serves x a2 a1).2 0) 1) - (f_X12_arm a2))) 9 ((((g_X12_serves x a2 a1).2 0) 9) + 1)) 11 ((((g_X12_serves x a2 a1).2 0) 11) + (f_X12_serves x a2 a1))) 2 ((((g_X12_serves x a2 a1).2 0) 2) - 1))) 0 (upd (upd (upd (upd (upd ((g_X12_serves x a2 a1).2 0) 1 ((((g_X12_serves x a2 a1).2 0) 1) - (f_X12_arm a2))) 9 ((((g_X12_serves x a2 a1).2 0) 9) + 1)) 11 ((((g_X12_serves x a2 a1).2 0) 11) + (f_X12_serves x a2 a1))) 2 ((((g_X12_serves x a2 a1).2 0) 2) - 1)) (Int32.toNatClampNeg ((76 + (2 * a1)) + 1)) (((upd (upd (upd (upd ((g_X12_serves x a2 a1).2 0) 1 ((((g_X12_serves x a2 a1).2 0) 1) - (f_X12_arm a2))) 9 ((((g_X12_serves x a2 a1).2 0) 9) + 1)) 11 ((((g_X12_serves x a2 a1).2 0) 11) + (f_X12_serves x a2 a1))) 2 ((((g_X12_serves x a2 a1).2 0) 2) - 1)) (Int32.toNatClampNeg ((76 + (2 * a1)) + 1))) + 1))).2 0) (Int32.toNatClampNeg (f_X12_pleaAt (((g_X12_serves x a2 a1).2 0) 7) 0)) a1)) 0 (upd ((yR (yR (yR (yR (yR (yR (g_X12_serves x a2 a1) 0 (upd ((g_X12_serves x a2 a1).2 0) 1 ((((g_X12_serves x a2 a1).2 0) 1) - (f_X12_arm a2)))) 0 (upd (upd ((g_X12_serves x a2 a1).2 0) 1 ((((g_X12_serves x a2 a1).2 0) 1) - (f_X12_arm a2))) 9 ((((g_X12_serves x a2 a1).2 0) 9) + 1))) 0 (upd (upd (upd ((g_X12_serves x a2 a1).2 0) 1 ((((g_X12_serves x a2 a1).2 0) 1) - (f_X12_arm a2))) 9 ((((g_X12_serves x a2 a1).2 0) 9) + 1)) 11 ((((g_X12_serves x a2 a1).2 0) 11) + (f_X12_serves x a2 a1)))) 0 (upd (upd (upd (upd ((g_X12_serves x a2 a1).2 0) 1 ((((g_X12_serves x a2 a1).2 0) 1) - (f_X12_arm a2))) 9 ((((g_X12_serves x a2 a1).2 0) 9) + 1)) 11 ((((g_X12_serves x a2 a1).2 0) 11) + (f_X12_serves x a2 a1))) 2 ((((g_X12_serves x a2 a1).2 0) 2) - 1))) 0 (upd (upd (upd (upd (upd ((g_X12_serves x a2 a1).2 0) 1 ((((g_X12_serves x a2 a1).2 0) 1) - (f_X12_arm a2))) 9 ((((g_X12_serves x a2 a1).2 0) 9) + 1)) 11 ((((g_X12_serves x a2 a1).2 0) 11) + (f_X12_serves x a2 a1))) 2 ((((g_X12_serves x a2 a1).2 0) 2) - 1)) (Int32.toNatClampNeg ((76 + (2 * a1)) + 1)) (((upd (upd (upd (upd ((g_X12_serves x a2 a1).2 0) 1 ((((g_X12_serves x a2 a1).2 0) 1) - (f_X12_arm a2))) 9 ((((g_X12_serves x a2 a1).2 0) 9) + 1)) 11 ((((g_X12_serves x a2 a1).2 0) 11) + (f_X12_serves x a2 a1))) 2 ((((g_X12_serves x a2 a1).2 0) 2) - 1)) (Int32.toNatClampNeg ((76 + (2 * a1)) + 1))) + 1))) 0 (upd ((yR (yR (yR (yR (yR (g_X12_serves x a2 a1) 0 (upd ((g_X12_serves x a2 a1).2 0) 1 ((((g_X12_serves x a2 a1).2 0) 1) - (f_X12_arm a2)))) 0 (upd (upd ((g_X12_serves x a2 a1).2 0) 1 ((((g_X12_serves x a2 a1).2 0) 1) - (f_X12_arm a2))) 9 ((((g_X12_serves x a2 a1).2 0) 9) + 1))) 0 (upd (upd (upd ((g_X12_serves x a2 a1).2 0) 1 ((((g_X12_serves x a2 a1).2 0) 1) - (f_X12_arm a2))) 9 ((((g_X12_serves x a2 a1).2 0) 9) + 1)) 11 ((((g_X12_serves x a2 a1).2 0) 11) + (f_X12_serves x a2 a1)))) 0 (upd (upd (upd (upd ((g_X12_serves x a2 a1).2 0) 1 ((((g_X12_serves x a2 a1).2 0) 1) - (f_X12_arm a2))) 9 ((((g_X12_serves x a2 a1).2 0) 9) + 1)) 11 ((((g_X12_serves x a2 a1).2 0) 11) + (f_X12_serves x a2 a1))) 2 ((((g_X12_serves x a2 a1).2 0) 2) - 1))) 0 (upd (upd (upd (upd (upd ((g_X12_serves x a2 a1).2 0) 1 ((((g_X12_serves x a2 a1).2 0) 1) - (f_X12_arm a2))) 9 ((((g_X12_serves x a2 a1).2 0) 9) + 1)) 11 ((((g_X12_serves x a2 a1).2 0) 11) + (f_X12_serves x a2 a1))) 2 ((((g_X12_serves x a2 a1).2 0) 2) - 1)) (Int32.toNatClampNeg ((76 + (2 * a1)) + 1)) (((upd (upd (upd (upd ((g_X12_serves x a2 a1).2 0) 1 ((((g_X12_serves x a2 a1).2 0) 1) - (f_X12_arm a2))) 9 ((((g_X12_serves x a2 a1).2 0) 9) + 1)) 11 ((((g_X12_serves x a2 a1).2 0) 11) + (f_X12_serves x a2 a1))) 2 ((((g_X12_serves x a2 a1).2 0) 2) - 1)) (Int32.toNatClampNeg ((76 + (2 * a1)) + 1))) + 1))).2 0) (Int32.toNatClampNeg (f_X12_pleaAt (((g_X12_serves x a2 a1).2 0) 7) 0)) a1)).2 0) (Int32.toNatClampNeg (f_X12_pleaAt (((g_X12_serves x a2 a1).2 0) 7) 1)) ((((yR (yR (yR (yR (yR (yR (g_X12_serves x a2 a1) 0 (upd ((g_X12_serves x a2 a1).2 0) 1 ((((g_X12_serves x a2 a1).2 0) 1) - (f_X12_arm a2)))) 0 (upd (upd ((g_X12_serves x a2 a1).2 0) 1 ((((g_X12_serves x a2 a1).2 0) 1) - (f_X12_arm a2))) 9 ((((g_X12_serves x a2 a1).2 0) 9) + 1))) 0 (upd (upd (upd ((g_X12_serves x a2 a1).2 0) 1 ((((g_X12_serves x a2 a1).2 0) 1) - (f_X12_arm a2))) 9 ((((g_X12_serves x a2 a1).2 0) 9) + 1)) 11 ((((g_X12_serves x a2 a1).2 0) 11) + (f_X12_serves x a2 a1)))) 0 (upd (upd (upd (upd ((g_X12_serves x a2 a1).2 0) 1 ((((g_X12_serves x a2 a1).2 0) 1) - (f_X12_arm a2))) 9 ((((g_X12_serves x a2 a1).2 0) 9) + 1)) 11 ((((g_X12_serves x a2 a1).2 0) 11) + (f_X12_serves x a2 a1))) 2 ((((g_X12_serves x a2 a1).2 0) 2) - 1))) 0 (upd (upd (upd (upd (upd ((g_X12_serves x a2 a1).2 0) 1 ((((g_X12_serves x a2 a1).2 0) 1) - (f_X12_arm a2))) 9 ((((g_X12_serves x a2 a1).2 0) 9) + 1)) 11 ((((g_X12_serves x a2 a1).2 0) 11) + (f_X12_serves x a2 a1))) 2 ((((g_X12_serves x a2 a1).2 0) 2) - 1)) (Int32.toNatClampNeg ((76 + (2 * a1)) + 1)) (((upd (upd (upd (upd ((g_X12_serves x a2 a1).2 0) 1 ((((g_X12_serves x a2 a1).2 0) 1) - (f_X12_arm a2))) 9 ((((g_X12_serves x a2 a1).2 0) 9) + 1)) 11 ((((g_X12_serves x a2 a1).2 0) 11) + (f_X12_serves x a2 a1))) 2 ((((g_X12_serves x a2 a1).2 0) 2) - 1)) (Int32.toNatClampNeg ((76 + (2 * a1)) + 1))) + 1))) 0 (upd ((yR (yR (yR (yR (yR (g_X12_serves x a2 a1) 0 (upd ((g_X12_serves x a2 a1).2 0) 1 ((((g_X12_serves x a2 a1).2 0) 1) - (f_X12_arm a2)))) 0 (upd (upd ((g_X12_serves x a2 a1).2 0) 1 ((((g_X12_serves x a2 a1).2 0) 1) - (f_X12_arm a2))) 9 ((((g_X12_serves x a2 a1).2 0) 9) + 1))) 0 (upd (upd (upd ((g_X12_serves x a2 a1).2 0) 1 ((((g_X12_serves x a2 a1).2 0) 1) - (f_X12_arm a2))) 9 ((((g_X12_serves x a2 a1).2 0) 9) + 1)) 11 ((((g_X12_serves x a2 a1).2 0) 11) + (f_X12_serves x a2 a1)))) 0 (upd (upd (upd (upd ((g_X12_serves x a2 a1).2 0) 1 ((((g_X12_serves x a2 a1).2 0) 1) - (f_X12_arm a2))) 9 ((((g_X12_serves x a2 a1).2 0) 9) + 1)) 11 ((((g_X12_serves x a2 a1).2 0) 11) + (f_X12_serves x a2 a1))) 2 ((((g_X12_serves x a2 a1).2 0) 2) - 1))) 0 (upd (upd (upd (upd (upd ((g_X12_serves x a2 a1).2 0) 1 ((((g_X12_serves x a2 a1).2 0) 1) - (f_X12_arm a2))) 9 ((((g_X12_serves x a2 a1).2 0) 9) + 1)) 11 ((((g_X12_serves x a2 a1).2 0) 11) + (f_X12_serves x a2 a1))) 2 ((((g_X12_serves x a2 a1).2 0) 2) - 1)) (Int32.toNatClampNeg ((76 + (2 * a1)) + 1)) (((upd (upd (upd (upd ((g_X12_serves x a2 a1).2 0) 1 ((((g_X12_serves x a2 a1).2 0) 1) - (f_X12_arm a2))) 9 ((((g_X12_serves x a2 a1).2 0) 9) + 1)) 11 ((((g_X12_serves x a2 a1).2 0) 11) + (f_X12_serves x a2 a1))) 2 ((((g_X12_serves x a2 a1).2 0) 2) - 1)) (Int32.toNatClampNeg ((76 + (2 * a1)) + 1))) + 1))).2 0) (Int32.toNatClampNeg (f_X12_pleaAt (((g_X12_serves x a2 a1).2 0) 7) 0)) a1)).2 0) 0) + ((f_X12_serves x a2 a1) / 4)))) 0 (upd ((yR (yR (yR (yR (yR (yR (yR (g_X12_serves x a2 a1) 0 (upd ((g_X12_serves x a2 a1).2 0) 1 ((((g_X12_serves x a2 a1).2 0) 1) - (f_X12_arm a2)))) 0 (upd (upd ((g_X12_serves x a2 a1).2 0) 1 ((((g_X12_serves x a2 a1).2 0) 1) - (f_X12_arm a2))) 9 ((((g_X12_serves x a2 a1).2 0) 9) + 1))) 0 (upd (upd (upd ((g_X12_serves x a2 a1).2 0) 1 ((((g_X12_serves x a2 a1).2 0) 1) - (f_X12_arm a2))) 9 ((((g_X12_serves x a2 a1).2 0) 9) + 1)) 11 ((((g_X12_serves x a2 a1).2 0) 11) + (f_X12_serves x a2 a1)))) 0 (upd (upd (upd (upd ((g_X12_serves x a2 a1).2 0) 1 ((((g_X12_serves x a2 a1).2 0) 1) - (f_X12_arm a2))) 9 ((((g_X12_serves x a2 a1).2 0) 9) + 1)) 11 ((((g_X12_serves x a2 a1).2 0) 11) + (f_X12_serves x a2 a1))) 2 ((((g_X12_serves x a2 a1).2 0) 2) - 1))) 0 (upd (upd (upd (upd (upd ((g_X12_serves x a2 a1).2 0) 1 ((((g_X12_serves x a2 a1).2 0) 1) - (f_X12_arm a2))) 9 ((((g_X12_serves x a2 a1).2 0) 9) + 1)) 11 ((((g_X12_serves x a2 a1).2 0) 11) + (f_X12_serves x a2 a1))) 2 ((((g_X12_serves x a2 a1).2 0) 2) - 1)) (Int32.toNatClampNeg ((76 + (2 * a1)) + 1)) (((upd (upd (upd (upd ((g_X12_serves x a2 a1).2 0) 1 ((((g_X12_serves x a2 a1).2 0) 1) - (f_X12_arm a2))) 9 ((((g_X12_serves x a2 a1).2 0) 9) + 1)) 11 ((((g_X12_serves x a2 a1).2 0) 11) + (f_X12_serves x a2 a1))) 2 ((((g_X12_serves x a2 a1).2 0) 2) - 1)) (Int32.toNatClampNeg ((76 + (2 * a1)) + 1))) + 1))) 0 (upd ((yR (yR (yR (yR (yR (g_X12_serves x a2 a1) 0 (upd ((g_X12_serves x a2 a1).2 0) 1 ((((g_X12_serves x a2 a1).2 0) 1) - (f_X12_arm a2)))) 0 (upd (upd ((g_X12_serves x a2 a1).2 0) 1 ((((g_X12_serves x a2 a1).2 0) 1) - (f_X12_arm a2))) 9 ((((g_X12_serves x a2 a1).2 0) 9) + 1))) 0 (upd (upd (upd ((g_X12_serves x a2 a1).2 0) 1 ((((g_X12_serves x a2 a1).2 0) 1) - (f_X12_arm a2))) 9 ((((g_X12_serves x a2 a1).2 0) 9) + 1)) 11 ((((g_X12_serves x a2 a1).2 0) 11) + (f_X12_serves x a2 a1)))) 0 (upd (upd (upd (upd ((g_X12_serves x a2 a1).2 0) 1 ((((g_X12_serves x a2 a1).2 0) 1) - (f_X12_arm a2))) 9 ((((g_X12_serves x a2 a1).2 0) 9) + 1)) 11 ((((g_X12_serves x a2 a1).2 0) 11) + (f_X12_serves x a2 a1))) 2 ((((g_X12_serves x a2 a1).2 0) 2) - 1))) 0 (upd (upd (upd (upd (upd ((g_X12_serves x a2 a1).2 0) 1 ((((g_X12_serves x a2 a1).2 0) 1) - (f_X12_arm a2))) 9 ((((g_X12_serves x a2 a1).2 0) 9) + 1)) 11 ((((g_X12_serves x a2 a1).2 0) 11) + (f_X12_serves x a2 a1))) 2 ((((g_X12_serves x a2 a1).2 0) 2) - 1)) (Int32.toNatClampNeg ((76 + (2 * a1)) + 1)) (((upd (upd (upd (upd ((g_X12_serves x a2 a1).2 0) 1 ((((g_X12_serves x a2 a1).2 0) 1) - (f_X12_arm a2))) 9 ((((g_X12_serves x a2 a1).2 0) 9) + 1)) 11 ((((g_X12_serves x a2 a1).2 0) 11) + (f_X12_serves x a2 a1))) 2 ((((g_X12_serves x a2 a1).2 0) 2) - 1)) (Int32.toNatClampNeg ((76 + (2 * a1)) + 1))) + 1))).2 0) (Int32.toNatClampNeg (f_X12_pleaAt (((g_X12_serves x a2 a1).2 0) 7) 0)) a1)) 0 (upd ((yR (yR (yR (yR (yR (yR (g_X12_serves x a2 a1) 0 (upd ((g_X12_serves x a2 a1).2 0) 1 ((((g_X12_serves x a2 a1).2 0) 1) - (f_X12_arm a2)))) 0 (upd (upd ((g_X12_serves x a2 a1).2 0) 1 ((((g_X12_serves x a2 a1).2 0) 1) - (f_X12_arm a2))) 9 ((((g_X12_serves x a2 a1).2 0) 9) + 1))) 0 (upd (upd (upd ((g_X12_serves x a2 a1).2 0) 1 ((((g_X12_serves x a2 a1).2 0) 1) - (f_X12_arm a2))) 9 ((((g_X12_serves x a2 a1).2 0) 9) + 1)) 11 ((((g_X12_serves x a2 a1).2 0) 11) + (f_X12_serves x a2 a1)))) 0 (upd (upd (upd (upd ((g_X12_serves x a2 a1).2 0) 1 ((((g_X12_serves x a2 a1).2 0) 1) - (f_X12_arm a2))) 9 ((((g_X12_serves x a2 a1).2 0) 9) + 1)) 11 ((((g_X12_serves x a2 a1).2 0) 11) + (f_X12_serves x a2 a1))) 2 ((((g_X12_serves x a2 a1).2 0) 2) - 1))) 0 (upd (upd (upd (upd (upd ((g_X12_serves x a2 a1).2 0) 1 ((((g_X12_serves x a2 a1).2 0) 1) - (f_X12_arm a2))) 9 ((((g_X12_serves x a2 a1).2 0) 9) + 1)) 11 ((((g_X12_serves x a2 a1).2 0) 11) + (f_X12_serves x a2 a1))) 2 ((((g_X12_serves x a2 a1).2 0) 2) - 1)) (Int32.toNatClampNeg ((76 + (2 * a1)) + 1)) (((upd (upd (upd (upd ((g_X12_serves x a2 a1).2 0) 1 ((((g_X12_serves x a2 a1).2 0) 1) - (f_X12_arm a2))) 9 ((((g_X12_serves x a2 a1).2 0) 9) + 1)) 11 ((((g_X12_serves x a2 a1).2 0) 11) + (f_X12_serves x a2 a1))) 2 ((((g_X12_serves x a2 a1).2 0) 2) - 1)) (Int32.toNatClampNeg ((76 + (2 * a1)) + 1))) + 1))) 0 (upd ((yR (yR (yR (yR (yR (g_X12_serves x a2 a1) 0 (upd ((g_X12_serves x a2 a1).2 0) 1 ((((g_X12_serves x a2 a1).2 0) 1) - (f_X12_arm a2)))) 0 (upd (upd ((g_X12_serves x a2 a1).2 0) 1 ((((g_X12_serves x a2 a1).2 0) 1) - (f_X12_arm a2))) 9 ((((g_X12_serves x a2 a1).2 0) 9) + 1))) 0 (upd (upd (upd ((g_X12_serves x a2 a1).2 0) 1 ((((g_X12_serves x a2 a1).2 0) 1) - (f_X12_arm a2))) 9 ((((g_X12_serves x a2 a1).2 0) 9) + 1)) 11 ((((g_X12_serves x a2 a1).2 0) 11) + (f_X12_serves x a2 a1)))) 0 (upd (upd (upd (upd ((g_X12_serves x a2 a1).2 0) 1 ((((g_X12_serves x a2 a1).2 0) 1) - (f_X12_arm a2))) 9 ((((g_X12_serves x a2 a1).2 0) 9) + 1)) 11 ((((g_X12_serves x a2 a1).2 0) 11) + (f_X12_serves x a2 a1))) 2 ((((g_X12_serves x a2 a1).2 0) 2) - 1))) 0 (upd (upd (upd (upd (upd ((g_X12_serves x a2 a1).2 0) 1 ((((g_X12_serves x a2 a1).2 0) 1) - (f_X12_arm a2))) 9 ((((g_X12_serves x a2 a1).2 0) 9) + 1)) 11 ((((g_X12_serves x a2 a1).2 0) 11) + (f_X12_serves x a2 a1))) 2 ((((g_X12_serves x a2 a1).2 0) 2) - 1)) (Int32.toNatClampNeg ((76 + (2 * a1)) + 1)) (((upd (upd (upd (upd ((g_X12_serves x a2 a1).2 0) 1 ((((g_X12_serves x a2 a1).2 0) 1) - (f_X12_arm a2))) 9 ((((g_X12_serves x a2 a1).2 0) 9) + 1)) 11 ((((g_X12_serves x a2 a1).2 0) 11) + (f_X12_serves x a2 a1))) 2 ((((g_X12_serves x a2 a1).2 0) 2) - 1)) (Int32.toNatClampNeg ((76 + (2 * a1)) + 1))) + 1))).2 0) (Int32.toNatClampNeg (f_X12_pleaAt (((g_X12_serves x a2 a1).2 0) 7) 0)) a1)).2 0) (Int32.toNatClampNeg (f_X12_pleaAt (((g_X12_serves x a2 a1).2 0) 7) 1)) ((((yR (yR (yR (yR (yR (yR (g_X12_serves x a2 a1) 0 (upd ((g_X12_serves x a2 a1).2 0) 1 ((((g_X12_serves x a2 a1).2 0) 1) - (f_X12_arm a2)))) 0 (upd (upd ((g_X12_serves x a2 a1).2 0) 1 ((((g_X12_serves x a2 a1).2 0) 1) - (f_X12_arm a2))) 9 ((((g_X12_serves x a2 a1).2 0) 9) + 1))) 0 (upd (upd (upd ((g_X12_serves x a2 a1).2 0) 1 ((((g_X12_serves x a2 a1).2 0) 1) - (f_X12_arm a2))) 9 ((((g_X12_serves x a2 a1).2 0) 9) + 1)) 11 ((((g_X12_serves x a2 a1).2 0) 11) + (f_X12_serves x a2 a1)))) 0 (upd (upd (upd (upd ((g_X12_serves x a2 a1).2 0) 1 ((((g_X12_serves x a2 a1).2 0) 1) - (f_X12_arm a2))) 9 ((((g_X12_serves x a2 a1).2 0) 9) + 1)) 11 ((((g_X12_serves x a2 a1).2 0) 11) + (f_X12_serves x a2 a1))) 2 ((((g_X12_serves x a2 a1).2 0) 2) - 1))) 0 (upd (upd (upd (upd (upd ((g_X12_serves x a2 a1).2 0) 1 ((((g_X12_serves x a2 a1).2 0) 1) - (f_X12_arm a2))) 9 ((((g_X12_serves x a2 a1).2 0) 9) + 1)) 11 ((((g_X12_serves x a2 a1).2 0) 11) + (f_X12_serves x a2 a1))) 2 ((((g_X12_serves x a2 a1).2 0) 2) - 1)) (Int32.toNatClampNeg ((76 + (2 * a1)) + 1)) (((upd (upd (upd (upd ((g_X12_serves x a2 a1).2 0) 1 ((((g_X12_serves x a2 a1).2 0) 1) - (f_X12_arm a2))) 9 ((((g_X12_serves x a2 a1).2 0) 9) + 1)) 11 ((((g_X12_serves x a2 a1).2 0) 11) + (f_X12_serves x a2 a1))) 2 ((((g_X12_serves x a2 a1).2 0) 2) - 1)) (Int32.toNatClampNeg ((76 + (2 * a1)) + 1))) + 1))) 0 (upd ((yR (yR (yR (yR (yR (g_X12_serves x a2 a1) 0 (upd ((g_X12_serves x a2 a1).2 0) 1 ((((g_X12_serves x a2 a1).2 0) 1) - (f_X12_arm a2)))) 0 (upd (upd ((g_X12_serves x a2 a1).2 0) 1 ((((g_X12_serves x a2 a1).2 0) 1) - (f_X12_arm a2))) 9 ((((g_X12_serves x a2 a1).2 0) 9) + 1))) 0 (upd (upd (upd ((g_X12_serves x a2 a1).2 0) 1 ((((g_X12_serves x a2 a1).2 0) 1) - (f_X12_arm a2))) 9 ((((g_X12_serves x a2 a1).2 0) 9) + 1)) 11 ((((g_X12_serves x a2 a1).2 0) 11) + (f_X12_serves x a2 a1)))) 0 (upd (upd (upd (upd ((g_X12_serves x a2 a1).2 0) 1 ((((g_X12_serves x a2 a1).2 0) 1) - (f_X12_arm a2))) 9 ((((g_X12_serves x a2 a1).2 0) 9) + 1)) 11 ((((g_X12_serves x a2 a1).2 0) 11) + (f_X12_serves x a2 a1))) 2 ((((g_X12_serves x a2 a1).2 0) 2) - 1))) 0 (upd (upd (upd (upd (upd ((g_X12_serves x a2 a1).2 0) 1 ((((g_X12_serves x a2 a1).2 0) 1) - (f_X12_arm a2))) 9 ((((g_X12_serves x a2 a1).2 0) 9) + 1)) 11 ((((g_X12_serves x a2 a1).2 0) 11) + (f_X12_serves x a2 a1))) 2 ((((g_X12_serves x a2 a1).2 0) 2) - 1)) (Int32.toNatClampNeg ((76 + (2 * a1)) + 1)) (((upd (upd (upd (upd ((g_X12_serves x a2 a1).2 0) 1 ((((g_X12_serves x a2 a1).2 0) 1) - (f_X12_arm a2))) 9 ((((g_X12_serves x a2 a1).2 0) 9) + 1)) 11 ((((g_X12_serves x a2 a1).2 0) 11) + (f_X12_serves x a2 a1))) 2 ((((g_X12_serves x a2 a1).2 0) 2) - 1)) (Int32.toNatClampNeg ((76 + (2 * a1)) + 1))) + 1))).2 0) (Int32.toNatClampNeg (f_X12_pleaAt (((g_X12_serves x a2 a1).2 0) 7) 0)) a1)).2 0) 0) + ((f_X12_serves x a2 a1) / 4)))).2 0) (Int32.toNatClampNeg (f_X12_pleaAt (((g_X12_serves x a2 a1).2 0) 7) 2)) (f_X12_arm a2))).2 0) 7 ((((yR (yR (yR (yR (yR (yR (yR (yR (g_X12_serves x a2 a1) 0 (upd ((g_X12_serves x a2 a1).2 0) 1 ((((g_X12_serves x a2 a1).2 0) 1) - (f_X12_arm a2)))) 0 (upd (upd ((g_X12_serves x a2 a1).2 0) 1 ((((g_X12_serves x a2 a1).2 0) 1) - (f_X12_arm a2))) 9 ((((g_X12_serves x a2 a1).2 0) 9) + 1))) 0 (upd (upd (upd ((g_X12_serves x a2 a1).2 0) 1 ((((g_X12_serves x a2 a1).2 0) 1) - (f_X12_arm a2))) 9 ((((g_X12_serves x a2 a1).2 0) 9) + 1)) 11 ((((g_X12_serves x a2 a1).2 0) 11) + (f_X12_serves x a2 a1)))) 0 (upd (upd (upd (upd ((g_X12_serves x a2 a1).2 0) 1 ((((g_X12_serves x a2 a1).2 0) 1) - (f_X12_arm a2))) 9 ((((g_X12_serves x a2 a1).2 0) 9) + 1)) 11 ((((g_X12_serves x a2 a1).2 0) 11) + (f_X12_serves x a2 a1))) 2 ((((g_X12_serves x a2 a1).2 0) 2) - 1))) 0 (upd (upd (upd (upd (upd ((g_X12_serves x a2 a1).2 0) 1 ((((g_X12_serves x a2 a1).2 0) 1) - (f_X12_arm a2))) 9 ((((g_X12_serves x a2 a1).2 0) 9) + 1)) 11 ((((g_X12_serves x a2 a1).2 0) 11) + (f_X12_serves x a2 a1))) 2 ((((g_X12_serves x a2 a1).2 0) 2) - 1)) (Int32.toNatClampNeg ((76 + (2 * a1)) + 1)) (((upd (upd (upd (upd ((g_X12_serves x a2 a1).2 0) 1 ((((g_X12_serves x a2 a1).2 0) 1) - (f_X12_arm a2))) 9 ((((g_X12_serves x a2 a1).2 0) 9) + 1)) 11 ((((g_X12_serves x a2 a1).2 0) 11) + (f_X12_serves x a2 a1))) 2 ((((g_X12_serves x a2 a1).2 0) 2) - 1)) (Int32.toNatClampNeg ((76 + (2 * a1)) + 1))) + 1))) 0 (upd ((yR (yR (yR (yR (yR (g_X12_serves x a2 a1) 0 (upd ((g_X12_serves x a2 a1).2 0) 1 ((((g_X12_serves x a2 a1).2 0) 1) - (f_X12_arm a2)))) 0 (upd (upd ((g_X12_serves x a2 a1).2 0) 1 ((((g_X12_serves x a2 a1).2 0) 1) - (f_X12_arm a2))) 9 ((((g_X12_serves x a2 a1).2 0) 9) + 1))) 0 (upd (upd (upd ((g_X12_serves x a2 a1).2 0) 1 ((((g_X12_serves x a2 a1).2 0) 1) - (f_X12_arm a2))) 9 ((((g_X12_serves x a2 a1).2 0) 9) + 1)) 11 ((((g_X12_serves x a2 a1).2 0) 11) + (f_X12_serves x a2 a1)))) 0 (upd (upd (upd (upd ((g_X12_serves x a2 a1).2 0) 1 ((((g_X12_serves x a2 a1).2 0) 1) - (f_X12_arm a2))) 9 ((((g_X12_serves x a2 a1).2 0) 9) + 1)) 11 ((((g_X12_serves x a2 a1).2 0) 11) + (f_X12_serves x a2 a1))) 2 ((((g_X12_serves x a2 a1).2 0) 2) - 1))) 0 (upd (upd (upd (upd (upd ((g_X12_serves x a2 a1).2 0) 1 ((((g_X12_serves x a2 a1).2 0) 1) - (f_X12_arm a2))) 9 ((((g_X12_serves x a2 a1).2 0) 9) + 1)) 11 ((((g_X12_serves x a2 a1).2 0) 11) + (f_X12_serves x a2 a1))) 2 ((((g_X12_serves x a2 a1).2 0) 2) - 1)) (Int32.toNatClampNeg ((76 + (2 * a1)) + 1)) (((upd (upd (upd (upd ((g_X12_serves x a2 a1).2 0) 1 ((((g_X12_serves x a2 a1).2 0) 1) - (f_X12_arm a2))) 9 ((((g_X12_serves x a2 a1).2 0) 9) + 1)) 11 ((((g_X12_serves x a2 a1).2 0) 11) + (f_X12_serves x a2 a1))) 2 ((((g_X12_serves x a2 a1).2 0) 2) - 1)) (Int32.toNatClampNeg ((76 + (2 * a1)) + 1))) + 1))).2 0) (Int32.toNatClampNeg (f_X12_pleaAt (((g_X12_serves x a2 a1).2 0) 7) 0)) a1)) 0 (upd ((yR (yR (yR (yR (yR (yR (g_X12_serves x a2 a1) 0 (upd ((g_X12_serves x a2 a1).2 0) 1 ((((g_X12_serves x a2 a1).2 0) 1) - (f_X12_arm a2)))) 0 (upd (upd ((g_X12_serves x a2 a1).2 0) 1 ((((g_X12_serves x a2 a1).2 0) 1) - (f_X12_arm a2))) 9 ((((g_X12_serves x a2 a1).2 0) 9) + 1))) 0 (upd (upd (upd ((g_X12_serves x a2 a1).2 0) 1 ((((g_X12_serves x a2 a1).2 0) 1) - (f_X12_arm a2))) 9 ((((g_X12_serves x a2 a1).2 0) 9) + 1)) 11 ((((g_X12_serves x a2 a1).2 0) 11) + (f_X12_serves x a2 a1)))) 0 (upd (upd (upd (upd ((g_X12_serves x a2 a1).2 0) 1 ((((g_X12_serves x a2 a1).2 0) 1) - (f_X12_arm a2))) 9 ((((g_X12_serves x a2 a1).2 0) 9) + 1)) 11 ((((g_X12_serves x a2 a1).2 0) 11) + (f_X12_serves x a2 a1))) 2 ((((g_X12_serves x a2 a1).2 0) 2) - 1))) 0 (upd (upd (upd (upd (upd ((g_X12_serves x a2 a1).2 0) 1 ((((g_X12_serves x a2 a1).2 0) 1) - (f_X12_arm a2))) 9 ((((g_X12_serves x a2 a1).2 0) 9) + 1)) 11 ((((g_X12_serves x a2 a1).2 0) 11) + (f_X12_serves x a2 a1))) 2 ((((g_X12_serves x a2 a1).2 0) 2) - 1)) (Int32.toNatClampNeg ((76 + (2 * a1)) + 1)) (((upd (upd (upd (upd ((g_X12_serves x a2 a1).2 0) 1 ((((g_X12_serves x a2 a1).2 0) 1) - (f_X12_arm a2))) 9 ((((g_X12_serves x a2 a1).2 0) 9) + 1)) 11 ((((g_X12_serves x a2 a1).2 0) 11) + (f_X12_serves x a2 a1))) 2 ((((g_X12_serves x a2 a1).2 0) 2) - 1)) (Int32.toNatClampNeg ((76 + (2 * a1)) + 1))) + 1))) 0 (upd ((yR (yR (yR (yR (yR (g_X12_serves x a2 a1) 0 (upd ((g_X12_serves x a2 a1).2 0) 1 ((((g_X12_serves x a2 a1).2 0) 1) - (f_X12_arm a2)))) 0 (upd (upd ((g_X12_serves x a2 a1).2 0) 1 ((((g_X12_serves x a2 a1).2 0) 1) - (f_X12_arm a2))) 9 ((((g_X12_serves x a2 a1).2 0) 9) + 1))) 0 (upd (upd (upd ((g_X12_serves x a2 a1).2 0) 1 ((((g_X12_serves x a2 a1).2 0) 1) - (f_X12_arm a2))) 9 ((((g_X12_serves x a2 a1).2 0) 9) + 1)) 11 ((((g_X12_serves x a2 a1).2 0) 11) + (f_X12_serves x a2 a1)))) 0 (upd (upd (upd (upd ((g_X12_serves x a2 a1).2 0) 1 ((((g_X12_serves x a2 a1).2 0) 1) - (f_X12_arm a2))) 9 ((((g_X12_serves x a2 a1).2 0) 9) + 1)) 11 ((((g_X12_serves x a2 a1).2 0) 11) + (f_X12_serves x a2 a1))) 2 ((((g_X12_serves x a2 a1).2 0) 2) - 1))) 0 (upd (upd (upd (upd (upd ((g_X12_serves x a2 a1).2 0) 1 ((((g_X12_serves x a2 a1).2 0) 1) - (f_X12_arm a2))) 9 ((((g_X12_serves x a2 a1).2 0) 9) + 1)) 11 ((((g_X12_serves x a2 a1).2 0) 11) + (f_X12_serves x a2 a1))) 2 ((((g_X12_serves x a2 a1).2 0) 2) - 1)) (Int32.toNatClampNeg ((76 + (2 * a1)) + 1)) (((upd (upd (upd (upd ((g_X12_serves x a2 a1).2 0) 1 ((((g_X12_serves x a2 a1).2 0) 1) - (f_X12_arm a2))) 9 ((((g_X12_serves x a2 a1).2 0) 9) + 1)) 11 ((((g_X12_serves x a2 a1).2 0) 11) + (f_X12_serves x a2 a1))) 2 ((((g_X12_serves x a2 a1).2 0) 2) - 1)) (Int32.toNatClampNeg ((76 + (2 * a1)) + 1))) + 1))).2 0) (Int32.toNatClampNeg (f_X12_pleaAt (((g_X12_serves x a2 a1).2 0) 7) 0)) a1)).2 0) (Int32.toNatClampNeg (f_X12_pleaAt (((g_X12_serves x a2 a1).2 0) 7) 1)) ((((yR (yR (yR (yR (yR (yR (g_X12_serves x a2 a1) 0 (upd ((g_X12_serves x a2 a1).2 0) 1 ((((g_X12_serves x a2 a1).2 0) 1) - (f_X12_arm a2)))) 0 (upd (upd ((g_X12_serves x a2 a1).2 0) 1 ((((g_X12_serves x a2 a1).2 0) 1) - (f_X12_arm a2))) 9 ((((g_X12_serves x a2 a1).2 0) 9) + 1))) 0 (upd (upd (upd ((g_X12_serves x a2 a1).2 0) 1 ((((g_X12_serves x a2 a1).2 0) 1) - (f_X12_arm a2))) 9 ((((g_X12_serves x a2 a1).2 0) 9) + 1)) 11 ((((g_X12_serves x a2 a1).2 0) 11) + (f_X12_serves x a2 a1)))) 0 (upd (upd (upd (upd ((g_X12_serves x a2 a1).2 0) 1 ((((g_X12_serves x a2 a1).2 0) 1) - (f_X12_arm a2))) 9 ((((g_X12_serves x a2 a1).2 0) 9) + 1)) 11 ((((g_X12_serves x a2 a1).2 0) 11) + (f_X12_serves x a2 a1))) 2 ((((g_X12_serves x a2 a1).2 0) 2) - 1))) 0 (upd (upd (upd (upd (upd ((g_X12_serves x a2 a1).2 0) 1 ((((g_X12_serves x a2 a1).2 0) 1) - (f_X12_arm a2))) 9 ((((g_X12_serves x a2 a1).2 0) 9) + 1)) 11 ((((g_X12_serves x a2 a1).2 0) 11) + (f_X12_serves x a2 a1))) 2 ((((g_X12_serves x a2 a1).2 0) 2) - 1)) (Int32.toNatClampNeg ((76 + (2 * a1)) + 1)) (((upd (upd (upd (upd ((g_X12_serves x a2 a1).2 0) 1 ((((g_X12_serves x a2 a1).2 0) 1) - (f_X12_arm a2))) 9 ((((g_X12_serves x a2 a1).2 0) 9) + 1)) 11 ((((g_X12_serves x a2 a1).2 0) 11) + (f_X12_serves x a2 a1))) 2 ((((g_X12_serves x a2 a1).2 0) 2) - 1)) (Int32.toNatClampNeg ((76 + (2 * a1)) + 1))) + 1))) 0 (upd ((yR (yR (yR (yR (yR (g_X12_serves x a2 a1) 0 (upd ((g_X12_serves x a2 a1).2 0) 1 ((((g_X12_serves x a2 a1).2 0) 1) - (f_X12_arm a2)))) 0 (upd (upd ((g_X12_serves x a2 a1).2 0) 1 ((((g_X12_serves x a2 a1).2 0) 1) - (f_X12_arm a2))) 9 ((((g_X12_serves x a2 a1).2 0) 9) + 1))) 0 (upd (upd (upd ((g_X12_serves x a2 a1).2 0) 1 ((((g_X12_serves x a2 a1).2 0) 1) - (f_X12_arm a2))) 9 ((((g_X12_serves x a2 a1).2 0) 9) + 1)) 11 ((((g_X12_serves x a2 a1).2 0) 11) + (f_X12_serves x a2 a1)))) 0 (upd (upd (upd (upd ((g_X12_serves x a2 a1).2 0) 1 ((((g_X12_serves x a2 a1).2 0) 1) - (f_X12_arm a2))) 9 ((((g_X12_serves x a2 a1).2 0) 9) + 1)) 11 ((((g_X12_serves x a2 a1).2 0) 11) + (f_X12_serves x a2 a1))) 2 ((((g_X12_serves x a2 a1).2 0) 2) - 1))) 0 (upd (upd (upd (upd (upd ((g_X12_serves x a2 a1).2 0) 1 ((((g_X12_serves x a2 a1).2 0) 1) - (f_X12_arm a2))) 9 ((((g_X12_serves x a2 a1).2 0) 9) + 1)) 11 ((((g_X12_serves x a2 a1).2 0) 11) + (f_X12_serves x a2 a1))) 2 ((((g_X12_serves x a2 a1).2 0) 2) - 1)) (Int32.toNatClampNeg ((76 + (2 * a1)) + 1)) (((upd (upd (upd (upd ((g_X12_serves x a2 a1).2 0) 1 ((((g_X12_serves x a2 a1).2 0) 1) - (f_X12_arm a2))) 9 ((((g_X12_serves x a2 a1).2 0) 9) + 1)) 11 ((((g_X12_serves x a2 a1).2 0) 11) + (f_X12_serves x a2 a1))) 2 ((((g_X12_serves x a2 a1).2 0) 2) - 1)) (Int32.toNatClampNeg ((76 + (2 * a1)) + 1))) + 1))).2 0) (Int32.toNatClampNeg (f_X12_pleaAt (((g_X12_serves x a2 a1).2 0) 7) 0)) a1)).2 0) 0) + ((f_X12_serves x a2 a1) / 4)))) 0 (upd ((yR (yR (yR (yR (yR (yR (yR (g_X12_serves x a2 a1) 0 (upd ((g_X12_serves x a2 a1).2 0) 1 ((((g_X12_serves x a2 a1).2 0) 1) - (f_X12_arm a2)))) 0 (upd (upd ((g_X12_serves x a2 a1).2 0) 1 ((((g_X12_serves x a2 a1).2 0) 1) - (f_X12_arm a2))) 9 ((((g_X12_serves x a2 a1).2 0) 9) + 1))) 0 (upd (upd (upd ((g_X12_serves x a2 a1).2 0) 1 ((((g_X12_serves x a2 a1).2 0) 1) - (f_X12_arm a2))) 9 ((((g_X12_serves x a2 a1).2 0) 9) + 1)) 11 ((((g_X12_serves x a2 a1).2 0) 11) + (f_X12_serves x a2 a1)))) 0 (upd (upd (upd (upd ((g_X12_serves x a2 a1).2 0) 1 ((((g_X12_serves x a2 a1).2 0) 1) - (f_X12_arm a2))) 9 ((((g_X12_serves x a2 a1).2 0) 9) + 1)) 11 ((((g_X12_serves x a2 a1).2 0) 11) + (f_X12_serves x a2 a1))) 2 ((((g_X12_serves x a2 a1).2 0) 2) - 1))) 0 (upd (upd (upd (upd (upd ((g_X12_serves x a2 a1).2 0) 1 ((((g_X12_serves x a2 a1).2 0) 1) - (f_X12_arm a2))) 9 ((((g_X12_serves x a2 a1).2 0) 9) + 1)) 11 ((((g_X12_serves x a2 a1).2 0) 11) + (f_X12_serves x a2 a1))) 2 ((((g_X12_serves x a2 a1).2 0) 2) - 1)) (Int32.toNatClampNeg ((76 + (2 * a1)) + 1)) (((upd (upd (upd (upd ((g_X12_serves x a2 a1).2 0) 1 ((((g_X12_serves x a2 a1).2 0) 1) - (f_X12_arm a2))) 9 ((((g_X12_serves x a2 a1).2 0) 9) + 1)) 11 ((((g_X12_serves x a2 a1).2 0) 11) + (f_X12_serves x a2 a1))) 2 ((((g_X12_serves x a2 a1).2 0) 2) - 1)) (Int32.toNatClampNeg ((76 + (2 * a1)) + 1))) + 1))) 0 (upd ((yR (yR (yR (yR (yR (g_X12_serves x a2 a1) 0 (upd ((g_X12_serves x a2 a1).2 0) 1 ((((g_X12_serves x a2 a1).2 0) 1) - (f_X12_arm a2)))) 0 (upd (upd ((g_X12_serves x a2 a1).2 0) 1 ((((g_X12_serves x a2 a1).2 0) 1) - (f_X12_arm a2))) 9 ((((g_X12_serves x a2 a1).2 0) 9) + 1))) 0 (upd (upd (upd ((g_X12_serves x a2 a1).2 0) 1 ((((g_X12_serves x a2 a1).2 0) 1) - (f_X12_arm a2))) 9 ((((g_X12_serves x a2 a1).2 0) 9) + 1)) 11 ((((g_X12_serves x a2 a1).2 0) 11) + (f_X12_serves x a2 a1)))) 0 (upd (upd (upd (upd ((g_X12_serves x a2 a1).2 0) 1 ((((g_X12_serves x a2 a1).2 0) 1) - (f_X12_arm a2))) 9 ((((g_X12_serves x a2 a1).2 0) 9) + 1)) 11 ((((g_X12_serves x a2 a1).2 0) 11) + (f_X12_serves x a2 a1))) 2 ((((g_X12_serves x a2 a1).2 0) 2) - 1))) 0 (upd (upd (upd (upd (upd ((g_X12_serves x a2 a1).2 0) 1 ((((g_X12_serves x a2 a1).2 0) 1) - (f_X12_arm a2))) 9 ((((g_X12_serves x a2 a1).2 0) 9) + 1)) 11 ((((g_X12_serves x a2 a1).2 0) 11) + (f_X12_serves x a2 a1))) 2 ((((g_X12_serves x a2 a1).2 0) 2) - 1)) (Int32.toNatClampNeg ((76 + (2 * a1)) + 1)) (((upd (upd (upd (upd ((g_X12_serves x a2 a1).2 0) 1 ((((g_X12_serves x a2 a1).2 0) 1) - (f_X12_arm a2))) 9 ((((g_X12_serves x a2 a1).2 0) 9) + 1)) 11 ((((g_X12_serves x a2 a1).2 0) 11) + (f_X12_serves x a2 a1))) 2 ((((g_X12_serves x a2 a1).2 0) 2) - 1)) (Int32.toNatClampNeg ((76 + (2 * a1)) + 1))) + 1))).2 0) (Int32.toNatClampNeg (f_X12_pleaAt (((g_X12_serves x a2 a1).2 0) 7) 0)) a1)) 0 (upd ((yR (yR (yR (yR (yR (yR (g_X12_serves x a2 a1) 0 (upd ((g_X12_serves x a2 a1).2 0) 1 ((((g_X12_serves x a2 a1).2 0) 1) - (f_X12_arm a2)))) 0 (upd (upd ((g_X12_serves x a2 a1).2 0) 1 ((((g_X12_serves x a2 a1).2 0) 1) - (f_X12_arm a2))) 9 ((((g_X12_serves x a2 a1).2 0) 9) + 1))) 0 (upd (upd (upd ((g_X12_serves x a2 a1).2 0) 1 ((((g_X12_serves x a2 a1).2 0) 1) - (f_X12_arm a2))) 9 ((((g_X12_serves x a2 a1).2 0) 9) + 1)) 11 ((((g_X12_serves x a2 a1).2 0) 11) + (f_X12_serves x a2 a1)))) 0 (upd (upd (upd (upd ((g_X12_serves x a2 a1).2 0) 1 ((((g_X12_serves x a2 a1).2 0) 1) - (f_X12_arm a2))) 9 ((((g_X12_serves x a2 a1).2 0) 9) + 1)) 11 ((((g_X12_serves x a2 a1).2 0) 11) + (f_X12_serves x a2 a1))) 2 ((((g_X12_serves x a2 a1).2 0) 2) - 1))) 0 (upd (upd (upd (upd (upd ((g_X12_serves x a2 a1).2 0) 1 ((((g_X12_serves x a2 a1).2 0) 1) - (f_X12_arm a2))) 9 ((((g_X12_serves x a2 a1).2 0) 9) + 1)) 11 ((((g_X12_serves x a2 a1).2 0) 11) + (f_X12_serves x a2 a1))) 2 ((((g_X12_serves x a2 a1).2 0) 2) - 1)) (Int32.toNatClampNeg ((76 + (2 * a1)) + 1)) (((upd (upd (upd (upd ((g_X12_serves x a2 a1).2 0) 1 ((((g_X12_serves x a2 a1).2 0) 1) - (f_X12_arm a2))) 9 ((((g_X12_serves x a2 a1).2 0) 9) + 1)) 11 ((((g_X12_serves x a2 a1).2 0) 11) + (f_X12_serves x a2 a1))) 2 ((((g_X12_serves x a2 a1).2 0) 2) - 1)) (Int32.toNatClampNeg ((76 + (2 * a1)) + 1))) + 1))) 0 (upd ((yR (yR (yR (yR (yR (g_X12_serves x a2 a1) 0 (upd ((g_X12_serves x a2 a1).2 0) 1 ((((g_X12_serves x a2 a1).2 0) 1) - (f_X12_arm a2)))) 0 (upd (upd ((g_X12_serves x a2 a1).2 0) 1 ((((g_X12_serves x a2 a1).2 0) 1) - (f_X12_arm a2))) 9 ((((g_X12_serves x a2 a1).2 0) 9) + 1))) 0 (upd (upd (upd ((g_X12_serves x a2 a1).2 0) 1 ((((g_X12_serves x a2 a1).2 0) 1) - (f_X12_arm a2))) 9 ((((g_X12_serves x a2 a1).2 0) 9) + 1)) 11 ((((g_X12_serves x a2 a1).2 0) 11) + (f_X12_serves x a2 a1)))) 0 (upd (upd (upd (upd ((g_X12_serves x a2 a1).2 0) 1 ((((g_X12_serves x a2 a1).2 0) 1) - (f_X12_arm a2))) 9 ((((g_X12_serves x a2 a1).2 0) 9) + 1)) 11 ((((g_X12_serves x a2 a1).2 0) 11) + (f_X12_serves x a2 a1))) 2 ((((g_X12_serves x a2 a1).2 0) 2) - 1))) 0 (upd (upd (upd (upd (upd ((g_X12_serves x a2 a1).2 0) 1 ((((g_X12_serves x a2 a1).2 0) 1) - (f_X12_arm a2))) 9 ((((g_X12_serves x a2 a1).2 0) 9) + 1)) 11 ((((g_X12_serves x a2 a1).2 0) 11) + (f_X12_serves x a2 a1))) 2 ((((g_X12_serves x a2 a1).2 0) 2) - 1)) (Int32.toNatClampNeg ((76 + (2 * a1)) + 1)) (((upd (upd (upd (upd ((g_X12_serves x a2 a1).2 0) 1 ((((g_X12_serves x a2 a1).2 0) 1) - (f_X12_arm a2))) 9 ((((g_X12_serves x a2 a1).2 0) 9) + 1)) 11 ((((g_X12_serves x a2 a1).2 0) 11) + (f_X12_serves x a2 a1))) 2 ((((g_X12_serves x a2 a1).2 0) 2) - 1)) (Int32.toNatClampNeg ((76 + (2 * a1)) + 1))) + 1))).2 0) (Int32.toNatClampNeg (f_X12_pleaAt (((g_X12_serves x a2 a1).2 0) 7) 0)) a1)).2 0) (Int32.toNatClampNeg (f_X12_pleaAt (((g_X12_serves x a2 a1).2 0) 7) 1)) ((((yR (yR (yR (yR (yR (yR (g_X12_serves x a2 a1) 0 (upd ((g_X12_serves x a2 a1).2 0) 1 ((((g_X12_serves x a2 a1).2 0) 1) - (f_X12_arm a2)))) 0 (upd (upd ((g_X12_serves x a2 a1).2 0) 1 ((((g_X12_serves x a2 a1).2 0) 1) - (f_X12_arm a2))) 9 ((((g_X12_serves x a2 a1).2 0) 9) + 1))) 0 (upd (upd (upd ((g_X12_serves x a2 a1).2 0) 1 ((((g_X12_serves x a2 a1).2 0) 1) - (f_X12_arm a2))) 9 ((((g_X12_serves x a2 a1).2 0) 9) + 1)) 11 ((((g_X12_serves x a2 a1).2 0) 11) + (f_X12_serves x a2 a1)))) 0 (upd (upd (upd (upd ((g_X12_serves x a2 a1).2 0) 1 ((((g_X12_serves x a2 a1).2 0) 1) - (f_X12_arm a2))) 9 ((((g_X12_serves x a2 a1).2 0) 9) + 1)) 11 ((((g_X12_serves x a2 a1).2 0) 11) + (f_X12_serves x a2 a1))) 2 ((((g_X12_serves x a2 a1).2 0) 2) - 1))) 0 (upd (upd (upd (upd (upd ((g_X12_serves x a2 a1).2 0) 1 ((((g_X12_serves x a2 a1).2 0) 1) - (f_X12_arm a2))) 9 ((((g_X12_serves x a2 a1).2 0) 9) + 1)) 11 ((((g_X12_serves x a2 a1).2 0) 11) + (f_X12_serves x a2 a1))) 2 ((((g_X12_serves x a2 a1).2 0) 2) - 1)) (Int32.toNatClampNeg ((76 + (2 * a1)) + 1)) (((upd (upd (upd (upd ((g_X12_serves x a2 a1).2 0) 1 ((((g_X12_serves x a2 a1).2 0) 1) - (f_X12_arm a2))) 9 ((((g_X12_serves x a2 a1).2 0) 9) + 1)) 11 ((((g_X12_serves x a2 a1).2 0) 11) + (f_X12_serves x a2 a1))) 2 ((((g_X12_serves x a2 a1).2 0) 2) - 1)) (Int32.toNatClampNeg ((76 + (2 * a1)) + 1))) + 1))) 0 (upd ((yR (yR (yR (yR (yR (g_X12_serves x a2 a1) 0 (upd ((g_X12_serves x a2 a1).2 0) 1 ((((g_X12_serves x a2 a1).2 0) 1) - (f_X12_arm a2)))) 0 (upd (upd ((g_X12_serves x a2 a1).2 0) 1 ((((g_X12_serves x a2 a1).2 0) 1) - (f_X12_arm a2))) 9 ((((g_X12_serves x a2 a1).2 0) 9) + 1))) 0 (upd (upd (upd ((g_X12_serves x a2 a1).2 0) 1 ((((g_X12_serves x a2 a1).2 0) 1) - (f_X12_arm a2))) 9 ((((g_X12_serves x a2 a1).2 0) 9) + 1)) 11 ((((g_X12_serves x a2 a1).2 0) 11) + (f_X12_serves x a2 a1)))) 0 (upd (upd (upd (upd ((g_X12_serves x a2 a1).2 0) 1 ((((g_X12_serves x a2 a1).2 0) 1) - (f_X12_arm a2))) 9 ((((g_X12_serves x a2 a1).2 0) 9) + 1)) 11 ((((g_X12_serves x a2 a1).2 0) 11) + (f_X12_serves x a2 a1))) 2 ((((g_X12_serves x a2 a1).2 0) 2) - 1))) 0 (upd (upd (upd (upd (upd ((g_X12_serves x a2 a1).2 0) 1 ((((g_X12_serves x a2 a1).2 0) 1) - (f_X12_arm a2))) 9 ((((g_X12_serves x a2 a1).2 0) 9) + 1)) 11 ((((g_X12_serves x a2 a1).2 0) 11) + (f_X12_serves x a2 a1))) 2 ((((g_X12_serves x a2 a1).2 0) 2) - 1)) (Int32.toNatClampNeg ((76 + (2 * a1)) + 1)) (((upd (upd (upd (upd ((g_X12_serves x a2 a1).2 0) 1 ((((g_X12_serves x a2 a1).2 0) 1) - (f_X12_arm a2))) 9 ((((g_X12_serves x a2 a1).2 0) 9) + 1)) 11 ((((g_X12_serves x a2 a1).2 0) 11) + (f_X12_serves x a2 a1))) 2 ((((g_X12_serves x a2 a1).2 0) 2) - 1)) (Int32.toNatClampNeg ((76 + (2 * a1)) + 1))) + 1))).2 0) (Int32.toNatClampNeg (f_X12_pleaAt (((g_X12_serves x a2 a1).2 0) 7) 0)) a1)).2 0) 0) + ((f_X12_serves x a2 a1) / 4)))).2 0) (Int32.toNatClampNeg (f_X12_pleaAt (((g_X12_serves x a2 a1).2 0) 7) 2)) (f_X12_arm a2))).2 0) 7) + 1)))) else (g_X12_refuses x 3 5 (poL (x.2 0) a1 (Int32.toNatClampNeg ((x.2 0) 7)) 0)))))
set_option maxRecDepth 100000 in
set_option maxHeartbeats 4000000 in
theorem m_X12_summons {x : kY} {a9 : kH} {z9 : kE × kE} {a1 : Int32} {a2 : Int32} (hv : kMv (x.2 0)) (hl : kRm1 (x.2 0)) : kMet kX12_summons false 0 0 [.ref 116, .int a1, .int a2] (kTp a9 (kHr x z9)) 130 (kRt (some (.int (f_X12_summons x a1 a2))) (kTp a9 (kHr (g_X12_summons x a1 a2) z9)) 130) := by
  refine kMet.in (by decide) rfl rfl _ rfl ?_
  refine k_aload_n (i := 0) dX12_summons_0 (rfl : 0 + 1 = 1) rfl rfl ?_
  refine k_iload_n (i := 1) dX12_summons_1 (rfl : 1 + 1 = 2) rfl rfl ?_
  refine k_callVd1 cv_X12_140 ⟨Nat.le_of_ble_eq_true rfl, Nat.le_of_ble_eq_true rfl⟩ (m_X12_isParty) dX12_summons_2 (rfl : 2 + 3 = 5) (Nat.le_of_ble_eq_true rfl) rfl rfl rfl ⟨Nat.le_of_ble_eq_true rfl, Nat.le_of_ble_eq_true rfl⟩ ?_
  refine k_if_ne (tgt := 14) dX12_summons_5 (rfl : 5 + 3 = 8) (by decide) (fun b5 => ?_) (fun b5 => ?_)
  · refine k_iload_n (i := 2) dX12_summons_14 (rfl : 14 + 1 = 15) rfl rfl ?_
    refine k_iconst (v := 0) dX12_summons_15 (rfl : 15 + 1 = 16) (by decide) ?_
    refine k_bipush (v := 63) dX12_summons_16 (rfl : 16 + 2 = 18) (by decide) ?_
    refine k_callSd3 cv_X12_70 ⟨Nat.le_of_ble_eq_true rfl, Nat.le_of_ble_eq_true rfl⟩ (m_X12_isIn) dX12_summons_18 (rfl : 18 + 3 = 21) rfl ⟨Nat.le_of_ble_eq_true rfl, Nat.le_of_ble_eq_true rfl⟩ ?_
    refine k_if_ne (tgt := 30) dX12_summons_21 (rfl : 21 + 3 = 24) (by decide) (fun b21 => ?_) (fun b21 => ?_)
    · refine k_aload_n (i := 0) dX12_summons_30 (rfl : 30 + 1 = 31) rfl rfl ?_
      refine k_get 12 7 fg_X12_16 dX12_summons_31 (rfl : 31 + 3 = 34) (Nat.le_of_ble_eq_true rfl) rfl rfl ?_
      refine k_iconst (v := 2) dX12_summons_34 (rfl : 34 + 1 = 35) (by decide) ?_
      refine k_ialdc (c := 2) (by decide) dX12_summons_35 (rfl : 35 + 1 = 36) (Nat.le_of_ble_eq_true rfl) rfl (vp_in_iff.mpr (by decide)) ?_
      refine k_if_ne (tgt := 52) dX12_summons_36 (rfl : 36 + 3 = 39) (by decide) (fun b36 => ?_) (fun b36 => ?_)
      · refine k_aload_n (i := 0) dX12_summons_52 (rfl : 52 + 1 = 53) rfl rfl ?_
        refine k_iload_n (i := 1) dX12_summons_53 (rfl : 53 + 1 = 54) rfl rfl ?_
        refine k_callVd1 cv_X12_175 ⟨Nat.le_of_ble_eq_true rfl, Nat.le_of_ble_eq_true rfl⟩ (m_X12_pleaOf hv) dX12_summons_54 (rfl : 54 + 3 = 57) (Nat.le_of_ble_eq_true rfl) rfl rfl rfl ⟨Nat.le_of_ble_eq_true rfl, Nat.le_of_ble_eq_true rfl⟩ ?_
        refine k_if_lt (tgt := 72) dX12_summons_57 (rfl : 57 + 3 = 60) (by decide) (fun b57 => ?_) (fun b57 => ?_)
        · refine k_aload_n (i := 0) dX12_summons_72 (rfl : 72 + 1 = 73) rfl rfl ?_
          refine k_iload_n (i := 2) dX12_summons_73 (rfl : 73 + 1 = 74) rfl rfl ?_
          refine k_iload_n (i := 1) dX12_summons_74 (rfl : 74 + 1 = 75) rfl rfl ?_
          refine k_callVd2 cv_X12_168 ⟨Nat.le_of_ble_eq_true rfl, Nat.le_of_ble_eq_true rfl⟩ (m_X12_serves (by obtain ⟨k, hk, e⟩ := in_t (n := 63) (by decide) b21; exact ⟨k, by omega, e⟩) hv (ip_8 hv b5)) dX12_summons_75 (rfl : 75 + 3 = 78) (Nat.le_of_ble_eq_true rfl) rfl rfl rfl ⟨Nat.le_of_ble_eq_true rfl, Nat.le_of_ble_eq_true rfl⟩ ?_
          refine k_istore_n (i := 3) dX12_summons_78 (rfl : 78 + 1 = 79) rfl (Nat.le_of_ble_eq_true rfl) ?_
          refine k_ls (ls2 := [.ref 116, .int a1, .int a2, .int (f_X12_serves x a2 a1), .retAddr 0, .retAddr 0]) rfl ?_
          refine k_aload_n (i := 0) dX12_summons_79 (rfl : 79 + 1 = 80) rfl rfl ?_
          refine k_get 12 7 fg_X12_16 dX12_summons_80 (rfl : 80 + 3 = 83) (Nat.le_of_ble_eq_true rfl) rfl rfl ?_
          refine k_bipush (v := 7) dX12_summons_83 (rfl : 83 + 2 = 85) (by decide) ?_
          refine k_ialdc (c := 7) (by decide) dX12_summons_85 (rfl : 85 + 1 = 86) (Nat.le_of_ble_eq_true rfl) rfl (vp_in_iff.mpr (by decide)) ?_
          refine k_istore (i := 4) dX12_summons_86 (rfl : 86 + 2 = 88) (Nat.le_of_ble_eq_true rfl) ?_
          refine k_ls (ls2 := [.ref 116, .int a1, .int a2, .int (f_X12_serves x a2 a1), .int (((g_X12_serves x a2 a1).2 0) 7), .retAddr 0]) rfl ?_
          refine k_aload_n (i := 0) dX12_summons_88 (rfl : 88 + 1 = 89) rfl rfl ?_
          refine k_get 12 7 fg_X12_16 dX12_summons_89 (rfl : 89 + 3 = 92) (Nat.le_of_ble_eq_true rfl) rfl rfl ?_
          refine k_iconst (v := 1) dX12_summons_92 (rfl : 92 + 1 = 93) (by decide) ?_
          refine k_dup2_11 dX12_summons_93 (rfl : 93 + 1 = 94) rfl rfl ?_
          refine k_ialdc (c := 1) (by decide) dX12_summons_94 (rfl : 94 + 1 = 95) (Nat.le_of_ble_eq_true rfl) rfl (vp_in_iff.mpr (by decide)) ?_
          refine k_iload_n (i := 2) dX12_summons_95 (rfl : 95 + 1 = 96) rfl rfl ?_
          refine k_callSd1 cv_X12_153 ⟨Nat.le_of_ble_eq_true rfl, Nat.le_of_ble_eq_true rfl⟩ (m_X12_arm) dX12_summons_96 (rfl : 96 + 3 = 99) rfl ⟨Nat.le_of_ble_eq_true rfl, Nat.le_of_ble_eq_true rfl⟩ ?_
          refine k_isub dX12_summons_99 (rfl : 99 + 1 = 100) ?_
          refine k_iastc (c := 1) (by decide) dX12_summons_100 (rfl : 100 + 1 = 101) (Nat.le_of_ble_eq_true rfl) rfl (vp_in_iff.mpr (by decide)) ?_
          refine kf_Z0 (f := (upd ((g_X12_serves x a2 a1).2 0) 1 ((((g_X12_serves x a2 a1).2 0) 1) - (f_X12_arm a2)))) rfl ?_
          refine k_aload_n (i := 0) dX12_summons_101 (rfl : 101 + 1 = 102) rfl rfl ?_
          refine k_get 12 7 fg_X12_16 dX12_summons_102 (rfl : 102 + 3 = 105) (Nat.le_of_ble_eq_true rfl) rfl rfl ?_
          refine k_bipush (v := 9) dX12_summons_105 (rfl : 105 + 2 = 107) (by decide) ?_
          refine k_dup2_11 dX12_summons_107 (rfl : 107 + 1 = 108) rfl rfl ?_
          refine k_ialdv (c := 9) (v := (((g_X12_serves x a2 a1).2 0) 9)) (by decide) (show (upd ((g_X12_serves x a2 a1).2 0) 1 ((((g_X12_serves x a2 a1).2 0) 1) - (f_X12_arm a2))) 9 = (((g_X12_serves x a2 a1).2 0) 9) from (Eq.trans (pk_un (by decide)) rfl)) dX12_summons_108 (rfl : 108 + 1 = 109) (Nat.le_of_ble_eq_true rfl) rfl (vp_in_iff.mpr (by decide)) ?_
          refine k_iconst (v := 1) dX12_summons_109 (rfl : 109 + 1 = 110) (by decide) ?_
          refine k_iadd dX12_summons_110 (rfl : 110 + 1 = 111) ?_
          refine k_iastc (c := 9) (by decide) dX12_summons_111 (rfl : 111 + 1 = 112) (Nat.le_of_ble_eq_true rfl) rfl (vp_in_iff.mpr (by decide)) ?_
          refine kf_Z0 (f := (upd (upd ((g_X12_serves x a2 a1).2 0) 1 ((((g_X12_serves x a2 a1).2 0) 1) - (f_X12_arm a2))) 9 ((((g_X12_serves x a2 a1).2 0) 9) + 1))) rfl ?_
          refine k_aload_n (i := 0) dX12_summons_112 (rfl : 112 + 1 = 113) rfl rfl ?_
          refine k_get 12 7 fg_X12_16 dX12_summons_113 (rfl : 113 + 3 = 116) (Nat.le_of_ble_eq_true rfl) rfl rfl ?_
          refine k_bipush (v := 11) dX12_summons_116 (rfl : 116 + 2 = 118) (by decide) ?_
          refine k_dup2_11 dX12_summons_118 (rfl : 118 + 1 = 119) rfl rfl ?_
          refine k_ialdv (c := 11) (v := (((g_X12_serves x a2 a1).2 0) 11)) (by decide) (show (upd (upd ((g_X12_serves x a2 a1).2 0) 1 ((((g_X12_serves x a2 a1).2 0) 1) - (f_X12_arm a2))) 9 ((((g_X12_serves x a2 a1).2 0) 9) + 1)) 11 = (((g_X12_serves x a2 a1).2 0) 11) from (Eq.trans (pk_un (by decide)) (Eq.trans (pk_un (by decide)) rfl))) dX12_summons_119 (rfl : 119 + 1 = 120) (Nat.le_of_ble_eq_true rfl) rfl (vp_in_iff.mpr (by decide)) ?_
          refine k_iload_n (i := 3) dX12_summons_120 (rfl : 120 + 1 = 121) rfl rfl ?_
          refine k_if_le (tgt := 128) dX12_summons_121 (rfl : 121 + 3 = 124) (by decide) (fun b121 => ?_) (fun b121 => ?_)
          · refine k_aload_n (i := 0) dX12_summons_128 (rfl : 128 + 1 = 129) rfl rfl ?_
            refine k_get 12 13 fg_X12_146 dX12_summons_129 (rfl : 129 + 3 = 132) (Nat.le_of_ble_eq_true rfl) rfl rfl ?_
            refine k_iadd dX12_summons_132 (rfl : 132 + 1 = 133) ?_
            refine k_iastc (c := 11) (by decide) dX12_summons_133 (rfl : 133 + 1 = 134) (Nat.le_of_ble_eq_true rfl) rfl (vp_in_iff.mpr (by decide)) ?_
            refine kf_Z0 (f := (upd (upd (upd ((g_X12_serves x a2 a1).2 0) 1 ((((g_X12_serves x a2 a1).2 0) 1) - (f_X12_arm a2))) 9 ((((g_X12_serves x a2 a1).2 0) 9) + 1)) 11 ((((g_X12_serves x a2 a1).2 0) 11) + ((g_X12_serves x a2 a1).1 7)))) rfl ?_
            refine k_iload_n (i := 3) dX12_summons_134 (rfl : 134 + 1 = 135) rfl rfl ?_
            refine k_if_ne (tgt := 195) dX12_summons_135 (rfl : 135 + 3 = 138) (by decide) (fun b135 => by exact absurd (sv_z0 (by obtain ⟨k, hk, e⟩ := in_t (n := 63) (by decide) b21; exact ⟨k, by omega, e⟩) hv b121) b135) (fun b135 => ?_)
            refine k_aload_n (i := 0) dX12_summons_138 (rfl : 138 + 1 = 139) rfl rfl ?_
            refine k_callVd0 cv_X12_165 ⟨Nat.le_of_ble_eq_true rfl, Nat.le_of_ble_eq_true rfl⟩ (m_X12_endsBy (serves_v (by obtain ⟨k, hk, e⟩ := in_t (n := 63) (by decide) b21; exact ⟨k, by omega, e⟩) hv).2) dX12_summons_139 (rfl : 139 + 3 = 142) (Nat.le_of_ble_eq_true rfl) rfl rfl rfl ⟨Nat.le_of_ble_eq_true rfl, Nat.le_of_ble_eq_true rfl⟩ ?_
            refine k_bipush (v := 99) dX12_summons_142 (rfl : 142 + 2 = 144) (by decide) ?_
            refine k_icmp_ne (tgt := 151) dX12_summons_144 (rfl : 144 + 3 = 147) (by decide) (fun b144 => ?_) (fun b144 => ?_)
            · refine k_iconst (v := 0) dX12_summons_151 (rfl : 151 + 1 = 152) (by decide) ?_
              refine k_istore (i := 5) dX12_summons_152 (rfl : 152 + 2 = 154) (Nat.le_of_ble_eq_true rfl) ?_
              refine k_ls (ls2 := [.ref 116, .int a1, .int a2, .int (f_X12_serves x a2 a1), .int (((g_X12_serves x a2 a1).2 0) 7), .int 0]) rfl ?_
              refine k_aload_n (i := 0) dX12_summons_154 (rfl : 154 + 1 = 155) rfl rfl ?_
              refine k_get 12 7 fg_X12_16 dX12_summons_155 (rfl : 155 + 3 = 158) (Nat.le_of_ble_eq_true rfl) rfl rfl ?_
              refine k_bipush (v := 10) dX12_summons_158 (rfl : 158 + 2 = 160) (by decide) ?_
              refine k_dup2_11 dX12_summons_160 (rfl : 160 + 1 = 161) rfl rfl ?_
              refine k_ialdv (c := 10) (v := (((g_X12_serves x a2 a1).2 0) 10)) (by decide) (show (upd (upd (upd ((g_X12_serves x a2 a1).2 0) 1 ((((g_X12_serves x a2 a1).2 0) 1) - (f_X12_arm a2))) 9 ((((g_X12_serves x a2 a1).2 0) 9) + 1)) 11 ((((g_X12_serves x a2 a1).2 0) 11) + ((g_X12_serves x a2 a1).1 7))) 10 = (((g_X12_serves x a2 a1).2 0) 10) from (Eq.trans (pk_un (by decide)) (Eq.trans (pk_un (by decide)) (Eq.trans (pk_un (by decide)) rfl)))) dX12_summons_161 (rfl : 161 + 1 = 162) (Nat.le_of_ble_eq_true rfl) rfl (vp_in_iff.mpr (by decide)) ?_
              refine k_iload (i := 5) dX12_summons_162 (rfl : 162 + 2 = 164) rfl ?_
              refine k_if_eq (tgt := 171) dX12_summons_164 (rfl : 164 + 3 = 167) (by decide) (fun b164 => ?_) (fun b164 => by exact absurd (by decide) b164)
              refine k_iconst (v := 0) dX12_summons_171 (rfl : 171 + 1 = 172) (by decide) ?_
              refine k_iadd dX12_summons_172 (rfl : 172 + 1 = 173) ?_
              refine k_iastc (c := 10) (by decide) dX12_summons_173 (rfl : 173 + 1 = 174) (Nat.le_of_ble_eq_true rfl) rfl (vp_in_iff.mpr (by decide)) ?_
              refine kf_Z0 (f := (upd (upd (upd (upd ((g_X12_serves x a2 a1).2 0) 1 ((((g_X12_serves x a2 a1).2 0) 1) - (f_X12_arm a2))) 9 ((((g_X12_serves x a2 a1).2 0) 9) + 1)) 11 ((((g_X12_serves x a2 a1).2 0) 11) + ((g_X12_serves x a2 a1).1 7))) 10 ((((g_X12_serves x a2 a1).2 0) 10) + 0))) rfl ?_
              refine k_aload_n (i := 0) dX12_summons_174 (rfl : 174 + 1 = 175) rfl rfl ?_
              refine k_get 12 7 fg_X12_16 dX12_summons_175 (rfl : 175 + 3 = 178) (Nat.le_of_ble_eq_true rfl) rfl rfl ?_
              refine k_iconst (v := 2) dX12_summons_178 (rfl : 178 + 1 = 179) (by decide) ?_
              refine k_dup2_11 dX12_summons_179 (rfl : 179 + 1 = 180) rfl rfl ?_
              refine k_ialdv (c := 2) (v := (((g_X12_serves x a2 a1).2 0) 2)) (by decide) (show (upd (upd (upd (upd ((g_X12_serves x a2 a1).2 0) 1 ((((g_X12_serves x a2 a1).2 0) 1) - (f_X12_arm a2))) 9 ((((g_X12_serves x a2 a1).2 0) 9) + 1)) 11 ((((g_X12_serves x a2 a1).2 0) 11) + ((g_X12_serves x a2 a1).1 7))) 10 ((((g_X12_serves x a2 a1).2 0) 10) + 0)) 2 = (((g_X12_serves x a2 a1).2 0) 2) from (Eq.trans (pk_un (by decide)) (Eq.trans (pk_un (by decide)) (Eq.trans (pk_un (by decide)) (Eq.trans (pk_un (by decide)) rfl))))) dX12_summons_180 (rfl : 180 + 1 = 181) (Nat.le_of_ble_eq_true rfl) rfl (vp_in_iff.mpr (by decide)) ?_
              refine k_iload (i := 5) dX12_summons_181 (rfl : 181 + 2 = 183) rfl ?_
              refine k_if_eq (tgt := 190) dX12_summons_183 (rfl : 183 + 3 = 186) (by decide) (fun b183 => ?_) (fun b183 => by exact absurd (by decide) b183)
              refine k_iconst (v := 1) dX12_summons_190 (rfl : 190 + 1 = 191) (by decide) ?_
              refine k_isub dX12_summons_191 (rfl : 191 + 1 = 192) ?_
              refine k_iastc (c := 2) (by decide) dX12_summons_192 (rfl : 192 + 1 = 193) (Nat.le_of_ble_eq_true rfl) rfl (vp_in_iff.mpr (by decide)) ?_
              refine kf_Z0 (f := (upd (upd (upd (upd (upd ((g_X12_serves x a2 a1).2 0) 1 ((((g_X12_serves x a2 a1).2 0) 1) - (f_X12_arm a2))) 9 ((((g_X12_serves x a2 a1).2 0) 9) + 1)) 11 ((((g_X12_serves x a2 a1).2 0) 11) + ((g_X12_serves x a2 a1).1 7))) 10 ((((g_X12_serves x a2 a1).2 0) 10) + 0)) 2 ((((g_X12_serves x a2 a1).2 0) 2) - 1))) rfl ?_
              refine k_iconst (v := 0) dX12_summons_193 (rfl : 193 + 1 = 194) (by decide) ?_
              refine k_iret rfl rfl dX12_summons_194 (Nat.le_of_ble_eq_true rfl) (Nat.le_of_ble_eq_true rfl) ?_
              exact kRt_of (congrArg (fun z => some (Value.int z)) (Eq.symm (Eq.trans (if_neg (show ¬ ((f_X12_isParty (x.2 0) a1) = 0) from b5)) (Eq.trans (if_neg (show ¬ ((f_X12_isIn a2 0 63) = 0) from b21)) (Eq.trans (if_neg (show ¬ (((x.2 0) 2) = 0) from b36)) (Eq.trans (if_pos (show (poL (x.2 0) a1 (Int32.toNatClampNeg ((x.2 0) 7)) 0) < 0 from b57)) (Eq.trans (if_pos (show (f_X12_serves x a2 a1) ≤ 0 from b121)) (if_neg (show ¬ ((f_X12_endsBy (yR (yR (yR (g_X12_serves x a2 a1) 0 (upd ((g_X12_serves x a2 a1).2 0) 1 ((((g_X12_serves x a2 a1).2 0) 1) - (f_X12_arm a2)))) 0 (upd (upd ((g_X12_serves x a2 a1).2 0) 1 ((((g_X12_serves x a2 a1).2 0) 1) - (f_X12_arm a2))) 9 ((((g_X12_serves x a2 a1).2 0) 9) + 1))) 0 (upd (upd (upd ((g_X12_serves x a2 a1).2 0) 1 ((((g_X12_serves x a2 a1).2 0) 1) - (f_X12_arm a2))) 9 ((((g_X12_serves x a2 a1).2 0) 9) + 1)) 11 ((((g_X12_serves x a2 a1).2 0) 11) + ((g_X12_serves x a2 a1).1 7)))) ) = 99) from b144))))))))) (congrArg (fun z => kTp a9 (kHr z z9)) (Eq.symm (Eq.trans (if_neg (show ¬ ((f_X12_isParty (x.2 0) a1) = 0) from b5)) (Eq.trans (if_neg (show ¬ ((f_X12_isIn a2 0 63) = 0) from b21)) (Eq.trans (if_neg (show ¬ (((x.2 0) 2) = 0) from b36)) (Eq.trans (if_pos (show (poL (x.2 0) a1 (Int32.toNatClampNeg ((x.2 0) 7)) 0) < 0 from b57)) (Eq.trans (if_pos (show (f_X12_serves x a2 a1) ≤ 0 from b121)) (if_neg (show ¬ ((f_X12_endsBy (yR (yR (yR (g_X12_serves x a2 a1) 0 (upd ((g_X12_serves x a2 a1).2 0) 1 ((((g_X12_serves x a2 a1).2 0) 1) - (f_X12_arm a2)))) 0 (upd (upd ((g_X12_serves x a2 a1).2 0) 1 ((((g_X12_serves x a2 a1).2 0) 1) - (f_X12_arm a2))) 9 ((((g_X12_serves x a2 a1).2 0) 9) + 1))) 0 (upd (upd (upd ((g_X12_serves x a2 a1).2 0) 1 ((((g_X12_serves x a2 a1).2 0) 1) - (f_X12_arm a2))) 9 ((((g_X12_serves x a2 a1).2 0) 9) + 1)) 11 ((((g_X12_serves x a2 a1).2 0) 11) + ((g_X12_serves x a2 a1).1 7)))) ) = 99) from b144)))))))))
            · refine k_iconst (v := 1) dX12_summons_147 (rfl : 147 + 1 = 148) (by decide) ?_
              refine k_goto (tgt := 152) dX12_summons_148 (by decide) ?_
              refine k_istore (i := 5) dX12_summons_152 (rfl : 152 + 2 = 154) (Nat.le_of_ble_eq_true rfl) ?_
              refine k_ls (ls2 := [.ref 116, .int a1, .int a2, .int (f_X12_serves x a2 a1), .int (((g_X12_serves x a2 a1).2 0) 7), .int 1]) rfl ?_
              refine k_aload_n (i := 0) dX12_summons_154 (rfl : 154 + 1 = 155) rfl rfl ?_
              refine k_get 12 7 fg_X12_16 dX12_summons_155 (rfl : 155 + 3 = 158) (Nat.le_of_ble_eq_true rfl) rfl rfl ?_
              refine k_bipush (v := 10) dX12_summons_158 (rfl : 158 + 2 = 160) (by decide) ?_
              refine k_dup2_11 dX12_summons_160 (rfl : 160 + 1 = 161) rfl rfl ?_
              refine k_ialdv (c := 10) (v := (((g_X12_serves x a2 a1).2 0) 10)) (by decide) (show (upd (upd (upd ((g_X12_serves x a2 a1).2 0) 1 ((((g_X12_serves x a2 a1).2 0) 1) - (f_X12_arm a2))) 9 ((((g_X12_serves x a2 a1).2 0) 9) + 1)) 11 ((((g_X12_serves x a2 a1).2 0) 11) + ((g_X12_serves x a2 a1).1 7))) 10 = (((g_X12_serves x a2 a1).2 0) 10) from (Eq.trans (pk_un (by decide)) (Eq.trans (pk_un (by decide)) (Eq.trans (pk_un (by decide)) rfl)))) dX12_summons_161 (rfl : 161 + 1 = 162) (Nat.le_of_ble_eq_true rfl) rfl (vp_in_iff.mpr (by decide)) ?_
              refine k_iload (i := 5) dX12_summons_162 (rfl : 162 + 2 = 164) rfl ?_
              refine k_if_eq (tgt := 171) dX12_summons_164 (rfl : 164 + 3 = 167) (by decide) (fun b164 => by exact absurd b164 (by decide)) (fun b164 => ?_)
              refine k_iconst (v := 1) dX12_summons_167 (rfl : 167 + 1 = 168) (by decide) ?_
              refine k_goto (tgt := 172) dX12_summons_168 (by decide) ?_
              refine k_iadd dX12_summons_172 (rfl : 172 + 1 = 173) ?_
              refine k_iastc (c := 10) (by decide) dX12_summons_173 (rfl : 173 + 1 = 174) (Nat.le_of_ble_eq_true rfl) rfl (vp_in_iff.mpr (by decide)) ?_
              refine kf_Z0 (f := (upd (upd (upd (upd ((g_X12_serves x a2 a1).2 0) 1 ((((g_X12_serves x a2 a1).2 0) 1) - (f_X12_arm a2))) 9 ((((g_X12_serves x a2 a1).2 0) 9) + 1)) 11 ((((g_X12_serves x a2 a1).2 0) 11) + ((g_X12_serves x a2 a1).1 7))) 10 ((((g_X12_serves x a2 a1).2 0) 10) + 1))) rfl ?_
              refine k_aload_n (i := 0) dX12_summons_174 (rfl : 174 + 1 = 175) rfl rfl ?_
              refine k_get 12 7 fg_X12_16 dX12_summons_175 (rfl : 175 + 3 = 178) (Nat.le_of_ble_eq_true rfl) rfl rfl ?_
              refine k_iconst (v := 2) dX12_summons_178 (rfl : 178 + 1 = 179) (by decide) ?_
              refine k_dup2_11 dX12_summons_179 (rfl : 179 + 1 = 180) rfl rfl ?_
              refine k_ialdv (c := 2) (v := (((g_X12_serves x a2 a1).2 0) 2)) (by decide) (show (upd (upd (upd (upd ((g_X12_serves x a2 a1).2 0) 1 ((((g_X12_serves x a2 a1).2 0) 1) - (f_X12_arm a2))) 9 ((((g_X12_serves x a2 a1).2 0) 9) + 1)) 11 ((((g_X12_serves x a2 a1).2 0) 11) + ((g_X12_serves x a2 a1).1 7))) 10 ((((g_X12_serves x a2 a1).2 0) 10) + 1)) 2 = (((g_X12_serves x a2 a1).2 0) 2) from (Eq.trans (pk_un (by decide)) (Eq.trans (pk_un (by decide)) (Eq.trans (pk_un (by decide)) (Eq.trans (pk_un (by decide)) rfl))))) dX12_summons_180 (rfl : 180 + 1 = 181) (Nat.le_of_ble_eq_true rfl) rfl (vp_in_iff.mpr (by decide)) ?_
              refine k_iload (i := 5) dX12_summons_181 (rfl : 181 + 2 = 183) rfl ?_
              refine k_if_eq (tgt := 190) dX12_summons_183 (rfl : 183 + 3 = 186) (by decide) (fun b183 => by exact absurd b183 (by decide)) (fun b183 => ?_)
              refine k_iconst (v := 0) dX12_summons_186 (rfl : 186 + 1 = 187) (by decide) ?_
              refine k_goto (tgt := 191) dX12_summons_187 (by decide) ?_
              refine k_isub dX12_summons_191 (rfl : 191 + 1 = 192) ?_
              refine k_iastc (c := 2) (by decide) dX12_summons_192 (rfl : 192 + 1 = 193) (Nat.le_of_ble_eq_true rfl) rfl (vp_in_iff.mpr (by decide)) ?_
              refine kf_Z0 (f := (upd (upd (upd (upd (upd ((g_X12_serves x a2 a1).2 0) 1 ((((g_X12_serves x a2 a1).2 0) 1) - (f_X12_arm a2))) 9 ((((g_X12_serves x a2 a1).2 0) 9) + 1)) 11 ((((g_X12_serves x a2 a1).2 0) 11) + ((g_X12_serves x a2 a1).1 7))) 10 ((((g_X12_serves x a2 a1).2 0) 10) + 1)) 2 ((((g_X12_serves x a2 a1).2 0) 2) - 0))) rfl ?_
              refine k_iconst (v := 0) dX12_summons_193 (rfl : 193 + 1 = 194) (by decide) ?_
              refine k_iret rfl rfl dX12_summons_194 (Nat.le_of_ble_eq_true rfl) (Nat.le_of_ble_eq_true rfl) ?_
              exact kRt_of (congrArg (fun z => some (Value.int z)) (Eq.symm (Eq.trans (if_neg (show ¬ ((f_X12_isParty (x.2 0) a1) = 0) from b5)) (Eq.trans (if_neg (show ¬ ((f_X12_isIn a2 0 63) = 0) from b21)) (Eq.trans (if_neg (show ¬ (((x.2 0) 2) = 0) from b36)) (Eq.trans (if_pos (show (poL (x.2 0) a1 (Int32.toNatClampNeg ((x.2 0) 7)) 0) < 0 from b57)) (Eq.trans (if_pos (show (f_X12_serves x a2 a1) ≤ 0 from b121)) (if_pos (show (f_X12_endsBy (yR (yR (yR (g_X12_serves x a2 a1) 0 (upd ((g_X12_serves x a2 a1).2 0) 1 ((((g_X12_serves x a2 a1).2 0) 1) - (f_X12_arm a2)))) 0 (upd (upd ((g_X12_serves x a2 a1).2 0) 1 ((((g_X12_serves x a2 a1).2 0) 1) - (f_X12_arm a2))) 9 ((((g_X12_serves x a2 a1).2 0) 9) + 1))) 0 (upd (upd (upd ((g_X12_serves x a2 a1).2 0) 1 ((((g_X12_serves x a2 a1).2 0) 1) - (f_X12_arm a2))) 9 ((((g_X12_serves x a2 a1).2 0) 9) + 1)) 11 ((((g_X12_serves x a2 a1).2 0) 11) + ((g_X12_serves x a2 a1).1 7)))) ) = 99 from b144))))))))) (congrArg (fun z => kTp a9 (kHr z z9)) (Eq.symm (Eq.trans (if_neg (show ¬ ((f_X12_isParty (x.2 0) a1) = 0) from b5)) (Eq.trans (if_neg (show ¬ ((f_X12_isIn a2 0 63) = 0) from b21)) (Eq.trans (if_neg (show ¬ (((x.2 0) 2) = 0) from b36)) (Eq.trans (if_pos (show (poL (x.2 0) a1 (Int32.toNatClampNeg ((x.2 0) 7)) 0) < 0 from b57)) (Eq.trans (if_pos (show (f_X12_serves x a2 a1) ≤ 0 from b121)) (if_pos (show (f_X12_endsBy (yR (yR (yR (g_X12_serves x a2 a1) 0 (upd ((g_X12_serves x a2 a1).2 0) 1 ((((g_X12_serves x a2 a1).2 0) 1) - (f_X12_arm a2)))) 0 (upd (upd ((g_X12_serves x a2 a1).2 0) 1 ((((g_X12_serves x a2 a1).2 0) 1) - (f_X12_arm a2))) 9 ((((g_X12_serves x a2 a1).2 0) 9) + 1))) 0 (upd (upd (upd ((g_X12_serves x a2 a1).2 0) 1 ((((g_X12_serves x a2 a1).2 0) 1) - (f_X12_arm a2))) 9 ((((g_X12_serves x a2 a1).2 0) 9) + 1)) 11 ((((g_X12_serves x a2 a1).2 0) 11) + ((g_X12_serves x a2 a1).1 7)))) ) = 99 from b144)))))))))
          · refine k_iload_n (i := 3) dX12_summons_124 (rfl : 124 + 1 = 125) rfl rfl ?_
            refine k_goto (tgt := 132) dX12_summons_125 (by decide) ?_
            refine k_iadd dX12_summons_132 (rfl : 132 + 1 = 133) ?_
            refine k_iastc (c := 11) (by decide) dX12_summons_133 (rfl : 133 + 1 = 134) (Nat.le_of_ble_eq_true rfl) rfl (vp_in_iff.mpr (by decide)) ?_
            refine kf_Z0 (f := (upd (upd (upd ((g_X12_serves x a2 a1).2 0) 1 ((((g_X12_serves x a2 a1).2 0) 1) - (f_X12_arm a2))) 9 ((((g_X12_serves x a2 a1).2 0) 9) + 1)) 11 ((((g_X12_serves x a2 a1).2 0) 11) + (f_X12_serves x a2 a1)))) rfl ?_
            refine k_iload_n (i := 3) dX12_summons_134 (rfl : 134 + 1 = 135) rfl rfl ?_
            refine k_if_ne (tgt := 195) dX12_summons_135 (rfl : 135 + 3 = 138) (by decide) (fun b135 => ?_) (fun b135 => by exact absurd (by rw [b135]; decide) b121)
            refine k_aload_n (i := 0) dX12_summons_195 (rfl : 195 + 1 = 196) rfl rfl ?_
            refine k_get 12 7 fg_X12_16 dX12_summons_196 (rfl : 196 + 3 = 199) (Nat.le_of_ble_eq_true rfl) rfl rfl ?_
            refine k_iconst (v := 2) dX12_summons_199 (rfl : 199 + 1 = 200) (by decide) ?_
            refine k_dup2_11 dX12_summons_200 (rfl : 200 + 1 = 201) rfl rfl ?_
            refine k_ialdv (c := 2) (v := (((g_X12_serves x a2 a1).2 0) 2)) (by decide) (show (upd (upd (upd ((g_X12_serves x a2 a1).2 0) 1 ((((g_X12_serves x a2 a1).2 0) 1) - (f_X12_arm a2))) 9 ((((g_X12_serves x a2 a1).2 0) 9) + 1)) 11 ((((g_X12_serves x a2 a1).2 0) 11) + (f_X12_serves x a2 a1))) 2 = (((g_X12_serves x a2 a1).2 0) 2) from (Eq.trans (pk_un (by decide)) (Eq.trans (pk_un (by decide)) (Eq.trans (pk_un (by decide)) rfl)))) dX12_summons_201 (rfl : 201 + 1 = 202) (Nat.le_of_ble_eq_true rfl) rfl (vp_in_iff.mpr (by decide)) ?_
            refine k_iconst (v := 1) dX12_summons_202 (rfl : 202 + 1 = 203) (by decide) ?_
            refine k_isub dX12_summons_203 (rfl : 203 + 1 = 204) ?_
            refine k_iastc (c := 2) (by decide) dX12_summons_204 (rfl : 204 + 1 = 205) (Nat.le_of_ble_eq_true rfl) rfl (vp_in_iff.mpr (by decide)) ?_
            refine kf_Z0 (f := (upd (upd (upd (upd ((g_X12_serves x a2 a1).2 0) 1 ((((g_X12_serves x a2 a1).2 0) 1) - (f_X12_arm a2))) 9 ((((g_X12_serves x a2 a1).2 0) 9) + 1)) 11 ((((g_X12_serves x a2 a1).2 0) 11) + (f_X12_serves x a2 a1))) 2 ((((g_X12_serves x a2 a1).2 0) 2) - 1))) rfl ?_
            refine k_aload_n (i := 0) dX12_summons_205 (rfl : 205 + 1 = 206) rfl rfl ?_
            refine k_get 12 7 fg_X12_16 dX12_summons_206 (rfl : 206 + 3 = 209) (Nat.le_of_ble_eq_true rfl) rfl rfl ?_
            refine k_bipush (v := 76) dX12_summons_209 (rfl : 209 + 2 = 211) (by decide) ?_
            refine k_iconst (v := 2) dX12_summons_211 (rfl : 211 + 1 = 212) (by decide) ?_
            refine k_iload_n (i := 1) dX12_summons_212 (rfl : 212 + 1 = 213) rfl rfl ?_
            refine k_imul dX12_summons_213 (rfl : 213 + 1 = 214) ?_
            refine k_iadd dX12_summons_214 (rfl : 214 + 1 = 215) ?_
            refine k_iconst (v := 1) dX12_summons_215 (rfl : 215 + 1 = 216) (by decide) ?_
            refine k_iadd dX12_summons_216 (rfl : 216 + 1 = 217) ?_
            refine k_dup2_11 dX12_summons_217 (rfl : 217 + 1 = 218) rfl rfl ?_
            refine k_iald dX12_summons_218 (rfl : 218 + 1 = 219) (Nat.le_of_ble_eq_true rfl) rfl (p8_sv (ip_8 hv b5)) ?_
            refine k_iconst (v := 1) dX12_summons_219 (rfl : 219 + 1 = 220) (by decide) ?_
            refine k_iadd dX12_summons_220 (rfl : 220 + 1 = 221) ?_
            refine k_iast dX12_summons_221 (rfl : 221 + 1 = 222) (Nat.le_of_ble_eq_true rfl) rfl (p8_sv (ip_8 hv b5)) ?_
            refine kf_Z0 (f := (upd (upd (upd (upd (upd ((g_X12_serves x a2 a1).2 0) 1 ((((g_X12_serves x a2 a1).2 0) 1) - (f_X12_arm a2))) 9 ((((g_X12_serves x a2 a1).2 0) 9) + 1)) 11 ((((g_X12_serves x a2 a1).2 0) 11) + (f_X12_serves x a2 a1))) 2 ((((g_X12_serves x a2 a1).2 0) 2) - 1)) (Int32.toNatClampNeg ((76 + (2 * a1)) + 1)) (((upd (upd (upd (upd ((g_X12_serves x a2 a1).2 0) 1 ((((g_X12_serves x a2 a1).2 0) 1) - (f_X12_arm a2))) 9 ((((g_X12_serves x a2 a1).2 0) 9) + 1)) 11 ((((g_X12_serves x a2 a1).2 0) 11) + (f_X12_serves x a2 a1))) 2 ((((g_X12_serves x a2 a1).2 0) 2) - 1)) (Int32.toNatClampNeg ((76 + (2 * a1)) + 1))) + 1))) rfl ?_
            generalize hg1 : (yR (yR (yR (yR (yR (g_X12_serves x a2 a1) 0 (upd ((g_X12_serves x a2 a1).2 0) 1 ((((g_X12_serves x a2 a1).2 0) 1) - (f_X12_arm a2)))) 0 (upd (upd ((g_X12_serves x a2 a1).2 0) 1 ((((g_X12_serves x a2 a1).2 0) 1) - (f_X12_arm a2))) 9 ((((g_X12_serves x a2 a1).2 0) 9) + 1))) 0 (upd (upd (upd ((g_X12_serves x a2 a1).2 0) 1 ((((g_X12_serves x a2 a1).2 0) 1) - (f_X12_arm a2))) 9 ((((g_X12_serves x a2 a1).2 0) 9) + 1)) 11 ((((g_X12_serves x a2 a1).2 0) 11) + (f_X12_serves x a2 a1)))) 0 (upd (upd (upd (upd ((g_X12_serves x a2 a1).2 0) 1 ((((g_X12_serves x a2 a1).2 0) 1) - (f_X12_arm a2))) 9 ((((g_X12_serves x a2 a1).2 0) 9) + 1)) 11 ((((g_X12_serves x a2 a1).2 0) 11) + (f_X12_serves x a2 a1))) 2 ((((g_X12_serves x a2 a1).2 0) 2) - 1))) 0 (upd (upd (upd (upd (upd ((g_X12_serves x a2 a1).2 0) 1 ((((g_X12_serves x a2 a1).2 0) 1) - (f_X12_arm a2))) 9 ((((g_X12_serves x a2 a1).2 0) 9) + 1)) 11 ((((g_X12_serves x a2 a1).2 0) 11) + (f_X12_serves x a2 a1))) 2 ((((g_X12_serves x a2 a1).2 0) 2) - 1)) (Int32.toNatClampNeg ((76 + (2 * a1)) + 1)) (((upd (upd (upd (upd ((g_X12_serves x a2 a1).2 0) 1 ((((g_X12_serves x a2 a1).2 0) 1) - (f_X12_arm a2))) 9 ((((g_X12_serves x a2 a1).2 0) 9) + 1)) 11 ((((g_X12_serves x a2 a1).2 0) 11) + (f_X12_serves x a2 a1))) 2 ((((g_X12_serves x a2 a1).2 0) 2) - 1)) (Int32.toNatClampNeg ((76 + (2 * a1)) + 1))) + 1))) = y1
            refine k_aload_n (i := 0) dX12_summons_222 (rfl : 222 + 1 = 223) rfl rfl ?_
            refine k_get 12 7 fg_X12_16 dX12_summons_223 (rfl : 223 + 3 = 226) (Nat.le_of_ble_eq_true rfl) rfl rfl ?_
            refine k_iload (i := 4) dX12_summons_226 (rfl : 226 + 2 = 228) rfl ?_
            refine k_iconst (v := 0) dX12_summons_228 (rfl : 228 + 1 = 229) (by decide) ?_
            refine k_callSd2 cv_X12_77 ⟨Nat.le_of_ble_eq_true rfl, Nat.le_of_ble_eq_true rfl⟩ (m_X12_pleaAt) dX12_summons_229 (rfl : 229 + 3 = 232) rfl ⟨Nat.le_of_ble_eq_true rfl, Nat.le_of_ble_eq_true rfl⟩ ?_
            refine k_iload_n (i := 1) dX12_summons_232 (rfl : 232 + 1 = 233) rfl rfl ?_
            refine k_iast dX12_summons_233 (rfl : 233 + 1 = 234) (Nat.le_of_ble_eq_true rfl) rfl (p8_plea (by rw [(serves_v (by obtain ⟨k, hk, e⟩ := in_t (n := 63) (by decide) b21; exact ⟨k, by omega, e⟩) hv).1]; exact hl _ b5 b57) w3_0) ?_
            refine kf_Z0 (f := (upd (y1.2 0) (Int32.toNatClampNeg (f_X12_pleaAt (((g_X12_serves x a2 a1).2 0) 7) 0)) a1)) rfl ?_
            generalize hg2 : (yR y1 0 (upd (y1.2 0) (Int32.toNatClampNeg (f_X12_pleaAt (((g_X12_serves x a2 a1).2 0) 7) 0)) a1)) = y2
            refine k_aload_n (i := 0) dX12_summons_234 (rfl : 234 + 1 = 235) rfl rfl ?_
            refine k_get 12 7 fg_X12_16 dX12_summons_235 (rfl : 235 + 3 = 238) (Nat.le_of_ble_eq_true rfl) rfl rfl ?_
            refine k_iload (i := 4) dX12_summons_238 (rfl : 238 + 2 = 240) rfl ?_
            refine k_iconst (v := 1) dX12_summons_240 (rfl : 240 + 1 = 241) (by decide) ?_
            refine k_callSd2 cv_X12_77 ⟨Nat.le_of_ble_eq_true rfl, Nat.le_of_ble_eq_true rfl⟩ (m_X12_pleaAt) dX12_summons_241 (rfl : 241 + 3 = 244) rfl ⟨Nat.le_of_ble_eq_true rfl, Nat.le_of_ble_eq_true rfl⟩ ?_
            refine k_aload_n (i := 0) dX12_summons_244 (rfl : 244 + 1 = 245) rfl rfl ?_
            refine k_get 12 7 fg_X12_16 dX12_summons_245 (rfl : 245 + 3 = 248) (Nat.le_of_ble_eq_true rfl) rfl rfl ?_
            refine k_iconst (v := 0) dX12_summons_248 (rfl : 248 + 1 = 249) (by decide) ?_
            refine k_ialdc (c := 0) (by decide) dX12_summons_249 (rfl : 249 + 1 = 250) (Nat.le_of_ble_eq_true rfl) rfl (vp_in_iff.mpr (by decide)) ?_
            refine k_iload_n (i := 3) dX12_summons_250 (rfl : 250 + 1 = 251) rfl rfl ?_
            refine k_iconst (v := 4) dX12_summons_251 (rfl : 251 + 1 = 252) (by decide) ?_
            refine k_idiv dX12_summons_252 (rfl : 252 + 1 = 253) (by decide) ?_
            refine k_iadd dX12_summons_253 (rfl : 253 + 1 = 254) ?_
            refine k_iast dX12_summons_254 (rfl : 254 + 1 = 255) (Nat.le_of_ble_eq_true rfl) rfl (p8_plea (by rw [(serves_v (by obtain ⟨k, hk, e⟩ := in_t (n := 63) (by decide) b21; exact ⟨k, by omega, e⟩) hv).1]; exact hl _ b5 b57) w3_1) ?_
            refine kf_Z0 (f := (upd (y2.2 0) (Int32.toNatClampNeg (f_X12_pleaAt (((g_X12_serves x a2 a1).2 0) 7) 1)) (((y2.2 0) 0) + ((f_X12_serves x a2 a1) / 4)))) rfl ?_
            generalize hg3 : (yR y2 0 (upd (y2.2 0) (Int32.toNatClampNeg (f_X12_pleaAt (((g_X12_serves x a2 a1).2 0) 7) 1)) (((y2.2 0) 0) + ((f_X12_serves x a2 a1) / 4)))) = y3
            refine k_aload_n (i := 0) dX12_summons_255 (rfl : 255 + 1 = 256) rfl rfl ?_
            refine k_get 12 7 fg_X12_16 dX12_summons_256 (rfl : 256 + 3 = 259) (Nat.le_of_ble_eq_true rfl) rfl rfl ?_
            refine k_iload (i := 4) dX12_summons_259 (rfl : 259 + 2 = 261) rfl ?_
            refine k_iconst (v := 2) dX12_summons_261 (rfl : 261 + 1 = 262) (by decide) ?_
            refine k_callSd2 cv_X12_77 ⟨Nat.le_of_ble_eq_true rfl, Nat.le_of_ble_eq_true rfl⟩ (m_X12_pleaAt) dX12_summons_262 (rfl : 262 + 3 = 265) rfl ⟨Nat.le_of_ble_eq_true rfl, Nat.le_of_ble_eq_true rfl⟩ ?_
            refine k_iload_n (i := 2) dX12_summons_265 (rfl : 265 + 1 = 266) rfl rfl ?_
            refine k_callSd1 cv_X12_153 ⟨Nat.le_of_ble_eq_true rfl, Nat.le_of_ble_eq_true rfl⟩ (m_X12_arm) dX12_summons_266 (rfl : 266 + 3 = 269) rfl ⟨Nat.le_of_ble_eq_true rfl, Nat.le_of_ble_eq_true rfl⟩ ?_
            refine k_iast dX12_summons_269 (rfl : 269 + 1 = 270) (Nat.le_of_ble_eq_true rfl) rfl (p8_plea (by rw [(serves_v (by obtain ⟨k, hk, e⟩ := in_t (n := 63) (by decide) b21; exact ⟨k, by omega, e⟩) hv).1]; exact hl _ b5 b57) w3_2) ?_
            refine kf_Z0 (f := (upd (y3.2 0) (Int32.toNatClampNeg (f_X12_pleaAt (((g_X12_serves x a2 a1).2 0) 7) 2)) (f_X12_arm a2))) rfl ?_
            generalize hg4 : (yR y3 0 (upd (y3.2 0) (Int32.toNatClampNeg (f_X12_pleaAt (((g_X12_serves x a2 a1).2 0) 7) 2)) (f_X12_arm a2))) = y4
            refine k_aload_n (i := 0) dX12_summons_270 (rfl : 270 + 1 = 271) rfl rfl ?_
            refine k_get 12 7 fg_X12_16 dX12_summons_271 (rfl : 271 + 3 = 274) (Nat.le_of_ble_eq_true rfl) rfl rfl ?_
            refine k_bipush (v := 7) dX12_summons_274 (rfl : 274 + 2 = 276) (by decide) ?_
            refine k_dup2_11 dX12_summons_276 (rfl : 276 + 1 = 277) rfl rfl ?_
            refine k_ialdc (c := 7) (by decide) dX12_summons_277 (rfl : 277 + 1 = 278) (Nat.le_of_ble_eq_true rfl) rfl (vp_in_iff.mpr (by decide)) ?_
            refine k_iconst (v := 1) dX12_summons_278 (rfl : 278 + 1 = 279) (by decide) ?_
            refine k_iadd dX12_summons_279 (rfl : 279 + 1 = 280) ?_
            refine k_iastc (c := 7) (by decide) dX12_summons_280 (rfl : 280 + 1 = 281) (Nat.le_of_ble_eq_true rfl) rfl (vp_in_iff.mpr (by decide)) ?_
            refine kf_Z0 (f := (upd (y4.2 0) 7 (((y4.2 0) 7) + 1))) rfl ?_
            refine k_iconst (v := 1) dX12_summons_281 (rfl : 281 + 1 = 282) (by decide) ?_
            refine k_iret rfl rfl dX12_summons_282 (Nat.le_of_ble_eq_true rfl) (Nat.le_of_ble_eq_true rfl) ?_
            subst hg4
            subst hg3
            subst hg2
            subst hg1
            exact kRt_of (congrArg (fun z => some (Value.int z)) (Eq.symm (Eq.trans (if_neg (show ¬ ((f_X12_isParty (x.2 0) a1) = 0) from b5)) (Eq.trans (if_neg (show ¬ ((f_X12_isIn a2 0 63) = 0) from b21)) (Eq.trans (if_neg (show ¬ (((x.2 0) 2) = 0) from b36)) (Eq.trans (if_pos (show (poL (x.2 0) a1 (Int32.toNatClampNeg ((x.2 0) 7)) 0) < 0 from b57)) (if_neg (show ¬ ((f_X12_serves x a2 a1) ≤ 0) from b121)))))))) (congrArg (fun z => kTp a9 (kHr z z9)) (Eq.symm (Eq.trans (if_neg (show ¬ ((f_X12_isParty (x.2 0) a1) = 0) from b5)) (Eq.trans (if_neg (show ¬ ((f_X12_isIn a2 0 63) = 0) from b21)) (Eq.trans (if_neg (show ¬ (((x.2 0) 2) = 0) from b36)) (Eq.trans (if_pos (show (poL (x.2 0) a1 (Int32.toNatClampNeg ((x.2 0) 7)) 0) < 0 from b57)) (if_neg (show ¬ ((f_X12_serves x a2 a1) ≤ 0) from b121))))))))
        · refine k_aload_n (i := 0) dX12_summons_60 (rfl : 60 + 1 = 61) rfl rfl ?_
          refine k_iconst (v := 3) dX12_summons_61 (rfl : 61 + 1 = 62) (by decide) ?_
          refine k_iconst (v := 5) dX12_summons_62 (rfl : 62 + 1 = 63) (by decide) ?_
          refine k_aload_n (i := 0) dX12_summons_63 (rfl : 63 + 1 = 64) rfl rfl ?_
          refine k_iload_n (i := 1) dX12_summons_64 (rfl : 64 + 1 = 65) rfl rfl ?_
          refine k_callVd1 cv_X12_175 ⟨Nat.le_of_ble_eq_true rfl, Nat.le_of_ble_eq_true rfl⟩ (m_X12_pleaOf hv) dX12_summons_65 (rfl : 65 + 3 = 68) (Nat.le_of_ble_eq_true rfl) rfl rfl rfl ⟨Nat.le_of_ble_eq_true rfl, Nat.le_of_ble_eq_true rfl⟩ ?_
          refine k_callVd3 cv_X12_88 ⟨Nat.le_of_ble_eq_true rfl, Nat.le_of_ble_eq_true rfl⟩ (m_X12_refuses) dX12_summons_68 (rfl : 68 + 3 = 71) (Nat.le_of_ble_eq_true rfl) rfl rfl rfl ⟨Nat.le_of_ble_eq_true rfl, Nat.le_of_ble_eq_true rfl⟩ ?_
          refine k_iret rfl rfl dX12_summons_71 (Nat.le_of_ble_eq_true rfl) (Nat.le_of_ble_eq_true rfl) ?_
          exact kRt_of (congrArg (fun z => some (Value.int z)) (Eq.symm (Eq.trans (if_neg (show ¬ ((f_X12_isParty (x.2 0) a1) = 0) from b5)) (Eq.trans (if_neg (show ¬ ((f_X12_isIn a2 0 63) = 0) from b21)) (Eq.trans (if_neg (show ¬ (((x.2 0) 2) = 0) from b36)) (if_neg (show ¬ ((poL (x.2 0) a1 (Int32.toNatClampNeg ((x.2 0) 7)) 0) < 0) from b57))))))) (congrArg (fun z => kTp a9 (kHr z z9)) (Eq.symm (Eq.trans (if_neg (show ¬ ((f_X12_isParty (x.2 0) a1) = 0) from b5)) (Eq.trans (if_neg (show ¬ ((f_X12_isIn a2 0 63) = 0) from b21)) (Eq.trans (if_neg (show ¬ (((x.2 0) 2) = 0) from b36)) (if_neg (show ¬ ((poL (x.2 0) a1 (Int32.toNatClampNeg ((x.2 0) 7)) 0) < 0) from b57)))))))
      · refine k_aload_n (i := 0) dX12_summons_39 (rfl : 39 + 1 = 40) rfl rfl ?_
        refine k_iconst (v := 3) dX12_summons_40 (rfl : 40 + 1 = 41) (by decide) ?_
        refine k_iconst (v := 4) dX12_summons_41 (rfl : 41 + 1 = 42) (by decide) ?_
        refine k_aload_n (i := 0) dX12_summons_42 (rfl : 42 + 1 = 43) rfl rfl ?_
        refine k_get 12 7 fg_X12_16 dX12_summons_43 (rfl : 43 + 3 = 46) (Nat.le_of_ble_eq_true rfl) rfl rfl ?_
        refine k_iconst (v := 1) dX12_summons_46 (rfl : 46 + 1 = 47) (by decide) ?_
        refine k_ialdc (c := 1) (by decide) dX12_summons_47 (rfl : 47 + 1 = 48) (Nat.le_of_ble_eq_true rfl) rfl (vp_in_iff.mpr (by decide)) ?_
        refine k_callVd3 cv_X12_88 ⟨Nat.le_of_ble_eq_true rfl, Nat.le_of_ble_eq_true rfl⟩ (m_X12_refuses) dX12_summons_48 (rfl : 48 + 3 = 51) (Nat.le_of_ble_eq_true rfl) rfl rfl rfl ⟨Nat.le_of_ble_eq_true rfl, Nat.le_of_ble_eq_true rfl⟩ ?_
        refine k_iret rfl rfl dX12_summons_51 (Nat.le_of_ble_eq_true rfl) (Nat.le_of_ble_eq_true rfl) ?_
        exact kRt_of (congrArg (fun z => some (Value.int z)) (Eq.symm (Eq.trans (if_neg (show ¬ ((f_X12_isParty (x.2 0) a1) = 0) from b5)) (Eq.trans (if_neg (show ¬ ((f_X12_isIn a2 0 63) = 0) from b21)) (if_pos (show ((x.2 0) 2) = 0 from b36)))))) (congrArg (fun z => kTp a9 (kHr z z9)) (Eq.symm (Eq.trans (if_neg (show ¬ ((f_X12_isParty (x.2 0) a1) = 0) from b5)) (Eq.trans (if_neg (show ¬ ((f_X12_isIn a2 0 63) = 0) from b21)) (if_pos (show ((x.2 0) 2) = 0 from b36))))))
    · refine k_aload_n (i := 0) dX12_summons_24 (rfl : 24 + 1 = 25) rfl rfl ?_
      refine k_iconst (v := 2) dX12_summons_25 (rfl : 25 + 1 = 26) (by decide) ?_
      refine k_callVd1 cv_X12_59 ⟨Nat.le_of_ble_eq_true rfl, Nat.le_of_ble_eq_true rfl⟩ (m_X12_fail) dX12_summons_26 (rfl : 26 + 3 = 29) (Nat.le_of_ble_eq_true rfl) rfl rfl rfl ⟨Nat.le_of_ble_eq_true rfl, Nat.le_of_ble_eq_true rfl⟩ ?_
      refine k_iret rfl rfl dX12_summons_29 (Nat.le_of_ble_eq_true rfl) (Nat.le_of_ble_eq_true rfl) ?_
      exact kRt_of (congrArg (fun z => some (Value.int z)) (Eq.symm (Eq.trans (if_neg (show ¬ ((f_X12_isParty (x.2 0) a1) = 0) from b5)) (if_pos (show (f_X12_isIn a2 0 63) = 0 from b21))))) (congrArg (fun z => kTp a9 (kHr z z9)) (Eq.symm (Eq.trans (if_neg (show ¬ ((f_X12_isParty (x.2 0) a1) = 0) from b5)) (if_pos (show (f_X12_isIn a2 0 63) = 0 from b21)))))
  · refine k_aload_n (i := 0) dX12_summons_8 (rfl : 8 + 1 = 9) rfl rfl ?_
    refine k_iconst (v := 1) dX12_summons_9 (rfl : 9 + 1 = 10) (by decide) ?_
    refine k_callVd1 cv_X12_59 ⟨Nat.le_of_ble_eq_true rfl, Nat.le_of_ble_eq_true rfl⟩ (m_X12_fail) dX12_summons_10 (rfl : 10 + 3 = 13) (Nat.le_of_ble_eq_true rfl) rfl rfl rfl ⟨Nat.le_of_ble_eq_true rfl, Nat.le_of_ble_eq_true rfl⟩ ?_
    refine k_iret rfl rfl dX12_summons_13 (Nat.le_of_ble_eq_true rfl) (Nat.le_of_ble_eq_true rfl) ?_
    exact kRt_of (congrArg (fun z => some (Value.int z)) (Eq.symm (if_pos (show (f_X12_isParty (x.2 0) a1) = 0 from b5)))) (congrArg (fun z => kTp a9 (kHr z z9)) (Eq.symm (if_pos (show (f_X12_isParty (x.2 0) a1) = 0 from b5))))
def f_X12_buys (x : kY) (a1 : Int32) : Int32 := if (f_X12_isIn a1 1 20) = 0 then (f_X12_fail x 1) else (if (2 * a1) ≤ ((x.2 0) 1) then (((x.2 0) 2) + a1) else (f_X12_fail x 2))
def g_X12_buys (x : kY) (a1 : Int32) : kY := if (f_X12_isIn a1 1 20) = 0 then (g_X12_fail x 1) else (if (2 * a1) ≤ ((x.2 0) 1) then (yR (yR x 0 (upd (x.2 0) 1 (((x.2 0) 1) - (2 * a1)))) 0 (upd (upd (x.2 0) 1 (((x.2 0) 1) - (2 * a1))) 2 (((x.2 0) 2) + a1))) else (g_X12_fail x 2))
set_option maxRecDepth 100000 in
set_option maxHeartbeats 4000000 in
theorem m_X12_buys {x : kY} {a9 : kH} {z9 : kE × kE} {a1 : Int32} : kMet kX12_buys false 0 0 [.ref 116, .int a1] (kTp a9 (kHr x z9)) 130 (kRt (some (.int (f_X12_buys x a1))) (kTp a9 (kHr (g_X12_buys x a1) z9)) 130) := by
  refine kMet.in (by decide) rfl rfl _ rfl ?_
  refine k_iload_n (i := 1) dX12_buys_0 (rfl : 0 + 1 = 1) rfl rfl ?_
  refine k_iconst (v := 1) dX12_buys_1 (rfl : 1 + 1 = 2) (by decide) ?_
  refine k_bipush (v := 20) dX12_buys_2 (rfl : 2 + 2 = 4) (by decide) ?_
  refine k_callSd3 cv_X12_70 ⟨Nat.le_of_ble_eq_true rfl, Nat.le_of_ble_eq_true rfl⟩ (m_X12_isIn) dX12_buys_4 (rfl : 4 + 3 = 7) rfl ⟨Nat.le_of_ble_eq_true rfl, Nat.le_of_ble_eq_true rfl⟩ ?_
  refine k_if_ne (tgt := 16) dX12_buys_7 (rfl : 7 + 3 = 10) (by decide) (fun b7 => ?_) (fun b7 => ?_)
  · refine k_aload_n (i := 0) dX12_buys_16 (rfl : 16 + 1 = 17) rfl rfl ?_
    refine k_get 12 7 fg_X12_16 dX12_buys_17 (rfl : 17 + 3 = 20) (Nat.le_of_ble_eq_true rfl) rfl rfl ?_
    refine k_iconst (v := 1) dX12_buys_20 (rfl : 20 + 1 = 21) (by decide) ?_
    refine k_ialdc (c := 1) (by decide) dX12_buys_21 (rfl : 21 + 1 = 22) (Nat.le_of_ble_eq_true rfl) rfl (vp_in_iff.mpr (by decide)) ?_
    refine k_iconst (v := 2) dX12_buys_22 (rfl : 22 + 1 = 23) (by decide) ?_
    refine k_iload_n (i := 1) dX12_buys_23 (rfl : 23 + 1 = 24) rfl rfl ?_
    refine k_imul dX12_buys_24 (rfl : 24 + 1 = 25) ?_
    refine k_icmp_ge (tgt := 34) dX12_buys_25 (rfl : 25 + 3 = 28) (by decide) (fun b25 => ?_) (fun b25 => ?_)
    · refine k_aload_n (i := 0) dX12_buys_34 (rfl : 34 + 1 = 35) rfl rfl ?_
      refine k_get 12 7 fg_X12_16 dX12_buys_35 (rfl : 35 + 3 = 38) (Nat.le_of_ble_eq_true rfl) rfl rfl ?_
      refine k_iconst (v := 1) dX12_buys_38 (rfl : 38 + 1 = 39) (by decide) ?_
      refine k_dup2_11 dX12_buys_39 (rfl : 39 + 1 = 40) rfl rfl ?_
      refine k_ialdc (c := 1) (by decide) dX12_buys_40 (rfl : 40 + 1 = 41) (Nat.le_of_ble_eq_true rfl) rfl (vp_in_iff.mpr (by decide)) ?_
      refine k_iconst (v := 2) dX12_buys_41 (rfl : 41 + 1 = 42) (by decide) ?_
      refine k_iload_n (i := 1) dX12_buys_42 (rfl : 42 + 1 = 43) rfl rfl ?_
      refine k_imul dX12_buys_43 (rfl : 43 + 1 = 44) ?_
      refine k_isub dX12_buys_44 (rfl : 44 + 1 = 45) ?_
      refine k_iastc (c := 1) (by decide) dX12_buys_45 (rfl : 45 + 1 = 46) (Nat.le_of_ble_eq_true rfl) rfl (vp_in_iff.mpr (by decide)) ?_
      refine kf_Z0 (f := (upd (x.2 0) 1 (((x.2 0) 1) - (2 * a1)))) rfl ?_
      refine k_aload_n (i := 0) dX12_buys_46 (rfl : 46 + 1 = 47) rfl rfl ?_
      refine k_get 12 7 fg_X12_16 dX12_buys_47 (rfl : 47 + 3 = 50) (Nat.le_of_ble_eq_true rfl) rfl rfl ?_
      refine k_iconst (v := 2) dX12_buys_50 (rfl : 50 + 1 = 51) (by decide) ?_
      refine k_dup2_11 dX12_buys_51 (rfl : 51 + 1 = 52) rfl rfl ?_
      refine k_ialdv (c := 2) (v := ((x.2 0) 2)) (by decide) (show (upd (x.2 0) 1 (((x.2 0) 1) - (2 * a1))) 2 = ((x.2 0) 2) from (Eq.trans (pk_un (by decide)) rfl)) dX12_buys_52 (rfl : 52 + 1 = 53) (Nat.le_of_ble_eq_true rfl) rfl (vp_in_iff.mpr (by decide)) ?_
      refine k_iload_n (i := 1) dX12_buys_53 (rfl : 53 + 1 = 54) rfl rfl ?_
      refine k_iadd dX12_buys_54 (rfl : 54 + 1 = 55) ?_
      refine k_iastc (c := 2) (by decide) dX12_buys_55 (rfl : 55 + 1 = 56) (Nat.le_of_ble_eq_true rfl) rfl (vp_in_iff.mpr (by decide)) ?_
      refine kf_Z0 (f := (upd (upd (x.2 0) 1 (((x.2 0) 1) - (2 * a1))) 2 (((x.2 0) 2) + a1))) rfl ?_
      refine k_aload_n (i := 0) dX12_buys_56 (rfl : 56 + 1 = 57) rfl rfl ?_
      refine k_get 12 7 fg_X12_16 dX12_buys_57 (rfl : 57 + 3 = 60) (Nat.le_of_ble_eq_true rfl) rfl rfl ?_
      refine k_iconst (v := 2) dX12_buys_60 (rfl : 60 + 1 = 61) (by decide) ?_
      refine k_ialdv (c := 2) (v := (((x.2 0) 2) + a1)) (by decide) (show (upd (upd (x.2 0) 1 (((x.2 0) 1) - (2 * a1))) 2 (((x.2 0) 2) + a1)) 2 = (((x.2 0) 2) + a1) from pk_us) dX12_buys_61 (rfl : 61 + 1 = 62) (Nat.le_of_ble_eq_true rfl) rfl (vp_in_iff.mpr (by decide)) ?_
      refine k_iret rfl rfl dX12_buys_62 (Nat.le_of_ble_eq_true rfl) (Nat.le_of_ble_eq_true rfl) ?_
      exact kRt_of (congrArg (fun z => some (Value.int z)) (Eq.symm (Eq.trans (if_neg (show ¬ ((f_X12_isIn a1 1 20) = 0) from b7)) (if_pos (show (2 * a1) ≤ ((x.2 0) 1) from b25))))) (congrArg (fun z => kTp a9 (kHr z z9)) (Eq.symm (Eq.trans (if_neg (show ¬ ((f_X12_isIn a1 1 20) = 0) from b7)) (if_pos (show (2 * a1) ≤ ((x.2 0) 1) from b25)))))
    · refine k_aload_n (i := 0) dX12_buys_28 (rfl : 28 + 1 = 29) rfl rfl ?_
      refine k_iconst (v := 2) dX12_buys_29 (rfl : 29 + 1 = 30) (by decide) ?_
      refine k_callVd1 cv_X12_59 ⟨Nat.le_of_ble_eq_true rfl, Nat.le_of_ble_eq_true rfl⟩ (m_X12_fail) dX12_buys_30 (rfl : 30 + 3 = 33) (Nat.le_of_ble_eq_true rfl) rfl rfl rfl ⟨Nat.le_of_ble_eq_true rfl, Nat.le_of_ble_eq_true rfl⟩ ?_
      refine k_iret rfl rfl dX12_buys_33 (Nat.le_of_ble_eq_true rfl) (Nat.le_of_ble_eq_true rfl) ?_
      exact kRt_of (congrArg (fun z => some (Value.int z)) (Eq.symm (Eq.trans (if_neg (show ¬ ((f_X12_isIn a1 1 20) = 0) from b7)) (if_neg (show ¬ ((2 * a1) ≤ ((x.2 0) 1)) from b25))))) (congrArg (fun z => kTp a9 (kHr z z9)) (Eq.symm (Eq.trans (if_neg (show ¬ ((f_X12_isIn a1 1 20) = 0) from b7)) (if_neg (show ¬ ((2 * a1) ≤ ((x.2 0) 1)) from b25)))))
  · refine k_aload_n (i := 0) dX12_buys_10 (rfl : 10 + 1 = 11) rfl rfl ?_
    refine k_iconst (v := 1) dX12_buys_11 (rfl : 11 + 1 = 12) (by decide) ?_
    refine k_callVd1 cv_X12_59 ⟨Nat.le_of_ble_eq_true rfl, Nat.le_of_ble_eq_true rfl⟩ (m_X12_fail) dX12_buys_12 (rfl : 12 + 3 = 15) (Nat.le_of_ble_eq_true rfl) rfl rfl rfl ⟨Nat.le_of_ble_eq_true rfl, Nat.le_of_ble_eq_true rfl⟩ ?_
    refine k_iret rfl rfl dX12_buys_15 (Nat.le_of_ble_eq_true rfl) (Nat.le_of_ble_eq_true rfl) ?_
    exact kRt_of (congrArg (fun z => some (Value.int z)) (Eq.symm (if_pos (show (f_X12_isIn a1 1 20) = 0 from b7)))) (congrArg (fun z => kTp a9 (kHr z z9)) (Eq.symm (if_pos (show (f_X12_isIn a1 1 20) = 0 from b7))))
def f_X12_sitsAt (v : Nat → Int32) (a1 : Int32) : Int32 := if (((v 8) >>> (((a1 - a1 / 24 * 24) : Int32) &&& 31)) &&& 1) = 1 then 1 else 0
set_option maxRecDepth 100000 in
set_option maxHeartbeats 4000000 in
theorem m_X12_sitsAt {x : kY} {a9 : kH} {z9 : kE × kE} {a1 : Int32} : kMet kX12_sitsAt false 0 0 [.ref 116, .int a1] (kTp a9 (kHr x z9)) 130 (kRt (some (.int (f_X12_sitsAt (x.2 0) a1))) (kTp a9 (kHr x z9)) 130) := by
  refine kMet.in (by decide) rfl rfl _ rfl ?_
  refine k_aload_n (i := 0) dX12_sitsAt_0 (rfl : 0 + 1 = 1) rfl rfl ?_
  refine k_get 12 7 fg_X12_16 dX12_sitsAt_1 (rfl : 1 + 3 = 4) (Nat.le_of_ble_eq_true rfl) rfl rfl ?_
  refine k_bipush (v := 8) dX12_sitsAt_4 (rfl : 4 + 2 = 6) (by decide) ?_
  refine k_ialdc (c := 8) (by decide) dX12_sitsAt_6 (rfl : 6 + 1 = 7) (Nat.le_of_ble_eq_true rfl) rfl (vp_in_iff.mpr (by decide)) ?_
  refine k_iload_n (i := 1) dX12_sitsAt_7 (rfl : 7 + 1 = 8) rfl rfl ?_
  refine k_bipush (v := 24) dX12_sitsAt_8 (rfl : 8 + 2 = 10) (by decide) ?_
  refine k_irem dX12_sitsAt_10 (rfl : 10 + 1 = 11) (by decide) ?_
  refine k_ishr dX12_sitsAt_11 (rfl : 11 + 1 = 12) ?_
  refine k_iconst (v := 1) dX12_sitsAt_12 (rfl : 12 + 1 = 13) (by decide) ?_
  refine k_iand dX12_sitsAt_13 (rfl : 13 + 1 = 14) ?_
  refine k_iconst (v := 1) dX12_sitsAt_14 (rfl : 14 + 1 = 15) (by decide) ?_
  refine k_icmp_ne (tgt := 22) dX12_sitsAt_15 (rfl : 15 + 3 = 18) (by decide) (fun b15 => ?_) (fun b15 => ?_)
  · refine k_iconst (v := 0) dX12_sitsAt_22 (rfl : 22 + 1 = 23) (by decide) ?_
    refine k_iret rfl rfl dX12_sitsAt_23 (Nat.le_of_ble_eq_true rfl) (Nat.le_of_ble_eq_true rfl) ?_
    exact kRt_of (congrArg (fun z => some (Value.int z)) (Eq.symm (if_neg (show ¬ (((((x.2 0) 8) >>> (((a1 - a1 / 24 * 24) : Int32) &&& 31)) &&& 1) = 1) from b15)))) rfl
  · refine k_iconst (v := 1) dX12_sitsAt_18 (rfl : 18 + 1 = 19) (by decide) ?_
    refine k_goto (tgt := 23) dX12_sitsAt_19 (by decide) ?_
    refine k_iret rfl rfl dX12_sitsAt_23 (Nat.le_of_ble_eq_true rfl) (Nat.le_of_ble_eq_true rfl) ?_
    exact kRt_of (congrArg (fun z => some (Value.int z)) (Eq.symm (if_pos (show ((((x.2 0) 8) >>> (((a1 - a1 / 24 * 24) : Int32) &&& 31)) &&& 1) = 1 from b15)))) rfl
def f_X12_seats (x : kY) (a1 : Int32) (a2 : Int32) : Int32 := if (f_X12_isIn a1 0 23) = 0 then (f_X12_fail x 1) else (if (f_X12_sitsAt (x.2 0) a1) = 0 then (if a2 = 0 then 0 else 0) else (if a2 = 0 then 1 else 1))
def g_X12_seats (x : kY) (a1 : Int32) (a2 : Int32) : kY := if (f_X12_isIn a1 0 23) = 0 then (g_X12_fail x 1) else (if (f_X12_sitsAt (x.2 0) a1) = 0 then (if a2 = 0 then x else (yR x 0 (upd (x.2 0) 8 (((x.2 0) 8) ^^^ (1 <<< ((a1 : Int32) &&& 31)))))) else (if a2 = 0 then (yR x 0 (upd (x.2 0) 8 (((x.2 0) 8) ^^^ (1 <<< ((a1 : Int32) &&& 31))))) else x))
set_option maxRecDepth 100000 in
set_option maxHeartbeats 4000000 in
theorem m_X12_seats {x : kY} {a9 : kH} {z9 : kE × kE} {a1 : Int32} {a2 : Int32} : kMet kX12_seats false 0 0 [.ref 116, .int a1, .int a2] (kTp a9 (kHr x z9)) 130 (kRt (some (.int (f_X12_seats x a1 a2))) (kTp a9 (kHr (g_X12_seats x a1 a2) z9)) 130) := by
  refine kMet.in (by decide) rfl rfl _ rfl ?_
  refine k_iload_n (i := 1) dX12_seats_0 (rfl : 0 + 1 = 1) rfl rfl ?_
  refine k_iconst (v := 0) dX12_seats_1 (rfl : 1 + 1 = 2) (by decide) ?_
  refine k_bipush (v := 23) dX12_seats_2 (rfl : 2 + 2 = 4) (by decide) ?_
  refine k_callSd3 cv_X12_70 ⟨Nat.le_of_ble_eq_true rfl, Nat.le_of_ble_eq_true rfl⟩ (m_X12_isIn) dX12_seats_4 (rfl : 4 + 3 = 7) rfl ⟨Nat.le_of_ble_eq_true rfl, Nat.le_of_ble_eq_true rfl⟩ ?_
  refine k_if_ne (tgt := 16) dX12_seats_7 (rfl : 7 + 3 = 10) (by decide) (fun b7 => ?_) (fun b7 => ?_)
  · refine k_aload_n (i := 0) dX12_seats_16 (rfl : 16 + 1 = 17) rfl rfl ?_
    refine k_iload_n (i := 1) dX12_seats_17 (rfl : 17 + 1 = 18) rfl rfl ?_
    refine k_callVd1 cv_X12_184 ⟨Nat.le_of_ble_eq_true rfl, Nat.le_of_ble_eq_true rfl⟩ (m_X12_sitsAt) dX12_seats_18 (rfl : 18 + 3 = 21) (Nat.le_of_ble_eq_true rfl) rfl rfl rfl ⟨Nat.le_of_ble_eq_true rfl, Nat.le_of_ble_eq_true rfl⟩ ?_
    refine k_if_eq (tgt := 28) dX12_seats_21 (rfl : 21 + 3 = 24) (by decide) (fun b21 => ?_) (fun b21 => ?_)
    · refine k_iconst (v := 0) dX12_seats_28 (rfl : 28 + 1 = 29) (by decide) ?_
      refine k_istore_n (i := 3) dX12_seats_29 (rfl : 29 + 1 = 30) rfl (Nat.le_of_ble_eq_true rfl) ?_
      refine k_ls (ls2 := [.ref 116, .int a1, .int a2, .int 0]) rfl ?_
      refine k_iload_n (i := 3) dX12_seats_30 (rfl : 30 + 1 = 31) rfl rfl ?_
      refine k_iload_n (i := 2) dX12_seats_31 (rfl : 31 + 1 = 32) rfl rfl ?_
      refine k_if_eq (tgt := 39) dX12_seats_32 (rfl : 32 + 3 = 35) (by decide) (fun b32 => ?_) (fun b32 => ?_)
      · refine k_iconst (v := 0) dX12_seats_39 (rfl : 39 + 1 = 40) (by decide) ?_
        refine k_icmp_eq (tgt := 56) dX12_seats_40 (rfl : 40 + 3 = 43) (by decide) (fun b40 => ?_) (fun b40 => by exact absurd (by decide) b40)
        refine k_iload_n (i := 3) dX12_seats_56 (rfl : 56 + 1 = 57) rfl rfl ?_
        refine k_iret rfl rfl dX12_seats_57 (Nat.le_of_ble_eq_true rfl) (Nat.le_of_ble_eq_true rfl) ?_
        exact kRt_of (congrArg (fun z => some (Value.int z)) (Eq.symm (Eq.trans (if_neg (show ¬ ((f_X12_isIn a1 0 23) = 0) from b7)) (Eq.trans (if_pos (show (f_X12_sitsAt (x.2 0) a1) = 0 from b21)) (if_pos (show a2 = 0 from b32)))))) (congrArg (fun z => kTp a9 (kHr z z9)) (Eq.symm (Eq.trans (if_neg (show ¬ ((f_X12_isIn a1 0 23) = 0) from b7)) (Eq.trans (if_pos (show (f_X12_sitsAt (x.2 0) a1) = 0 from b21)) (if_pos (show a2 = 0 from b32))))))
      · refine k_iconst (v := 1) dX12_seats_35 (rfl : 35 + 1 = 36) (by decide) ?_
        refine k_goto (tgt := 40) dX12_seats_36 (by decide) ?_
        refine k_icmp_eq (tgt := 56) dX12_seats_40 (rfl : 40 + 3 = 43) (by decide) (fun b40 => by exact absurd b40 (by decide)) (fun b40 => ?_)
        refine k_aload_n (i := 0) dX12_seats_43 (rfl : 43 + 1 = 44) rfl rfl ?_
        refine k_get 12 7 fg_X12_16 dX12_seats_44 (rfl : 44 + 3 = 47) (Nat.le_of_ble_eq_true rfl) rfl rfl ?_
        refine k_bipush (v := 8) dX12_seats_47 (rfl : 47 + 2 = 49) (by decide) ?_
        refine k_dup2_11 dX12_seats_49 (rfl : 49 + 1 = 50) rfl rfl ?_
        refine k_ialdc (c := 8) (by decide) dX12_seats_50 (rfl : 50 + 1 = 51) (Nat.le_of_ble_eq_true rfl) rfl (vp_in_iff.mpr (by decide)) ?_
        refine k_iconst (v := 1) dX12_seats_51 (rfl : 51 + 1 = 52) (by decide) ?_
        refine k_iload_n (i := 1) dX12_seats_52 (rfl : 52 + 1 = 53) rfl rfl ?_
        refine k_ishl dX12_seats_53 (rfl : 53 + 1 = 54) ?_
        refine k_ixor dX12_seats_54 (rfl : 54 + 1 = 55) ?_
        refine k_iastc (c := 8) (by decide) dX12_seats_55 (rfl : 55 + 1 = 56) (Nat.le_of_ble_eq_true rfl) rfl (vp_in_iff.mpr (by decide)) ?_
        refine kf_Z0 (f := (upd (x.2 0) 8 (((x.2 0) 8) ^^^ (1 <<< ((a1 : Int32) &&& 31))))) rfl ?_
        refine k_iload_n (i := 3) dX12_seats_56 (rfl : 56 + 1 = 57) rfl rfl ?_
        refine k_iret rfl rfl dX12_seats_57 (Nat.le_of_ble_eq_true rfl) (Nat.le_of_ble_eq_true rfl) ?_
        exact kRt_of (congrArg (fun z => some (Value.int z)) (Eq.symm (Eq.trans (if_neg (show ¬ ((f_X12_isIn a1 0 23) = 0) from b7)) (Eq.trans (if_pos (show (f_X12_sitsAt (x.2 0) a1) = 0 from b21)) (if_neg (show ¬ (a2 = 0) from b32)))))) (congrArg (fun z => kTp a9 (kHr z z9)) (Eq.symm (Eq.trans (if_neg (show ¬ ((f_X12_isIn a1 0 23) = 0) from b7)) (Eq.trans (if_pos (show (f_X12_sitsAt (x.2 0) a1) = 0 from b21)) (if_neg (show ¬ (a2 = 0) from b32))))))
    · refine k_iconst (v := 1) dX12_seats_24 (rfl : 24 + 1 = 25) (by decide) ?_
      refine k_goto (tgt := 29) dX12_seats_25 (by decide) ?_
      refine k_istore_n (i := 3) dX12_seats_29 (rfl : 29 + 1 = 30) rfl (Nat.le_of_ble_eq_true rfl) ?_
      refine k_ls (ls2 := [.ref 116, .int a1, .int a2, .int 1]) rfl ?_
      refine k_iload_n (i := 3) dX12_seats_30 (rfl : 30 + 1 = 31) rfl rfl ?_
      refine k_iload_n (i := 2) dX12_seats_31 (rfl : 31 + 1 = 32) rfl rfl ?_
      refine k_if_eq (tgt := 39) dX12_seats_32 (rfl : 32 + 3 = 35) (by decide) (fun b32 => ?_) (fun b32 => ?_)
      · refine k_iconst (v := 0) dX12_seats_39 (rfl : 39 + 1 = 40) (by decide) ?_
        refine k_icmp_eq (tgt := 56) dX12_seats_40 (rfl : 40 + 3 = 43) (by decide) (fun b40 => by exact absurd b40 (by decide)) (fun b40 => ?_)
        refine k_aload_n (i := 0) dX12_seats_43 (rfl : 43 + 1 = 44) rfl rfl ?_
        refine k_get 12 7 fg_X12_16 dX12_seats_44 (rfl : 44 + 3 = 47) (Nat.le_of_ble_eq_true rfl) rfl rfl ?_
        refine k_bipush (v := 8) dX12_seats_47 (rfl : 47 + 2 = 49) (by decide) ?_
        refine k_dup2_11 dX12_seats_49 (rfl : 49 + 1 = 50) rfl rfl ?_
        refine k_ialdc (c := 8) (by decide) dX12_seats_50 (rfl : 50 + 1 = 51) (Nat.le_of_ble_eq_true rfl) rfl (vp_in_iff.mpr (by decide)) ?_
        refine k_iconst (v := 1) dX12_seats_51 (rfl : 51 + 1 = 52) (by decide) ?_
        refine k_iload_n (i := 1) dX12_seats_52 (rfl : 52 + 1 = 53) rfl rfl ?_
        refine k_ishl dX12_seats_53 (rfl : 53 + 1 = 54) ?_
        refine k_ixor dX12_seats_54 (rfl : 54 + 1 = 55) ?_
        refine k_iastc (c := 8) (by decide) dX12_seats_55 (rfl : 55 + 1 = 56) (Nat.le_of_ble_eq_true rfl) rfl (vp_in_iff.mpr (by decide)) ?_
        refine kf_Z0 (f := (upd (x.2 0) 8 (((x.2 0) 8) ^^^ (1 <<< ((a1 : Int32) &&& 31))))) rfl ?_
        refine k_iload_n (i := 3) dX12_seats_56 (rfl : 56 + 1 = 57) rfl rfl ?_
        refine k_iret rfl rfl dX12_seats_57 (Nat.le_of_ble_eq_true rfl) (Nat.le_of_ble_eq_true rfl) ?_
        exact kRt_of (congrArg (fun z => some (Value.int z)) (Eq.symm (Eq.trans (if_neg (show ¬ ((f_X12_isIn a1 0 23) = 0) from b7)) (Eq.trans (if_neg (show ¬ ((f_X12_sitsAt (x.2 0) a1) = 0) from b21)) (if_pos (show a2 = 0 from b32)))))) (congrArg (fun z => kTp a9 (kHr z z9)) (Eq.symm (Eq.trans (if_neg (show ¬ ((f_X12_isIn a1 0 23) = 0) from b7)) (Eq.trans (if_neg (show ¬ ((f_X12_sitsAt (x.2 0) a1) = 0) from b21)) (if_pos (show a2 = 0 from b32))))))
      · refine k_iconst (v := 1) dX12_seats_35 (rfl : 35 + 1 = 36) (by decide) ?_
        refine k_goto (tgt := 40) dX12_seats_36 (by decide) ?_
        refine k_icmp_eq (tgt := 56) dX12_seats_40 (rfl : 40 + 3 = 43) (by decide) (fun b40 => ?_) (fun b40 => by exact absurd (by decide) b40)
        refine k_iload_n (i := 3) dX12_seats_56 (rfl : 56 + 1 = 57) rfl rfl ?_
        refine k_iret rfl rfl dX12_seats_57 (Nat.le_of_ble_eq_true rfl) (Nat.le_of_ble_eq_true rfl) ?_
        exact kRt_of (congrArg (fun z => some (Value.int z)) (Eq.symm (Eq.trans (if_neg (show ¬ ((f_X12_isIn a1 0 23) = 0) from b7)) (Eq.trans (if_neg (show ¬ ((f_X12_sitsAt (x.2 0) a1) = 0) from b21)) (if_neg (show ¬ (a2 = 0) from b32)))))) (congrArg (fun z => kTp a9 (kHr z z9)) (Eq.symm (Eq.trans (if_neg (show ¬ ((f_X12_isIn a1 0 23) = 0) from b7)) (Eq.trans (if_neg (show ¬ ((f_X12_sitsAt (x.2 0) a1) = 0) from b21)) (if_neg (show ¬ (a2 = 0) from b32))))))
  · refine k_aload_n (i := 0) dX12_seats_10 (rfl : 10 + 1 = 11) rfl rfl ?_
    refine k_iconst (v := 1) dX12_seats_11 (rfl : 11 + 1 = 12) (by decide) ?_
    refine k_callVd1 cv_X12_59 ⟨Nat.le_of_ble_eq_true rfl, Nat.le_of_ble_eq_true rfl⟩ (m_X12_fail) dX12_seats_12 (rfl : 12 + 3 = 15) (Nat.le_of_ble_eq_true rfl) rfl rfl rfl ⟨Nat.le_of_ble_eq_true rfl, Nat.le_of_ble_eq_true rfl⟩ ?_
    refine k_iret rfl rfl dX12_seats_15 (Nat.le_of_ble_eq_true rfl) (Nat.le_of_ble_eq_true rfl) ?_
    exact kRt_of (congrArg (fun z => some (Value.int z)) (Eq.symm (if_pos (show (f_X12_isIn a1 0 23) = 0 from b7)))) (congrArg (fun z => kTp a9 (kHr z z9)) (Eq.symm (if_pos (show (f_X12_isIn a1 0 23) = 0 from b7))))
theorem goL_v {k : Nat} : ∀ {x : kY} {j : Nat}, j + k = 116 → ∀ q, (goL k x j).2 0 q = if q < j then x.2 0 q else if q + 3 < 116 then x.2 0 (q + 3) else if q < 116 then 0 else x.2 0 q := by
  induction k with
  | zero =>
    intro x j hj q
    obtain rfl : j = 116 := by omega
    rw [goL]
    by_cases h1 : q < 116
    · rw [if_pos h1]
    · rw [if_neg h1, if_neg (show ¬ q + 3 < 116 by omega), if_neg h1]
  | succ k ih =>
    intro x j hj q
    have e3 : nI j + 3 = nI (j + 3) := nI_add j 3
    rw [goL]
    have key : ∀ (w : Int32), w = (if j + 3 < 116 then x.2 0 (j + 3) else 0) → (goL k (yR x 0 (upd (x.2 0) (Int32.toNatClampNeg (nI j)) w)) (j + 1)).2 0 q = if q < j then x.2 0 q else if q + 3 < 116 then x.2 0 (q + 3) else if q < 116 then 0 else x.2 0 q := by
      intro w hw
      rw [ih (by omega) q, nI_clamp (by omega)]
      show (if q < j + 1 then upd (x.2 0) j w q else if q + 3 < 116 then upd (x.2 0) j w (q + 3) else if q < 116 then 0 else upd (x.2 0) j w q) = _
      have un : ∀ u, u ≠ j → upd (x.2 0) j w u = x.2 0 u := fun u hu => pk_un hu
      by_cases h1 : q < j
      · rw [if_pos (show q < j + 1 by omega), if_pos h1, un q (by omega)]
      · by_cases h2 : q = j
        · subst h2
          rw [if_pos (show q < q + 1 by omega), pk_us, hw, if_neg (show ¬ q < q by omega)]
          by_cases h3 : q + 3 < 116
          · rw [if_pos h3, if_pos h3]
          · rw [if_neg h3, if_neg h3, if_pos (show q < 116 by omega)]
        · rw [if_neg (show ¬ q < j + 1 by omega), if_neg h1, un (q + 3) (by omega), un q h2]
    split
    · rename_i h1
      refine key _ ?_
      rw [e3] at h1
      rw [if_neg]
      intro h2
      exact nI_ge (a := j + 3) (b := 116) h2 (by decide) h1
    · rename_i h1
      refine key _ ?_
      rw [e3] at h1 ⊢
      have h2 : j + 3 < 116 := by
        rcases Nat.lt_or_ge (j + 3) 116 with q2 | q2
        · exact q2
        · exact absurd (nI_le (a := 116) (b := j + 3) q2 (by omega)) h1
      rw [if_pos h2, nI_clamp (by omega)]
theorem goL_1 {k : Nat} : ∀ {x : kY} {j : Nat}, (goL k x j).1 = x.1 := by
  induction k with
  | zero => intro x j; rfl
  | succ k ih =>
    intro x j
    rw [goL]
    split
    · exact ih
    · exact ih
theorem goes_v {x : kY} {n : Nat} (hn : n < 8) : ∀ q, (g_X12_goes x (nI n)).2 0 q = if q = 7 then x.2 0 7 - 1 else if q < 92 + 3 * n then x.2 0 q else if q + 3 < 116 then x.2 0 (q + 3) else if q < 116 then 0 else x.2 0 q := by
  intro q
  have e0 : Int32.toNatClampNeg (f_X12_pleaAt (nI n) 0) = 92 + 3 * n := plea_at (k := 0) hn (by decide)
  unfold g_X12_goes
  rw [e0]
  show upd _ 7 _ q = _
  by_cases h7 : q = 7
  · subst h7
    rw [pk_us, if_pos rfl, goL_v (by omega), if_pos (by omega)]
  · rw [pk_un h7, if_neg h7, goL_v (by omega)]
theorem goes_1 {x : kY} {a : Int32} : (g_X12_goes x a).1 = x.1 := goL_1
theorem hp_c {p j : Nat} : nI (p - j) - 1 + (-1) = nI (p - (j + 1)) - 1 ∨ p ≤ j := by
  rcases Nat.lt_or_ge j p with q | q
  · left
    obtain ⟨m, hm⟩ : ∃ m, p - j = m + 1 := ⟨p - j - 1, by omega⟩
    rw [show p - (j + 1) = m by omega, hm, nI_pred]
    exact (Int32.sub_eq_add_neg _ _).symm
  · exact Or.inr q
theorem hp_c2 {p j : Nat} (h : j < p) : nI (p - j) - 1 + (-1) = nI (p - (j + 1)) - 1 := by
  rcases hp_c (p := p) (j := j) with q | q
  · exact q
  · omega
theorem hp_i {p j : Nat} (h : j < p) : nI (p - j) - 1 = nI (p - j - 1) := by
  obtain ⟨m, hm⟩ : ∃ m, p - j = m + 1 := ⟨p - j - 1, by omega⟩
  rw [hm, nI_pred]
  rfl
theorem hp_l {p j : Nat} (h : j < p) (h8 : p ≤ 8) : kP8 (nI (p - j) - 1) := ⟨p - j - 1, by omega, hp_i h⟩
theorem hp_t {p j : Nat} (h : j = p) : nI (p - j) - 1 < 0 := by
  rw [show p - j = 0 by omega]
  decide
theorem hp_f {p j : Nat} (h : j < p) (h8 : p ≤ 8) : ¬ nI (p - j) - 1 < 0 := by
  rw [hp_i h]
  exact nI_nlt0 (by omega)
def hoL (p : Nat) : Nat → kY → Nat → Int32 → kY × Int32
  | 0, x, j, s => (x, s)
  | k + 1, x, j, s => if (f_X12_until (x.2 0) (nI (p - j) - 1)) < ((x.2 0) 0) then (hoL p k (g_X12_goes x (nI (p - j) - 1)) (j + 1) (s + Int32.ofInt 1)) else (hoL p k x (j + 1) s)
set_option maxRecDepth 100000 in
set_option maxHeartbeats 4000000 in
theorem lhoL {a9 : kH} {z9 : kE × kE} {Q : kQ} {p : Nat}  (h8 : p ≤ 8) : ∀ (k : Nat) (x : kY) (j : Nat) (s : Int32), j + k = p → (∀ (z2 : Value), kEv kX12_hourPasses (kRm kX12_hourPasses 0 0) (kFm false 0 0 (Q)) false 57 [.ref 116, .int (hoL p k x j s).2, z2] [] (kTp a9 (kHr (hoL p k x j s).1 z9)) 130 0 0) → kEv kX12_hourPasses (kRm kX12_hourPasses 0 0) (kFm false 0 0 (Q)) false 22 [.ref 116, .int s, .int (nI (p - j) - 1)] [] (kTp a9 (kHr x z9)) 130 0 0 := by
  intro k
  induction k with
  | zero =>
    intro x j s hj hx
    refine k_iload_n (i := 2) dX12_hourPasses_22 (rfl : 22 + 1 = 23) rfl rfl ?_
    refine k_if_lt (tgt := 57) dX12_hourPasses_23 (rfl : 23 + 3 = 26) (by decide) (fun b23 => ?_) (fun b23 => by exact absurd (hp_t (by omega)) b23)
    rw [hoL] at hx
    exact hx _
  | succ k ih =>
    intro x j s hj hx
    refine k_iload_n (i := 2) dX12_hourPasses_22 (rfl : 22 + 1 = 23) rfl rfl ?_
    refine k_if_lt (tgt := 57) dX12_hourPasses_23 (rfl : 23 + 3 = 26) (by decide) (fun b23 => by exact absurd b23 (hp_f (by omega) h8)) (fun b23 => ?_)
    refine k_aload_n (i := 0) dX12_hourPasses_26 (rfl : 26 + 1 = 27) rfl rfl ?_
    refine k_iload_n (i := 2) dX12_hourPasses_27 (rfl : 27 + 1 = 28) rfl rfl ?_
    refine k_callVd1 cv_X12_197 ⟨Nat.le_of_ble_eq_true rfl, Nat.le_of_ble_eq_true rfl⟩ (m_X12_until (hp_l (by omega) h8)) dX12_hourPasses_28 (rfl : 28 + 3 = 31) (Nat.le_of_ble_eq_true rfl) rfl rfl rfl ⟨Nat.le_of_ble_eq_true rfl, Nat.le_of_ble_eq_true rfl⟩ ?_
    refine k_aload_n (i := 0) dX12_hourPasses_31 (rfl : 31 + 1 = 32) rfl rfl ?_
    refine k_get 12 7 fg_X12_16 dX12_hourPasses_32 (rfl : 32 + 3 = 35) (Nat.le_of_ble_eq_true rfl) rfl rfl ?_
    refine k_iconst (v := 0) dX12_hourPasses_35 (rfl : 35 + 1 = 36) (by decide) ?_
    refine k_ialdc (c := 0) (by decide) dX12_hourPasses_36 (rfl : 36 + 1 = 37) (Nat.le_of_ble_eq_true rfl) rfl (vp_in_iff.mpr (by decide)) ?_
    refine k_icmp_lt (tgt := 43) dX12_hourPasses_37 (rfl : 37 + 3 = 40) (by decide) (fun b37 => ?_) (fun b37 => ?_)
    · refine k_aload_n (i := 0) dX12_hourPasses_43 (rfl : 43 + 1 = 44) rfl rfl ?_
      refine k_iload_n (i := 2) dX12_hourPasses_44 (rfl : 44 + 1 = 45) rfl rfl ?_
      refine k_callVv1 cv_X12_200 ⟨Nat.le_of_ble_eq_true rfl, Nat.le_of_ble_eq_true rfl⟩ (m_X12_goes (hp_l (by omega) h8)) dX12_hourPasses_45 (rfl : 45 + 3 = 48) (Nat.le_of_ble_eq_true rfl) rfl rfl rfl ⟨Nat.le_of_ble_eq_true rfl, Nat.le_of_ble_eq_true rfl⟩ ?_
      refine k_iinc (i := 1) dX12_hourPasses_48 (rfl : 48 + 3 = 51) rfl (Nat.le_of_ble_eq_true rfl) rfl ?_
      refine k_ls (ls2 := [.ref 116, .int (s + Int32.ofInt 1), .int (nI (p - j) - 1)]) rfl ?_
      refine k_iinc (i := 2) (v := (nI (p - (j + 1)) - 1)) dX12_hourPasses_51 (rfl : 51 + 3 = 54) rfl (Nat.le_of_ble_eq_true rfl) (hp_c2 (by omega)) ?_
      refine k_ls (ls2 := [.ref 116, .int (s + Int32.ofInt 1), .int (nI (p - (j + 1)) - 1)]) rfl ?_
      refine k_goto (tgt := 22) dX12_hourPasses_54 (by decide) ?_
      rw [hoL, if_pos (show (f_X12_until (x.2 0) (nI (p - j) - 1)) < ((x.2 0) 0) from b37)] at hx
      exact ih (g_X12_goes x (nI (p - j) - 1)) (j + 1) (s + Int32.ofInt 1) (by omega) hx
    · refine k_goto (tgt := 51) dX12_hourPasses_40 (by decide) ?_
      refine k_iinc (i := 2) (v := (nI (p - (j + 1)) - 1)) dX12_hourPasses_51 (rfl : 51 + 3 = 54) rfl (Nat.le_of_ble_eq_true rfl) (hp_c2 (by omega)) ?_
      refine k_ls (ls2 := [.ref 116, .int s, .int (nI (p - (j + 1)) - 1)]) rfl ?_
      refine k_goto (tgt := 22) dX12_hourPasses_54 (by decide) ?_
      rw [hoL, if_neg (show ¬ ((f_X12_until (x.2 0) (nI (p - j) - 1)) < ((x.2 0) 0)) from b37)] at hx
      exact ih x (j + 1) s (by omega) hx
theorem nI_self {a : Int32} (h : ∃ n, n ≤ 8 ∧ a = nI n) : a = nI (Int32.toNatClampNeg a) ∧ Int32.toNatClampNeg a ≤ 8 := by
  obtain ⟨n, hn, rfl⟩ := h
  rw [nI_clamp (by omega)]
  exact ⟨rfl, hn⟩
def f_X12_hourPasses (x : kY)  : Int32 := (hoL (Int32.toNatClampNeg (x.2 0 7)) (Int32.toNatClampNeg (x.2 0 7)) (yR x 0 (upd (x.2 0) 0 (((x.2 0) 0) + 1))) 0 0).2
def g_X12_hourPasses (x : kY)  : kY := (hoL (Int32.toNatClampNeg (x.2 0 7)) (Int32.toNatClampNeg (x.2 0 7)) (yR x 0 (upd (x.2 0) 0 (((x.2 0) 0) + 1))) 0 0).1
set_option maxRecDepth 100000 in
set_option maxHeartbeats 4000000 in
theorem m_X12_hourPasses {x : kY} {a9 : kH} {z9 : kE × kE} (h7 : ∃ n, n ≤ 8 ∧ x.2 0 7 = nI n) : kMet kX12_hourPasses false 0 0 [.ref 116] (kTp a9 (kHr x z9)) 130 (kRt (some (.int (f_X12_hourPasses x ))) (kTp a9 (kHr (g_X12_hourPasses x ) z9)) 130) := by
  refine kMet.in (by decide) rfl rfl _ rfl ?_
  refine k_aload_n (i := 0) dX12_hourPasses_0 (rfl : 0 + 1 = 1) rfl rfl ?_
  refine k_get 12 7 fg_X12_16 dX12_hourPasses_1 (rfl : 1 + 3 = 4) (Nat.le_of_ble_eq_true rfl) rfl rfl ?_
  refine k_iconst (v := 0) dX12_hourPasses_4 (rfl : 4 + 1 = 5) (by decide) ?_
  refine k_dup2_11 dX12_hourPasses_5 (rfl : 5 + 1 = 6) rfl rfl ?_
  refine k_ialdc (c := 0) (by decide) dX12_hourPasses_6 (rfl : 6 + 1 = 7) (Nat.le_of_ble_eq_true rfl) rfl (vp_in_iff.mpr (by decide)) ?_
  refine k_iconst (v := 1) dX12_hourPasses_7 (rfl : 7 + 1 = 8) (by decide) ?_
  refine k_iadd dX12_hourPasses_8 (rfl : 8 + 1 = 9) ?_
  refine k_iastc (c := 0) (by decide) dX12_hourPasses_9 (rfl : 9 + 1 = 10) (Nat.le_of_ble_eq_true rfl) rfl (vp_in_iff.mpr (by decide)) ?_
  refine kf_Z0 (f := (upd (x.2 0) 0 (((x.2 0) 0) + 1))) rfl ?_
  refine k_iconst (v := 0) dX12_hourPasses_10 (rfl : 10 + 1 = 11) (by decide) ?_
  refine k_istore_n (i := 1) dX12_hourPasses_11 (rfl : 11 + 1 = 12) rfl (Nat.le_of_ble_eq_true rfl) ?_
  refine k_ls (ls2 := [.ref 116, .int 0, .retAddr 0]) rfl ?_
  refine k_aload_n (i := 0) dX12_hourPasses_12 (rfl : 12 + 1 = 13) rfl rfl ?_
  refine k_get 12 7 fg_X12_16 dX12_hourPasses_13 (rfl : 13 + 3 = 16) (Nat.le_of_ble_eq_true rfl) rfl rfl ?_
  refine k_bipush (v := 7) dX12_hourPasses_16 (rfl : 16 + 2 = 18) (by decide) ?_
  refine k_ialdv (c := 7) (v := ((x.2 0) 7)) (by decide) (show (upd (x.2 0) 0 (((x.2 0) 0) + 1)) 7 = ((x.2 0) 7) from (Eq.trans (pk_un (by decide)) rfl)) dX12_hourPasses_18 (rfl : 18 + 1 = 19) (Nat.le_of_ble_eq_true rfl) rfl (vp_in_iff.mpr (by decide)) ?_
  refine k_iconst (v := 1) dX12_hourPasses_19 (rfl : 19 + 1 = 20) (by decide) ?_
  refine k_isub dX12_hourPasses_20 (rfl : 20 + 1 = 21) ?_
  refine k_istore_n (i := 2) dX12_hourPasses_21 (rfl : 21 + 1 = 22) rfl (Nat.le_of_ble_eq_true rfl) ?_
  refine k_ls (ls2 := [.ref 116, .int 0, .int (((x.2 0) 7) - 1)]) rfl ?_
  refine k_ls (ls2 := [.ref 116, .int 0, .int (nI ((Int32.toNatClampNeg (x.2 0 7)) - 0) - 1)]) (by rw [Nat.sub_zero, ← (nI_self h7).1]) ?_
  refine lhoL (p := (Int32.toNatClampNeg (x.2 0 7))) (nI_self h7).2 (Int32.toNatClampNeg (x.2 0 7)) (yR x 0 (upd (x.2 0) 0 (((x.2 0) 0) + 1))) 0 0 (by omega) (fun z2 => ?_)
  generalize hw22 : (hoL (Int32.toNatClampNeg (x.2 0 7)) (Int32.toNatClampNeg (x.2 0 7)) (yR x 0 (upd (x.2 0) 0 (((x.2 0) 0) + 1))) 0 0) = w22
  refine k_iload_n (i := 1) dX12_hourPasses_57 (rfl : 57 + 1 = 58) rfl rfl ?_
  refine k_iret rfl rfl dX12_hourPasses_58 (Nat.le_of_ble_eq_true rfl) (Nat.le_of_ble_eq_true rfl) ?_
  subst hw22
  exact kRt_of rfl rfl
theorem hoL_7 {p k : Nat} : ∀ {x : kY} {j : Nat} {s : Int32}, j + k = p → p ≤ 8 → (∃ n, p - j ≤ n ∧ n ≤ 8 ∧ x.2 0 7 = nI n) → ∃ n, n ≤ 8 ∧ (hoL p k x j s).1.2 0 7 = nI n := by
  induction k with
  | zero => intro x j s _ _ h; obtain ⟨n, h1, h2, e⟩ := h; exact ⟨n, h2, e⟩
  | succ k ih =>
    intro x j s hj h8 h
    obtain ⟨n, h1, h2, e⟩ := h
    rw [hoL]
    split
    · rw [hp_i (by omega)]
      refine ih (by omega) h8 ⟨n - 1, by omega, by omega, ?_⟩
      rw [goes_v (by omega), if_pos rfl, e]
      obtain ⟨m, rfl⟩ : ∃ m, n = m + 1 := ⟨n - 1, by omega⟩
      rw [nI_pred]
      rfl
    · exact ih (by omega) h8 ⟨n, by omega, h2, e⟩
theorem hpass_7 {x : kY} (h7 : ∃ n, n ≤ 8 ∧ x.2 0 7 = nI n) : ∃ n, n ≤ 8 ∧ (g_X12_hourPasses x).2 0 7 = nI n := by
  have h := nI_self h7
  exact hoL_7 (by omega) h.2 ⟨_, by omega, h.2, h.1⟩
theorem hears_7 {x : kY} {a : Int32} {f : Nat → Int32} (hv : kMv (x.2 0)) (h : ¬ f_X12_isPlea (x.2 0) a = 0) (hf : f 7 = x.2 0 7 := by rfl) : ∃ n, n ≤ 8 ∧ (g_X12_goes (yR x 0 f) a).2 0 7 = nI n := by
  obtain ⟨n, hn, e⟩ := hv.2.1
  obtain ⟨k, hk, rfl⟩ := in_m hn e h
  rw [goes_v (by omega), if_pos rfl]
  show ∃ m, m ≤ 8 ∧ f 7 - 1 = nI m
  rw [hf, e]
  obtain ⟨m, rfl⟩ : ∃ m, n = m + 1 := ⟨n - 1, by omega⟩
  exact ⟨m, by omega, nI_pred m⟩
def f_X12_hears (x : kY) (a1 : Int32) : Int32 := if (f_X12_isPlea (x.2 0) a1) = 0 then (f_X12_fail x 1) else (if (f_X12_sitsAt (x.2 0) ((x.2 0) 0)) = 0 then (f_X12_refuses x 2 6 (((x.2 0) 0) - ((x.2 0) 0) / 24 * 24)) else (if 0 ≤ (((x.2 0) 0) - ((x.2 0) (Int32.toNatClampNeg (f_X12_pleaAt a1 1)))) then ((3 * ((x.2 0) (Int32.toNatClampNeg (f_X12_pleaAt a1 2)))) + (((x.2 0) 0) - ((x.2 0) (Int32.toNatClampNeg (f_X12_pleaAt a1 1))))) else (f_X12_refuses x 2 7 (-(((x.2 0) 0) - ((x.2 0) (Int32.toNatClampNeg (f_X12_pleaAt a1 1))))))))
def g_X12_hears (x : kY) (a1 : Int32) : kY := if (f_X12_isPlea (x.2 0) a1) = 0 then (g_X12_fail x 1) else (if (f_X12_sitsAt (x.2 0) ((x.2 0) 0)) = 0 then (g_X12_refuses x 2 6 (((x.2 0) 0) - ((x.2 0) 0) / 24 * 24)) else (if 0 ≤ (((x.2 0) 0) - ((x.2 0) (Int32.toNatClampNeg (f_X12_pleaAt a1 1)))) then (g_X12_hourPasses (g_X12_goes (yR x 0 (upd (x.2 0) 1 (((x.2 0) 1) + ((3 * ((x.2 0) (Int32.toNatClampNeg (f_X12_pleaAt a1 2)))) + (((x.2 0) 0) - ((x.2 0) (Int32.toNatClampNeg (f_X12_pleaAt a1 1)))))))) a1) ) else (g_X12_refuses x 2 7 (-(((x.2 0) 0) - ((x.2 0) (Int32.toNatClampNeg (f_X12_pleaAt a1 1))))))))
set_option maxRecDepth 100000 in
set_option maxHeartbeats 4000000 in
theorem m_X12_hears {x : kY} {a9 : kH} {z9 : kE × kE} {a1 : Int32} (hv : kMv (x.2 0)) : kMet kX12_hears false 0 0 [.ref 116, .int a1] (kTp a9 (kHr x z9)) 130 (kRt (some (.int (f_X12_hears x a1))) (kTp a9 (kHr (g_X12_hears x a1) z9)) 130) := by
  refine kMet.in (by decide) rfl rfl _ rfl ?_
  refine k_aload_n (i := 0) dX12_hears_0 (rfl : 0 + 1 = 1) rfl rfl ?_
  refine k_iload_n (i := 1) dX12_hears_1 (rfl : 1 + 1 = 2) rfl rfl ?_
  refine k_callVd1 cv_X12_191 ⟨Nat.le_of_ble_eq_true rfl, Nat.le_of_ble_eq_true rfl⟩ (m_X12_isPlea) dX12_hears_2 (rfl : 2 + 3 = 5) (Nat.le_of_ble_eq_true rfl) rfl rfl rfl ⟨Nat.le_of_ble_eq_true rfl, Nat.le_of_ble_eq_true rfl⟩ ?_
  refine k_if_ne (tgt := 14) dX12_hears_5 (rfl : 5 + 3 = 8) (by decide) (fun b5 => ?_) (fun b5 => ?_)
  · refine k_aload_n (i := 0) dX12_hears_14 (rfl : 14 + 1 = 15) rfl rfl ?_
    refine k_aload_n (i := 0) dX12_hears_15 (rfl : 15 + 1 = 16) rfl rfl ?_
    refine k_get 12 7 fg_X12_16 dX12_hears_16 (rfl : 16 + 3 = 19) (Nat.le_of_ble_eq_true rfl) rfl rfl ?_
    refine k_iconst (v := 0) dX12_hears_19 (rfl : 19 + 1 = 20) (by decide) ?_
    refine k_ialdc (c := 0) (by decide) dX12_hears_20 (rfl : 20 + 1 = 21) (Nat.le_of_ble_eq_true rfl) rfl (vp_in_iff.mpr (by decide)) ?_
    refine k_callVd1 cv_X12_184 ⟨Nat.le_of_ble_eq_true rfl, Nat.le_of_ble_eq_true rfl⟩ (m_X12_sitsAt) dX12_hears_21 (rfl : 21 + 3 = 24) (Nat.le_of_ble_eq_true rfl) rfl rfl rfl ⟨Nat.le_of_ble_eq_true rfl, Nat.le_of_ble_eq_true rfl⟩ ?_
    refine k_if_ne (tgt := 44) dX12_hears_24 (rfl : 24 + 3 = 27) (by decide) (fun b24 => ?_) (fun b24 => ?_)
    · refine k_aload_n (i := 0) dX12_hears_44 (rfl : 44 + 1 = 45) rfl rfl ?_
      refine k_get 12 7 fg_X12_16 dX12_hears_45 (rfl : 45 + 3 = 48) (Nat.le_of_ble_eq_true rfl) rfl rfl ?_
      refine k_iconst (v := 0) dX12_hears_48 (rfl : 48 + 1 = 49) (by decide) ?_
      refine k_ialdc (c := 0) (by decide) dX12_hears_49 (rfl : 49 + 1 = 50) (Nat.le_of_ble_eq_true rfl) rfl (vp_in_iff.mpr (by decide)) ?_
      refine k_aload_n (i := 0) dX12_hears_50 (rfl : 50 + 1 = 51) rfl rfl ?_
      refine k_get 12 7 fg_X12_16 dX12_hears_51 (rfl : 51 + 3 = 54) (Nat.le_of_ble_eq_true rfl) rfl rfl ?_
      refine k_iload_n (i := 1) dX12_hears_54 (rfl : 54 + 1 = 55) rfl rfl ?_
      refine k_iconst (v := 1) dX12_hears_55 (rfl : 55 + 1 = 56) (by decide) ?_
      refine k_callSd2 cv_X12_77 ⟨Nat.le_of_ble_eq_true rfl, Nat.le_of_ble_eq_true rfl⟩ (m_X12_pleaAt) dX12_hears_56 (rfl : 56 + 3 = 59) rfl ⟨Nat.le_of_ble_eq_true rfl, Nat.le_of_ble_eq_true rfl⟩ ?_
      refine k_iald dX12_hears_59 (rfl : 59 + 1 = 60) (Nat.le_of_ble_eq_true rfl) rfl (p8_plea (il_8 hv b5) w3_1) ?_
      refine k_isub dX12_hears_60 (rfl : 60 + 1 = 61) ?_
      refine k_istore_n (i := 2) dX12_hears_61 (rfl : 61 + 1 = 62) rfl (Nat.le_of_ble_eq_true rfl) ?_
      refine k_ls (ls2 := [.ref 116, .int a1, .int (((x.2 0) 0) - ((x.2 0) (Int32.toNatClampNeg (f_X12_pleaAt a1 1)))), .retAddr 0, .retAddr 0]) rfl ?_
      refine k_iload_n (i := 2) dX12_hears_62 (rfl : 62 + 1 = 63) rfl rfl ?_
      refine k_if_ge (tgt := 76) dX12_hears_63 (rfl : 63 + 3 = 66) (by decide) (fun b63 => ?_) (fun b63 => ?_)
      · refine k_iconst (v := 3) dX12_hears_76 (rfl : 76 + 1 = 77) (by decide) ?_
        refine k_aload_n (i := 0) dX12_hears_77 (rfl : 77 + 1 = 78) rfl rfl ?_
        refine k_get 12 7 fg_X12_16 dX12_hears_78 (rfl : 78 + 3 = 81) (Nat.le_of_ble_eq_true rfl) rfl rfl ?_
        refine k_iload_n (i := 1) dX12_hears_81 (rfl : 81 + 1 = 82) rfl rfl ?_
        refine k_iconst (v := 2) dX12_hears_82 (rfl : 82 + 1 = 83) (by decide) ?_
        refine k_callSd2 cv_X12_77 ⟨Nat.le_of_ble_eq_true rfl, Nat.le_of_ble_eq_true rfl⟩ (m_X12_pleaAt) dX12_hears_83 (rfl : 83 + 3 = 86) rfl ⟨Nat.le_of_ble_eq_true rfl, Nat.le_of_ble_eq_true rfl⟩ ?_
        refine k_iald dX12_hears_86 (rfl : 86 + 1 = 87) (Nat.le_of_ble_eq_true rfl) rfl (p8_plea (il_8 hv b5) w3_2) ?_
        refine k_imul dX12_hears_87 (rfl : 87 + 1 = 88) ?_
        refine k_iload_n (i := 2) dX12_hears_88 (rfl : 88 + 1 = 89) rfl rfl ?_
        refine k_iadd dX12_hears_89 (rfl : 89 + 1 = 90) ?_
        refine k_istore_n (i := 3) dX12_hears_90 (rfl : 90 + 1 = 91) rfl (Nat.le_of_ble_eq_true rfl) ?_
        refine k_ls (ls2 := [.ref 116, .int a1, .int (((x.2 0) 0) - ((x.2 0) (Int32.toNatClampNeg (f_X12_pleaAt a1 1)))), .int ((3 * ((x.2 0) (Int32.toNatClampNeg (f_X12_pleaAt a1 2)))) + (((x.2 0) 0) - ((x.2 0) (Int32.toNatClampNeg (f_X12_pleaAt a1 1))))), .retAddr 0]) rfl ?_
        refine k_aload_n (i := 0) dX12_hears_91 (rfl : 91 + 1 = 92) rfl rfl ?_
        refine k_get 12 7 fg_X12_16 dX12_hears_92 (rfl : 92 + 3 = 95) (Nat.le_of_ble_eq_true rfl) rfl rfl ?_
        refine k_iconst (v := 1) dX12_hears_95 (rfl : 95 + 1 = 96) (by decide) ?_
        refine k_dup2_11 dX12_hears_96 (rfl : 96 + 1 = 97) rfl rfl ?_
        refine k_ialdc (c := 1) (by decide) dX12_hears_97 (rfl : 97 + 1 = 98) (Nat.le_of_ble_eq_true rfl) rfl (vp_in_iff.mpr (by decide)) ?_
        refine k_iload_n (i := 3) dX12_hears_98 (rfl : 98 + 1 = 99) rfl rfl ?_
        refine k_iadd dX12_hears_99 (rfl : 99 + 1 = 100) ?_
        refine k_iastc (c := 1) (by decide) dX12_hears_100 (rfl : 100 + 1 = 101) (Nat.le_of_ble_eq_true rfl) rfl (vp_in_iff.mpr (by decide)) ?_
        refine kf_Z0 (f := (upd (x.2 0) 1 (((x.2 0) 1) + ((3 * ((x.2 0) (Int32.toNatClampNeg (f_X12_pleaAt a1 2)))) + (((x.2 0) 0) - ((x.2 0) (Int32.toNatClampNeg (f_X12_pleaAt a1 1)))))))) rfl ?_
        refine k_aload_n (i := 0) dX12_hears_101 (rfl : 101 + 1 = 102) rfl rfl ?_
        refine k_iload_n (i := 1) dX12_hears_102 (rfl : 102 + 1 = 103) rfl rfl ?_
        refine k_callVv1 cv_X12_200 ⟨Nat.le_of_ble_eq_true rfl, Nat.le_of_ble_eq_true rfl⟩ (m_X12_goes (il_8 hv b5)) dX12_hears_103 (rfl : 103 + 3 = 106) (Nat.le_of_ble_eq_true rfl) rfl rfl rfl ⟨Nat.le_of_ble_eq_true rfl, Nat.le_of_ble_eq_true rfl⟩ ?_
        refine k_aload_n (i := 0) dX12_hears_106 (rfl : 106 + 1 = 107) rfl rfl ?_
        refine k_callVd0 cv_X12_204 ⟨Nat.le_of_ble_eq_true rfl, Nat.le_of_ble_eq_true rfl⟩ (m_X12_hourPasses (hears_7 hv b5)) dX12_hears_107 (rfl : 107 + 3 = 110) (Nat.le_of_ble_eq_true rfl) rfl rfl rfl ⟨Nat.le_of_ble_eq_true rfl, Nat.le_of_ble_eq_true rfl⟩ ?_
        refine k_istore (i := 4) dX12_hears_110 (rfl : 110 + 2 = 112) (Nat.le_of_ble_eq_true rfl) ?_
        refine k_ls (ls2 := [.ref 116, .int a1, .int (((x.2 0) 0) - ((x.2 0) (Int32.toNatClampNeg (f_X12_pleaAt a1 1)))), .int ((3 * ((x.2 0) (Int32.toNatClampNeg (f_X12_pleaAt a1 2)))) + (((x.2 0) 0) - ((x.2 0) (Int32.toNatClampNeg (f_X12_pleaAt a1 1))))), .int (f_X12_hourPasses (g_X12_goes (yR x 0 (upd (x.2 0) 1 (((x.2 0) 1) + ((3 * ((x.2 0) (Int32.toNatClampNeg (f_X12_pleaAt a1 2)))) + (((x.2 0) 0) - ((x.2 0) (Int32.toNatClampNeg (f_X12_pleaAt a1 1)))))))) a1) )]) rfl ?_
        refine k_iload_n (i := 3) dX12_hears_112 (rfl : 112 + 1 = 113) rfl rfl ?_
        refine k_iret rfl rfl dX12_hears_113 (Nat.le_of_ble_eq_true rfl) (Nat.le_of_ble_eq_true rfl) ?_
        exact kRt_of (congrArg (fun z => some (Value.int z)) (Eq.symm (Eq.trans (if_neg (show ¬ ((f_X12_isPlea (x.2 0) a1) = 0) from b5)) (Eq.trans (if_neg (show ¬ ((f_X12_sitsAt (x.2 0) ((x.2 0) 0)) = 0) from b24)) (if_pos (show 0 ≤ (((x.2 0) 0) - ((x.2 0) (Int32.toNatClampNeg (f_X12_pleaAt a1 1)))) from b63)))))) (congrArg (fun z => kTp a9 (kHr z z9)) (Eq.symm (Eq.trans (if_neg (show ¬ ((f_X12_isPlea (x.2 0) a1) = 0) from b5)) (Eq.trans (if_neg (show ¬ ((f_X12_sitsAt (x.2 0) ((x.2 0) 0)) = 0) from b24)) (if_pos (show 0 ≤ (((x.2 0) 0) - ((x.2 0) (Int32.toNatClampNeg (f_X12_pleaAt a1 1)))) from b63))))))
      · refine k_aload_n (i := 0) dX12_hears_66 (rfl : 66 + 1 = 67) rfl rfl ?_
        refine k_iconst (v := 2) dX12_hears_67 (rfl : 67 + 1 = 68) (by decide) ?_
        refine k_bipush (v := 7) dX12_hears_68 (rfl : 68 + 2 = 70) (by decide) ?_
        refine k_iload_n (i := 2) dX12_hears_70 (rfl : 70 + 1 = 71) rfl rfl ?_
        refine k_ineg dX12_hears_71 (rfl : 71 + 1 = 72) ?_
        refine k_callVd3 cv_X12_88 ⟨Nat.le_of_ble_eq_true rfl, Nat.le_of_ble_eq_true rfl⟩ (m_X12_refuses) dX12_hears_72 (rfl : 72 + 3 = 75) (Nat.le_of_ble_eq_true rfl) rfl rfl rfl ⟨Nat.le_of_ble_eq_true rfl, Nat.le_of_ble_eq_true rfl⟩ ?_
        refine k_iret rfl rfl dX12_hears_75 (Nat.le_of_ble_eq_true rfl) (Nat.le_of_ble_eq_true rfl) ?_
        exact kRt_of (congrArg (fun z => some (Value.int z)) (Eq.symm (Eq.trans (if_neg (show ¬ ((f_X12_isPlea (x.2 0) a1) = 0) from b5)) (Eq.trans (if_neg (show ¬ ((f_X12_sitsAt (x.2 0) ((x.2 0) 0)) = 0) from b24)) (if_neg (show ¬ (0 ≤ (((x.2 0) 0) - ((x.2 0) (Int32.toNatClampNeg (f_X12_pleaAt a1 1))))) from b63)))))) (congrArg (fun z => kTp a9 (kHr z z9)) (Eq.symm (Eq.trans (if_neg (show ¬ ((f_X12_isPlea (x.2 0) a1) = 0) from b5)) (Eq.trans (if_neg (show ¬ ((f_X12_sitsAt (x.2 0) ((x.2 0) 0)) = 0) from b24)) (if_neg (show ¬ (0 ≤ (((x.2 0) 0) - ((x.2 0) (Int32.toNatClampNeg (f_X12_pleaAt a1 1))))) from b63))))))
    · refine k_aload_n (i := 0) dX12_hears_27 (rfl : 27 + 1 = 28) rfl rfl ?_
      refine k_iconst (v := 2) dX12_hears_28 (rfl : 28 + 1 = 29) (by decide) ?_
      refine k_bipush (v := 6) dX12_hears_29 (rfl : 29 + 2 = 31) (by decide) ?_
      refine k_aload_n (i := 0) dX12_hears_31 (rfl : 31 + 1 = 32) rfl rfl ?_
      refine k_get 12 7 fg_X12_16 dX12_hears_32 (rfl : 32 + 3 = 35) (Nat.le_of_ble_eq_true rfl) rfl rfl ?_
      refine k_iconst (v := 0) dX12_hears_35 (rfl : 35 + 1 = 36) (by decide) ?_
      refine k_ialdc (c := 0) (by decide) dX12_hears_36 (rfl : 36 + 1 = 37) (Nat.le_of_ble_eq_true rfl) rfl (vp_in_iff.mpr (by decide)) ?_
      refine k_bipush (v := 24) dX12_hears_37 (rfl : 37 + 2 = 39) (by decide) ?_
      refine k_irem dX12_hears_39 (rfl : 39 + 1 = 40) (by decide) ?_
      refine k_callVd3 cv_X12_88 ⟨Nat.le_of_ble_eq_true rfl, Nat.le_of_ble_eq_true rfl⟩ (m_X12_refuses) dX12_hears_40 (rfl : 40 + 3 = 43) (Nat.le_of_ble_eq_true rfl) rfl rfl rfl ⟨Nat.le_of_ble_eq_true rfl, Nat.le_of_ble_eq_true rfl⟩ ?_
      refine k_iret rfl rfl dX12_hears_43 (Nat.le_of_ble_eq_true rfl) (Nat.le_of_ble_eq_true rfl) ?_
      exact kRt_of (congrArg (fun z => some (Value.int z)) (Eq.symm (Eq.trans (if_neg (show ¬ ((f_X12_isPlea (x.2 0) a1) = 0) from b5)) (if_pos (show (f_X12_sitsAt (x.2 0) ((x.2 0) 0)) = 0 from b24))))) (congrArg (fun z => kTp a9 (kHr z z9)) (Eq.symm (Eq.trans (if_neg (show ¬ ((f_X12_isPlea (x.2 0) a1) = 0) from b5)) (if_pos (show (f_X12_sitsAt (x.2 0) ((x.2 0) 0)) = 0 from b24)))))
  · refine k_aload_n (i := 0) dX12_hears_8 (rfl : 8 + 1 = 9) rfl rfl ?_
    refine k_iconst (v := 1) dX12_hears_9 (rfl : 9 + 1 = 10) (by decide) ?_
    refine k_callVd1 cv_X12_59 ⟨Nat.le_of_ble_eq_true rfl, Nat.le_of_ble_eq_true rfl⟩ (m_X12_fail) dX12_hears_10 (rfl : 10 + 3 = 13) (Nat.le_of_ble_eq_true rfl) rfl rfl rfl ⟨Nat.le_of_ble_eq_true rfl, Nat.le_of_ble_eq_true rfl⟩ ?_
    refine k_iret rfl rfl dX12_hears_13 (Nat.le_of_ble_eq_true rfl) (Nat.le_of_ble_eq_true rfl) ?_
    exact kRt_of (congrArg (fun z => some (Value.int z)) (Eq.symm (if_pos (show (f_X12_isPlea (x.2 0) a1) = 0 from b5)))) (congrArg (fun z => kTp a9 (kHr z z9)) (Eq.symm (if_pos (show (f_X12_isPlea (x.2 0) a1) = 0 from b5))))
def psL (a : Int32) : Nat → kY → Nat → Int32 → kY × Int32
  | 0, x, j, s => (x, s)
  | k + 1, x, j, s => (psL a k (g_X12_hourPasses x ) (j + 1) (s + (f_X12_hourPasses x )))
set_option maxRecDepth 100000 in
set_option maxHeartbeats 4000000 in
theorem lpsL {a9 : kH} {z9 : kE × kE} {Q : kQ} {a : Int32}  : ∀ (k : Nat) (x : kY) (j : Nat) (s : Int32), j + k = (Int32.toNatClampNeg a) → (∃ n, n ≤ 8 ∧ x.2 0 7 = nI n) → (∀ (z3 : Value), kEv kX12_passes (kRm kX12_passes 0 0) (kFm false 0 0 (Q)) false 38 [.ref 116, .int a, .int (psL a k x j s).2, z3] [] (kTp a9 (kHr (psL a k x j s).1 z9)) 130 0 0) → kEv kX12_passes (kRm kX12_passes 0 0) (kFm false 0 0 (Q)) false 20 [.ref 116, .int a, .int s, .int (nI j)] [] (kTp a9 (kHr x z9)) 130 0 0 := by
  intro k
  induction k with
  | zero =>
    intro x j s hj h7 hx
    refine k_iload_n (i := 3) dX12_passes_20 (rfl : 20 + 1 = 21) rfl rfl ?_
    refine k_iload_n (i := 1) dX12_passes_21 (rfl : 21 + 1 = 22) rfl rfl ?_
    refine k_icmp_ge (tgt := 38) dX12_passes_22 (rfl : 22 + 3 = 25) (by decide) (fun b22 => ?_) (fun b22 => by exact absurd (cl_le (by omega)) b22)
    rw [psL] at hx
    exact hx _
  | succ k ih =>
    intro x j s hj h7 hx
    refine k_iload_n (i := 3) dX12_passes_20 (rfl : 20 + 1 = 21) rfl rfl ?_
    refine k_iload_n (i := 1) dX12_passes_21 (rfl : 21 + 1 = 22) rfl rfl ?_
    refine k_icmp_ge (tgt := 38) dX12_passes_22 (rfl : 22 + 3 = 25) (by decide) (fun b22 => by exact absurd b22 (cl_nle (by omega))) (fun b22 => ?_)
    refine k_iload_n (i := 2) dX12_passes_25 (rfl : 25 + 1 = 26) rfl rfl ?_
    refine k_aload_n (i := 0) dX12_passes_26 (rfl : 26 + 1 = 27) rfl rfl ?_
    refine k_callVd0 cv_X12_204 ⟨Nat.le_of_ble_eq_true rfl, Nat.le_of_ble_eq_true rfl⟩ (m_X12_hourPasses h7) dX12_passes_27 (rfl : 27 + 3 = 30) (Nat.le_of_ble_eq_true rfl) rfl rfl rfl ⟨Nat.le_of_ble_eq_true rfl, Nat.le_of_ble_eq_true rfl⟩ ?_
    refine k_iadd dX12_passes_30 (rfl : 30 + 1 = 31) ?_
    refine k_istore_n (i := 2) dX12_passes_31 (rfl : 31 + 1 = 32) rfl (Nat.le_of_ble_eq_true rfl) ?_
    refine k_ls (ls2 := [.ref 116, .int a, .int (s + (f_X12_hourPasses x )), .int (nI j)]) rfl ?_
    refine k_iinc (i := 3) (v := (nI (j + 1))) dX12_passes_32 (rfl : 32 + 3 = 35) rfl (Nat.le_of_ble_eq_true rfl) (nI_1 _) ?_
    refine k_ls (ls2 := [.ref 116, .int a, .int (s + (f_X12_hourPasses x )), .int (nI (j + 1))]) rfl ?_
    refine k_goto (tgt := 20) dX12_passes_35 (by decide) ?_
    rw [psL] at hx
    exact ih (g_X12_hourPasses x ) (j + 1) (s + (f_X12_hourPasses x )) (by omega) (hpass_7 h7) hx
def f_X12_passes (x : kY) (a1 : Int32) : Int32 := if (f_X12_isIn a1 1 48) = 0 then (f_X12_fail x 1) else ((psL a1 (Int32.toNatClampNeg a1) x 0 0).2)
def g_X12_passes (x : kY) (a1 : Int32) : kY := if (f_X12_isIn a1 1 48) = 0 then (g_X12_fail x 1) else ((psL a1 (Int32.toNatClampNeg a1) x 0 0).1)
set_option maxRecDepth 100000 in
set_option maxHeartbeats 4000000 in
theorem m_X12_passes {x : kY} {a9 : kH} {z9 : kE × kE} {a1 : Int32} (hv : kMv (x.2 0)) : kMet kX12_passes false 0 0 [.ref 116, .int a1] (kTp a9 (kHr x z9)) 130 (kRt (some (.int (f_X12_passes x a1))) (kTp a9 (kHr (g_X12_passes x a1) z9)) 130) := by
  refine kMet.in (by decide) rfl rfl _ rfl ?_
  refine k_iload_n (i := 1) dX12_passes_0 (rfl : 0 + 1 = 1) rfl rfl ?_
  refine k_iconst (v := 1) dX12_passes_1 (rfl : 1 + 1 = 2) (by decide) ?_
  refine k_bipush (v := 48) dX12_passes_2 (rfl : 2 + 2 = 4) (by decide) ?_
  refine k_callSd3 cv_X12_70 ⟨Nat.le_of_ble_eq_true rfl, Nat.le_of_ble_eq_true rfl⟩ (m_X12_isIn) dX12_passes_4 (rfl : 4 + 3 = 7) rfl ⟨Nat.le_of_ble_eq_true rfl, Nat.le_of_ble_eq_true rfl⟩ ?_
  refine k_if_ne (tgt := 16) dX12_passes_7 (rfl : 7 + 3 = 10) (by decide) (fun b7 => ?_) (fun b7 => ?_)
  · refine k_iconst (v := 0) dX12_passes_16 (rfl : 16 + 1 = 17) (by decide) ?_
    refine k_istore_n (i := 2) dX12_passes_17 (rfl : 17 + 1 = 18) rfl (Nat.le_of_ble_eq_true rfl) ?_
    refine k_ls (ls2 := [.ref 116, .int a1, .int 0, .retAddr 0]) rfl ?_
    refine k_iconst (v := 0) dX12_passes_18 (rfl : 18 + 1 = 19) (by decide) ?_
    refine k_istore_n (i := 3) dX12_passes_19 (rfl : 19 + 1 = 20) rfl (Nat.le_of_ble_eq_true rfl) ?_
    refine k_ls (ls2 := [.ref 116, .int a1, .int 0, .int 0]) rfl ?_
    refine lpsL (a := a1) (Int32.toNatClampNeg a1) x 0 0 (by omega) hv.2.1 (fun z3 => ?_)
    generalize hw20 : (psL a1 (Int32.toNatClampNeg a1) x 0 0) = w20
    refine k_iload_n (i := 2) dX12_passes_38 (rfl : 38 + 1 = 39) rfl rfl ?_
    refine k_iret rfl rfl dX12_passes_39 (Nat.le_of_ble_eq_true rfl) (Nat.le_of_ble_eq_true rfl) ?_
    subst hw20
    exact kRt_of (congrArg (fun z => some (Value.int z)) (Eq.symm (if_neg (show ¬ ((f_X12_isIn a1 1 48) = 0) from b7)))) (congrArg (fun z => kTp a9 (kHr z z9)) (Eq.symm (if_neg (show ¬ ((f_X12_isIn a1 1 48) = 0) from b7))))
  · refine k_aload_n (i := 0) dX12_passes_10 (rfl : 10 + 1 = 11) rfl rfl ?_
    refine k_iconst (v := 1) dX12_passes_11 (rfl : 11 + 1 = 12) (by decide) ?_
    refine k_callVd1 cv_X12_59 ⟨Nat.le_of_ble_eq_true rfl, Nat.le_of_ble_eq_true rfl⟩ (m_X12_fail) dX12_passes_12 (rfl : 12 + 3 = 15) (Nat.le_of_ble_eq_true rfl) rfl rfl rfl ⟨Nat.le_of_ble_eq_true rfl, Nat.le_of_ble_eq_true rfl⟩ ?_
    refine k_iret rfl rfl dX12_passes_15 (Nat.le_of_ble_eq_true rfl) (Nat.le_of_ble_eq_true rfl) ?_
    exact kRt_of (congrArg (fun z => some (Value.int z)) (Eq.symm (if_pos (show (f_X12_isIn a1 1 48) = 0 from b7)))) (congrArg (fun z => kTp a9 (kHr z z9)) (Eq.symm (if_pos (show (f_X12_isIn a1 1 48) = 0 from b7))))
