theorem h29 {h : kH} : hX11 h 29 = kHc x00 29 := by
  show kRf 4 8 (va_up (va_up (va_up (va_up (va_up (va_up (va_up (va_up (fun _ => none) (Int32.toNatClampNeg 0) (some 30)) (Int32.toNatClampNeg 1) (some 39)) (Int32.toNatClampNeg 2) (some 48)) (Int32.toNatClampNeg 3) (some 57)) (Int32.toNatClampNeg 4) (some 66)) (Int32.toNatClampNeg 5) (some 75)) (Int32.toNatClampNeg 6) (some 84)) (Int32.toNatClampNeg 7) (some 93)) = kRf 4 8 (fun j => cond (Nat.blt j 8) (some (30 + 9 * j)) none)
  congr 5
  funext j
  by_cases hj : j < 8
  · match j, hj with
    | 0, _ => rfl
    | 1, _ => rfl
    | 2, _ => rfl
    | 3, _ => rfl
    | 4, _ => rfl
    | 5, _ => rfl
    | 6, _ => rfl
    | 7, _ => rfl
  · rw [blt_f (show 8 ≤ j by omega)]
    have un : ∀ (f : Nat → Option Nat) (k : Nat) (v : Option Nat), j ≠ k → va_up f k v j = f j := fun f k v h => if_neg h
    rw [un _ _ _ (by show j ≠ 7; omega), un _ _ _ (by show j ≠ 6; omega), un _ _ _ (by show j ≠ 5; omega), un _ _ _ (by show j ≠ 4; omega), un _ _ _ (by show j ≠ 3; omega), un _ _ _ (by show j ≠ 2; omega), un _ _ _ (by show j ≠ 1; omega), un _ _ _ (by show j ≠ 0; omega)]
    rfl
theorem al_s {P : Nat → Prop} {n : Nat} (h : ∀ i, i < n → P i) (p : P n) : ∀ i, i < n + 1 → P i := fun i hi => (Nat.lt_or_eq_of_le (Nat.le_of_lt_succ hi)).elim (h i) (fun e => e ▸ p)
theorem al_z {P : Nat → Prop} : ∀ i, i < 0 → P i := fun _ hi => absurd hi (Nat.not_lt_zero _)
theorem hX11_is {h : kH} : ∀ i, i < 116 → hX11 h i = kHc x00 i := by
  refine al_s (n := 115) ?_ rfl
  refine al_s (n := 114) ?_ rfl
  refine al_s (n := 113) ?_ rfl
  refine al_s (n := 112) ?_ rfl
  refine al_s (n := 111) ?_ rfl
  refine al_s (n := 110) ?_ rfl
  refine al_s (n := 109) ?_ rfl
  refine al_s (n := 108) ?_ rfl
  refine al_s (n := 107) ?_ rfl
  refine al_s (n := 106) ?_ rfl
  refine al_s (n := 105) ?_ rfl
  refine al_s (n := 104) ?_ rfl
  refine al_s (n := 103) ?_ rfl
  refine al_s (n := 102) ?_ rfl
  refine al_s (n := 101) ?_ rfl
  refine al_s (n := 100) ?_ rfl
  refine al_s (n := 99) ?_ rfl
  refine al_s (n := 98) ?_ rfl
  refine al_s (n := 97) ?_ rfl
  refine al_s (n := 96) ?_ rfl
  refine al_s (n := 95) ?_ rfl
  refine al_s (n := 94) ?_ rfl
  refine al_s (n := 93) ?_ rfl
  refine al_s (n := 92) ?_ rfl
  refine al_s (n := 91) ?_ rfl
  refine al_s (n := 90) ?_ rfl
  refine al_s (n := 89) ?_ rfl
  refine al_s (n := 88) ?_ rfl
  refine al_s (n := 87) ?_ rfl
  refine al_s (n := 86) ?_ rfl
  refine al_s (n := 85) ?_ rfl
  refine al_s (n := 84) ?_ rfl
  refine al_s (n := 83) ?_ rfl
  refine al_s (n := 82) ?_ rfl
  refine al_s (n := 81) ?_ rfl
  refine al_s (n := 80) ?_ rfl
  refine al_s (n := 79) ?_ rfl
  refine al_s (n := 78) ?_ rfl
  refine al_s (n := 77) ?_ rfl
  refine al_s (n := 76) ?_ rfl
  refine al_s (n := 75) ?_ rfl
  refine al_s (n := 74) ?_ rfl
  refine al_s (n := 73) ?_ rfl
  refine al_s (n := 72) ?_ rfl
  refine al_s (n := 71) ?_ rfl
  refine al_s (n := 70) ?_ rfl
  refine al_s (n := 69) ?_ rfl
  refine al_s (n := 68) ?_ rfl
  refine al_s (n := 67) ?_ rfl
  refine al_s (n := 66) ?_ rfl
  refine al_s (n := 65) ?_ rfl
  refine al_s (n := 64) ?_ rfl
  refine al_s (n := 63) ?_ rfl
  refine al_s (n := 62) ?_ rfl
  refine al_s (n := 61) ?_ rfl
  refine al_s (n := 60) ?_ rfl
  refine al_s (n := 59) ?_ rfl
  refine al_s (n := 58) ?_ rfl
  refine al_s (n := 57) ?_ rfl
  refine al_s (n := 56) ?_ rfl
  refine al_s (n := 55) ?_ rfl
  refine al_s (n := 54) ?_ rfl
  refine al_s (n := 53) ?_ rfl
  refine al_s (n := 52) ?_ rfl
  refine al_s (n := 51) ?_ rfl
  refine al_s (n := 50) ?_ rfl
  refine al_s (n := 49) ?_ rfl
  refine al_s (n := 48) ?_ rfl
  refine al_s (n := 47) ?_ rfl
  refine al_s (n := 46) ?_ rfl
  refine al_s (n := 45) ?_ rfl
  refine al_s (n := 44) ?_ rfl
  refine al_s (n := 43) ?_ rfl
  refine al_s (n := 42) ?_ rfl
  refine al_s (n := 41) ?_ rfl
  refine al_s (n := 40) ?_ rfl
  refine al_s (n := 39) ?_ rfl
  refine al_s (n := 38) ?_ rfl
  refine al_s (n := 37) ?_ rfl
  refine al_s (n := 36) ?_ rfl
  refine al_s (n := 35) ?_ rfl
  refine al_s (n := 34) ?_ rfl
  refine al_s (n := 33) ?_ rfl
  refine al_s (n := 32) ?_ rfl
  refine al_s (n := 31) ?_ rfl
  refine al_s (n := 30) ?_ rfl
  refine al_s (n := 29) ?_ h29
  refine al_s (n := 28) ?_ rfl
  refine al_s (n := 27) ?_ rfl
  refine al_s (n := 26) ?_ rfl
  refine al_s (n := 25) ?_ rfl
  refine al_s (n := 24) ?_ rfl
  refine al_s (n := 23) ?_ rfl
  refine al_s (n := 22) ?_ rfl
  refine al_s (n := 21) ?_ rfl
  refine al_s (n := 20) ?_ rfl
  refine al_s (n := 19) ?_ rfl
  refine al_s (n := 18) ?_ rfl
  refine al_s (n := 17) ?_ rfl
  refine al_s (n := 16) ?_ rfl
  refine al_s (n := 15) ?_ rfl
  refine al_s (n := 14) ?_ rfl
  refine al_s (n := 13) ?_ rfl
  refine al_s (n := 12) ?_ rfl
  refine al_s (n := 11) ?_ rfl
  refine al_s (n := 10) ?_ rfl
  refine al_s (n := 9) ?_ rfl
  refine al_s (n := 8) ?_ rfl
  refine al_s (n := 7) ?_ rfl
  refine al_s (n := 6) ?_ rfl
  refine al_s (n := 5) ?_ rfl
  refine al_s (n := 4) ?_ rfl
  refine al_s (n := 3) ?_ rfl
  refine al_s (n := 2) ?_ rfl
  refine al_s (n := 1) ?_ rfl
  refine al_s (n := 0) ?_ rfl
  exact al_z
