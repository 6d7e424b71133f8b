/-! HEARINGS, HOURS THAT PASS, SITTINGS. -/
theorem i_r4 (a b : Int32) : -(a - b) = b - a := by
  apply Int32.toBitVec_inj.1
  simp only [Int32.toBitVec_neg, Int32.toBitVec_sub]
  bv_omega
theorem and1 (z : Int32) : z &&& 1 = if bt z 0 = true then 1 else 0 := by
  have h1 : ∀ i, i < 32 → bt 1 i = decide (i = 0) := by decide +kernel
  apply b_ext
  intro i hi
  rw [b_and, h1 i hi]
  by_cases e : i = 0
  · subst e
    cases h : bt z 0 with
    | true => rw [if_pos rfl]; rfl
    | false => rw [if_neg (by decide)]; rfl
  · rw [decide_eq_false e, Bool.and_false]
    split
    · rw [h1 i hi, decide_eq_false e]
    · rw [b_0]
theorem sits_k {s : Int32} {k : Nat} (hk : k < 32) : ((Int32.toUInt32 s >>> (Int32.toUInt32 (nI k) &&& Int32.toUInt32 31)).toInt32 &&& 1 = if bt s k = true then 1 else 0) ∧ ((s >>> (nI k &&& 31)) &&& 1 = if bt s k = true then 1 else 0) := by
  rw [and1, and1, b_ushr k hk, b_sshr k hk s (by omega), Nat.add_zero, if_pos hk]
  exact ⟨rfl, rfl⟩
section HR
variable {hb t : Nat} {x x2 : kK} {y : kY}
theorem rem24 {H : Nat} (h : H < 2 ^ 30) : nI H - nI H / 24 * 24 = nI (H % 24) := pk_rem (d := 24) (by omega) (by decide) (by decide)
theorem sits_eq (R : RJ hb t (x.1 0) (y.2 0)) {H : Nat} (hH : H < 2 ^ 30) : f_X12_sitsAt (y.2 0) (nI H) = f_X3_sitsAt x (nI H) := by
  unfold f_X12_sitsAt f_X3_sitsAt
  rw [rem24 hH, R.n5]
  have h := sits_k (s := y.2 0 8) (k := H % 24) (by omega)
  rw [h.1, h.2]
  cases bt (y.2 0 8) (H % 24) <;> rfl
theorem le0 {F H : Nat} (hF : F < 2 ^ 30) (hH : H < 2 ^ 30) : (nI F - nI H ≤ 0) ↔ F ≤ H := by
  rw [Int32.le_iff_toInt_le, pk_sub_toInt hF hH, show (0 : Int32).toInt = 0 by decide]
  omega
theorem ge0 {F H : Nat} (hF : F < 2 ^ 30) (hH : H < 2 ^ 30) : (0 ≤ nI H - nI F) ↔ F ≤ H := by
  rw [Int32.le_iff_toInt_le, pk_sub_toInt hH hF, show (0 : Int32).toInt = 0 by decide]
  omega
/-- the hours of a plea, the present one -/
theorem hrs (R : RJ hb t (x.1 0) (y.2 0)) (hh : hb < 2 ^ 29) {l : Nat} (hl : l < nL (y.2 0)) : ∃ F H, F < hb + 10 ∧ H < hb + 1 ∧ (x.1 0).2.2 2 l = nI F ∧ (x.1 0).2.1 4 = nI H ∧ y.2 0 0 = nI H ∧ y.2 0 (92 + 3 * l + 1) = nI F ∧ H ≤ F + 24 ∧ F ≤ H + 8 := by
  have n8 := R.nL8
  obtain ⟨H, h1, h2⟩ := R.B.2.2.2.2.2.1
  obtain ⟨F, f1, f2⟩ := (R.E.1 l (by omega)).2.1
  have e := R.E.2 l hl
  have c1 : (y.2 0 0).toNatClampNeg = H := by rw [h2, nI_clamp (by omega)]
  have c2 : hF (y.2 0) l = F := by rw [hF, f2, nI_clamp (by omega)]
  rw [c1, c2] at e
  exact ⟨F, H, f1, h1, by rw [(R.L l hl).2.1, f2], by rw [R.n4, h2], h2, f2, e.1, e.2.1⟩
theorem ck_hears (R : RJ hb t (x.1 0) (y.2 0)) (hh : hb < 2 ^ 29) (a : Int32) :
    (f_X11_checkHearing x a = 1 ∧ g_X11_checkHearing x a = x ∧ g_X12_hears y a = g_X12_fail y 1) ∨ (∃ r d, r ≠ 0 ∧ f_X11_checkHearing x a = 4 ∧ g_X11_checkHearing x a = g_X11_refuse x r d ∧ g_X12_hears y a = g_X12_refuses y 2 r d) ∨
    (f_X11_checkHearing x a = 0 ∧ g_X11_checkHearing x a = x ∧ ∃ l, l < nL (y.2 0) ∧ a = nI l ∧ f_X12_hears y a = f_X3_fineOf x a ∧ g_X12_hears y a = g_X12_hourPasses (g_X12_goes (yR y 0 (upd (y.2 0) 1 (y.2 0 1 + f_X3_fineOf x a))) (nI l))) := by
  have n8 := R.nL8
  have ec : (x.1 0).2.1 6 = nI (nL (y.2 0)) := by rw [R.n6]; exact R.eL
  unfold f_X11_checkHearing g_X11_checkHearing g_X12_hears f_X12_hears f_X12_isPlea
  rw [show f_X12_isIn a 0 ((y.2 0) 7 - 1) = f_X12_isIn a 0 (nI (nL (y.2 0)) - 1) by rw [← R.eL]]
  rcases in_cs a (n := nL (y.2 0)) (by omega) with ⟨i1, i2⟩ | ⟨i1, l, hl, rfl⟩
  · left
    rw [hl_f ec i2, i1, if_pos rfl, if_pos rfl, if_pos rfl]
    exact ⟨rfl, rfl, rfl⟩
  · right
    obtain ⟨F, H, f1, h1, eF, eH, eH2, eF2, -, -⟩ := hrs R hh hl
    rw [hl_t ec (by omega) hl, i1, if_neg z10, if_neg z10, if_neg z10, if_neg z10, nI_clamp (show l < 2 ^ 31 by omega), eF, eH, eH2, pl_1 (by omega), pl_2 (by omega), eF2, sits_eq R (by omega)]
    by_cases hs : f_X3_sitsAt x (nI H) = 0
    · left
      rw [if_pos hs, if_pos hs, if_pos hs]
      exact ⟨6, _, by decide, rfl, rfl, rfl⟩
    · rw [if_neg hs, if_neg hs, if_neg hs, if_neg hs]
      by_cases hF : F ≤ H
      · right
        have fi : f_X3_fineOf x (nI l) = 3 * y.2 0 (92 + 3 * l + 2) + (nI H - nI F) := by
          unfold f_X3_fineOf
          rw [nI_clamp (by omega), eH, eF, (R.L l hl).2.2]
        rw [if_pos ((le0 (by omega) (by omega)).2 hF), if_pos ((le0 (by omega) (by omega)).2 hF), if_pos ((ge0 (by omega) (by omega)).2 hF), if_pos ((ge0 (by omega) (by omega)).2 hF), fi]
        exact ⟨rfl, rfl, l, hl, rfl, rfl, rfl⟩
      · left
        rw [if_neg (fun z => hF ((le0 (by omega) (by omega)).1 z)), if_neg (fun z => hF ((le0 (by omega) (by omega)).1 z)), if_neg (fun z => hF ((ge0 (by omega) (by omega)).1 z)), i_r4]
        exact ⟨7, _, by decide, rfl, rfl, rfl⟩
theorem fine_c (hx : x2.1 0 = x.1 0) {a : Int32} : f_X3_fineOf x2 a = f_X3_fineOf x a := by unfold f_X3_fineOf; rw [hx]
/-- the fine is paid -/
theorem RJ_pay (R : RJ hb t (x.1 0) (y.2 0)) {z : Int32} : RJ hb t (cS (cS (x.1 0) 8 ((x.1 0).2.1 8 + z)) 9 ((x.1 0).2.1 9 + z)) (upd (y.2 0) 1 (y.2 0 1 + z)) := by
  have u : ∀ k, k ≠ 1 → upd (y.2 0) 1 (y.2 0 1 + z) k = y.2 0 k := fun k h4 => pk_un h4
  refine RI_nums R (Nat.le_refl _) ?_ ?_ ?_ rfl rfl (u 0 (by decide)) (u 3 (by decide)) (u 6 (by decide)) (u 7 (by decide)) (fun i q1 q2 => u i (by omega))
  · refine rcN_x ?_ (k := 9) (by decide) _
    rw [R.n8]
    exact rcN_S R.N (k := 8) (by decide) (by decide) _
  · show (x.1 0).2.1 8 + z = 50 + ((x.1 0).2.1 9 + z) - (x.1 0).2.1 10 - (x.1 0).2.1 11
    rw [i_r3, i_r2, i_r2, ← R.A]
  · obtain ⟨b1, b2, b3, b4, b5, b6, b7, ⟨a, b, q1, q2, q3, q4⟩, b9⟩ := R.B
    exact ⟨by rw [u 6 (by decide)]; exact b1, by rw [u 7 (by decide)]; exact b2, by rw [u 3 (by decide)]; exact b3, by rw [u 4 (by decide)]; exact b4, by rw [u 5 (by decide)]; exact b5, by rw [u 0 (by decide)]; exact b6, by rw [u 2 (by decide)]; exact b7, ⟨a, b, q1, q2, by rw [u 10 (by decide)]; exact q3, by rw [u 9 (by decide)]; exact q4⟩, by rw [u 11 (by decide)]; exact b9⟩
theorem cd_hears (R : RJ hb t (x.1 0) (y.2 0)) (hh : hb < 2 ^ 29) {a : Int32} (hf : f_X11_checkHearing x a = 0) (hx : x2.1 0 = x.1 0) : RJ (hb + 1) t ((g_X11_holdHearing x2 a).1 0) ((g_X12_hears y a).2 0) ∧ f_X11_holdHearing x2 a = f_X12_hears y a ∧ (g_X12_hears y a).1 = y.1 := by
  rcases ck_hears R hh a with ⟨e, -⟩ | ⟨r, d, -, e, -⟩ | ⟨-, -, l, hl, rfl, e1, e2⟩
  · rw [e] at hf; exact absurd hf (by decide)
  · rw [e] at hf; exact absurd hf (by decide)
  · rw [e1, e2]
    unfold g_X11_holdHearing f_X11_holdHearing
    rw [fine_c hx, hx]
    generalize f_X3_fineOf x (nI l) = z
    have R1 := RJ_pay R (z := z)
    have R2 : RJ hb t ((nS (nS x2 8 ((x.1 0).2.1 8 + z)) 9 ((x.1 0).2.1 9 + z)).1 0) ((yR y 0 (upd (y.2 0) 1 (y.2 0 1 + z))).2 0) := by
      show RJ hb t (cS (cS (x2.1 0) 8 ((x.1 0).2.1 8 + z)) 9 ((x.1 0).2.1 9 + z)) (upd (y.2 0) 1 (y.2 0 1 + z))
      rw [hx]
      exact R1
    have S := strike_ok R2 (l := l) (by show l < (upd (y.2 0) 1 (y.2 0 1 + z) 7).toNatClampNeg; rw [pk_un (by decide)]; exact hl)
    have Hq := hour_ok S.1 hh
    exact ⟨Hq.1, rfl, Hq.2.2.trans S.2⟩
/-- hours that pass -/
theorem pa_ps {a : Int32} {k : Nat} : ∀ {x : kK} {y : kY} {hb j j2 : Nat} {s : Int32}, RJ hb t (x.1 0) (y.2 0) → hb + k < 2 ^ 29 → RJ (hb + k) t ((paL a k x j s).1.1 0) ((psL a k y j2 s).1.2 0) ∧ (paL a k x j s).2 = (psL a k y j2 s).2 ∧ (psL a k y j2 s).1.1 = y.1 := by
  induction k with
  | zero => intro x y hb j j2 s R _; exact ⟨R, rfl, rfl⟩
  | succ k ih =>
    intro x y hb j j2 s R hk
    obtain ⟨h1, h2, h3⟩ := hour_ok R (by omega)
    rw [paL, psL, h2]
    obtain ⟨g1, g2, g3⟩ := ih (j := j + 1) (j2 := j2 + 1) (s := s + f_X12_hourPasses y) h1 (by omega)
    rw [show hb + (k + 1) = hb + 1 + k by omega]
    exact ⟨g1, g2, g3.trans h3⟩
theorem ps_cs (a : Int32) : (f_X11_checkPassing a = 2 ∧ f_X12_isIn a 1 48 = 0) ∨ (f_X11_checkPassing a = 0 ∧ f_X12_isIn a 1 48 = 1 ∧ ∃ p, p ≤ 48 ∧ a = nI p) := by
  unfold f_X11_checkPassing f_X12_isIn
  by_cases h1 : a < 1
  · rw [if_pos h1, if_pos h1]; exact Or.inl ⟨rfl, rfl⟩
  · rw [if_neg h1, if_neg h1]
    by_cases h2 : 48 < a
    · rw [if_pos h2, if_pos h2]; exact Or.inl ⟨rfl, rfl⟩
    · rw [if_neg h2, if_neg h2]
      have g1 : ¬ a < 0 := by
        intro z
        apply h1
        rw [Int32.lt_iff_toInt_lt] at z ⊢
        rw [show (0 : Int32).toInt = 0 by decide] at z
        rw [show (1 : Int32).toInt = 1 by decide]
        omega
      obtain ⟨p, hp, rfl⟩ := nI_of2 (M := 48) (n := 48) (by decide) g1 (Int32.not_lt.1 h2)
      exact Or.inr ⟨rfl, rfl, p, hp, rfl⟩
theorem ck_passes (R : RI t (x.1 0) (y.2 0)) (ht : t < 2 ^ 22) (h0 : y.1 0 = 0) {a : Int32} : chOk x y (f_X11_checkPassing a) x (g_X12_passes y a) cdD := by
  unfold g_X12_passes
  rcases ps_cs a with ⟨e1, e2⟩ | ⟨e1, e2, p, hp, rfl⟩
  · rw [e1, e2, if_pos rfl]
    exact ch_fail (by decide) rfl (by decide)
  · rw [e1, e2, if_neg (by decide), nI_clamp (by omega)]
    have h := pa_ps (a := nI p) (k := p) (j := 0) (j2 := 0) (s := 0) R (by omega)
    exact Or.inl ⟨rfl, rfl, by rw [h.2.2]; exact h0, by rw [h.2.2], by rw [h.2.2]⟩
theorem cd_passes (R : RI t (x.1 0) (y.2 0)) (ht : t < 2 ^ 22) {a : Int32} (hf : f_X11_checkPassing a = 0) (hx : x2.1 0 = x.1 0) : RI (t + 1) ((g_X11_passHours x2 a).1 0) ((g_X12_passes y a).2 0) ∧ f_X11_passHours x2 a = f_X12_passes y a := by
  unfold g_X11_passHours f_X11_passHours g_X12_passes f_X12_passes
  rcases ps_cs a with ⟨e1, e2⟩ | ⟨e1, e2, p, hp, rfl⟩
  · rw [e1] at hf
    exact absurd hf (by decide)
  · rw [e2, if_neg (by decide), if_neg (by decide), nI_clamp (by omega)]
    have R2 : RI t (x2.1 0) (y.2 0) := by rw [hx]; exact R
    have h := pa_ps (a := nI p) (k := p) (j := 0) (j2 := 0) (s := 0) R2 (by omega)
    exact ⟨h.1.mono (by omega) (by omega), h.2.1⟩
/-- sittings -/
theorem seat_b {s : Int32} {p : Nat} (hp : p < 24) {b : Bool} (hb : b = true ↔ bt s p = true) : (b = true → s ||| ((1 : Int32) <<< (nI p &&& 31)) = s) ∧ (b = false → s ||| ((1 : Int32) <<< (nI p &&& 31)) = s ^^^ ((1 : Int32) <<< (nI p &&& 31))) ∧ (b = true → s &&& (((1 : Int32) <<< (nI p &&& 31)) ^^^ (-1)) = s ^^^ ((1 : Int32) <<< (nI p &&& 31))) ∧ (b = false → s &&& (((1 : Int32) <<< (nI p &&& 31)) ^^^ (-1)) = s) := by
  have h1 : ∀ p, p < 24 → ∀ i, i < 32 → bt ((1 : Int32) <<< (nI p &&& 31)) i = decide (i = p) := by decide +kernel
  have hc : b = bt s p := by
    cases b with
    | true => exact (hb.1 rfl).symm
    | false =>
      cases h : bt s p with
      | true => exact absurd (hb.2 h) (by decide)
      | false => rfl
  refine ⟨fun z => ?_, fun z => ?_, fun z => ?_, fun z => ?_⟩
  all_goals
    apply b_ext
    intro i hi
    try rw [b_or]
    try rw [b_and]
    try rw [b_xor]
    try rw [b_xor]
    try rw [b_m1 i hi]
    try rw [h1 p hp i hi]
    rw [hc] at z
    by_cases e : i = p
    · subst e
      rw [decide_eq_true rfl, z]
      rfl
    · rw [decide_eq_false e]
      simp
theorem RI_sit (R : RI t (x.1 0) (y.2 0)) {z : Int32} : RI t (cS (x.1 0) 5 z) (upd (y.2 0) 8 z) := by
  have u : ∀ k, k ≠ 8 → upd (y.2 0) 8 z k = y.2 0 k := fun k h4 => pk_un h4
  refine RI_nums R (Nat.le_refl _) (rcN_S R.N (k := 5) (by decide) (by decide) z) R.A ?_ rfl rfl (u 0 (by decide)) (u 3 (by decide)) (u 6 (by decide)) (u 7 (by decide)) (fun i q1 q2 => u i (by omega))
  obtain ⟨b1, b2, b3, b4, b5, b6, b7, ⟨a, b, q1, q2, q3, q4⟩, b9⟩ := R.B
  exact ⟨by rw [u 6 (by decide)]; exact b1, by rw [u 7 (by decide)]; exact b2, by rw [u 3 (by decide)]; exact b3, by rw [u 4 (by decide)]; exact b4, by rw [u 5 (by decide)]; exact b5, by rw [u 0 (by decide)]; exact b6, by rw [u 2 (by decide)]; exact b7, ⟨a, b, q1, q2, by rw [u 10 (by decide)]; exact q3, by rw [u 9 (by decide)]; exact q4⟩, by rw [u 11 (by decide)]; exact b9⟩
theorem upd_self {v : Nat → Int32} {k : Nat} {z : Int32} (h : v k = z) : upd v k z = v := by
  funext i
  by_cases e : i = k
  · subst e; rw [pk_us, h]
  · rw [pk_un e]
theorem cd_seats (R : RI t (x.1 0) (y.2 0)) {p : Nat} (hp : p < 24) {b : Int32} : f_X12_seats y (nI p) b = f_X3_sitsAt x (nI p) ∧ (g_X12_seats y (nI p) b).1 = y.1 ∧ RI t (cS (x.1 0) 5 (if b = 0 then (x.1 0).2.1 5 &&& (((1 : Int32) <<< (nI p &&& 31)) ^^^ (-1)) else (x.1 0).2.1 5 ||| ((1 : Int32) <<< (nI p &&& 31)))) ((g_X12_seats y (nI p) b).2 0) := by
  have i1 : f_X12_isIn (nI p) 0 23 = 1 := by
    rcases in_cs (nI p) (n := 24) (by omega) with ⟨-, h⟩ | ⟨h, -⟩
    · rcases h with h | h
      · exact absurd h (nI_pos (by omega))
      · exact absurd h (nI_ge hp (by omega))
    · rw [show (23 : Int32) = nI 24 - 1 by decide]; exact h
  have sv : f_X3_sitsAt x (nI p) = if bt (y.2 0 8) p = true then 1 else 0 := by
    unfold f_X3_sitsAt
    rw [rem24 (by omega), Nat.mod_eq_of_lt hp, R.n5, (sits_k (s := y.2 0 8) (k := p) (by omega)).1]
    cases bt (y.2 0 8) p <;> rfl
  unfold f_X12_seats g_X12_seats
  rw [i1, if_neg z10, if_neg z10, sits_eq R (by omega), sv, R.n5]
  have sb := seat_b (s := y.2 0 8) hp (b := bt (y.2 0 8) p) Iff.rfl
  cases h : bt (y.2 0 8) p with
  | true =>
    rw [h] at sb
    simp only [if_true, show ¬ (1 : Int32) = 0 by decide, if_false, ite_self]
    by_cases hb : b = 0
    · simp only [if_pos hb]
      refine ⟨by first | trivial | rfl, by first | trivial | rfl, ?_⟩
      rw [sb.2.2.1 rfl]
      exact RI_sit R
    · simp only [if_neg hb]
      refine ⟨by first | trivial | rfl, by first | trivial | rfl, ?_⟩
      rw [sb.1 rfl]
      have := RI_sit R (z := y.2 0 8)
      rw [upd_self rfl] at this
      exact this
  | false =>
    rw [h] at sb
    simp only [Bool.false_eq_true, if_false, if_true, ite_self]
    by_cases hb : b = 0
    · simp only [if_pos hb]
      refine ⟨by first | trivial | rfl, by first | trivial | rfl, ?_⟩
      rw [sb.2.2.2 rfl]
      have := RI_sit R (z := y.2 0 8)
      rw [upd_self rfl] at this
      exact this
    · simp only [if_neg hb]
      refine ⟨by first | trivial | rfl, by first | trivial | rfl, ?_⟩
      rw [sb.2.1 rfl]
      exact RI_sit R
end HR
