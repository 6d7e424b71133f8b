/-! SUMMONS: the check and the change. -/
theorem yr1 {y : kY} {r : Nat} {f : Nat → Int32} : (yR y r f).1 = y.1 := rfl
theorem yr0 {y : kY} {f : Nat → Int32} : (yR y 0 f).2 0 = f := rfl
theorem suB7 {f : Nat → Int32} {a b c : Int32} : upd (upd (upd f 1 a) 9 b) 11 c 7 = f 7 := by rw [pk_un (by decide), pk_un (by decide), pk_un (by decide)]
section SU2
variable {t : Nat} {x x2 : kK} {y : kY}
theorem su_cs (R : RI t (x.1 0) (y.2 0)) (ht : t < 2 ^ 20) (a b : Int32) :
    (f_X11_checkSummons x a b = 1 ∧ g_X11_checkSummons x a b = x ∧ g_X12_summons y a b = g_X12_fail y 1) ∨ (f_X11_checkSummons x a b = 2 ∧ g_X11_checkSummons x a b = x ∧ g_X12_summons y a b = g_X12_fail y 2) ∨
    (∃ r d, r ≠ 0 ∧ f_X11_checkSummons x a b = 4 ∧ g_X11_checkSummons x a b = g_X11_refuse x r d ∧ g_X12_summons y a b = g_X12_refuses y 3 r d) ∨
    (f_X11_checkSummons x a b = 0 ∧ g_X11_checkSummons x a b = x ∧ ∃ q p, q < nP (y.2 0) ∧ p < 64 ∧ a = nI q ∧ b = nI p ∧ y.2 0 2 ≠ 0 ∧ f_X12_isParty (y.2 0) a ≠ 0 ∧ f_X12_isIn b 0 63 ≠ 0 ∧ pFind ((x.1 0).2.2 1) a (Int32.toNatClampNeg ((x.1 0).2.1 6)) 0 = -1 ∧ poL (y.2 0) a (Int32.toNatClampNeg (y.2 0 7)) 0 < 0) := by
  have h8 := R.nP8
  have e6 : (x.1 0).2.1 3 = nI (nP (y.2 0)) := by rw [R.n3]; exact R.eP
  obtain ⟨z, z1, z2⟩ := R.B.2.2.2.2.2.2.1
  have pe := plea_eq R (a := a)
  have pe2 := pF_n6 R (f := (x.1 0).2.2 1) (a := a)
  have ip : f_X12_isParty (y.2 0) a = f_X12_isIn a 0 (nI (nP (y.2 0)) - 1) := by unfold f_X12_isParty; rw [← R.eP]
  unfold f_X11_checkSummons g_X11_checkSummons g_X12_summons
  rw [ip, R.n7, R.n8, z2, pe]
  rcases in_cs a (n := nP (y.2 0)) (by omega) with ⟨i1, i2⟩ | ⟨i1, q, hq, rfl⟩
  · left
    rw [hpQ_f e6 (by omega) i2, i1, if_pos rfl, if_pos rfl, if_pos rfl]
    exact ⟨rfl, rfl, rfl⟩
  · right
    rw [hpQ_t e6 (by omega) hq, i1, if_neg z10, if_neg z10, if_neg z10]
    rcases th_cs b with ⟨t1, t2⟩ | ⟨t1, t2, p, hp, rfl⟩
    · left
      rw [t1, t2, if_pos rfl, if_pos rfl, if_pos rfl]
      exact ⟨rfl, rfl, rfl⟩
    · right
      rw [t1, t2, if_neg z10, if_neg z10, if_neg z10]
      rcases Nat.eq_zero_or_pos z with h0 | h0
      · left
        subst h0
        rw [if_neg (by decide), if_neg (by decide), if_pos (by decide)]
        exact ⟨4, _, by decide, rfl, rfl, rfl⟩
      · have hz : (0 : Int32) < nI z := nI_lt (a := 0) h0 (by omega)
        have hz2 : ¬ nI z = 0 := nI_ne0 h0 (by omega)
        rw [if_pos hz, if_pos hz, if_neg hz2]
        by_cases hs : pFind ((x.1 0).2.2 1) (nI q) (Int32.toNatClampNeg ((x.1 0).2.1 6)) 0 = -1
        · right
          rw [if_pos hs, if_pos hs]
          exact ⟨rfl, rfl, q, p, hq, hp, rfl, rfl, hz2, by decide, by decide, hs, pe2.2 hs⟩
        · left
          rw [if_neg hs, if_neg hs, if_neg (fun z => hs (pe2.1 z))]
          exact ⟨5, _, by decide, rfl, rfl, rfl⟩
theorem eb_c {z : kY} {f g : Nat → Int32} {a s : Int32} : f_X12_endsBy (yR (yR (yR z 0 f) 0 g) 0 (suB (z.2 0) a s)) = f_X12_endsBy z := by
  unfold f_X12_endsBy
  show (if z.1 8 = 0 then (if z.2 4 (Int32.toNatClampNeg (z.1 7)) = suB (z.2 0) a s 3 then 99 else 103) else 116) = _
  rw [suB_o (by decide) (by decide) (by decide)]
/-- what the reference's summons comes to -/
theorem su_g {q p : Nat} {a b : Int32} (hsg : g_X12_serves y b a = g_X12_flies y b) (h1 : f_X12_isParty (y.2 0) a ≠ 0) (h2 : f_X12_isIn b 0 63 ≠ 0) (h3 : y.2 0 2 ≠ 0) (h4 : poL (y.2 0) a (Int32.toNatClampNeg (y.2 0 7)) 0 < 0) :
    (g_X12_summons y a b).1 = (g_X12_flies y b).1 ∧ (f_X12_serves y b a ≤ 0 → f_X12_summons y a b = 0 ∧ (g_X12_summons y a b).2 0 = suM ((g_X12_flies y b).2 0) (f_X12_arm b) ((g_X12_flies y b).1 7) (if f_X12_endsBy (g_X12_flies y b) = 99 then 1 else 0) (if f_X12_endsBy (g_X12_flies y b) = 99 then 0 else 1)) ∧ (¬ f_X12_serves y b a ≤ 0 → f_X12_summons y a b = 1 ∧ (g_X12_summons y a b).2 0 = suS ((g_X12_flies y b).2 0) (f_X12_arm b) (f_X12_serves y b a) a) := by
  unfold g_X12_summons f_X12_summons
  rw [if_neg h1, if_neg h1, if_neg h2, if_neg h2, if_neg h3, if_neg h3, if_pos h4, if_pos h4, hsg]
  have eb : f_X12_endsBy (yR (yR (yR (g_X12_flies y b) 0 (upd ((g_X12_flies y b).2 0) 1 (((g_X12_flies y b).2 0) 1 - f_X12_arm b))) 0 (upd (upd ((g_X12_flies y b).2 0) 1 (((g_X12_flies y b).2 0) 1 - f_X12_arm b)) 9 (((g_X12_flies y b).2 0) 9 + 1))) 0 (upd (upd (upd ((g_X12_flies y b).2 0) 1 (((g_X12_flies y b).2 0) 1 - f_X12_arm b)) 9 (((g_X12_flies y b).2 0) 9 + 1)) 11 (((g_X12_flies y b).2 0) 11 + (g_X12_flies y b).1 7))) = f_X12_endsBy (g_X12_flies y b) := eb_c
  rw [eb]
  by_cases hs : f_X12_serves y b a ≤ 0
  · rw [if_pos hs, if_pos hs]
    by_cases he : f_X12_endsBy (g_X12_flies y b) = 99
    · rw [if_pos he, if_pos he, if_pos he, if_pos he]
      exact ⟨rfl, fun _ => ⟨rfl, rfl⟩, fun z => absurd hs z⟩
    · rw [if_neg he, if_neg he, if_neg he, if_neg he]
      exact ⟨rfl, fun _ => ⟨rfl, rfl⟩, fun z => absurd hs z⟩
  · rw [if_neg hs, if_neg hs]
    refine ⟨?_, fun z => absurd z hs, fun _ => ⟨rfl, ?_⟩⟩
    · simp only [yr1]
    · simp only [yr0, suS, suS4, suS3, suS2, suS1, suS0, suB, suB7]
theorem ck_summons (R : RI t (x.1 0) (y.2 0)) (ht : t < 2 ^ 20) (h0 : y.1 0 = 0) {a b : Int32} : chOk x y (f_X11_checkSummons x a b) (g_X11_checkSummons x a b) (g_X12_summons y a b) cdC := by
  rcases su_cs R ht a b with ⟨e1, e2, e3⟩ | ⟨e1, e2, e3⟩ | ⟨r, d, hr, e1, e2, e3⟩ | ⟨e1, e2, q, p, hq, hp, rfl, rfl, h3, h1, h2, -, h4⟩
  · rw [e1, e2, e3]; exact ch_fail (by decide) rfl (by decide)
  · rw [e1, e2, e3]; exact ch_fail (by decide) rfl (by decide)
  · rw [e1, e2, e3]; exact ch_ref rfl (by decide) hr
  · have f7 := flies_7 (x := y) (a := nI p)
    have g := (su_g (q := q) (p := p) serves_g h1 h2 h3 h4).1
    refine Or.inl ⟨e1, e2, ?_, ?_, ?_⟩
    · rw [g, f7 0 (by decide) (by decide)]; exact h0
    · rw [g, f7 4 (by decide) (by decide)]
    · rw [g, f7 5 (by decide) (by decide)]
theorem cd_summons (R : RI t (x.1 0) (y.2 0)) (ht : t < 2 ^ 20) {a b : Int32} (hf : f_X11_checkSummons x a b = 0) (hx : x2.1 0 = x.1 0) : RI (t + 1) ((g_X11_throwAt x2 a b).1 0) ((g_X12_summons y a b).2 0) ∧ f_X11_throwAt x2 a b = f_X12_summons y a b := by
  rcases su_cs R ht a b with ⟨e1, -⟩ | ⟨e1, -⟩ | ⟨r, d, hr, e1, -⟩ | ⟨-, -, q, p, hq, hp, rfl, rfl, h3, h1, h2, hs, h4⟩
  · rw [e1] at hf; exact absurd hf (by decide)
  · rw [e1] at hf; exact absurd hf (by decide)
  · rw [e1] at hf; exact absurd hf (by decide)
  · have R2 : RI t (x2.1 0) (y.2 0) := by rw [hx]; exact R
    have h8 := R.nP8
    have hn := noPl R hs
    have l8 := pl_lt8 R (q := q) (by omega) hn
    obtain ⟨F, fe, en, v0⟩ := fly_eq R2 hp
    obtain ⟨f1, f2, f3, f4, f5⟩ := F.n (by omega)
    have sv := sv_eq R2 hp hq
    have g := su_g (q := q) (p := p) serves_g h1 h2 h3 h4
    have fo := (fly_ok (x := x2) (a := nI p)).2
    have ar : ∀ p, p < 64 → f_X12_arm (nI p) = nI (1 + p / 8 % 4) := by decide +kernel
    have ar1 : f_X11_armOf (nI p) = nI (1 + p / 8 % 4) := ar p hp
    have cq : Int32.toNatClampNeg (nI q) = q := nI_clamp (by omega)
    unfold g_X11_throwAt f_X11_throwAt
    rw [v0, f4] at g
    generalize g_X4_fly x2 (nI p) = X at *
    rw [fo, cq, ar1]
    have len : X.2.1 2 = nI ((g_X12_flies y (nI p)).1 7).toNatClampNeg := f1.trans f4
    generalize ((g_X12_flies y (nI p)).1 7).toNatClampNeg = n at *
    rcases sv with ⟨s1, s2⟩ | ⟨i, i1, i2, s1, s2⟩
    · have g2 := g.2.1 (by rw [s2]; decide)
      rw [if_pos s1, if_pos s1, g2.1, g2.2, ar p hp]
      have M := RI_miss R2 (arm := nI (1 + p / 8 % 4)) (st := n) f3 (b := decide (f_X12_endsBy (g_X12_flies y (nI p)) = 99)) h3
      by_cases he : f_X12_endsBy (g_X12_flies y (nI p)) = 99
      · rw [decide_eq_true he] at M
        have hX : X.2.1 3 = 99 := en.trans he
        rw [if_pos hX, if_pos hX, if_pos he, if_pos he]
        refine ⟨?_, rfl⟩
        have cr : (g_X7_enterThrow X (nI (1 + p / 8 % 4)) (X.2.1 2) 1).1 0 = cS (thN (x2.1 0) (nI (1 + p / 8 % 4)) (nI n)) 13 ((x2.1 0).2.1 13 + 1) := by
          unfold g_X7_enterThrow
          rw [if_neg (by decide), len, fo]
          rw [show X = (x2.1, X.2) from Prod.ext fo rfl]
          rfl
        rw [cr]
        exact M
      · rw [decide_eq_false he] at M
        have hX : ¬ X.2.1 3 = 99 := fun z => he (en.symm.trans z)
        rw [if_neg hX, if_neg hX, if_neg he, if_neg he]
        refine ⟨?_, rfl⟩
        have cr : (g_X7_enterThrow X (nI (1 + p / 8 % 4)) (X.2.1 2) 0).1 0 = cS (thN (x2.1 0) (nI (1 + p / 8 % 4)) (nI n)) 7 ((x2.1 0).2.1 7 - 1) := by
          unfold g_X7_enterThrow
          rw [if_pos rfl, len, fo]
          rw [show X = (x2.1, X.2) from Prod.ext fo rfl]
          rfl
        rw [cr]
        exact M
    · have ni : ¬ nI i ≤ 0 := nI_nle (by omega) (by omega)
      have nm : ¬ nI i = (-1 : Int32) := by
        intro z
        have z2 : nI i < 0 := by rw [z]; decide
        exact nI_pos (by omega) z2
      have g2 := g.2.2 (by rw [s2]; exact ni)
      rw [s1, if_neg nm, if_neg nm, g2.1, g2.2, s2, ar p hp]
      refine ⟨?_, rfl⟩
      have e6 : (x2.1 0).2.1 6 = nI (nL (y.2 0)) := by rw [R2.n6]; exact R2.eL
      have X2 : (g_X7_enterThrow X (nI (1 + p / 8 % 4)) (nI i) 0) = nS (nS (nS (nS (nS X 8 ((x2.1 0).2.1 8 - nI (1 + p / 8 % 4))) 10 ((x2.1 0).2.1 10 + nI (1 + p / 8 % 4))) 12 ((x2.1 0).2.1 12 + 1)) 14 ((x2.1 0).2.1 14 + nI i)) 7 ((x2.1 0).2.1 7 - 1) := by
        unfold g_X7_enterThrow
        rw [if_pos rfl, fo]
      have n6 : ¬ 8 ≤ ((nR (g_X7_enterThrow X (nI (1 + p / 8 % 4)) (nI i) 0) 4 (upd (((g_X7_enterThrow X (nI (1 + p / 8 % 4)) (nI i) 0).1 0).2.2 4) q (((g_X7_enterThrow X (nI (1 + p / 8 % 4)) (nI i) 0).1 0).2.2 4 q + 1))).1 0).2.1 6 := by
        rw [X2]
        show ¬ 8 ≤ (X.1 0).2.1 6
        rw [fo, e6]
        exact nI_ge (b := 8) l8 (by omega)
      unfold g_X3_enterPlea
      rw [if_neg n6, X2]
      have hm : ((X.1 0).2.1 6).toNatClampNeg = nL (y.2 0) := by rw [fo, e6, nI_clamp (by omega)]
      have hxx : (x2.1 0).2.2 4 = (X.1 0).2.2 4 := by rw [fo]
      refine RI_served R2 ht hq (arm := 1 + p / 8 % 4) (by omega) (st := i) i2 h3 hn ?_ ?_ ?_ ?_ ?_
      · show (X.1 0).1 = _
        rw [fo]
      · show (X.1 0).2.2 0 = _
        rw [fo]
      · show upd ((X.1 0).2.2 4) q ((X.1 0).2.2 4 q + 1) = _
        rw [fo]
      · show upd (upd (upd (upd (upd (upd (X.1 0).2.1 8 _) 10 _) 12 _) 14 _) 7 _) 6 ((X.1 0).2.1 6 + 1) = upd (upd (upd (upd (upd (upd (x2.1 0).2.1 8 _) 10 _) 12 _) 14 _) 7 _) 6 ((x2.1 0).2.1 6 + 1)
        rw [fo]
      · intro j
        show (upd ((X.1 0).2.2 1) ((X.1 0).2.1 6).toNatClampNeg (nI q) j, upd ((X.1 0).2.2 2) ((X.1 0).2.1 6).toNatClampNeg ((X.1 0).2.1 4 + nI i / 4) j, upd ((X.1 0).2.2 3) ((X.1 0).2.1 6).toNatClampNeg (nI (1 + p / 8 % 4)) j) = _
        rw [hm, fo]
        by_cases e : j = nL (y.2 0)
        · subst e
          rw [if_pos rfl, pk_us, pk_us, pk_us]
        · rw [if_neg e, pk_un e, pk_un e, pk_un e]
          rfl
end SU2
