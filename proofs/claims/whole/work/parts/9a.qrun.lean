/-! RUN, both sides. -/
section QRN
variable {t t2 : Nat} {x x2 : kK} {y y2 : kY}
theorem RX_run (X : RX t x y) (ht : t ≤ t2) (R : RI t2 (x2.1 0) (y2.2 0)) (H : rxH t2 x2 y2) (K : rxK x2 y2) (E : rxE x2 y2) (c1 : x2.1 1 = x.1 1) (n4 : x2.2.1 4 = 0) (n7 : x2.2.1 7 = x.2.1 7) (n8 : x2.2.1 8 = x.2.1 8) (m9 : y2.1 9 = 0) (m6 : y2.1 6 = y.1 6) (m12 : y2.1 12 = y.1 12) (rx : ∀ r, r ≠ 0 → r ≠ 6 → x2.2.2.1 r = x.2.2.1 r) (ry : ∀ r, r ≠ 0 → r ≠ 1 → r ≠ 3 → r ≠ 4 → r ≠ 8 → y2.2 r = y.2 r) : RX t2 x2 y2 :=
  ⟨R, H, rxS_c X.S ht n8 c1 m6 (ry 2 (by decide) (by decide) (by decide) (by decide) (by decide)), K, E, ⟨0, by omega, n4, m9, fun j hj => absurd hj (Nat.not_lt_zero j)⟩, rxL_c X.L n7 (rx 7 (by decide) (by decide)) m12 (ry 7 (by decide) (by decide) (by decide) (by decide) (by decide)), rxO_c X.O (fun k h1 h2 => rx k (by omega) (by omega)) (rx 7 (by decide) (by decide)) (ry 9 (by decide) (by decide) (by decide) (by decide) (by decide)) (ry 10 (by decide) (by decide) (by decide) (by decide) (by decide))⟩
theorem com_is (y : kY) : g_X12_commands y = (cmL 60 (g_X12_command (yS (yS y 10 0) 13 0)) 0 1).1 ∧ f_X12_commands y = (cmL 60 (g_X12_command (yS (yS y 10 0) 13 0)) 0 1).2 := ⟨rfl, rfl⟩
theorem run_f (y : kY) : f_X12_run y = if (g_X12_commands (run1 y)).1 13 = 0 then (if (g_X12_commands (yS (g_X12_commands (run1 y)) 14 1)).1 0 = 0 then f_X12_ends (g_X12_commands (yS (g_X12_commands (run1 y)) 14 1)) (f_X12_commands (yS (g_X12_commands (run1 y)) 14 1)) else f_X12_ends (yS (yS (g_X12_commands (yS (g_X12_commands (run1 y)) 14 1)) 3 (f_X12_commands (yS (g_X12_commands (run1 y)) 14 1) - 1)) 0 2) (f_X12_commands (yS (g_X12_commands (run1 y)) 14 1))) else f_X12_fail (yS (g_X12_commands (run1 y)) 2 ((g_X12_commands (run1 y)).1 10)) 1 := by
  unfold f_X12_run run1
  rfl
theorem run_g (y : kY) : g_X12_run y = if (g_X12_commands (run1 y)).1 13 = 0 then (if (g_X12_commands (yS (g_X12_commands (run1 y)) 14 1)).1 0 = 0 then g_X12_ends (g_X12_commands (yS (g_X12_commands (run1 y)) 14 1)) (f_X12_commands (yS (g_X12_commands (run1 y)) 14 1)) else g_X12_ends (yS (yS (g_X12_commands (yS (g_X12_commands (run1 y)) 14 1)) 3 (f_X12_commands (yS (g_X12_commands (run1 y)) 14 1) - 1)) 0 2) (f_X12_commands (yS (g_X12_commands (run1 y)) 14 1))) else g_X12_fail (yS (g_X12_commands (run1 y)) 2 ((g_X12_commands (run1 y)).1 10)) 1 := by
  unfold g_X12_run run1
  rfl
/-- all that running needs and gives -/
theorem q_run (X : RX t x y) (ht : t + 11 < 2 ^ 20) : RX (t + 11) (g_X11_run x) (g_X12_run y) ∧ (okI (o_X11_run x) (g_X12_run y) (f_X12_run y) ∨ exE (o_X11_run x) (g_X12_run y) "java/lang/IllegalArgumentException" 1 ∨ exE (o_X11_run x) (g_X12_run y) "java/lang/IllegalStateException" 2) ∧
    kOk (yS (yS (run1 y) 10 0) 13 0) ∧ okC 60 (g_X12_command (yS (yS (run1 y) 10 0) 13 0)) ∧ ((g_X12_commands (run1 y)).1 13 = 0 → kOk (yS (yS (yS (g_X12_commands (run1 y)) 14 1) 10 0) 13 0)) ∧ ((g_X12_commands (run1 y)).1 13 = 0 → okC 60 (g_X12_command (yS (yS (yS (g_X12_commands (run1 y)) 14 1) 10 0) 13 0))) ∧ ((g_X12_commands (run1 y)).1 13 = 0 → ∃ c, c ≤ 8 ∧ (g_X12_commands (yS (g_X12_commands (run1 y)) 14 1)).1 1 = nI c) := by
  obtain ⟨L, hL, l4, l9, hT⟩ := X.T
  have hl : kTl x := ⟨L, hL, l4⟩
  have mv := X.R.mv
  have rm := rm1_of X.R
  have hW : kWo y := X.O.2.2
  -- the class reads
  have rk := rcs_ok hl
  obtain ⟨z, v, ez, hz⟩ := rcL_s (T := fun j => y.2 6 j) hL (k := 11) (x := kkS (kkS x 5 0) 6 0) (i := 0) (q := 0) (by omega) (by omega) (Nat.zero_le _) ⟨l4, rfl, fun j hj => (hT j hj).1⟩
  have gz : g_X2_readCommands x = z := by unfold g_X2_readCommands; rw [ez]; rfl
  have fz : f_X2_readCommands x = v := by unfold f_X2_readCommands; rw [ez]; rfl
  rw [gz, fz] at rk
  obtain ⟨-, k1, k2, k3, -⟩ := rk
  -- the reference begins
  have y1 : ∀ k, k ≠ 0 → k ≠ 9 → k ≠ 10 → k ≠ 11 → k ≠ 13 → k ≠ 14 → (yS (yS (run1 y) 10 0) 13 0).1 k = y.1 k := by
    intro k h0 h9 h10 h11 h13 h14
    unfold run1
    rw [ys_1, pk_un h13, ys_1, pk_un h10, ys_1, pk_un h14, ys_1, pk_un h9, ys_1, pk_un h11]
    show upd y.1 0 0 k = _
    rw [pk_un h0]
  have y0 : (yS (yS (run1 y) 10 0) 13 0).1 0 = 0 := rfl
  have y9 : (yS (yS (run1 y) 10 0) 13 0).1 9 = 0 := rfl
  have y13 : (yS (yS (run1 y) 10 0) 13 0).1 13 = 0 := rfl
  have y14 : (yS (yS (run1 y) 10 0) 13 0).1 14 = 0 := rfl
  have yr : ∀ r, r ≠ 1 → (yS (yS (run1 y) 10 0) 13 0).2 r = y.2 r := fun r h => if_neg h
  have yr1 : (yS (yS (run1 y) 10 0) 13 0).2 1 = y.2 0 := rfl
  have yT : tY (fun j => y.2 6 j) L 0 (yS (yS (run1 y) 10 0) 13 0) := ⟨l9, rfl, fun j _ => rfl⟩
  have yW : kWo (yS (yS (run1 y) 10 0) 13 0) := hW
  have yv : kMv ((yS (yS (run1 y) 10 0) 13 0).2 0) := mv
  have ym : kRm1 ((yS (yS (run1 y) 10 0) 13 0).2 0) := rm
  have yk : kOk (yS (yS (run1 y) 10 0) 13 0) := ok_of yT hL (Nat.zero_le _) (Or.inl y13) yW yv ym
  rw [run_f, run_g]
  unfold o_X11_run g_X11_run
  rw [gz, fz]
  rcases hz with ⟨rfl, m, e, e5, pe, hm⟩ | ⟨rfl, m, e6, pl, hm, -, -⟩
  · -- no command text
    have e60 := pE_b (Nat.zero_le L) pe
    have rd := rdE hL (k := 60) (j := 0) (n := 1) (by omega) yW yT (Nat.zero_le _) y13 y14 y0 yv ym pe
    rw [(com_is (run1 y)).1]
    obtain ⟨p, oc⟩ := rd
    revert p
    generalize (cmL 60 (g_X12_command (yS (yS (run1 y) 10 0) 13 0)) 0 1).1 = w
    intro p
    have nz : ¬ w.1 13 = 0 := by rw [p.2.2.2]; exact y01
    rw [if_pos rfl, if_pos rfl, if_neg nz, if_neg nz]
    have wn : ∀ k, k ≠ 0 → k ≠ 2 → k ≠ 9 → k ≠ 10 → k ≠ 11 → k ≠ 13 → k ≠ 14 → (g_X12_fail (yS w 2 (w.1 10)) 1).1 k = y.1 k := by
      intro k h0 h2 h9 h10 h11 h13 h14
      unfold g_X12_fail
      rw [ys_1, pk_un h0, ys_1, pk_un h2, p.2.1 k h10 h13, y1 k h0 h9 h10 h11 h13 h14]
    have wr : ∀ r, r ≠ 1 → r ≠ 8 → (g_X12_fail (yS w 2 (w.1 10)) 1).2 r = y.2 r := fun r h1 h8 => (p.1 r h8).trans (yr r h1)
    have w2 : (g_X12_fail (yS w 2 (w.1 10)) 1).1 2 = nI e := by
      unfold g_X12_fail
      rw [ys_1, pk_un (by decide), ys_1, pk_us, p.2.2.1]
    have xn : ∀ k, k ≠ 4 → k ≠ 5 → k ≠ 6 → k ≠ 11 → (kkS (kkS z 4 0) 11 (z.2.1 5)).2.1 k = x.2.1 k := by
      intro k h4 h5 h6 h11
      show upd (upd z.2.1 4 0) 11 (z.2.1 5) k = _
      rw [pk_un h11, pk_un h4, k2 k h5 h6]
    refine ⟨RX_run X (Nat.le_add_right t 11) ?_ (rxH_c X.H (Nat.le_add_right t 11) (xn 0 (by decide) (by decide) (by decide) (by decide)) (xn 1 (by decide) (by decide) (by decide) (by decide)) (fun k _ => by show z.1 k = _; rw [k1]) (wn 1 (by decide) (by decide) (by decide) (by decide) (by decide) (by decide) (by decide)) (wr 3 (by decide) (by decide))) (rxK_c X.K (xn 9 (by decide) (by decide) (by decide) (by decide)) (xn 10 (by decide) (by decide) (by decide) (by decide)) (wn 4 (by decide) (by decide) (by decide) (by decide) (by decide) (by decide) (by decide)) (wn 5 (by decide) (by decide) (by decide) (by decide) (by decide) (by decide) (by decide))) ⟨⟨?_, Or.inr ?_⟩, ?_⟩ ?_ rfl (xn 7 (by decide) (by decide) (by decide) (by decide)) (xn 8 (by decide) (by decide) (by decide) (by decide)) ?_ (wn 6 (by decide) (by decide) (by decide) (by decide) (by decide) (by decide) (by decide)) (wn 12 (by decide) (by decide) (by decide) (by decide) (by decide) (by decide) (by decide)) (fun r _ h6 => k3 r h6) (fun r _ h1 _ _ h8 => wr r h1 h8), Or.inr (Or.inl ⟨rfl, rfl⟩), yk, oc, fun h => absurd h nz, fun h => absurd h nz, fun h => absurd h nz⟩
    · show RI (t + 11) (z.1 0) _
      rw [k1, wr 0 (by decide) (by decide)]
      exact RI_up X.R (Nat.le_add_right t 11)
    · rw [w2]
      show upd (upd z.2.1 4 0) 11 (z.2.1 5) 11 = _
      rw [pk_us, e5]
    · rw [w2]
      exact ⟨e, by omega, rfl⟩
    · rw [xn 12 (by decide) (by decide) (by decide) (by decide), wn 3 (by decide) (by decide) (by decide) (by decide) (by decide) (by decide) (by decide)]
      exact X.E.2
    · show z.1 1 = _
      rw [k1]
    · unfold g_X12_fail
      rw [ys_1, pk_un (by decide), ys_1, pk_un (by decide), p.2.1 9 (by decide) (by decide)]
      exact y9
  · -- a command text
    have rd := rdO hL (k := 60) (j := 0) (n := 1) (by omega) yW yT (Nat.zero_le _) y13 y14 y0 yv ym pl
    rw [(com_is (run1 y)).1]
    obtain ⟨p, oc⟩ := rd
    revert p
    generalize (cmL 60 (g_X12_command (yS (yS (run1 y) 10 0) 13 0)) 0 1).1 = w
    intro p
    have w13 : w.1 13 = 0 := p.2.2.2
    rw [if_neg y01, if_neg y01, if_pos w13, if_pos w13, (com_is (yS w 14 1)).1, (com_is (yS w 14 1)).2]
    have sn : ∀ k, k ≠ 0 → k ≠ 9 → k ≠ 10 → k ≠ 11 → k ≠ 13 → k ≠ 14 → (yS (yS (yS w 14 1) 10 0) 13 0).1 k = y.1 k := by
      intro k h0 h9 h10 h11 h13 h14
      rw [ys_1, pk_un h13, ys_1, pk_un h10, ys_1, pk_un h14, p.2.1 k h10 h13, y1 k h0 h9 h10 h11 h13 h14]
    have s0 : (yS (yS (yS w 14 1) 10 0) 13 0).1 0 = 0 := by
      rw [ys_1, pk_un (by decide), ys_1, pk_un (by decide), ys_1, pk_un (by decide), p.2.1 0 (by decide) (by decide)]
      exact y0
    have s9 : (yS (yS (yS w 14 1) 10 0) 13 0).1 9 = 0 := by
      rw [ys_1, pk_un (by decide), ys_1, pk_un (by decide), ys_1, pk_un (by decide), p.2.1 9 (by decide) (by decide)]
      exact y9
    have s14 : ¬ (yS (yS (yS w 14 1) 10 0) 13 0).1 14 = 0 := by
      rw [ys_1, pk_un (by decide), ys_1, pk_un (by decide), ys_1, pk_us]
      exact y01
    have s13 : (yS (yS (yS w 14 1) 10 0) 13 0).1 13 = 0 := by rw [ys_1, pk_us]
    have sr : ∀ r, r ≠ 1 → r ≠ 8 → (yS (yS (yS w 14 1) 10 0) 13 0).2 r = y.2 r := fun r h1 h8 => (p.1 r h8).trans (yr r h1)
    have sr1 : (yS (yS (yS w 14 1) 10 0) 13 0).2 1 = y.2 0 := (p.1 1 (by decide)).trans yr1
    have sT : tY (fun j => y.2 6 j) L 0 (yS (yS (yS w 14 1) 10 0) 13 0) := by
      have pt := yP_T yT p
      refine ⟨?_, rfl, fun j hj => pt.2.2 j hj⟩
      rw [ys_1, pk_un (by decide), ys_1, pk_un (by decide), ys_1, pk_un (by decide)]
      exact pt.1
    have sW : kWo (yS (yS (yS w 14 1) 10 0) 13 0) := wo_y yW p.1
    have sv : kMv ((yS (yS (yS w 14 1) 10 0) 13 0).2 0) := by rw [sr 0 (by decide) (by decide)]; exact mv
    have sm : kRm1 ((yS (yS (yS w 14 1) 10 0) 13 0).2 0) := by rw [sr 0 (by decide) (by decide)]; exact rm
    have sk : kOk (yS (yS (yS w 14 1) 10 0) 13 0) := ok_of sT hL (Nat.zero_le _) (Or.inl s13) sW sv sm
    have x1n : ∀ k, k ≠ 4 → k ≠ 5 → k ≠ 6 → (kkC (kkS z 4 0) 2 ((kkS z 4 0).1 0)).2.1 k = x.2.1 k := by
      intro k h4 h5 h6
      show upd z.2.1 4 0 k = _
      rw [pk_un h4, k2 k h5 h6]
    have x16 : (kkC (kkS z 4 0) 2 ((kkS z 4 0).1 0)).2.1 6 = nI (0 + m + 1) := e6
    have x1c : ∀ k, k ≠ 2 → (kkC (kkS z 4 0) 2 ((kkS z 4 0).1 0)).1 k = x.1 k := by
      intro k h2
      show va_up z.1 2 (z.1 0) k = _
      unfold va_up
      rw [if_neg h2, k1]
    have x12 : (kkC (kkS z 4 0) 2 ((kkS z 4 0).1 0)).1 2 = x.1 0 := by
      show va_up z.1 2 (z.1 0) 2 = _
      unfold va_up
      rw [if_pos rfl, k1]
    have ex := exc_s hL (xs := z) (m := m) (x := kkC (kkS z 4 0) 2 ((kkS z 4 0).1 0)) (y := yS (yS (yS w 14 1) 10 0) 13 0) (q := 0) (i := 0) (k := 60) (j := 0) (t := t) (by omega) hm x16 rfl rfl (by rw [x1c 0 (by decide), sr 0 (by decide) (by decide)]; exact X.R) (by omega) (by
      refine ⟨?_, ?_⟩
      · rw [x1n 9 (by decide) (by decide) (by decide), sn 4 (by decide) (by decide) (by decide) (by decide) (by decide) (by decide)]; exact X.K.1
      · rw [x1n 10 (by decide) (by decide) (by decide), sn 5 (by decide) (by decide) (by decide) (by decide) (by decide) (by decide)]; exact X.K.2) sW sT (Nat.zero_le _) s13 s14 s0 pl
    rw [x16, nI_clamp (show 0 + m + 1 < 2 ^ 31 by omega), show 0 + m + 1 = m + 1 by omega]
    have n1 : nI (0 + 1) = (1 : Int32) := rfl
    rw [n1] at ex
    have x14 : (kkC (kkS z 4 0) 2 ((kkS z 4 0).1 0)).2.1 4 = 0 := rfl
    have x1r : ∀ r, r ≠ 6 → (kkC (kkS z 4 0) 2 ((kkS z 4 0).1 0)).2.2.1 r = x.2.2.1 r := fun r h6 => k3 r h6
    revert ex x1n x16 x1c x12 x14 x1r
    generalize kkC (kkS z 4 0) 2 ((kkS z 4 0).1 0) = x1
    intro x1n x16 x1c x12 ex x14 x1r
    obtain ⟨kr, yq, oc2, K, fin⟩ := ex
    have y11 : (cmL 60 (g_X12_command (yS (yS (yS w 14 1) 10 0) 13 0)) 0 1).1.1 1 = y.1 1 := (yq.2 1 (by decide) (by decide) (by decide) (by decide) (by decide) (by decide) (by decide)).trans (sn 1 (by decide) (by decide) (by decide) (by decide) (by decide) (by decide))
    have hc : ∃ c, c ≤ 8 ∧ (cmL 60 (g_X12_command (yS (yS (yS w 14 1) 10 0) 13 0)) 0 1).1.1 1 = nI c := by rw [y11]; exact X.ch
    refine (fun z => ⟨z.1, z.2, yk, oc, fun _ => sk, fun _ => oc2, fun _ => hc⟩ : (RX (t + 11) _ _ ∧ (_ ∨ _ ∨ _)) → _) ?_
    clear oc oc2 sk yk sW sv sm yW yv ym
    revert kr yq K fin y11 hc
    generalize cmL 60 (g_X12_command (yS (yS (yS w 14 1) 10 0) 13 0)) 0 1 = yf
    generalize ccL (m + 1) x1 0 = xf
    intro kr yq K fin y11 hc
    have fxn : ∀ k, k ≠ 2 → k ≠ 3 → k ≠ 4 → k ≠ 5 → k ≠ 6 → k ≠ 9 → k ≠ 10 → xf.1.2.1 k = x.2.1 k := fun k h2 h3 h4 h5 h6 h9 h10 => (kr.2.1 k h2 h3 h9 h10).trans (x1n k h4 h5 h6)
    have fx4 : xf.1.2.1 4 = 0 := (kr.2.1 4 (by decide) (by decide) (by decide) (by decide)).trans x14
    have fxc : ∀ k, k ≠ 0 → k ≠ 2 → xf.1.1 k = x.1 k := fun k h0 h2 => (kr.1 k h0).trans (x1c k h2)
    have fx2 : xf.1.1 2 = x.1 0 := (kr.1 2 (by decide)).trans x12
    have fxr : ∀ r, r ≠ 0 → r ≠ 6 → xf.1.2.2.1 r = x.2.2.1 r := fun r h0 h6 => (kr.2.2.1 r h0).trans (x1r r h6)
    have fyn : ∀ k, k ≠ 0 → k ≠ 4 → k ≠ 5 → k ≠ 7 → k ≠ 8 → k ≠ 9 → k ≠ 10 → k ≠ 11 → k ≠ 13 → k ≠ 14 → yf.1.1 k = y.1 k := fun k h0 h4 h5 h7 h8 h9 h10 h11 h13 h14 => (yq.2 k h0 h4 h5 h7 h8 h10 h13).trans (sn k h0 h9 h10 h11 h13 h14)
    have fy9 : yf.1.1 9 = 0 := (yq.2 9 (by decide) (by decide) (by decide) (by decide) (by decide) (by decide) (by decide)).trans s9
    have fyr : ∀ r, r ≠ 0 → r ≠ 1 → r ≠ 4 → r ≠ 8 → yf.1.2 r = y.2 r := fun r h0 h1 h4 h8 => (yq.1 r h0 h4 h8).trans (sr r h1 h8)
    have fy1 : yf.1.2 1 = y.2 0 := (yq.1 1 (by decide) (by decide) (by decide)).trans sr1
    obtain ⟨e, c, e8, c8, he, hcx, hcy, -⟩ := X.H
    have h0 : xf.1.2.1 0 = nI e := (fxn 0 (by decide) (by decide) (by decide) (by decide) (by decide) (by decide) (by decide)).trans he
    have h1 : xf.1.2.1 1 = nI c := (fxn 1 (by decide) (by decide) (by decide) (by decide) (by decide) (by decide) (by decide)).trans hcx
    rcases fin with ⟨f1, f2, f3, f4⟩ | ⟨q, hq, f1, f2, f3⟩
    · -- all went well
      have rmq := rem_is (x := xf.1) (s := 2) e8 c8 h0 h1
      rw [if_pos f1, if_pos f1, if_pos f3, if_pos f3]
      obtain ⟨a1, a2, a3, a4, -, -⟩ := ends_ok (v := yf.2) c8 f3 (y11.trans hcy)
      have rn : ∀ k, k ≠ 0 → k ≠ 1 → (remS xf.1 2).2.1 k = xf.1.2.1 k := by
        intro k h0 h1
        rw [rmq]
        show upd (upd xf.1.2.1 0 (nI ((e + 1) % 8))) 1 (nI (min (c + 1) 8)) k = _
        rw [pk_un h1, pk_un h0]
      have x6 : (remS xf.1 2).2.1 6 = nI (m + 1) := by
        rw [rn 6 (by decide) (by decide), kr.2.1 6 (by decide) (by decide) (by decide) (by decide), x16, show 0 + m + 1 = m + 1 by omega]
      have z0 : (g_X12_ends yf.1 yf.2).1 0 = 0 := (a3 0 (by decide)).trans f3
      refine ⟨RX_run X (Nat.le_add_right t 11) ?_ ?_ ?_ ?_ ?_ ?_ ?_ ?_ ?_ ?_ ?_ ?_ ?_, Or.inl ⟨?_, z0⟩⟩
      · rw [rem_c (by decide), a4 0 (by decide)]
        exact RI_up f4 (by omega)
      · refine rxH_ok X.H (Nat.le_add_right t 11) (c0 := x.1 0) (by rw [fy1]; exact X.R) (fun e2 c2 g1 g2 g3 g4 => ?_) f3 y11 (fyr 3 (by decide) (by decide) (by decide) (by decide)) yf.2
        have ee : e2 = e := (nI_eq (by omega) (by omega)).1 (g3.symm.trans he)
        have cc : c2 = c := (nI_eq (by omega) (by omega)).1 (g4.symm.trans hcx)
        subst ee
        subst cc
        rw [rmq]
        refine ⟨?_, ?_, ?_, fun k hk hke => ?_⟩
        · show upd (upd xf.1.2.1 0 (nI ((e2 + 1) % 8))) 1 (nI (min (c2 + 1) 8)) 0 = _
          rw [pk_un (by decide), pk_us]
        · show upd (upd xf.1.2.1 0 (nI ((e2 + 1) % 8))) 1 (nI (min (c2 + 1) 8)) 1 = _
          rw [pk_us]
        · show va_up xf.1.1 (3 + e2) (xf.1.1 2) (3 + e2) = _
          exact (if_pos rfl).trans fx2
        · show va_up xf.1.1 (3 + e2) (xf.1.1 2) k = _
          exact (if_neg hke).trans (fxc k (by omega) (by omega))
      · exact rxK_c K (rn 9 (by decide) (by decide)) (rn 10 (by decide) (by decide)) (a3 4 (by decide)) (a3 5 (by decide))
      · exact rxE_c X.E ((rn 11 (by decide) (by decide)).trans (fxn 11 (by decide) (by decide) (by decide) (by decide) (by decide) (by decide) (by decide))) ((rn 12 (by decide) (by decide)).trans (fxn 12 (by decide) (by decide) (by decide) (by decide) (by decide) (by decide) (by decide))) ((a3 2 (by decide)).trans (fyn 2 (by decide) (by decide) (by decide) (by decide) (by decide) (by decide) (by decide) (by decide) (by decide) (by decide))) ((a3 3 (by decide)).trans (fyn 3 (by decide) (by decide) (by decide) (by decide) (by decide) (by decide) (by decide) (by decide) (by decide) (by decide)))
      · rw [rem_c (by decide)]
        exact fxc 1 (by decide) (by decide)
      · rw [rn 4 (by decide) (by decide)]
        exact fx4
      · exact (rn 7 (by decide) (by decide)).trans (fxn 7 (by decide) (by decide) (by decide) (by decide) (by decide) (by decide) (by decide))
      · exact (rn 8 (by decide) (by decide)).trans (fxn 8 (by decide) (by decide) (by decide) (by decide) (by decide) (by decide) (by decide))
      · exact (a3 9 (by decide)).trans fy9
      · exact (a3 6 (by decide)).trans (fyn 6 (by decide) (by decide) (by decide) (by decide) (by decide) (by decide) (by decide) (by decide) (by decide) (by decide))
      · exact (a3 12 (by decide)).trans (fyn 12 (by decide) (by decide) (by decide) (by decide) (by decide) (by decide) (by decide) (by decide) (by decide) (by decide))
      · intro r hr0 hr6
        rw [rmq]
        exact fxr r hr0 hr6
      · intro r hr0 hr1 hr3 hr4 hr8
        exact (a4 r hr3).trans (fyr r hr0 hr1 hr4 hr8)
      · rw [x6, a1, f2, show 0 + m + 1 = m + 1 by omega]
    · -- one failed
      have nq : ¬ xf.2 = -1 := by rw [f1]; exact nI_m1 (by omega)
      rw [if_neg nq, if_neg nq, if_neg f3, if_neg f3]
      have v2 : (yS (yS yf.1 3 (yf.2 - 1)) 0 2).1 0 ≠ 0 := by rw [ys_1, pk_us]; decide
      rw [ends_no v2]
      have wn : ∀ k, k ≠ 0 → k ≠ 3 → k ≠ 4 → k ≠ 5 → k ≠ 7 → k ≠ 8 → k ≠ 9 → k ≠ 10 → k ≠ 11 → k ≠ 13 → k ≠ 14 → (yR (yS (yS yf.1 3 (yf.2 - 1)) 0 2) 0 ((yS (yS yf.1 3 (yf.2 - 1)) 0 2).2 1)).1 k = y.1 k := by
        intro k h0 h3 h4 h5 h7 h8 h9 h10 h11 h13 h14
        show upd (upd yf.1.1 3 (yf.2 - 1)) 0 2 k = _
        rw [pk_un h0, pk_un h3]
        exact fyn k h0 h4 h5 h7 h8 h9 h10 h11 h13 h14
      have w3 : (yR (yS (yS yf.1 3 (yf.2 - 1)) 0 2) 0 ((yS (yS yf.1 3 (yf.2 - 1)) 0 2).2 1)).1 3 = nI q := by
        show upd (upd yf.1.1 3 (yf.2 - 1)) 0 2 3 = _
        rw [pk_un (by decide), pk_us, f2]
        exact nI_pred q
      have wk : ∀ k, k = 4 ∨ k = 5 ∨ k = 9 → (yR (yS (yS yf.1 3 (yf.2 - 1)) 0 2) 0 ((yS (yS yf.1 3 (yf.2 - 1)) 0 2).2 1)).1 k = yf.1.1 k := by
        intro k hk
        show upd (upd yf.1.1 3 (yf.2 - 1)) 0 2 k = _
        rw [pk_un (by omega), pk_un (by omega)]
      have wr0 : (yR (yS (yS yf.1 3 (yf.2 - 1)) 0 2) 0 ((yS (yS yf.1 3 (yf.2 - 1)) 0 2).2 1)).2 0 = y.2 0 := by
        show va_up yf.1.2 0 (yf.1.2 1) 0 = _
        exact (if_pos rfl).trans fy1
      have wr : ∀ r, r ≠ 0 → r ≠ 1 → r ≠ 4 → r ≠ 8 → (yR (yS (yS yf.1 3 (yf.2 - 1)) 0 2) 0 ((yS (yS yf.1 3 (yf.2 - 1)) 0 2).2 1)).2 r = y.2 r := by
        intro r h0 h1 h4 h8
        show va_up yf.1.2 0 (yf.1.2 1) r = _
        exact (if_neg h0).trans (fyr r h0 h1 h4 h8)
      have xn : ∀ k, k ≠ 12 → (kkS (kkC xf.1 0 (xf.1.1 2)) 12 xf.2).2.1 k = xf.1.2.1 k := fun k h => pk_un h
      have xc0 : (kkS (kkC xf.1 0 (xf.1.1 2)) 12 xf.2).1 0 = x.1 0 := by
        show va_up xf.1.1 0 (xf.1.1 2) 0 = _
        exact (if_pos rfl).trans fx2
      have xc : ∀ k, k ≠ 0 → k ≠ 2 → (kkS (kkC xf.1 0 (xf.1.1 2)) 12 xf.2).1 k = x.1 k := by
        intro k h0 h2
        show va_up xf.1.1 0 (xf.1.1 2) k = _
        exact (if_neg h0).trans (fxc k h0 h2)
      refine ⟨RX_run X (Nat.le_add_right t 11) ?_ ?_ ?_ ?_ ?_ ?_ ?_ ?_ ?_ ?_ ?_ ?_ ?_, Or.inr (Or.inr ⟨rfl, rfl⟩)⟩
      · rw [xc0, wr0]
        exact RI_up X.R (Nat.le_add_right t 11)
      · exact rxH_c X.H (Nat.le_add_right t 11) ((xn 0 (by decide)).trans (h0.trans he.symm)) ((xn 1 (by decide)).trans (h1.trans hcx.symm)) (fun k hk => xc k (by omega) (by omega)) (wn 1 (by decide) (by decide) (by decide) (by decide) (by decide) (by decide) (by decide) (by decide) (by decide) (by decide) (by decide)) (wr 3 (by decide) (by decide) (by decide) (by decide))
      · exact rxK_c K (xn 9 (by decide)) (xn 10 (by decide)) (wk 4 (Or.inl rfl)) (wk 5 (Or.inr (Or.inl rfl)))
      · refine ⟨?_, ?_, Or.inr ?_⟩
        · rw [xn 11 (by decide), fxn 11 (by decide) (by decide) (by decide) (by decide) (by decide) (by decide) (by decide), wn 2 (by decide) (by decide) (by decide) (by decide) (by decide) (by decide) (by decide) (by decide) (by decide) (by decide) (by decide)]
          exact X.E.1
        · rw [w3, ← f1]
          show upd xf.1.2.1 12 xf.2 12 = _
          rw [pk_us]
        · rw [w3]
          exact ⟨q, by omega, rfl⟩
      · exact xc 1 (by decide) (by decide)
      · rw [xn 4 (by decide)]
        exact fx4
      · exact (xn 7 (by decide)).trans (fxn 7 (by decide) (by decide) (by decide) (by decide) (by decide) (by decide) (by decide))
      · exact (xn 8 (by decide)).trans (fxn 8 (by decide) (by decide) (by decide) (by decide) (by decide) (by decide) (by decide))
      · rw [wk 9 (Or.inr (Or.inr rfl))]
        exact fy9
      · exact wn 6 (by decide) (by decide) (by decide) (by decide) (by decide) (by decide) (by decide) (by decide) (by decide) (by decide) (by decide)
      · exact wn 12 (by decide) (by decide) (by decide) (by decide) (by decide) (by decide) (by decide) (by decide) (by decide) (by decide) (by decide)
      · intro r hr0 hr6
        exact fxr r hr0 hr6
      · intro r hr0 hr1 hr3 hr4 hr8
        exact wr r hr0 hr1 hr4 hr8
end QRN
