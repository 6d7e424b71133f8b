/-! TEXT, LINES, save, restore, undo. -/
section LNE
variable {t hb L : Nat} {x x2 : kK} {y y2 : kY}
theorem ch_n {n : Nat} (hn : n < 127) : vp_nar .char (nI n) = nI n := by
  have h : ∀ n, n < 127 → vp_nar .char (nI n) = nI n := by decide +kernel
  exact h n hn
theorem ch_u {n : Nat} (hn : n < 127) : (Int32.toUInt32 (nI n) % 65536).toInt32 = nI n := by
  have h : ∀ n, n < 127 → (Int32.toUInt32 (nI n) % 65536).toInt32 = nI n := by decide +kernel
  exact h n hn
theorem ch_r {n : Nat} (hn : n < 127) : narrow .char (.int (nI n)) = .int (nI n) := by
  have h : ∀ n, n < 127 → vp_nar .char (nI n) = nI n := by decide +kernel
  have e := h n hn
  show Value.int (vp_nar .char (nI n)) = _
  rw [e]
/-! save, restore -/
theorem q_save (X : RX t x y) : RX t (g_X11_save x) (g_X12_save y) ∧ f_X11_save x = f_X12_save y ∧ (g_X12_save y).1 0 = 0 := by
  have n : ∀ k, k ≠ 8 → (g_X11_save x).2.1 k = x.2.1 k := fun k hk => by show upd x.2.1 8 1 k = _; rw [pk_un hk]
  have m : ∀ k, k ≠ 0 → k ≠ 6 → (g_X12_save y).1 k = y.1 k := fun k h0 h6 => by show upd (upd y.1 0 0) 6 1 k = _; rw [pk_un h6, pk_un h0]
  have r : ∀ r, r ≠ 2 → (g_X12_save y).2 r = y.2 r := fun r hr => by show va_up y.2 2 (y.2 0) r = _; unfold va_up; rw [if_neg hr]
  have c : ∀ k, k ≠ 1 → (g_X11_save x).1 k = x.1 k := fun k hk => by show va_up x.1 1 (x.1 0) k = _; unfold va_up; rw [if_neg hk]
  refine ⟨⟨?_, ?_, ?_, ?_, ?_, ?_, ?_, ?_⟩, ?_, rfl⟩
  · rw [c 0 (by decide), r 0 (by decide)]; exact X.R
  · exact rxH_c X.H (Nat.le_refl _) (n 0 (by decide)) (n 1 (by decide)) (fun k hk => c k (by omega)) (m 1 (by decide) (by decide)) (r 3 (by decide))
  · refine ⟨rfl, Or.inr rfl, fun _ => ?_⟩
    exact X.R
  · exact rxK_c X.K (n 9 (by decide)) (n 10 (by decide)) (m 4 (by decide) (by decide)) (m 5 (by decide) (by decide))
  · exact rxE_c X.E (n 11 (by decide)) (n 12 (by decide)) (m 2 (by decide) (by decide)) (m 3 (by decide) (by decide))
  · exact rxT_c X.T (n 4 (by decide)) rfl (m 9 (by decide) (by decide)) (r 6 (by decide))
  · exact rxL_c X.L (n 7 (by decide)) rfl (m 12 (by decide) (by decide)) (r 7 (by decide))
  · exact rxO_c X.O (fun _ _ _ => rfl) rfl (r 9 (by decide)) (r 10 (by decide))
  · unfold f_X11_save f_X12_save
    exact X.R.n3
theorem q_restore (X : RX t x y) : RX t (g_X11_restore x) (g_X12_restore y) ∧ (okI (o_X11_restore x) (g_X12_restore y) (f_X12_restore y) ∨ exE (o_X11_restore x) (g_X12_restore y) "java/lang/IllegalStateException" 1) := by
  unfold g_X11_restore g_X12_restore o_X11_restore f_X12_restore
  obtain ⟨s1, s2, s3⟩ := X.S
  rw [s1]
  by_cases h6 : y.1 6 = 0
  · rw [if_pos h6, if_pos h6, if_pos h6, if_pos h6]
    exact ⟨RX_s X 1, Or.inr ⟨rfl, rfl⟩⟩
  · rw [if_neg h6, if_neg h6, if_neg h6, if_neg h6]
    have R2 := s3 h6
    have n : ∀ k, k ≠ 1 → (kkS (kkC x 0 (x.1 1)) 1 0).2.1 k = x.2.1 k := fun k hk => by show upd x.2.1 1 0 k = _; rw [pk_un hk]
    have m : ∀ k, k ≠ 0 → k ≠ 1 → (yS (yR (yS y 0 0) 0 (y.2 2)) 1 0).1 k = y.1 k := fun k h0 h6 => by show upd (upd y.1 0 0) 1 0 k = _; rw [pk_un h6, pk_un h0]
    have r : ∀ r, r ≠ 0 → (yS (yR (yS y 0 0) 0 (y.2 2)) 1 0).2 r = y.2 r := fun r hr => by show va_up y.2 0 (y.2 2) r = _; unfold va_up; rw [if_neg hr]
    have c : ∀ k, k ≠ 0 → (kkS (kkC x 0 (x.1 1)) 1 0).1 k = x.1 k := fun k hk => by show va_up x.1 0 (x.1 1) k = _; unfold va_up; rw [if_neg hk]
    refine ⟨⟨?_, ?_, ?_, ?_, ?_, ?_, ?_, ?_⟩, Or.inl ⟨?_, rfl⟩⟩
    · exact R2
    · obtain ⟨e, c0, h1, h2, h3, h4, h5, h6⟩ := X.H
      exact ⟨e, 0, h1, Nat.zero_le _, (n 0 (by decide)).trans h3, rfl, rfl, fun i hi => absurd hi (Nat.not_lt_zero _)⟩
    · exact rxS_c X.S (Nat.le_refl _) (n 8 (by decide)) (c 1 (by decide)) (m 6 (by decide) (by decide)) (r 2 (by decide))
    · exact rxK_c X.K (n 9 (by decide)) (n 10 (by decide)) (m 4 (by decide) (by decide)) (m 5 (by decide) (by decide))
    · exact rxE_c X.E (n 11 (by decide)) (n 12 (by decide)) (m 2 (by decide) (by decide)) (m 3 (by decide) (by decide))
    · exact rxT_c X.T (n 4 (by decide)) rfl (m 9 (by decide) (by decide)) (r 6 (by decide))
    · exact rxL_c X.L (n 7 (by decide)) rfl (m 12 (by decide) (by decide)) (r 7 (by decide))
    · exact rxO_c X.O (fun _ _ _ => rfl) rfl (r 9 (by decide)) (r 10 (by decide))
    · rw [show ((kkC x 0 (x.1 1)).1 0) = x.1 1 from rfl, R2.n3]
/-! undo -/
theorem un_i {d : Nat} (hd : d < 8) {k : Nat} : ∀ {y : kY} {j : Nat}, j + k = 116 → y.1 1 = nI d → (unL k y j).1 = y.1 ∧ (∀ r, r ≠ 0 → (unL k y j).2 r = y.2 r) ∧ ∀ i, (unL k y j).2 0 i = if j ≤ i ∧ i < 116 then y.2 3 (d * 116 + i) else y.2 0 i := by
  induction k with
  | zero => intro y j hj _; exact ⟨rfl, fun _ _ => rfl, fun i => by rw [unL, if_neg (by omega)]⟩
  | succ k ih =>
    intro y j hj h1
    rw [unL, h1, show (116 : Int32) = nI 116 from rfl, pk_mul, nI_add, nI_clamp (show j < 2 ^ 31 by omega), nI_clamp (show d * 116 + j < 2 ^ 31 by omega)]
    obtain ⟨a1, a2, a3⟩ := ih (y := yR y 0 (upd (y.2 0) j (y.2 3 (d * 116 + j)))) (j := j + 1) (by omega) h1
    refine ⟨a1, fun r hr => (a2 r hr).trans (if_neg hr), fun i => ?_⟩
    rw [a3, yr0, show (yR y 0 (upd (y.2 0) j (y.2 3 (d * 116 + j)))).2 3 = y.2 3 from rfl]
    by_cases e : i = j
    · subst e
      rw [if_neg (by omega), pk_us, if_pos (by omega)]
    · rw [pk_un e]
      by_cases h2 : j + 1 ≤ i ∧ i < 116
      · rw [if_pos h2, if_pos (by omega)]
      · rw [if_neg h2, if_neg (by omega)]
theorem q_undo (X : RX t x y) : RX t (g_X11_undo x) (g_X12_undo y) ∧ (okI (o_X11_undo x) (g_X12_undo y) (f_X12_undo y) ∨ exE (o_X11_undo x) (g_X12_undo y) "java/lang/IllegalStateException" 1) := by
  unfold g_X11_undo g_X12_undo o_X11_undo f_X12_undo
  obtain ⟨e, c, h1, h2, h3, h4, h5, h6⟩ := X.H
  rcases Nat.eq_zero_or_pos c with c0 | c0
  · subst c0
    have z1 : x.2.1 1 = 0 := h4
    have z2 : y.1 1 = 0 := h5
    rw [if_pos z1, if_pos z1, if_pos z2, if_pos z2]
    exact ⟨RX_s X 1, Or.inr ⟨rfl, rfl⟩⟩
  · have z1 : ¬ x.2.1 1 = 0 := by rw [h4]; exact nI_ne0 c0 (by omega)
    have z2 : ¬ y.1 1 = 0 := by rw [h5]; exact nI_ne0 c0 (by omega)
    rw [if_neg z1, if_neg z1, if_neg z2, if_neg z2]
    have ts : takS x = g_tak x e c := by unfold takS; rw [h3, h4, nI_clamp (by omega), nI_clamp (by omega)]
    have w1 : (yS (yS y 0 0) 1 (y.1 1 - 1)).1 1 = nI (c - 1) := by
      rw [ys_1, pk_us, h5, show c = c - 1 + 1 by omega]
      exact nI_pred (c - 1)
    obtain ⟨a1, a2, a3⟩ := un_i (d := c - 1) (by omega) (k := 116) (y := yS (yS y 0 0) 1 (y.1 1 - 1)) (j := 0) (by omega) w1
    rw [ts]
    have n : ∀ k, k ≠ 0 → k ≠ 1 → (g_tak x e c).2.1 k = x.2.1 k := fun k k0 k1 => by show upd (upd x.2.1 0 (nI ((e + 7) % 8))) 1 (nI (c - 1)) k = _; rw [pk_un k1, pk_un k0]
    have m : ∀ k, k ≠ 0 → k ≠ 1 → (unL 116 (yS (yS y 0 0) 1 (y.1 1 - 1)) 0).1 k = y.1 k := fun k k0 k1 => by rw [a1, ys_1, pk_un k1, ys_1, pk_un k0]
    have r : ∀ r, r ≠ 0 → (unL 116 (yS (yS y 0 0) 1 (y.1 1 - 1)) 0).2 r = y.2 r := fun r hr => a2 r hr
    have cc : ∀ k, k ≠ 0 → (g_tak x e c).1 k = x.1 k := fun k hk => by show va_up x.1 0 (x.1 (3 + (e + 7) % 8)) k = _; unfold va_up; rw [if_neg hk]
    have n1 : (g_tak x e c).2.1 1 = nI (c - 1) := by show upd (upd x.2.1 0 (nI ((e + 7) % 8))) 1 (nI (c - 1)) 1 = _; rw [pk_us]
    have n0 : (g_tak x e c).2.1 0 = nI ((e + 7) % 8) := by show upd (upd x.2.1 0 (nI ((e + 7) % 8))) 1 (nI (c - 1)) 0 = _; rw [pk_un (by decide), pk_us]
    refine ⟨⟨?_, ?_, ?_, ?_, ?_, ?_, ?_, ?_⟩, Or.inl ⟨?_, ?_⟩⟩
    · have hc := h6 (c - 1) (by omega)
      have ei : hix e c (c - 1) = 3 + (e + 7) % 8 := by unfold hix; omega
      rw [ei] at hc
      refine RJ_ext hc rfl (fun i hi => ?_)
      rw [a3, if_pos ⟨Nat.zero_le _, hi⟩]
      rfl
    · refine ⟨(e + 7) % 8, c - 1, by omega, by omega, n0, n1, by rw [a1]; exact w1, fun i hi => ?_⟩
      have ei : hix ((e + 7) % 8) (c - 1) i = hix e c i := by unfold hix; omega
      rw [ei, cc _ (by unfold hix; omega), r 3 (by decide)]
      exact h6 i (by omega)
    · exact rxS_c X.S (Nat.le_refl _) (n 8 (by decide) (by decide)) (cc 1 (by decide)) (m 6 (by decide) (by decide)) (r 2 (by decide))
    · exact rxK_c X.K (n 9 (by decide) (by decide)) (n 10 (by decide) (by decide)) (m 4 (by decide) (by decide)) (m 5 (by decide) (by decide))
    · exact rxE_c X.E (n 11 (by decide) (by decide)) (n 12 (by decide) (by decide)) (m 2 (by decide) (by decide)) (m 3 (by decide) (by decide))
    · exact rxT_c X.T (n 4 (by decide) (by decide)) rfl (m 9 (by decide) (by decide)) (r 6 (by decide))
    · exact rxL_c X.L (n 7 (by decide) (by decide)) rfl (m 12 (by decide) (by decide)) (r 7 (by decide))
    · exact rxO_c X.O (fun _ _ _ => rfl) rfl (r 9 (by decide)) (r 10 (by decide))
    · rw [n1, a1, w1]
    · rw [a1, ys_1, pk_un (by decide), ys_1, pk_us]
/-! the text -/
theorem q_append (X : RX t x y) {a : Int32} : RX t (g_X11_append x a) (g_X12_append y a) ∧ (okI (o_X11_append x a) (g_X12_append y a) (f_X12_append y a) ∨ exE (o_X11_append x a) (g_X12_append y a) "java/lang/IllegalArgumentException" 1 ∨ exE (o_X11_append x a) (g_X12_append y a) "java/lang/IllegalStateException" 2) := by
  unfold g_X11_append g_X12_append o_X11_append f_X12_append f_X12_isIn
  by_cases h1 : a < 32
  · rw [if_pos h1, if_pos h1, if_pos h1, if_pos rfl, if_pos rfl]
    exact ⟨RX_s X 1, Or.inr (Or.inl ⟨rfl, rfl⟩)⟩
  · by_cases h2 : a ≤ 126
    · have h3 : ¬ 126 < a := Int32.not_lt.2 h2
      rw [if_neg h1, if_neg h1, if_neg h1, if_pos h2, if_pos h2, if_neg h3, if_neg z10, if_neg z10]
      obtain ⟨L, l1, l2, l3, l4⟩ := X.T
      rw [l2, l3]
      by_cases h6 : L = 60
      · subst h6
        rw [if_neg (show ¬ nI 60 < 60 by decide), if_neg (show ¬ nI 60 < 60 by decide), if_pos (show nI 60 = 60 from rfl), if_pos (show nI 60 = 60 from rfl)]
        exact ⟨RX_s X 2, Or.inr (Or.inr ⟨rfl, rfl⟩)⟩
      · have l6 : nI L < 60 := nI_lt (b := 60) (by omega) (by omega)
        have l7 : ¬ nI L = 60 := fun z => h6 ((nI_eq (b := 60) (by omega) (by omega)).1 z)
        rw [if_pos l6, if_pos l6, if_neg l7, if_neg l7]
        have g0 : ¬ a < 0 := by
          intro z
          apply h1
          rw [Int32.lt_iff_toInt_lt] at z ⊢
          rw [show (0 : Int32).toInt = 0 by decide] at z
          rw [show (32 : Int32).toInt = 32 by decide]
          omega
        obtain ⟨p, hp, rfl⟩ := nI_of2 (M := 126) (n := 126) (by decide) g0 h2
        have gp : g_X2_put x (nI p) = kkS (kkR x 5 (upd (x.2.2.1 5) L (nI p))) 4 (nI (L + 1)) := by
          unfold g_X2_put
          rw [l2, if_neg (show ¬ 60 ≤ nI L from nI_ge (b := 60) (a := L) (by omega) (by omega)), nI_clamp (by omega), ch_n (by omega), nI_1]
        rw [gp, nI_clamp (show L < 2 ^ 31 by omega), nI_1]
        have n : ∀ k, k ≠ 4 → (kkS (kkR x 5 (upd (x.2.2.1 5) L (nI p))) 4 (nI (L + 1))).2.1 k = x.2.1 k := fun k hk => by show upd x.2.1 4 (nI (L + 1)) k = _; rw [pk_un hk]
        have m : ∀ k, k ≠ 0 → k ≠ 9 → (yS (yR (yS y 0 0) 6 (upd (y.2 6) L (nI p))) 9 (nI (L + 1))).1 k = y.1 k := fun k k0 k1 => by show upd (upd y.1 0 0) 9 (nI (L + 1)) k = _; rw [pk_un k1, pk_un k0]
        have r : ∀ r, r ≠ 6 → (yS (yR (yS y 0 0) 6 (upd (y.2 6) L (nI p))) 9 (nI (L + 1))).2 r = y.2 r := fun r hr => by show va_up y.2 6 (upd (y.2 6) L (nI p)) r = _; unfold va_up; rw [if_neg hr]
        have xr : ∀ k, k ≠ 5 → (kkS (kkR x 5 (upd (x.2.2.1 5) L (nI p))) 4 (nI (L + 1))).2.2.1 k = x.2.2.1 k := fun k hk => by show va_up x.2.2.1 5 (upd (x.2.2.1 5) L (nI p)) k = _; unfold va_up; rw [if_neg hk]
        refine ⟨⟨?_, ?_, ?_, ?_, ?_, ?_, ?_, ?_⟩, Or.inl ⟨?_, rfl⟩⟩
        · rw [r 0 (by decide)]; exact X.R
        · exact rxH_c X.H (Nat.le_refl _) (n 0 (by decide)) (n 1 (by decide)) (fun k _ => rfl) (m 1 (by decide) (by decide)) (r 3 (by decide))
        · exact rxS_c X.S (Nat.le_refl _) (n 8 (by decide)) rfl (m 6 (by decide) (by decide)) (r 2 (by decide))
        · exact rxK_c X.K (n 9 (by decide)) (n 10 (by decide)) (m 4 (by decide) (by decide)) (m 5 (by decide) (by decide))
        · exact rxE_c X.E (n 11 (by decide)) (n 12 (by decide)) (m 2 (by decide) (by decide)) (m 3 (by decide) (by decide))
        · refine ⟨L + 1, by omega, by show upd x.2.1 4 (nI (L + 1)) 4 = _; rw [pk_us], by show upd (upd y.1 0 0) 9 (nI (L + 1)) 9 = _; rw [pk_us], fun j hj => ?_⟩
          show upd (x.2.2.1 5) L (nI p) j = upd (y.2 6) L (nI p) j ∧ isN (upd (y.2 6) L (nI p) j) 127
          by_cases e : j = L
          · subst e; rw [pk_us, pk_us]; exact ⟨rfl, p, by omega, rfl⟩
          · rw [pk_un e, pk_un e]; exact l4 j (by omega)
        · exact rxL_c X.L (n 7 (by decide)) (xr 7 (by decide)) (m 12 (by decide) (by decide)) (r 7 (by decide))
        · exact rxO_c X.O (fun k _ _ => xr k (by omega)) (xr 7 (by decide)) (r 9 (by decide)) (r 10 (by decide))
        · rw [show (kkS (kkR x 5 (upd (x.2.2.1 5) L (nI p))) 4 (nI (L + 1))).2.1 4 = nI (L + 1) by show upd x.2.1 4 (nI (L + 1)) 4 = _; rw [pk_us]]
    · have h3 : 126 < a := Int32.not_le.1 h2
      rw [if_neg h1, if_neg h1, if_neg h1, if_neg h2, if_neg h2, if_pos h3, if_pos rfl, if_pos rfl]
      exact ⟨RX_s X 1, Or.inr (Or.inl ⟨rfl, rfl⟩)⟩
theorem q_lineAt (X : RX t x y) {a : Int32} : RX t x (g_X12_lineAt y a) ∧ (okI (o_X11_lineAt x a) (g_X12_lineAt y a) (f_X12_lineAt y a) ∨ exE (o_X11_lineAt x a) (g_X12_lineAt y a) "java/lang/IndexOutOfBoundsException" 1) := by
  unfold g_X12_lineAt o_X11_lineAt f_X12_lineAt
  obtain ⟨L, l1, l2, l3, l4⟩ := X.L
  rw [l2, l3]
  rcases in_cs a (n := L) (by omega) with ⟨i1, i2⟩ | ⟨i1, j, hj, rfl⟩
  · rw [if_pos i1, if_pos i1]
    have eo : (if a < 0 then (.inr "java/lang/IndexOutOfBoundsException" : kOut) else (if a < nI L then (.inl (some (.int ((x.2.2.1 7) (Int32.toNatClampNeg a))))) else (.inr "java/lang/IndexOutOfBoundsException"))) = .inr "java/lang/IndexOutOfBoundsException" := by
      rcases i2 with z | z
      · rw [if_pos z]
      · rw [if_neg (Int32.not_lt.2 z), ite_self]
    exact ⟨RX_s X 1, Or.inr ⟨eo, rfl⟩⟩
  · have lt : nI j < nI L := nI_lt hj (by omega)
    obtain ⟨e1, n, hn, e2⟩ := l4 j hj
    rw [i1, if_neg z10, if_neg z10, if_neg (nI_pos (by omega)), if_pos lt, nI_clamp (by omega), e1, e2, ch_u hn]
    exact ⟨RX_s X 0, Or.inl ⟨rfl, rfl⟩⟩
end LNE
