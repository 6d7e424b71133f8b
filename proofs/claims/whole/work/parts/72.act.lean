/-! THE CHANGES THEMSELVES, on both sides: the yard and purchases. -/
theorem i_r1 (a b c : Int32) : a - (b + c) = a - b - c := by
  apply Int32.toBitVec_inj.1
  simp only [Int32.toBitVec_add, Int32.toBitVec_sub]
  bv_omega
theorem i_r2 (a b c : Int32) : a + b - c = a - c + b := by
  apply Int32.toBitVec_inj.1
  simp only [Int32.toBitVec_add, Int32.toBitVec_sub]
  bv_omega
theorem i_r3 (a b c : Int32) : a + (b + c) = a + b + c := by
  apply Int32.toBitVec_inj.1
  simp only [Int32.toBitVec_add, Int32.toBitVec_sub]
  bv_omega
theorem vB_c {hb h2 t t2 : Nat} {v w : Nat → Int32} (h : vB hb t v) (e : vEq v w 0 12) (hh : hb ≤ h2) (ht : t ≤ t2) : vB h2 t2 w := by
  obtain ⟨b1, b2, b3, b4, b5, b6, b7, ⟨a, b, q1, q2, q3, q4⟩, b9⟩ := h
  refine ⟨?_, ?_, ?_, ?_, ?_, ?_, ?_, ⟨a, b, q1, by omega, ?_, ?_⟩, ?_⟩
  · rw [e 6 (by omega) (by omega)]; exact b1
  · rw [e 7 (by omega) (by omega)]; exact b2
  · rw [e 3 (by omega) (by omega)]; exact b3
  · rw [e 4 (by omega) (by omega)]; exact b4
  · rw [e 5 (by omega) (by omega)]; exact b5
  · rw [e 0 (by omega) (by omega)]; exact isN_m b6 (by omega)
  · rw [e 2 (by omega) (by omega)]; exact isN_m b7 (by omega)
  · rw [e 10 (by omega) (by omega)]; exact q3
  · rw [e 9 (by omega) (by omega)]; exact q4
  · rw [e 11 (by omega) (by omega)]; exact isN_m b9 (by omega)
theorem vEq_u {v : Nat → Int32} {k a b : Nat} {z : Int32} (h : k < a ∨ b ≤ k) : vEq v (upd v k z) a b := fun i h1 h2 => pk_un (by omega)
theorem vEq_t {v w u : Nat → Int32} {a b : Nat} (h1 : vEq v w a b) (h2 : vEq w u a b) : vEq v u a b := fun i q1 q2 => (h2 i q1 q2).trans (h1 i q1 q2)
theorem vEq_r {v : Nat → Int32} {a b : Nat} : vEq v v a b := fun _ _ _ => rfl
theorem trL_is {v : Nat → Int32} {T : Int64} {k : Nat} : ∀ {j m : Nat}, j + k = 64 → (∀ q, j ≤ q → q < 64 → v (12 + q) = if tb T q = true then 1 else 0) → trL v k j (nI m) = nI (m + pcT (tb T) k j) := by
  induction k with
  | zero => intro j m _ _; rfl
  | succ k ih =>
    intro j m hj h
    have e : v (Int32.toNatClampNeg (12 + nI j)) = if tb T j = true then 1 else 0 := by
      rw [show (12 : Int32) = nI 12 from rfl, nI_add, nI_clamp (by omega)]
      exact h j (Nat.le_refl _) (by omega)
    rw [trL, pcT, e]
    have h2 : ∀ q, j + 1 ≤ q → q < 64 → v (12 + q) = if tb T q = true then 1 else 0 := fun q a b => h q (by omega) b
    by_cases z : tb T j = true
    · rw [if_pos z, if_pos z, nI_1, ih (by omega) h2]
      congr 1
      omega
    · rw [if_neg z, if_neg z, show nI m + 0 = nI m from Int32.add_zero _, ih (by omega) h2]
      congr 1
      omega
section ACD
variable {t : Nat} {x x2 : kK} {y : kY}
theorem noP (R : RI t (x.1 0) (y.2 0)) {a : Int32} (h : pFind ((x.1 0).2.2 0) a (Int32.toNatClampNeg ((x.1 0).2.1 3)) 0 = -1) : ∀ p, p < nP (y.2 0) → y.2 0 (76 + 2 * p) ≠ a := by
  intro p hp
  have h8 := R.nP8
  rcases pF_s (f := (x.1 0).2.2 0) (c := a) (k := Int32.toNatClampNeg ((x.1 0).2.1 3)) (j := 0) with ⟨-, n⟩ | ⟨i, -, i2, i3, e, -⟩
  · rw [← (R.P.1 p hp).1]
    exact n p (Nat.zero_le _) (by rw [nP3 R]; omega)
  · rw [e] at h
    have : nI i < 0 := by rw [h]; decide
    have : i < nP (y.2 0) := by rw [nP3 R] at i2; omega
    exact absurd ‹nI i < 0› (nI_pos (by omega))
/-- a tree comes or goes -/
theorem RI_tree (R : RI t (x.1 0) (y.2 0)) {k : Nat} (hk : k < 64) {T : Int64} {b : Bool} (hT : ∀ q, q < 64 → tb T q = if q = k then b else tb (x.1 0).1 q) (hb : b = true → y.2 0 3 ≠ nI k ∧ ∀ p, p < nP (y.2 0) → y.2 0 (76 + 2 * p) ≠ nI k) : RI (t + 1) (cT (x.1 0) T) (upd (y.2 0) (12 + k) (if b = true then 1 else 0)) := by
  have h8 := R.nP8
  have e1 : vEq (y.2 0) (upd (y.2 0) (12 + k) (if b = true then 1 else 0)) 0 12 := vEq_u (by omega)
  have e2 : vEq (y.2 0) (upd (y.2 0) (12 + k) (if b = true then 1 else 0)) 76 92 := vEq_u (by omega)
  have e3 : vEq (y.2 0) (upd (y.2 0) (12 + k) (if b = true then 1 else 0)) 92 116 := vEq_u (by omega)
  have tr : ∀ n, n < 64 → (b = true → n ≠ k) → f_X12_isTree (y.2 0) (nI n) = 0 → f_X12_isTree (upd (y.2 0) (12 + k) (if b = true then 1 else 0)) (nI n) = 0 := by
    intro n hn hb2 h
    rw [isTree_at hn] at h ⊢
    by_cases e : n = k
    · subst e
      rw [pk_us]
      cases b with
      | true => exact absurd rfl (hb2 rfl)
      | false => rfl
    · rw [pk_un (by omega)]
      exact h
  refine ⟨⟨rcN_v (rcN_c R.N rfl) e1, ?_, rcP_c R.P rfl rfl (e1 6 (by omega) (by omega)) h8 e2, reL_c R.L rfl rfl rfl (e1 7 (by omega) (by omega)) R.nL8 e3, R.A⟩, vB_c R.B e1 (by omega) (by omega), vP_c R.Q e2, ?_, vL_c R.E (e1 0 (by omega) (by omega)) (e1 7 (by omega) (by omega)) R.nL8 e3 (by omega)⟩
  · intro q hq
    show upd (y.2 0) (12 + k) _ (12 + q) = if tb T q = true then 1 else 0
    rw [hT q hq]
    by_cases e : q = k
    · subst e; rw [pk_us, if_pos rfl]
    · rw [pk_un (by omega), if_neg e]; exact R.T q hq
  · have v3 := e1 3 (by omega) (by omega)
    have v6 := e1 6 (by omega) (by omega)
    refine ⟨?_, fun p hp => ?_⟩
    · rw [v3]
      obtain ⟨n, hn, e⟩ := R.B.2.2.1
      rw [e]
      refine tr n hn (fun z => ?_) (by rw [← e]; exact R.D.1)
      intro z2
      exact (hb z).1 (by rw [e, z2])
    · have hp2 : p < nP (y.2 0) := by rw [nP, v6] at hp; exact hp
      rw [v3, e2 _ (by omega) (by omega)]
      have hd := R.D.2 p hp2
      refine ⟨hd.1, ?_, fun q hq z => hd.2.2 q (by rw [nP, v6] at hq; exact hq) ?_⟩
      · obtain ⟨n, hn, e⟩ := R.Q p (by omega)
        rw [e]
        refine tr n hn (fun z z2 => (hb z).2 p hp2 (by rw [e, z2])) (by rw [← e]; exact hd.2.1)
      · have hq2 : q < nP (y.2 0) := by rw [nP, v6] at hq; exact hq
        rw [e2 _ (by omega) (by omega)] at z
        exact z
theorem cell_bit {q p : Nat} (hq : q < 8) (hp : p < 8) : (1 : Int64) <<< (Int32.toInt64 (f_X11_cellAt (nI p) (nI q)) &&& 63) = tbN (8 * q + p) := by
  rw [cell_nI hp hq]
  rfl
theorem cd_plants (R : RI t (x.1 0) (y.2 0)) {a b c : Int32} (hf : f_X11_checkTree x a b c = 0) (hx : x2.1 0 = x.1 0) : RI (t + 1) ((g_X11_plant x2 a b c).1 0) ((g_X12_plants y a b c).2 0) ∧ f_X11_plant x2 a b c = f_X12_plants y a b c := by
  unfold f_X11_checkTree at hf
  unfold g_X11_plant f_X11_plant g_X12_plants f_X12_plants
  rw [hx]
  rcases ce_cs a b with ⟨e1, e2⟩ | ⟨e1, e2, p, q, hp, hq, rfl, rfl, e3⟩
  · rw [e1, if_pos rfl] at hf
    exact absurd hf (by decide)
  · rw [e1, if_neg (by decide)] at hf
    have hk : 8 * q + p < 64 := by omega
    have ep : Int32.toNatClampNeg (12 + (8 * nI q + nI p)) = 12 + (8 * q + p) := by
      rw [e3, show (12 : Int32) = nI 12 from rfl, nI_add, nI_clamp (by omega)]
    rw [e2, if_neg z10, if_neg z10, cell_bit hq hp, ep]
    have val : ∀ (T : Int64) (z : Int32), RI (t + 1) (cT (x.1 0) T) (upd (y.2 0) (12 + (8 * q + p)) z) → f_J13_bitCount_95d88 T = f_X12_trees (upd (y.2 0) (12 + (8 * q + p)) z) := by
      intro T z R2
      rw [bc_tb]
      unfold f_X12_trees
      rw [show (0 : Int32) = nI 0 from rfl, trL_is (T := T) (by omega) (fun q2 _ h2 => R2.T q2 h2), Nat.zero_add]
    by_cases hc : c = 0
    · rw [if_pos hc, if_pos hc, if_pos hc, if_pos hc]
      have R2 := RI_tree R hk (T := (x.1 0).1 &&& (tbN (8 * q + p) ^^^ (-1))) (b := false) (fun q2 h2 => by
        rw [tb_and, tb_not h2, tb_N hk h2]
        by_cases e : q2 = 8 * q + p
        · rw [if_pos e, decide_eq_true e]; simp
        · rw [if_neg e, decide_eq_false e]; simp) (fun z => by cases z)
      have R2 : RI (t + 1) (cT (x.1 0) ((x.1 0).1 &&& (tbN (8 * q + p) ^^^ (-1)))) (upd (y.2 0) (12 + (8 * q + p)) 0) := R2
      refine ⟨?_, val _ _ R2⟩
      show RI (t + 1) (cT (x2.1 0) _) _
      rw [hx]
      exact R2
    · rw [if_neg hc] at hf
      rw [if_neg hc, if_neg hc, if_neg hc, if_neg hc, stand_eq R]
      unfold f_X11_refusePartyIn f_X11_refuseBenchIn g_X11_refusePartyIn f_X11_cellAt at hf
      by_cases hs : pFind ((x.1 0).2.2 0) (8 * nI q + nI p) (Int32.toNatClampNeg ((x.1 0).2.1 3)) 0 = -1
      · rw [if_pos hs, if_pos rfl, if_pos hs] at hf
        by_cases hb : (x.1 0).2.1 0 = 8 * nI q + nI p
        · rw [if_pos hb] at hf
          exact (z40 hf).elim
        · have hb2 : ¬ (y.2 0) 3 = 8 * nI q + nI p := by rw [← R.n0]; exact hb
          rw [if_pos ((pF_n3 R).2 hs), if_pos ((pF_n3 R).2 hs), if_neg hb2, if_neg hb2]
          have R2 := RI_tree R hk (T := (x.1 0).1 ||| tbN (8 * q + p)) (b := true) (fun q2 h2 => by
            rw [tb_or, tb_N hk h2]
            by_cases e : q2 = 8 * q + p
            · rw [if_pos e, decide_eq_true e]; simp
            · rw [if_neg e, decide_eq_false e]; simp) (fun _ => by rw [← e3]; exact ⟨hb2, noP R hs⟩)
          have R2 : RI (t + 1) (cT (x.1 0) ((x.1 0).1 ||| tbN (8 * q + p))) (upd (y.2 0) (12 + (8 * q + p)) 1) := R2
          refine ⟨?_, val _ _ R2⟩
          show RI (t + 1) (cT (x2.1 0) _) _
          rw [hx]
          exact R2
      · rw [if_neg hs] at hf
        rw [show ∀ a b, f_X11_refuse x a b = 4 from fun _ _ => rfl, if_neg z40] at hf
        exact (z40 hf).elim
/-- the bench -/
theorem cd_benches (R : RI t (x.1 0) (y.2 0)) {a b : Int32} (hf : f_X11_checkBench x a b = 0) (hx : x2.1 0 = x.1 0) : RI (t + 1) ((g_X11_placeBench x2 a b).1 0) ((g_X12_benches y a b).2 0) ∧ f_X11_placeBench x2 a b = f_X12_benches y a b := by
  unfold f_X11_checkBench at hf
  unfold g_X11_placeBench f_X11_placeBench g_X12_benches f_X12_benches
  rw [hx]
  have h8 := R.nP8
  rcases ce_cs a b with ⟨e1, e2⟩ | ⟨e1, e2, p, q, hp, hq, rfl, rfl, e3⟩
  · rw [e1, if_pos rfl] at hf
    exact absurd hf (by decide)
  · rw [e1, if_neg (by decide)] at hf
    unfold f_X11_refuseTreeIn g_X11_refuseTreeIn f_X11_refusePartyIn f_X11_cellAt at hf
    have et := tree_eq R (q := 8 * q + p) (by omega)
    rw [← e3] at et
    by_cases ht : b2i (bitA (x.1 0).1 (8 * nI q + nI p)) = 0
    · rw [if_pos ht, if_pos rfl, if_pos ht] at hf
      by_cases hs : pFind ((x.1 0).2.2 0) (8 * nI q + nI p) (Int32.toNatClampNeg ((x.1 0).2.1 3)) 0 = -1
      · rw [e2, if_neg z10, if_neg z10, et, if_pos ht, if_pos ht, stand_eq R, if_pos ((pF_n3 R).2 hs), if_pos ((pF_n3 R).2 hs)]
        refine ⟨?_, R.n0⟩
        unfold f_X11_cellAt
        have np := noP R hs
        rw [ht] at et
        generalize hcl : 8 * nI q + nI p = cl at *
        have ic : isN cl 64 := ⟨8 * q + p, by omega, e3⟩
        show RI (t + 1) (cS (x2.1 0) 0 cl) (upd (y.2 0) 3 cl)
        rw [hx]
        have e2 : vEq (y.2 0) (upd (y.2 0) 3 cl) 12 116 := vEq_u (by omega)
        have u : ∀ k, k ≠ 3 → upd (y.2 0) 3 cl k = y.2 0 k := fun k hk => pk_un hk
        refine ⟨⟨rcN_S R.N (k := 0) (by decide) (by decide) cl, rcT_c R.T rfl (fun i q1 q2 => e2 i q1 (by omega)), rcP_c R.P rfl rfl (u 6 (by decide)) h8 (fun i q1 q2 => e2 i (by omega) (by omega)), reL_c R.L rfl rfl rfl (u 7 (by decide)) R.nL8 (fun i q1 q2 => e2 i (by omega) q2), R.A⟩, ?_, vP_c R.Q (fun i q1 q2 => e2 i (by omega) (by omega)), ?_, vL_c R.E (u 0 (by decide)) (u 7 (by decide)) R.nL8 (fun i q1 q2 => e2 i (by omega) q2) (by omega)⟩
        · obtain ⟨b1, b2, b3, b4, b5, b6, b7, ⟨a, b, q1, q2, q3, q4⟩, b9⟩ := R.B
          refine ⟨by rw [u 6 (by decide)]; exact b1, by rw [u 7 (by decide)]; exact b2, by rw [pk_us]; exact ic, by rw [u 4 (by decide)]; exact b4, by rw [u 5 (by decide)]; exact b5, by rw [u 0 (by decide)]; exact isN_m b6 (by omega), by rw [u 2 (by decide)]; exact isN_m b7 (by omega), ⟨a, b, q1, by omega, by rw [u 10 (by decide)]; exact q3, by rw [u 9 (by decide)]; exact q4⟩, by rw [u 11 (by decide)]; exact isN_m b9 (by omega)⟩
        · have tc : ∀ z, isN z 64 → f_X12_isTree (upd (y.2 0) 3 cl) z = f_X12_isTree (y.2 0) z := fun z hz => isTree_c hz (fun i q1 q2 => e2 i q1 (by omega))
          refine ⟨by rw [pk_us, tc _ ic]; exact et, fun p2 hp2 => ?_⟩
          have hp3 : p2 < nP (y.2 0) := by rw [nP, u 6 (by decide)] at hp2; exact hp2
          rw [pk_us, e2 _ (by omega) (by omega), tc _ (R.Q p2 (by omega))]
          have hd := R.D.2 p2 hp3
          refine ⟨np p2 hp3, hd.2.1, fun q2 hq2 z => hd.2.2 q2 (by rw [nP, u 6 (by decide)] at hq2; exact hq2) ?_⟩
          have hq3 : q2 < nP (y.2 0) := by rw [nP, u 6 (by decide)] at hq2; exact hq2
          rw [e2 _ (by omega) (by omega)] at z
          exact z
      · rw [if_neg hs] at hf
        exact (z40 hf).elim
    · rw [if_neg ht] at hf
      have h4 : f_X11_refuse x 1 (8 * nI q + nI p) = 4 := rfl
      rw [h4, if_neg (by decide)] at hf
      exact absurd hf (by decide)
/-- the wind -/
theorem cd_blows (R : RI t (x.1 0) (y.2 0)) {a b : Int32} (hf : f_X11_checkWind a b = 0) (hx : x2.1 0 = x.1 0) : RI (t + 1) ((g_X11_turnWind x2 a b).1 0) ((g_X12_blows y a b).2 0) ∧ f_X11_turnWind x2 a b = f_X12_blows y a b := by
  unfold g_X11_turnWind f_X11_turnWind g_X12_blows f_X12_blows
  rw [hx]
  rcases wd_cs a b with ⟨e, -⟩ | ⟨-, h1, h2, p, q, hp, hq, rfl, rfl⟩
  · rw [e] at hf
    exact absurd hf (by decide)
  · rw [h1, h2, if_neg (by decide), if_neg z10, if_neg z10, if_neg z10]
    refine ⟨?_, by rw [R.n1, R.n2]⟩
    show RI (t + 1) (cS (cS (x2.1 0) 1 (nI p)) 2 (nI q)) (upd (upd (y.2 0) 4 (nI p)) 5 (nI q))
    rw [hx]
    have u : ∀ k, k ≠ 4 → k ≠ 5 → upd (upd (y.2 0) 4 (nI p)) 5 (nI q) k = y.2 0 k := fun k h4 h5 => by rw [pk_un h5, pk_un h4]
    refine RI_nums R (by omega) (rcN_S (rcN_S R.N (k := 1) (by decide) (by decide) (nI p)) (k := 2) (by decide) (by decide) (nI q)) R.A ?_ rfl rfl (u 0 (by decide) (by decide)) (u 3 (by decide) (by decide)) (u 6 (by decide) (by decide)) (u 7 (by decide) (by decide)) (fun i q1 q2 => u i (by omega) (by omega))
    obtain ⟨b1, b2, b3, b4, b5, b6, b7, ⟨a, b, q1, q2, q3, q4⟩, b9⟩ := R.B
    refine ⟨by rw [u 6 (by decide) (by decide)]; exact b1, by rw [u 7 (by decide) (by decide)]; exact b2, by rw [u 3 (by decide) (by decide)]; exact b3, ?_, ?_, by rw [u 0 (by decide) (by decide)]; exact isN_m b6 (by omega), by rw [u 2 (by decide) (by decide)]; exact isN_m b7 (by omega), ⟨a, b, q1, by omega, by rw [u 10 (by decide) (by decide)]; exact q3, by rw [u 9 (by decide) (by decide)]; exact q4⟩, by rw [u 11 (by decide) (by decide)]; exact isN_m b9 (by omega)⟩
    · rw [pk_un (by decide), pk_us]; exact ⟨p, hp, rfl⟩
    · rw [pk_us]; exact ⟨q, hq, rfl⟩
/-- boomerangs are bought -/
theorem cd_buys (R : RI t (x.1 0) (y.2 0)) {a : Int32} (hf : f_X11_checkPurchase x a = 0) (hx : x2.1 0 = x.1 0) : RI (t + 1) ((g_X11_purchase x2 a).1 0) ((g_X12_buys y a).2 0) ∧ f_X11_purchase x2 a = f_X12_buys y a := by
  unfold f_X11_checkPurchase at hf
  unfold g_X11_purchase f_X11_purchase g_X12_buys f_X12_buys
  rw [hx]
  rcases by_cs a with ⟨e, h⟩ | ⟨e, h1, h2, p, hp1, hp2, rfl⟩
  · by_cases h1 : a < 1
    · rw [if_pos h1] at hf; exact absurd hf (by decide)
    · rcases h with h | h
      · exact absurd h h1
      · rw [if_neg h1, if_neg h] at hf; exact absurd hf (by decide)
  · rw [if_neg h1, if_pos h2] at hf
    by_cases h3 : 2 * nI p ≤ (x.1 0).2.1 8
    · have h4 : 2 * nI p ≤ (y.2 0) 1 := by rw [← R.n8]; exact h3
      rw [e, if_neg z10, if_neg z10, if_pos h4, if_pos h4]
      refine ⟨?_, by rw [R.n7]⟩
      show RI (t + 1) (cS (cS (cS (x2.1 0) 7 ((x.1 0).2.1 7 + nI p)) 8 ((x.1 0).2.1 8 - 2 * nI p)) 11 ((x.1 0).2.1 11 + 2 * nI p)) (upd (upd (y.2 0) 1 ((y.2 0) 1 - 2 * nI p)) 2 ((y.2 0) 2 + nI p))
      rw [hx, R.n7, R.n8]
      have u : ∀ k, k ≠ 1 → k ≠ 2 → upd (upd (y.2 0) 1 ((y.2 0) 1 - 2 * nI p)) 2 ((y.2 0) 2 + nI p) k = y.2 0 k := fun k h4 h5 => by rw [pk_un h5, pk_un h4]
      have sw : upd (upd (y.2 0) 1 ((y.2 0) 1 - 2 * nI p)) 2 ((y.2 0) 2 + nI p) = upd (upd (y.2 0) 2 ((y.2 0) 2 + nI p)) 1 ((y.2 0) 1 - 2 * nI p) := by
        funext k
        unfold upd
        by_cases k1 : k = 1
        · subst k1; simp
        · by_cases k2 : k = 2
          · subst k2; simp
          · simp [k1, k2]
      refine RI_nums R (by omega) ?_ ?_ ?_ rfl rfl (u 0 (by decide) (by decide)) (u 3 (by decide) (by decide)) (u 6 (by decide) (by decide)) (u 7 (by decide) (by decide)) (fun i q1 q2 => u i (by omega) (by omega))
      · refine rcN_x ?_ (k := 11) (by decide) _
        rw [sw]
        exact rcN_S (rcN_S R.N (k := 7) (by decide) (by decide) _) (k := 8) (by decide) (by decide) _
      · show (y.2 0) 1 - 2 * nI p = 50 + (x.1 0).2.1 9 - (x.1 0).2.1 10 - ((x.1 0).2.1 11 + 2 * nI p)
        rw [i_r1, ← R.n8]
        congr 1
        exact R.A
      · obtain ⟨b1, b2, b3, b4, b5, b6, ⟨z, z1, z2⟩, ⟨a, b, q1, q2, q3, q4⟩, b9⟩ := R.B
        refine ⟨by rw [u 6 (by decide) (by decide)]; exact b1, by rw [u 7 (by decide) (by decide)]; exact b2, by rw [u 3 (by decide) (by decide)]; exact b3, by rw [u 4 (by decide) (by decide)]; exact b4, by rw [u 5 (by decide) (by decide)]; exact b5, by rw [u 0 (by decide) (by decide)]; exact isN_m b6 (by omega), ?_, ⟨a, b, q1, by omega, by rw [u 10 (by decide) (by decide)]; exact q3, by rw [u 9 (by decide) (by decide)]; exact q4⟩, by rw [u 11 (by decide) (by decide)]; exact isN_m b9 (by omega)⟩
        rw [pk_us, z2, nI_add]
        exact ⟨z + p, by omega, rfl⟩
    · rw [if_neg h3] at hf
      exact absurd hf (by decide)
/-- a party's cell -/
theorem RI_cell (R : RI t (x.1 0) (y.2 0)) {j : Nat} (hj : j < nP (y.2 0)) {cl : Int32} (ic : isN cl 64) (ht : f_X12_isTree (y.2 0) cl = 0) (hb : y.2 0 3 ≠ cl) (hn : ∀ p, p < nP (y.2 0) → p ≠ j → y.2 0 (76 + 2 * p) ≠ cl) : RI (t + 1) (cR (x.1 0) 0 (upd ((x.1 0).2.2 0) j cl)) (upd (y.2 0) (76 + 2 * j) cl) := by
  have h8 := R.nP8
  have u : ∀ k, k ≠ 76 + 2 * j → upd (y.2 0) (76 + 2 * j) cl k = y.2 0 k := fun k hk => pk_un hk
  have tc : ∀ z, isN z 64 → f_X12_isTree (upd (y.2 0) (76 + 2 * j) cl) z = f_X12_isTree (y.2 0) z := fun z hz => isTree_c hz (vEq_u (by omega))
  refine ⟨⟨rcN_v (rcN_c R.N rfl) (vEq_u (by omega)), rcT_c R.T rfl (vEq_u (by omega)), ?_, reL_c R.L rfl rfl rfl (u 7 (by omega)) R.nL8 (vEq_u (by omega)), R.A⟩, vB_c R.B (vEq_u (by omega)) (by omega) (by omega), ?_, ?_, vL_c R.E (u 0 (by omega)) (u 7 (by omega)) R.nL8 (vEq_u (by omega)) (by omega)⟩
  · unfold rcP
    rw [nP, u 6 (by omega)]
    refine ⟨fun p hp => ?_, R.P.2⟩
    have hp2 : p < nP (y.2 0) := hp
    have e := R.P.1 p hp
    refine ⟨?_, ?_⟩
    · show upd ((x.1 0).2.2 0) j cl p = _
      by_cases z : p = j
      · subst z; rw [pk_us, pk_us]
      · rw [pk_un z, u _ (by omega)]; exact e.1
    · rw [u _ (by omega)]; exact e.2
  · intro p hp
    by_cases z : p = j
    · subst z; rw [pk_us]; exact ic
    · rw [u _ (by omega)]; exact R.Q p hp
  · unfold vD
    rw [nP, u 6 (by omega), u 3 (by omega), tc _ R.B.2.2.1]
    refine ⟨R.D.1, fun p hp => ?_⟩
    have hp2 : p < nP (y.2 0) := hp
    have hd := R.D.2 p hp
    by_cases z : p = j
    · subst z
      rw [pk_us, tc _ ic]
      refine ⟨fun z => hb z.symm, ht, fun q hq e => ?_⟩
      by_cases z2 : q = p
      · exact z2
      · rw [u _ (by omega)] at e
        exact absurd e (hn q hq z2)
    · rw [u (76 + 2 * p) (by omega), tc _ (R.Q p (by omega))]
      refine ⟨hd.1, hd.2.1, fun q hq e => ?_⟩
      by_cases z2 : q = j
      · subst z2
        rw [pk_us] at e
        exact absurd e.symm (hn p hp z)
      · rw [u _ (by omega)] at e
        exact hd.2.2 q hq e
theorem cd_moves (R : RI t (x.1 0) (y.2 0)) {a b c : Int32} (hf : f_X11_checkMove x a b c = 0) (hx : x2.1 0 = x.1 0) : RI (t + 1) ((g_X11_shiftParty x2 a b c).1 0) ((g_X12_moves y a b c).2 0) ∧ f_X11_shiftParty x2 a b c = f_X12_moves y a b c := by
  unfold f_X11_checkMove at hf
  unfold g_X11_shiftParty f_X11_shiftParty g_X12_moves f_X12_moves f_X12_isParty
  rw [hx]
  have h8 := R.nP8
  have e6 : (x.1 0).2.1 3 = nI (nP (y.2 0)) := by rw [R.n3]; exact R.eP
  rw [show f_X12_isIn a 0 ((y.2 0) 6 - 1) = f_X12_isIn a 0 (nI (nP (y.2 0)) - 1) by rw [← R.eP]]
  rcases in_cs a (n := nP (y.2 0)) (by omega) with ⟨i1, i2⟩ | ⟨i1, j, hj, rfl⟩
  · rw [hpQ_f e6 (by omega) i2, if_pos rfl] at hf
    exact absurd hf (by decide)
  · rw [hpQ_t e6 (by omega) hj, if_neg (by decide)] at hf
    rcases ce_cs b c with ⟨e1, e2⟩ | ⟨e1, e2, p, q, hp, hq, rfl, rfl, e3⟩
    · rw [e1, if_pos rfl] at hf
      exact absurd hf (by decide)
    · rw [e1, if_neg (by decide)] at hf
      unfold f_X11_cellAt at hf
      rw [e3, nI_clamp (show j < 2 ^ 31 by omega)] at hf
      rw [i1, e2, if_neg (by decide), if_neg z10, if_neg z10, if_neg z10]
      unfold f_X11_cellAt f_X12_cellOfParty
      rw [e3, nI_clamp (show j < 2 ^ 31 by omega)]
      have ej : Int32.toNatClampNeg (76 + 2 * nI j) = 76 + 2 * j := by
        rw [show (2 : Int32) = nI 2 from rfl, pk_mul, show (76 : Int32) = nI 76 from rfl, nI_add, nI_clamp (by omega)]
      rw [ej]
      have fin : f_X12_mayStand y (nI (8 * q + p)) (nI j) 2 = 1 → (g_X12_mayStand y (nI (8 * q + p)) (nI j) 2) = yS y 0 0 → f_X12_isTree (y.2 0) (nI (8 * q + p)) = 0 → y.2 0 3 ≠ nI (8 * q + p) → (∀ p2, p2 < nP (y.2 0) → p2 ≠ j → y.2 0 (76 + 2 * p2) ≠ nI (8 * q + p)) → RI (t + 1) ((nR x2 0 (upd ((x.1 0).2.2 0) j (nI (8 * q + p)))).1 0) ((if f_X12_mayStand y (nI (8 * q + p)) (nI j) 2 = 0 then g_X12_mayStand y (nI (8 * q + p)) (nI j) 2 else yR (g_X12_mayStand y (nI (8 * q + p)) (nI j) 2) 0 (upd ((g_X12_mayStand y (nI (8 * q + p)) (nI j) 2).2 0) (76 + 2 * j) (nI (8 * q + p)))).2 0) ∧ (x.1 0).2.2 0 j = if f_X12_mayStand y (nI (8 * q + p)) (nI j) 2 = 0 then 0 else (g_X12_mayStand y (nI (8 * q + p)) (nI j) 2).2 0 (76 + 2 * j) := by
        intro m1 g1 t0 b0 n0
        rw [m1, g1, if_neg (by decide), if_neg (by decide)]
        refine ⟨?_, (R.P.1 j hj).1⟩
        show RI (t + 1) (cR (x2.1 0) 0 _) _
        rw [hx]
        exact RI_cell R hj ⟨_, by omega, rfl⟩ t0 b0 n0
      by_cases hs : ((x.1 0).2.2 0) j = nI (8 * q + p)
      · have cj := (R.P.1 j hj).1
        have dj := R.D.2 j hj
        rw [← cj, hs] at dj
        have st : sdL (y.2 0) (nI (8 * q + p)) (Int32.toNatClampNeg (y.2 0 6)) 0 = nI j := by
          rw [stand_eq R]
          rcases pF_s (f := (x.1 0).2.2 0) (c := nI (8 * q + p)) (k := Int32.toNatClampNeg ((x.1 0).2.1 3)) (j := 0) with ⟨-, n⟩ | ⟨i, -, i2, i3, e, -⟩
          · exact absurd hs (n j (Nat.zero_le _) (by rw [nP3 R]; omega))
          · rw [e]
            have i4 : i < nP (y.2 0) := by rw [nP3 R] at i2; omega
            have := dj.2.2 i i4 (by rw [← (R.P.1 i i4).1]; exact i3)
            rw [this]
        have mf : f_X12_mayStand y (nI (8 * q + p)) (nI j) 2 = 1 ∧ g_X12_mayStand y (nI (8 * q + p)) (nI j) 2 = yS y 0 0 := by
          unfold f_X12_mayStand g_X12_mayStand
          rw [dj.2.1, st]
          simp only [if_true, if_neg (fun z => dj.1 (Eq.symm z) : ¬ y.2 0 3 = nI (8 * q + p)), ite_self]
          exact ⟨trivial, trivial⟩
        exact fin mf.1 mf.2 dj.2.1 (fun z => dj.1 z.symm) (fun p2 hp2 ne e => ne (dj.2.2 p2 hp2 e))
      · rw [if_neg hs] at hf
        have hk := ck_stand R (q := 8 * q + p) (by omega) (pa := nI j) (place := 2) (code := cdA) rfl (by decide) (fun z => by
          rcases pF_s (f := (x.1 0).2.2 0) (c := nI (8 * q + p)) (k := Int32.toNatClampNeg ((x.1 0).2.1 3)) (j := 0) with ⟨e, -⟩ | ⟨i, -, i2, i3, e, -⟩
          · exact absurd e z
          · rw [e]
            intro z2
            have i4 : i < nP (y.2 0) := by rw [nP3 R] at i2; omega
            have : i = j := (nI_eq (by omega) (by omega)).1 z2
            subst this
            exact hs i3)
        rcases hk.2 with ⟨f0, m1, g1, t0, s0, b0⟩ | ⟨f0, -⟩
        · rw [stand_eq R] at s0
          exact fin m1 g1 t0 b0 (fun p2 hp2 _ => noP R s0 p2 hp2)
        · exact absurd hf f0
theorem cd_adds (R : RI t (x.1 0) (y.2 0)) {a b : Int32} (hf : f_X11_checkNewParty x a b = 0) (hx : x2.1 0 = x.1 0) : RI (t + 1) ((g_X11_seatParty x2 a b).1 0) ((g_X12_adds y a b).2 0) ∧ f_X11_seatParty x2 a b = f_X12_adds y a b := by
  unfold f_X11_checkNewParty at hf
  unfold g_X11_seatParty f_X11_seatParty g_X12_adds f_X12_adds
  rw [hx]
  have h8 := R.nP8
  rcases ce_cs a b with ⟨e1, e2⟩ | ⟨e1, e2, p, q, hp, hq, rfl, rfl, e3⟩
  · rw [e1, if_pos rfl] at hf
    exact absurd hf (by decide)
  · rw [e1, if_neg (by decide)] at hf
    by_cases l8 : (x.1 0).2.1 3 < 8
    · rw [if_pos l8] at hf
      have n8 : nP (y.2 0) < 8 := by
        rw [R.n3, R.eP] at l8
        exact (nI_ltI (b := 8) (by omega) (by omega)).1 l8
      have m8 : ¬ (y.2 0) 6 = 8 := fun z => by rw [nP, z] at n8; exact absurd n8 (by decide)
      have g8 : ¬ 8 ≤ (x.1 0).2.1 3 := Int32.not_le.2 l8
      rw [e2, if_neg z10, if_neg z10, if_neg m8, if_neg m8, if_neg g8, if_neg g8]
      unfold f_X11_cellAt at hf ⊢
      rw [e3] at hf ⊢
      have hs := ck_stand R (q := 8 * q + p) (by omega) (pa := -1) (place := 3) (code := cdB) rfl (by decide) (fun z => z)
      rcases hs.2 with ⟨f0, m1, g1, t0, s0, b0⟩ | ⟨f0, -⟩
      · rw [m1, g1, if_neg (by decide), if_neg (by decide)]
        refine ⟨?_, R.n3⟩
        rw [stand_eq R] at s0
        have np := noP R s0
        generalize hcl : nI (8 * q + p) = cl at *
        have ic : isN cl 64 := ⟨8 * q + p, by omega, hcl.symm⟩
        have en : y.2 0 6 = nI (nP (y.2 0)) := R.eP
        generalize hN : nP (y.2 0) = N at *
        have ec : (x.1 0).2.1 3 = nI N := by rw [R.n3]; exact en
        have k1 : Int32.toNatClampNeg (76 + 2 * nI N) = 76 + 2 * N := by
          rw [show (2 : Int32) = nI 2 from rfl, pk_mul, show (76 : Int32) = nI 76 from rfl, nI_add, nI_clamp (by omega)]
        have k2 : Int32.toNatClampNeg (76 + 2 * nI N + 1) = 76 + 2 * N + 1 := by
          rw [show (2 : Int32) = nI 2 from rfl, pk_mul, show (76 : Int32) = nI 76 from rfl, nI_add, nI_1, nI_clamp (by omega)]
        show RI (t + 1) (cS (cR (x2.1 0) 0 (upd ((x.1 0).2.2 0) (Int32.toNatClampNeg ((x.1 0).2.1 3)) cl)) 3 ((x.1 0).2.1 3 + 1)) (upd (upd (upd (y.2 0) (Int32.toNatClampNeg (76 + 2 * (y.2 0) 6)) cl) (Int32.toNatClampNeg (76 + 2 * (y.2 0) 6 + 1)) 0) 6 (upd (upd (y.2 0) (Int32.toNatClampNeg (76 + 2 * (y.2 0) 6)) cl) (Int32.toNatClampNeg (76 + 2 * (y.2 0) 6 + 1)) 0 6 + 1))
        rw [hx, ec, en, k1, k2, nI_clamp (show N < 2 ^ 31 by omega), pk_un (show 6 ≠ 76 + 2 * N + 1 by omega), pk_un (show 6 ≠ 76 + 2 * N by omega), en, nI_1]
        have u : ∀ k, k ≠ 6 → k ≠ 76 + 2 * N → k ≠ 76 + 2 * N + 1 → upd (upd (upd (y.2 0) (76 + 2 * N) cl) (76 + 2 * N + 1) 0) 6 (nI (N + 1)) k = y.2 0 k := fun k h1 h2 h3 => by rw [pk_un h1, pk_un h3, pk_un h2]
        have w6 : upd (upd (upd (y.2 0) (76 + 2 * N) cl) (76 + 2 * N + 1) 0) 6 (nI (N + 1)) 6 = nI (N + 1) := pk_us
        have wc : upd (upd (upd (y.2 0) (76 + 2 * N) cl) (76 + 2 * N + 1) 0) 6 (nI (N + 1)) (76 + 2 * N) = cl := by rw [pk_un (by omega), pk_un (by omega), pk_us]
        have ws : upd (upd (upd (y.2 0) (76 + 2 * N) cl) (76 + 2 * N + 1) 0) 6 (nI (N + 1)) (76 + 2 * N + 1) = 0 := by rw [pk_un (by omega), pk_us]
        have hN2 : rcN (cS (cR (x.1 0) 0 (upd ((x.1 0).2.2 0) N cl)) 3 (nI (N + 1))) (upd (upd (upd (y.2 0) (76 + 2 * N) cl) (76 + 2 * N + 1) 0) 6 (nI (N + 1))) := rcN_S (k := 3) (rcN_v (rcN_c R.N rfl) (vEq_t (vEq_u (by omega)) (vEq_u (by omega)))) (by decide) (by decide) (nI (N + 1))
        generalize upd (upd (upd (y.2 0) (76 + 2 * N) cl) (76 + 2 * N + 1) 0) 6 (nI (N + 1)) = w at *
        have nw : nP w = N + 1 := by rw [nP, w6, nI_clamp (by omega)]
        have tc : ∀ z, isN z 64 → f_X12_isTree w z = f_X12_isTree (y.2 0) z := fun z hz => isTree_c hz (fun i q1 q2 => u i (by omega) (by omega) (by omega))
        have w3 : w 3 = y.2 0 3 := u 3 (by omega) (by omega) (by omega)
        refine ⟨⟨hN2, rcT_c R.T rfl (fun i q1 q2 => u i (by omega) (by omega) (by omega)), ?_, reL_c R.L rfl rfl rfl (u 7 (by omega) (by omega) (by omega)) R.nL8 (fun i q1 q2 => u i (by omega) (by omega) (by omega)), R.A⟩, ?_, ?_, ?_, vL_c R.E (u 0 (by omega) (by omega) (by omega)) (u 7 (by omega) (by omega) (by omega)) R.nL8 (fun i q1 q2 => u i (by omega) (by omega) (by omega)) (by omega)⟩
        · have RP := R.P
          unfold rcP at RP ⊢
          rw [nw]
          rw [hN] at RP
          refine ⟨fun p2 hp2 => ?_, fun p2 h1 h2 => RP.2 p2 h1 (by omega)⟩
          show upd ((x.1 0).2.2 0) N cl p2 = _ ∧ (x.1 0).2.2 4 p2 = _
          by_cases z : p2 = N
          · subst z
            rw [pk_us, wc, ws]
            exact ⟨rfl, RP.2 p2 (by omega) (by omega)⟩
          · rw [pk_un z, u _ (by omega) (by omega) (by omega), u _ (by omega) (by omega) (by omega)]
            exact RP.1 p2 (by omega)
        · obtain ⟨b1, b2, b3, b4, b5, b6, b7, ⟨a, b, q1, q2, q3, q4⟩, b9⟩ := R.B
          exact ⟨⟨N + 1, by omega, w6⟩, by rw [u 7 (by omega) (by omega) (by omega)]; exact b2, by rw [w3]; exact b3, by rw [u 4 (by omega) (by omega) (by omega)]; exact b4, by rw [u 5 (by omega) (by omega) (by omega)]; exact b5, by rw [u 0 (by omega) (by omega) (by omega)]; exact isN_m b6 (by omega), by rw [u 2 (by omega) (by omega) (by omega)]; exact isN_m b7 (by omega), ⟨a, b, q1, by omega, by rw [u 10 (by omega) (by omega) (by omega)]; exact q3, by rw [u 9 (by omega) (by omega) (by omega)]; exact q4⟩, by rw [u 11 (by omega) (by omega) (by omega)]; exact isN_m b9 (by omega)⟩
        · intro p2 hp2
          by_cases z : p2 = N
          · subst z; rw [wc]; exact ic
          · rw [u _ (by omega) (by omega) (by omega)]; exact R.Q p2 hp2
        · have RD := R.D
          unfold vD at RD ⊢
          rw [hN] at RD
          rw [nw, w3, tc _ R.B.2.2.1]
          refine ⟨RD.1, fun p2 hp2 => ?_⟩
          by_cases z : p2 = N
          · subst z
            rw [wc, tc _ ic]
            refine ⟨fun z => b0 z.symm, t0, fun q2 hq2 e => ?_⟩
            by_cases z2 : q2 = p2
            · exact z2
            · rw [u _ (by omega) (by omega) (by omega)] at e
              exact absurd e (np q2 (by omega))
          · have hd := RD.2 p2 (by omega)
            rw [u (76 + 2 * p2) (by omega) (by omega) (by omega), tc _ (R.Q p2 (by omega))]
            refine ⟨hd.1, hd.2.1, fun q2 hq2 e => ?_⟩
            by_cases z2 : q2 = N
            · subst z2
              rw [wc] at e
              exact absurd e.symm (np p2 (by omega))
            · rw [u _ (by omega) (by omega) (by omega)] at e
              exact hd.2.2 q2 (by omega) e
      · exact absurd hf f0
    · rw [if_neg l8] at hf
      exact absurd hf (by decide)
end ACD
