/-! COMMAND TEXTS: numbers and whole commands, both sides. -/
theorem dg_in {T : Nat → Int32} {L q : Nat} (h : dgB (sgT T L q) = true) : q < L := by
  by_cases c : q < L
  · exact c
  · rw [sgT_0 c] at h
    exact absurd h (by decide)
theorem sg_in {T : Nat → Int32} {L q : Nat} {c : Int32} (h : sgT T L q = c) (n : ¬ c = -1) : q < L := by
  by_cases z : q < L
  · exact z
  · rw [sgT_0 z] at h
    exact absurd h.symm n
theorem dgB_t {c : Int32} : dgB c = true ↔ 48 ≤ c ∧ c ≤ 57 := by
  unfold dgB
  rw [Bool.and_eq_true, decide_eq_true_iff, decide_eq_true_iff]
/-- what stands behind word w from place q on: numbers and the next place, or the place of the error -/
def cpK (s : Nat → Int32) (w q : Nat) : (Int32 × Int32 × Int32 × Nat) ⊕ Nat :=
  if dgB (s q) = true then
    (if w = 8 then .inl (s q - 48, 0, 0, q + 1)
     else if w = 7 ∨ w = 9 then (if dgB (s (q + 1)) = true then .inl (10 * (s q - 48) + (s (q + 1) - 48), 0, 0, q + 2) else .inl (s q - 48, 0, 0, q + 1))
     else if w = 4 then (if s (q + 1) = 64 then (if dgB (s (q + 2)) = true then (if dgB (s (q + 3)) = true then .inl (s q - 48, s (q + 2) - 48, s (q + 3) - 48, q + 4) else .inr (q + 3)) else .inr (q + 2)) else .inr (q + 1))
     else if w = 6 then (if s (q + 1) = 35 then (if dgB (s (q + 2)) = true then (if dgB (s (q + 3)) = true then .inl (s q - 48, 10 * (s (q + 2) - 48) + (s (q + 3) - 48), 0, q + 4) else .inl (s q - 48, s (q + 2) - 48, 0, q + 3)) else .inr (q + 2)) else .inr (q + 1))
     else (if dgB (s (q + 1)) = true then .inl (s q - 48, s (q + 1) - 48, 0, q + 2) else .inr (q + 1)))
  else .inr q
/-! the class -/
def cX (x x2 : kK) (q : Nat) (f : Nat → Int32) : Prop := x2.1 = x.1 ∧ (∀ k, k ≠ 5 → x2.2.1 k = x.2.1 k) ∧ x2.2.1 5 = nI q ∧ (∀ r, r ≠ 6 → x2.2.2.1 r = x.2.2.1 r) ∧ (∀ i, x2.2.2.1 6 i = f i) ∧ x2.2.2.2 = x.2.2.2
theorem cX_t {x x2 x3 : kK} {q q2 : Nat} {f g : Nat → Int32} (a : cX x x2 q f) (b : cX x2 x3 q2 g) : cX x x3 q2 g := ⟨b.1.trans a.1, fun k h => (b.2.1 k h).trans (a.2.1 k h), b.2.2.1, fun r h => (b.2.2.2.1 r h).trans (a.2.2.2.1 r h), b.2.2.2.2.1, b.2.2.2.2.2.trans a.2.2.2.2.2⟩
theorem cX_f {x x2 : kK} {q : Nat} {f g : Nat → Int32} (a : cX x x2 q f) (h : ∀ i, f i = g i) : cX x x2 q g := ⟨a.1, a.2.1, a.2.2.1, a.2.2.2.1, fun i => (a.2.2.2.2.1 i).trans (h i), a.2.2.2.2.2⟩
section CMX
variable {T : Nat → Int32} {L q : Nat} {x : kK}
theorem cX_T {x2 : kK} {q2 : Nat} {f : Nat → Int32} (h : tX T L q x) (c : cX x x2 q2 f) : tX T L q2 x2 := ⟨(c.2.1 4 (by decide)).trans h.1, c.2.2.1, fun j hj => by rw [c.2.2.2.1 5 (by decide)]; exact h.2.2 j hj⟩
theorem ad_s (h : tX T L q x) (hL : L ≤ 60) (hq : q ≤ L) : f_X2_isAtDigit x = if dgB (sgT T L q) = true then 1 else 0 := by
  unfold f_X2_isAtDigit
  by_cases c : q < L
  · rw [h.1, h.2.1, if_neg (nI_ge c (by omega)), nI_clamp (show q < 2 ^ 31 by omega), h.2.2 q c, sgT_1 c]
    by_cases d : T q < 48
    · rw [if_pos d, if_neg (fun z => by have := (dgB_t.1 z).1; exact Int32.not_lt.2 this d)]
    · rw [if_neg d]
      by_cases e : 57 < T q
      · rw [if_pos e, if_neg (fun z => by have := (dgB_t.1 z).2; exact Int32.not_lt.2 this e)]
      · rw [if_neg e, if_pos (dgB_t.2 ⟨Int32.not_lt.1 d, Int32.not_lt.1 e⟩)]
  · rw [h.1, h.2.1, if_pos (nI_le (by omega) (by omega)), sgT_0 c]
    rfl
theorem rd_s (h : tX T L q x) (hL : L ≤ 60) (c : q < L) : f_X2_readDigit x = sgT T L q - 48 ∧ ∀ f : Nat → Int32, cX x (kkR (g_X2_readDigit x) 6 f) (q + 1) f := by
  refine ⟨?_, fun f => ⟨rfl, fun k hk => if_neg hk, ?_, fun r hr => if_neg hr, fun _ => rfl, rfl⟩⟩
  · unfold f_X2_readDigit
    rw [h.2.1, nI_clamp (by omega), h.2.2 q c, sgT_1 c]
  · show upd x.2.1 5 (x.2.1 5 + 1) 5 = _
    rw [pk_us, h.2.1]
    exact nI_1 q
theorem roL_d (h : tX T L q x) (hL : L ≤ 60) (hq : q ≤ L) {W : List Int32} {j k p : Nat} (hc : List.getD W (Int32.toNatClampNeg (nI j)) 0 = 100) (hp : p < 33) : (dgB (sgT T L q) = true ∧ ∃ x2, cX x x2 (q + 1) (upd (x.2.2.1 6) p (sgT T L q - 48)) ∧ roL W (k + 1) x j (nI p) = roL W k x2 (j + 1) (nI (p + 1))) ∨ (¬ dgB (sgT T L q) = true ∧ roL W (k + 1) x j (nI p) = (x, 0)) := by
  rw [roL, hc, if_pos rfl, ad_s h hL hq]
  by_cases d : dgB (sgT T L q) = true
  · left
    obtain ⟨r1, r2⟩ := rd_s h hL (dg_in d)
    rw [if_pos d, if_neg z10, if_pos (show nI p < 33 from nI_lt (a := p) (b := 33) hp (by decide)), if_neg (by decide), r1, nI_clamp (show p < 2 ^ 31 by omega), show nI p + Int32.ofInt 1 = nI (p + 1) from nI_1 p]
    exact ⟨d, _, r2 _, rfl⟩
  · right
    rw [if_neg d, if_pos rfl]
    exact ⟨d, rfl⟩
theorem roL_n (h : tX T L q x) (hL : L ≤ 60) (hq : q ≤ L) {W : List Int32} {j k p : Nat} (hc : List.getD W (Int32.toNatClampNeg (nI j)) 0 = 110) (hp : p < 33) : (dgB (sgT T L q) = true ∧ ((dgB (sgT T L (q + 1)) = true ∧ ∃ x2, cX x x2 (q + 2) (upd (x.2.2.1 6) p (10 * (sgT T L q - 48) + (sgT T L (q + 1) - 48))) ∧ roL W (k + 1) x j (nI p) = roL W k x2 (j + 1) (nI (p + 1))) ∨ (¬ dgB (sgT T L (q + 1)) = true ∧ ∃ x2, cX x x2 (q + 1) (upd (x.2.2.1 6) p (sgT T L q - 48)) ∧ roL W (k + 1) x j (nI p) = roL W k x2 (j + 1) (nI (p + 1))))) ∨ (¬ dgB (sgT T L q) = true ∧ roL W (k + 1) x j (nI p) = (x, 0)) := by
  rw [roL, hc, if_neg (by decide), if_pos rfl, ad_s h hL hq]
  by_cases d : dgB (sgT T L q) = true
  · left
    refine ⟨d, ?_⟩
    obtain ⟨r1, r2⟩ := rd_s h hL (dg_in d)
    have c1 := r2 (upd (x.2.2.1 6) p (sgT T L q - 48))
    have h1 := cX_T h c1
    rw [if_pos d, if_neg z10, if_pos (show nI p < 33 from nI_lt (a := p) (b := 33) hp (by decide)), if_pos rfl, r1, nI_clamp (show p < 2 ^ 31 by omega), show nI p + Int32.ofInt 1 = nI (p + 1) from nI_1 p]
    rw [show upd ((g_X2_readDigit x).2.2.1 6) p (sgT T L q - 48) = upd (x.2.2.1 6) p (sgT T L q - 48) from rfl]
    revert c1 h1
    generalize kkR (g_X2_readDigit x) 6 (upd (x.2.2.1 6) p (sgT T L q - 48)) = x1
    intro c1 h1
    rw [ad_s h1 hL (by have := dg_in d; omega), pk_us]
    by_cases e : dgB (sgT T L (q + 1)) = true
    · left
      obtain ⟨s1, s2⟩ := rd_s h1 hL (dg_in e)
      rw [if_pos e, if_neg z10, s1]
      refine ⟨e, _, cX_f (cX_t c1 (s2 _)) (fun i => ?_), rfl⟩
      show upd (x1.2.2.1 6) p _ i = _
      by_cases z : i = p
      · rw [z, pk_us, pk_us]
      · rw [pk_un z, pk_un z, c1.2.2.2.2.1 i, pk_un z]
    · right
      rw [if_neg e, if_pos rfl]
      exact ⟨e, x1, c1, rfl⟩
  · right
    rw [if_neg d, if_pos rfl]
    exact ⟨d, rfl⟩
theorem roL_c (h : tX T L q x) (hL : L ≤ 60) {W : List Int32} {j k : Nat} {c p : Int32} (hc : List.getD W (Int32.toNatClampNeg (nI j)) 0 = c) (n1 : ¬ c = 100) (n2 : ¬ c = 110) (n3 : ¬ c = -1) (hq : q ≤ L) : (sgT T L q = c ∧ ∃ x2, cX x x2 (q + 1) (x.2.2.1 6) ∧ roL W (k + 1) x j p = roL W k x2 (j + 1) p) ∨ (¬ sgT T L q = c ∧ roL W (k + 1) x j p = (x, 0)) := by
  rw [roL, hc, if_neg n1, if_neg n2]
  unfold f_X2_readSign g_X2_readSign
  rw [h.1, h.2.1]
  by_cases d : q < L
  · have d1 := nI_ge d (show L < 2 ^ 31 by omega)
    rw [if_neg d1, if_neg d1, nI_clamp (show q < 2 ^ 31 by omega), h.2.2 q d, sgT_1 d]
    by_cases e : T q = c
    · left
      rw [if_pos e, if_pos e, if_neg z10]
      refine ⟨e, kkS x 5 (nI q + 1), ⟨rfl, fun k hk => if_neg hk, ?_, fun r _ => rfl, fun _ => rfl, rfl⟩, rfl⟩
      show upd x.2.1 5 (nI q + 1) 5 = _
      rw [pk_us]
      exact nI_1 q
    · right
      rw [if_neg e, if_neg e, if_pos rfl]
      exact ⟨e, rfl⟩
  · right
    have d1 := nI_le (show L ≤ q by omega) (show q < 2 ^ 31 by omega)
    rw [if_pos d1, if_pos d1, if_pos rfl, sgT_0 d]
    exact ⟨fun z => n3 z.symm, rfl⟩
def roP (w p : Nat) (x : kK) (z : kK × Int32) : (Int32 × Int32 × Int32 × Nat) ⊕ Nat → Prop := Sum.elim (fun o => z.2 = 1 ∧ ∃ f, cX x z.1 o.2.2.2 f ∧ f p = o.1 ∧ (w < 7 → f (p + 1) = o.2.1) ∧ (w = 4 → f (p + 2) = o.2.2.1) ∧ ∀ j, j < p → f j = x.2.2.1 6 j) (fun e => z.2 = 0 ∧ z.1.2.1 5 = nI e)
theorem ro_8 (h : tX T L q x) (hL : L ≤ 60) (hq : q ≤ L) {p : Nat} (hp : p < 31) : roP 8 p x (roL [100] 1 x 0 (nI p)) (cpK (sgT T L) 8 q) := by
  unfold cpK
  rcases roL_d h hL hq (W := [100]) (j := 0) (k := 0) (p := p) rfl (by omega) with ⟨d, x2, c, e⟩ | ⟨d, e⟩
  · rw [e, if_pos d, if_pos rfl]
    exact ⟨rfl, _, c, pk_us, fun z => absurd z (by decide), fun z => absurd z (by decide), fun j hj => pk_un (by omega)⟩
  · rw [e, if_neg d]
    exact ⟨rfl, h.2.1⟩
theorem ro_7 (h : tX T L q x) (hL : L ≤ 60) (hq : q ≤ L) {w p : Nat} (hw : w = 7 ∨ w = 9) (hp : p < 31) : roP w p x (roL [110] 1 x 0 (nI p)) (cpK (sgT T L) w q) := by
  unfold cpK
  rw [if_neg (show ¬ w = 8 by omega), if_pos hw]
  rcases roL_n h hL hq (W := [110]) (j := 0) (k := 0) (p := p) rfl (by omega) with ⟨d, ⟨d2, x2, c, e⟩ | ⟨d2, x2, c, e⟩⟩ | ⟨d, e⟩
  · rw [e, if_pos d, if_pos d2]
    exact ⟨rfl, _, c, pk_us, fun z => by omega, fun z => by omega, fun j hj => pk_un (by omega)⟩
  · rw [e, if_pos d, if_neg d2]
    exact ⟨rfl, _, c, pk_us, fun z => by omega, fun z => by omega, fun j hj => pk_un (by omega)⟩
  · rw [e, if_neg d]
    exact ⟨rfl, h.2.1⟩
theorem ro_0 (h : tX T L q x) (hL : L ≤ 60) (hq : q ≤ L) {w p : Nat} (hw : w < 4 ∨ w = 5) (hp : p < 31) : roP w p x (roL [100, 100] 2 x 0 (nI p)) (cpK (sgT T L) w q) := by
  unfold cpK
  rw [if_neg (show ¬ w = 8 by omega), if_neg (show ¬ (w = 7 ∨ w = 9) by omega), if_neg (show ¬ w = 4 by omega), if_neg (show ¬ w = 6 by omega)]
  rcases roL_d h hL hq (W := [100, 100]) (j := 0) (k := 1) (p := p) rfl (by omega) with ⟨d, x2, c, e⟩ | ⟨d, e⟩
  · rw [e, if_pos d]
    rcases roL_d (cX_T h c) hL (by have := dg_in d; omega) (W := [100, 100]) (j := 0 + 1) (k := 0) (p := p + 1) rfl (by omega) with ⟨d2, x3, c2, e2⟩ | ⟨d2, e2⟩
    · rw [e2, if_pos d2]
      refine ⟨rfl, _, cX_t c c2, ?_, fun _ => pk_us, fun z => by omega, fun j hj => ?_⟩
      · rw [pk_un (by omega), c.2.2.2.2.1, pk_us]
      · rw [pk_un (by omega), c.2.2.2.2.1, pk_un (by omega)]
    · rw [e2, if_neg d2]
      exact ⟨rfl, c.2.2.1⟩
  · rw [e, if_neg d]
    exact ⟨rfl, h.2.1⟩
theorem ro_4 (h : tX T L q x) (hL : L ≤ 60) (hq : q ≤ L) {p : Nat} (hp : p < 31) : roP 4 p x (roL [100, 64, 100, 100] 4 x 0 (nI p)) (cpK (sgT T L) 4 q) := by
  unfold cpK
  rw [if_neg (show ¬ 4 = 8 by omega), if_neg (show ¬ (4 = 7 ∨ 4 = 9) by omega), if_pos rfl]
  rcases roL_d h hL hq (W := [100, 64, 100, 100]) (j := 0) (k := 3) (p := p) rfl (by omega) with ⟨d, x2, c, e⟩ | ⟨d, e⟩
  · rw [e, if_pos d]
    have h2 := cX_T h c
    have q1 := dg_in d
    rcases roL_c h2 hL (W := [100, 64, 100, 100]) (j := 0 + 1) (k := 2) (c := 64) (p := nI (p + 1)) rfl (by decide) (by decide) (by decide) (by omega) with ⟨d2, x3, c2, e2⟩ | ⟨d2, e2⟩
    · rw [e2, if_pos d2]
      have q2 := sg_in d2 (by decide)
      have c3 := cX_t c c2
      have h3 := cX_T h c3
      rcases roL_d h3 hL (by omega) (W := [100, 64, 100, 100]) (j := 0 + 1 + 1) (k := 1) (p := p + 1) rfl (by omega) with ⟨d3, x4, c4, e3⟩ | ⟨d3, e3⟩
      · rw [e3, if_pos d3]
        have c5 := cX_t c3 c4
        have h4 := cX_T h c5
        rcases roL_d h4 hL (by have := dg_in d3; omega) (W := [100, 64, 100, 100]) (j := 0 + 1 + 1 + 1) (k := 0) (p := p + 1 + 1) rfl (by omega) with ⟨d4, x5, c6, e4⟩ | ⟨d4, e4⟩
        · rw [e4, if_pos d4]
          refine ⟨rfl, _, cX_t c5 c6, ?_, fun _ => ?_, fun _ => pk_us, fun j hj => ?_⟩
          · rw [pk_un (by omega), c4.2.2.2.2.1, pk_un (by omega), c2.2.2.2.2.1, c.2.2.2.2.1, pk_us]
          · rw [pk_un (by omega), c4.2.2.2.2.1, pk_us]
          · rw [pk_un (by omega), c4.2.2.2.2.1, pk_un (by omega), c2.2.2.2.2.1, c.2.2.2.2.1, pk_un (by omega)]
        · rw [e4, if_neg d4]
          exact ⟨rfl, c4.2.2.1⟩
      · rw [e3, if_neg d3]
        exact ⟨rfl, c2.2.2.1⟩
    · rw [e2, if_neg d2]
      exact ⟨rfl, c.2.2.1⟩
  · rw [e, if_neg d]
    exact ⟨rfl, h.2.1⟩
theorem ro_6 (h : tX T L q x) (hL : L ≤ 60) (hq : q ≤ L) {p : Nat} (hp : p < 31) : roP 6 p x (roL [100, 35, 110] 3 x 0 (nI p)) (cpK (sgT T L) 6 q) := by
  unfold cpK
  rw [if_neg (show ¬ 6 = 8 by omega), if_neg (show ¬ (6 = 7 ∨ 6 = 9) by omega), if_neg (show ¬ 6 = 4 by omega), if_pos rfl]
  rcases roL_d h hL hq (W := [100, 35, 110]) (j := 0) (k := 2) (p := p) rfl (by omega) with ⟨d, x2, c, e⟩ | ⟨d, e⟩
  · rw [e, if_pos d]
    have h2 := cX_T h c
    have q1 := dg_in d
    rcases roL_c h2 hL (W := [100, 35, 110]) (j := 0 + 1) (k := 1) (c := 35) (p := nI (p + 1)) rfl (by decide) (by decide) (by decide) (by omega) with ⟨d2, x3, c2, e2⟩ | ⟨d2, e2⟩
    · rw [e2, if_pos d2]
      have q2 := sg_in d2 (by decide)
      have c3 := cX_t c c2
      have h3 := cX_T h c3
      rcases roL_n h3 hL (by omega) (W := [100, 35, 110]) (j := 0 + 1 + 1) (k := 0) (p := p + 1) rfl (by omega) with ⟨d3, ⟨d4, x4, c4, e3⟩ | ⟨d4, x4, c4, e3⟩⟩ | ⟨d3, e3⟩
      · rw [e3, if_pos d3, if_pos d4]
        refine ⟨rfl, _, cX_t c3 c4, ?_, fun _ => pk_us, fun z => by omega, fun j hj => ?_⟩
        · rw [pk_un (by omega), c2.2.2.2.2.1, c.2.2.2.2.1, pk_us]
        · rw [pk_un (by omega), c2.2.2.2.2.1, c.2.2.2.2.1, pk_un (by omega)]
      · rw [e3, if_pos d3, if_neg d4]
        refine ⟨rfl, _, cX_t c3 c4, ?_, fun _ => pk_us, fun z => by omega, fun j hj => ?_⟩
        · rw [pk_un (by omega), c2.2.2.2.2.1, c.2.2.2.2.1, pk_us]
        · rw [pk_un (by omega), c2.2.2.2.2.1, c.2.2.2.2.1, pk_un (by omega)]
      · rw [e3, if_neg d3]
        exact ⟨rfl, c2.2.2.1⟩
    · rw [e2, if_neg d2]
      exact ⟨rfl, c.2.2.1⟩
  · rw [e, if_neg d]
    exact ⟨rfl, h.2.1⟩
theorem fm_of : ∀ w, w < 10 → kFormB.getD (kFormOf.getD w 0) [] = if w = 8 then [100] else if w = 7 ∨ w = 9 then [110] else if w = 4 then [100, 64, 100, 100] else if w = 6 then [100, 35, 110] else [100, 100] := by decide
theorem ro_s (h : tX T L q x) (hL : L ≤ 60) (hq : q ≤ L) {w p : Nat} (hw : w < 10) (hp : p < 31) : roP w p x (roL (kFormB.getD (kFormOf.getD w 0) []) (List.length (kFormB.getD (kFormOf.getD w 0) [])) x 0 (nI p)) (cpK (sgT T L) w q) := by
  rw [fm_of w hw]
  by_cases a : w = 8
  · subst a; rw [if_pos rfl]; exact ro_8 h hL hq hp
  · rw [if_neg a]
    by_cases b : w = 7 ∨ w = 9
    · rw [if_pos b]; exact ro_7 h hL hq b hp
    · rw [if_neg b]
      by_cases c : w = 4
      · subst c; rw [if_pos rfl]; exact ro_4 h hL hq hp
      · rw [if_neg c]
        by_cases d : w = 6
        · subst d; rw [if_pos rfl]; exact ro_6 h hL hq hp
        · rw [if_neg d]; exact ro_0 h hL hq (by omega) hp
/-- a command is read into place i -/
theorem rcm_s (h : tX T L q x) (hL : L ≤ 60) (hq : q ≤ L) {i : Nat} (hi : i < 10) : ∃ r n, kwP (fun i => sgT T L (q + i)) r n ∧ ((r = none ∧ f_X2_readCommand x (nI i) = 0 ∧ (g_X2_readCommand x (nI i)).2.1 5 = nI (q + n)) ∨ ∃ w, w < 10 ∧ r = some w ∧ (∀ j, (g_X2_readCommand x (nI i)).2.2.2 j = if j = i then some (1010 + w) else x.2.2.2 j) ∧ ∃ x1, x1.2.2.1 6 = x.2.2.1 6 ∧ roP w (3 * i) x1 (g_X2_readCommand x (nI i), f_X2_readCommand x (nI i)) (cpK (sgT T L) w (q + n))) := by
  obtain ⟨r, n, k1, k2, k3⟩ := rk_s h hL hq
  refine ⟨r, n, k1, ?_⟩
  have kin := kwP_in hq k1
  unfold f_X2_readCommand g_X2_readCommand
  rw [k2]
  rcases k1 with ⟨w, hw, rfl, -, -⟩ | ⟨rfl, -, -⟩
  · right
    rw [Option.elim_some, Option.elim_some, k3, nI_clamp (show i < 2 ^ 31 by omega), show (3 : Int32) = nI 3 from rfl, pk_mul]
    have hx : tX T L (q + n) (kkE (kkS x 5 (nI (q + n))) (va_up (kkS x 5 (nI (q + n))).2.2.2 i (some (1010 + w)))) := ⟨h.1, rfl, h.2.2⟩
    have z := ro_s hx hL kin hw (p := 3 * i) (by omega)
    refine ⟨w, hw, rfl, fun j => ?_, _, ?_, z⟩
    · rw [(roL_ok (L := kFormB.getD (kFormOf.getD w 0) []) (x := kkE (kkS x 5 (nI (q + n))) (va_up (kkS x 5 (nI (q + n))).2.2.2 i (some (1010 + w)))) ?_).2.2.2.2]
      · rfl
      · exact ⟨L, q + n, hL, kin, h.1, rfl⟩
    · rfl
  · left
    rw [Option.elim_none, Option.elim_none, k3]
    exact ⟨rfl, rfl, rfl⟩
end CMX
/-! the reference -/
def yP (y y2 : kY) (q : Nat) (w : Int32) : Prop := (∀ r, r ≠ 8 → y2.2 r = y.2 r) ∧ (∀ k, k ≠ 10 → k ≠ 13 → y2.1 k = y.1 k) ∧ y2.1 10 = nI q ∧ y2.1 13 = w
theorem yP_t {y y2 y3 : kY} {q q2 : Nat} {w w2 : Int32} (a : yP y y2 q w) (b : yP y2 y3 q2 w2) : yP y y3 q2 w2 := ⟨fun r h => (b.1 r h).trans (a.1 r h), fun k h1 h2 => (b.2.1 k h1 h2).trans (a.2.1 k h1 h2), b.2.2⟩
section CMY
variable {T : Nat → Int32} {L q : Nat} {y : kY}
theorem yP_T {y2 : kY} {q2 : Nat} {w : Int32} (h : tY T L q y) (c : yP y y2 q2 w) : tY T L q2 y2 := ⟨(c.2.1 11 (by decide) (by decide)).trans h.1, c.2.2.1, fun j hj => by rw [c.1 6 (by decide)]; exact h.2.2 j hj⟩
theorem is_dg {c : Int32} : f_X12_isIn c 48 57 = if dgB c = true then 1 else 0 := by
  unfold f_X12_isIn
  by_cases d : c < 48
  · rw [if_pos d, if_neg (fun z => by have := (dgB_t.1 z).1; exact Int32.not_lt.2 this d)]
  · rw [if_neg d]
    by_cases e : 57 < c
    · rw [if_pos e, if_neg (fun z => by have := (dgB_t.1 z).2; exact Int32.not_lt.2 this e)]
    · rw [if_neg e, if_pos (dgB_t.2 ⟨Int32.not_lt.1 d, Int32.not_lt.1 e⟩)]
theorem nm_1 (a : Int32) : 10 * 0 + a - 48 = a - 48 := by
  rw [show (10 : Int32) * 0 = 0 from rfl, Int32.zero_add]
theorem nm_2 (a b : Int32) : 10 * a + b - 48 = 10 * a + (b - 48) := by
  rw [Int32.sub_eq_add_neg, Int32.sub_eq_add_neg, Int32.add_assoc]
theorem dg1 (h : tY T L q y) (hL : L ≤ 60) (hq : q ≤ L) (h13 : y.1 13 = 0) : (dgB (sgT T L q) = true ∧ f_X12_digits y 1 = sgT T L q - 48 ∧ yP y (g_X12_digits y 1) (q + 1) 0) ∨ (¬ dgB (sgT T L q) = true ∧ yP y (g_X12_digits y 1) q 1) := by
  have z : dgL 1 (Int32.toNatClampNeg 1) y 0 0 = if dgB (sgT T L q) = true then (yS y 10 (nI (q + 1)), sgT T L q - 48, nI 1) else (y, 0, nI 0) := by
    rw [show Int32.toNatClampNeg 1 = 0 + 1 by decide, dgL, if_pos h13, sg_y h hL hq, is_dg, dgL, ite_self, nm_1, h.2.1, show nI q + 1 = nI (q + 1) from nI_1 q]
    by_cases d : dgB (sgT T L q) = true
    · rw [if_pos d, if_pos d, if_neg z10]
    · rw [if_neg d, if_neg d, if_pos rfl]
  unfold f_X12_digits g_X12_digits
  rw [z]
  by_cases d : dgB (sgT T L q) = true
  · left
    rw [if_pos d, if_neg (show ¬ nI 1 = 0 by decide), if_neg (show ¬ nI 1 = 0 by decide)]
    refine ⟨d, rfl, fun r _ => rfl, fun k h1 h2 => ?_, ?_, ?_⟩
    · rw [ys_1, pk_un h2, ys_1, pk_un h1]
    · rw [ys_1, pk_un (by decide), ys_1, pk_us]
    · rw [ys_1, pk_us, ys_1, pk_un (by decide), h13]; rfl
  · right
    rw [if_neg d, if_pos (show nI 0 = 0 from rfl)]
    refine ⟨d, fun r _ => rfl, fun k h1 h2 => ?_, ?_, ?_⟩
    · rw [ys_1, pk_un h2]
    · rw [ys_1, pk_un (by decide)]; exact h.2.1
    · rw [ys_1, pk_us, h13]; rfl
theorem dg2 (h : tY T L q y) (hL : L ≤ 60) (hq : q ≤ L) (h13 : y.1 13 = 0) : (dgB (sgT T L q) = true ∧ ((dgB (sgT T L (q + 1)) = true ∧ f_X12_digits y 2 = 10 * (sgT T L q - 48) + (sgT T L (q + 1) - 48) ∧ yP y (g_X12_digits y 2) (q + 2) 0) ∨ (¬ dgB (sgT T L (q + 1)) = true ∧ f_X12_digits y 2 = sgT T L q - 48 ∧ yP y (g_X12_digits y 2) (q + 1) 0))) ∨ (¬ dgB (sgT T L q) = true ∧ yP y (g_X12_digits y 2) q 1) := by
  have z : dgL 2 (Int32.toNatClampNeg 2) y 0 0 = if dgB (sgT T L q) = true then (dgL 2 1 (yS y 10 (nI (q + 1))) 1 (sgT T L q - 48)) else (y, 0, nI 0) := by
    rw [show Int32.toNatClampNeg 2 = 1 + 1 by decide, dgL, if_pos h13, sg_y h hL hq, is_dg, nm_1, h.2.1, show nI q + 1 = nI (q + 1) from nI_1 q]
    by_cases d : dgB (sgT T L q) = true
    · rw [if_pos d, if_pos d, if_neg z10]
    · rw [if_neg d, if_neg d, if_pos rfl]
  unfold f_X12_digits g_X12_digits
  rw [z]
  by_cases d : dgB (sgT T L q) = true
  · left
    refine ⟨d, ?_⟩
    have q1 := dg_in d
    have e11 : (yS y 10 (nI (q + 1))).1 10 = nI (q + 1) := by rw [ys_1, pk_us]
    have e13 : (yS y 10 (nI (q + 1))).1 13 = 0 := by rw [ys_1, pk_un (by decide)]; exact h13
    have h2 : tY T L (q + 1) (yS y 10 (nI (q + 1))) := ⟨by rw [ys_1, pk_un (by decide)]; exact h.1, e11, h.2.2⟩
    have ek : ∀ k, k ≠ 10 → (yS y 10 (nI (q + 1))).1 k = y.1 k := fun k hk => by rw [ys_1, pk_un hk]
    have e2 : (yS y 10 (nI (q + 1))).2 = y.2 := rfl
    rw [if_pos d]
    revert e11 e13 h2 ek e2
    generalize yS y 10 (nI (q + 1)) = y1
    intro e11 e13 h2 ek e2
    have z2 : dgL 2 1 y1 1 (sgT T L q - 48) = if dgB (sgT T L (q + 1)) = true then (yS y1 10 (nI (q + 2)), 10 * (sgT T L q - 48) + (sgT T L (q + 1) - 48), nI 2) else (y1, sgT T L q - 48, nI 1) := by
      rw [dgL, if_pos e13, sg_y h2 hL (by omega), is_dg, dgL, ite_self, nm_2, e11, show nI (q + 1) + 1 = nI (q + 2) from nI_1 (q + 1)]
      by_cases d2 : dgB (sgT T L (q + 1)) = true
      · rw [if_pos d2, if_pos d2, if_neg z10]
      · rw [if_neg d2, if_neg d2, if_pos rfl]
    rw [z2]
    by_cases d2 : dgB (sgT T L (q + 1)) = true
    · left
      rw [if_pos d2, if_neg (show ¬ nI 2 = 0 by decide), if_neg (show ¬ nI 2 = 0 by decide)]
      refine ⟨d2, rfl, fun r _ => by show y1.2 r = _; rw [e2], fun k h1 h2 => ?_, ?_, ?_⟩
      · rw [ys_1, pk_un h2, ys_1, pk_un h1, ek k h1]
      · rw [ys_1, pk_un (by decide), ys_1, pk_us]
      · rw [ys_1, pk_us, ys_1, pk_un (by decide), e13]; rfl
    · right
      rw [if_neg d2, if_neg (show ¬ nI 1 = 0 by decide), if_neg (show ¬ nI 1 = 0 by decide)]
      refine ⟨d2, rfl, fun r _ => by show y1.2 r = _; rw [e2], fun k h1 h2 => ?_, ?_, ?_⟩
      · rw [ys_1, pk_un h2, ek k h1]
      · rw [ys_1, pk_un (by decide), e11]
      · rw [ys_1, pk_us, e13]; rfl
  · right
    rw [if_neg d, if_pos (show nI 0 = 0 from rfl)]
    refine ⟨d, fun r _ => rfl, fun k h1 h2 => ?_, ?_, ?_⟩
    · rw [ys_1, pk_un h2]
    · rw [ys_1, pk_un (by decide)]; exact h.2.1
    · rw [ys_1, pk_us, h13]; rfl
theorem ex_s (h : tY T L q y) (hL : L ≤ 60) (hq : q ≤ L) (h13 : y.1 13 = 0) {c : Int32} : (sgT T L q = c ∧ yP y (g_X12_expects y c) (q + 1) 0) ∨ (¬ sgT T L q = c ∧ yP y (g_X12_expects y c) q 1) := by
  unfold g_X12_expects
  rw [if_pos h13, sg_y h hL hq]
  by_cases d : sgT T L q = c
  · left
    rw [if_pos d]
    refine ⟨d, fun r _ => rfl, fun k h1 h2 => ?_, ?_, ?_⟩
    · rw [ys_1, pk_un h1, ys_1, pk_un h2]
    · rw [ys_1, pk_us, h.2.1]; exact nI_1 q
    · rw [ys_1, pk_un (by decide), ys_1, pk_us]
  · right
    rw [if_neg d]
    refine ⟨d, fun r _ => rfl, fun k h1 h2 => ?_, ?_, ?_⟩
    · rw [ys_1, pk_un h1, ys_1, pk_un h2]
    · rw [ys_1, pk_us, h.2.1]; exact nI_add q 0
    · rw [ys_1, pk_un (by decide), ys_1, pk_us]
theorem y01 : ¬ (1 : Int32) = 0 := z10
/-- what command w does, once read -/
def g_does (w : Nat) (y : kY) (a b c : Int32) : kY :=
  match w with
  | 0 => g_X12_does_0 y a b c
  | 1 => g_X12_does_1 y a b c
  | 2 => g_X12_does_2 y a b c
  | 3 => g_X12_does_3 y a b c
  | 4 => g_X12_does_4 y a b c
  | 5 => g_X12_does_5 y a b c
  | 6 => g_X12_does_6 y a b c
  | 7 => g_X12_does_7 y a b c
  | 8 => g_X12_does_8 y a b c
  | _ => g_X12_does_9 y a b c
def cmP (w : Nat) (y z : kY) : (Int32 × Int32 × Int32 × Nat) ⊕ Nat → Prop := Sum.elim (fun o => ∃ y2, yP y y2 o.2.2.2 0 ∧ z = if y.1 14 = 0 then y2 else g_does w y2 o.1 o.2.1 o.2.2.1) (fun e => yP y z e 1)
theorem cm_2 (h : tY T L q y) (hL : L ≤ 60) (hq : q ≤ L) (h13 : y.1 13 = 0) {w : Nat} (hw : w < 4 ∨ w = 5) : cmP w y (if (g_X12_digits y 1).1 13 = 0 then (if (g_X12_digits (g_X12_digits y 1) 1).1 13 = 0 then (if (g_X12_digits (g_X12_digits y 1) 1).1 14 = 0 then g_X12_digits (g_X12_digits y 1) 1 else g_does w (g_X12_digits (g_X12_digits y 1) 1) (f_X12_digits y 1) (f_X12_digits (g_X12_digits y 1) 1) 0) else g_X12_digits (g_X12_digits y 1) 1) else g_X12_digits y 1) (cpK (sgT T L) w q) := by
  unfold cpK
  rw [if_neg (show ¬ w = 8 by omega), if_neg (show ¬ (w = 7 ∨ w = 9) by omega), if_neg (show ¬ w = 4 by omega), if_neg (show ¬ w = 6 by omega)]
  rcases dg1 h hL hq h13 with ⟨d, e, p⟩ | ⟨d, p⟩
  · rw [if_pos p.2.2.2, if_pos d, e]
    have q1 := dg_in d
    rcases dg1 (yP_T h p) hL (by omega) p.2.2.2 with ⟨d2, e2, p2⟩ | ⟨d2, p2⟩
    · have p3 := yP_t p p2
      rw [if_pos p2.2.2.2, if_pos d2, e2, p3.2.1 14 (by decide) (by decide)]
      exact ⟨_, p3, rfl⟩
    · rw [p2.2.2.2, if_neg y01, if_neg d2]
      exact yP_t p p2
  · rw [p.2.2.2, if_neg y01, if_neg d]
    exact p
theorem cm_8 (h : tY T L q y) (hL : L ≤ 60) (hq : q ≤ L) (h13 : y.1 13 = 0) : cmP 8 y (g_cmd_8 y) (cpK (sgT T L) 8 q) := by
  unfold cpK g_cmd_8
  rw [if_pos (show 8 = 8 from rfl)]
  rcases dg1 h hL hq h13 with ⟨d, e, p⟩ | ⟨d, p⟩
  · rw [if_pos p.2.2.2, if_pos d, e, p.2.1 14 (by decide) (by decide)]
    exact ⟨_, p, rfl⟩
  · rw [p.2.2.2, if_neg y01, if_neg d]
    exact p
theorem cm_7 (h : tY T L q y) (hL : L ≤ 60) (hq : q ≤ L) (h13 : y.1 13 = 0) {w : Nat} (hw : w = 7 ∨ w = 9) : cmP w y (if (g_X12_digits y 2).1 13 = 0 then (if (g_X12_digits y 2).1 14 = 0 then g_X12_digits y 2 else g_does w (g_X12_digits y 2) (f_X12_digits y 2) 0 0) else g_X12_digits y 2) (cpK (sgT T L) w q) := by
  unfold cpK
  rw [if_neg (show ¬ w = 8 by omega), if_pos hw]
  rcases dg2 h hL hq h13 with ⟨d, ⟨d2, e, p⟩ | ⟨d2, e, p⟩⟩ | ⟨d, p⟩
  · rw [if_pos p.2.2.2, if_pos d, if_pos d2, e, p.2.1 14 (by decide) (by decide)]
    exact ⟨_, p, rfl⟩
  · rw [if_pos p.2.2.2, if_pos d, if_neg d2, e, p.2.1 14 (by decide) (by decide)]
    exact ⟨_, p, rfl⟩
  · rw [p.2.2.2, if_neg y01, if_neg d]
    exact p
theorem cm_4 (h : tY T L q y) (hL : L ≤ 60) (hq : q ≤ L) (h13 : y.1 13 = 0) : cmP 4 y (g_cmd_4 y) (cpK (sgT T L) 4 q) := by
  unfold cpK g_cmd_4 g_X12_behind f_X12_behind
  rw [if_neg (show ¬ 4 = 8 by omega), if_neg (show ¬ (4 = 7 ∨ 4 = 9) by omega), if_pos (show 4 = 4 from rfl)]
  rcases dg1 h hL hq h13 with ⟨d, e, p⟩ | ⟨d, p⟩
  · rw [if_pos p.2.2.2, if_pos d, e]
    have q1 := dg_in d
    have h1 := yP_T h p
    rcases ex_s h1 hL (by omega) p.2.2.2 (c := 64) with ⟨d2, p2⟩ | ⟨d2, p2⟩
    · have p3 := yP_t p p2
      have h2 := yP_T h p3
      have q2 : q + 1 < L := by
        by_cases c : q + 1 < L
        · exact c
        · rw [sgT_0 c] at d2; exact absurd d2 (by decide)
      rw [if_pos p2.2.2.2, if_pos p2.2.2.2, if_pos d2]
      rcases dg1 h2 hL (by omega) p3.2.2.2 with ⟨d3, e3, p4⟩ | ⟨d3, p4⟩
      · have p5 := yP_t p3 p4
        have h3 := yP_T h p5
        have q3 := dg_in d3
        rw [if_pos p5.2.2.2, if_pos d3, e3]
        rcases dg1 h3 hL (by omega) p5.2.2.2 with ⟨d4, e4, p6⟩ | ⟨d4, p6⟩
        · have p7 := yP_t p5 p6
          rw [if_pos p7.2.2.2, if_pos d4, e4, p7.2.1 14 (by decide) (by decide)]
          exact ⟨_, p7, rfl⟩
        · rw [p6.2.2.2, if_neg y01, if_neg d4]
          exact yP_t p5 p6
      · rw [p4.2.2.2, if_neg y01, if_neg d3]
        exact yP_t p3 p4
    · rw [p2.2.2.2, if_neg y01, if_neg y01, p2.2.2.2, if_neg y01, if_neg d2]
      exact yP_t p p2
  · rw [p.2.2.2, if_neg y01, if_neg d]
    exact p
theorem cm_6 (h : tY T L q y) (hL : L ≤ 60) (hq : q ≤ L) (h13 : y.1 13 = 0) : cmP 6 y (g_cmd_6 y) (cpK (sgT T L) 6 q) := by
  unfold cpK g_cmd_6 g_X12_behind f_X12_behind
  rw [if_neg (show ¬ 6 = 8 by omega), if_neg (show ¬ (6 = 7 ∨ 6 = 9) by omega), if_neg (show ¬ 6 = 4 by omega), if_pos (show 6 = 6 from rfl)]
  rcases dg1 h hL hq h13 with ⟨d, e, p⟩ | ⟨d, p⟩
  · rw [if_pos p.2.2.2, if_pos d, e]
    have q1 := dg_in d
    have h1 := yP_T h p
    rcases ex_s h1 hL (by omega) p.2.2.2 (c := 35) with ⟨d2, p2⟩ | ⟨d2, p2⟩
    · have p3 := yP_t p p2
      have h2 := yP_T h p3
      have q2 : q + 1 < L := by
        by_cases c : q + 1 < L
        · exact c
        · rw [sgT_0 c] at d2; exact absurd d2 (by decide)
      rw [if_pos p2.2.2.2, if_pos p2.2.2.2, if_pos d2]
      rcases dg2 h2 hL (by omega) p3.2.2.2 with ⟨d3, ⟨d4, e3, p4⟩ | ⟨d4, e3, p4⟩⟩ | ⟨d3, p4⟩
      · have p5 := yP_t p3 p4
        rw [if_pos p5.2.2.2, if_pos d3, if_pos d4, e3, p5.2.1 14 (by decide) (by decide)]
        exact ⟨_, p5, rfl⟩
      · have p5 := yP_t p3 p4
        rw [if_pos p5.2.2.2, if_pos d3, if_neg d4, e3, p5.2.1 14 (by decide) (by decide)]
        exact ⟨_, p5, rfl⟩
      · rw [p4.2.2.2, if_neg y01, if_neg d3]
        exact yP_t p3 p4
    · rw [p2.2.2.2, if_neg y01, if_neg y01, p2.2.2.2, if_neg y01, if_neg d2]
      exact yP_t p p2
  · rw [p.2.2.2, if_neg y01, if_neg d]
    exact p
theorem cm_w (h : tY T L q y) (hL : L ≤ 60) (hq : q ≤ L) (h13 : y.1 13 = 0) {w : Nat} (hw : w < 10) : cmP w y (g_cmd y w) (cpK (sgT T L) w q) :=
  match w, hw with
  | 0, _ => cm_2 h hL hq h13 (w := 0) (by omega)
  | 1, _ => cm_2 h hL hq h13 (w := 1) (by omega)
  | 2, _ => cm_2 h hL hq h13 (w := 2) (by omega)
  | 3, _ => cm_2 h hL hq h13 (w := 3) (by omega)
  | 4, _ => cm_4 h hL hq h13
  | 5, _ => cm_2 h hL hq h13 (w := 5) (by omega)
  | 6, _ => cm_6 h hL hq h13
  | 7, _ => cm_7 h hL hq h13 (w := 7) (by omega)
  | 8, _ => cm_8 h hL hq h13
  | 9, _ => cm_7 h hL hq h13 (w := 9) (by omega)
/-- a command is read, and done -/
theorem cm_s (hW : kWo y) (h : tY T L q y) (hL : L ≤ 60) (hq : q ≤ L) (h13 : y.1 13 = 0) : ∃ r n, kwP (fun i => sgT T L (q + i)) r n ∧ ((r = none ∧ yP y (g_X12_command y) (q + n) 1) ∨ ∃ w, w < 10 ∧ r = some w ∧ cmP w y (g_X12_command y) (cpK (sgT T L) w (q + n))) := by
  obtain ⟨r, n, k1, k2, k3, k4, k5⟩ := wd_s hW h hL hq h13
  refine ⟨r, n, k1, ?_⟩
  unfold g_X12_command
  rcases k5 with ⟨e, k5⟩ | ⟨w, e, k5, k6⟩
  · left
    rw [k5, if_neg y01]
    exact ⟨e, k4, k3, k2, k5⟩
  · right
    have hw : w < 10 := by
      rcases k1 with ⟨v, hv, e2, -⟩ | ⟨e2, -⟩
      · rw [e] at e2
        cases e2
        exact hv
      · rw [e] at e2
        cases e2
    have hqn := kwP_in hq k1
    have p : yP y (g_X12_word y) (q + n) 0 := ⟨k4, k3, k2, k5⟩
    rw [if_pos k5, k6, nI_clamp (show w < 2 ^ 31 by omega)]
    refine ⟨w, hw, e, ?_⟩
    have z := cm_w (yP_T h p) hL hqn k5 hw
    revert z
    generalize cpK (sgT T L) w (q + n) = o
    cases o with
    | inl o =>
      rintro ⟨y2, z1, z2⟩
      refine ⟨y2, yP_t p z1, ?_⟩
      rw [z2, p.2.1 14 (by decide) (by decide)]
    | inr o => exact fun z => yP_t p z
end CMY
