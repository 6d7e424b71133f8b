/-! THE CALLS THAT CHANGE, step by step on both sides. -/
def okI (o : kOut) (y : kY) (v : Int32) : Prop := o = .inl (some (.int v)) ∧ y.1 0 = 0
def exE (o : kOut) (y : kY) (E : String) (k : Int32) : Prop := o = .inr E ∧ y.1 0 = k
section STP
variable {t : Nat} {x : kK} {y : kY}
theorem act_ok (X : RX t x y) {f : Int32} {x1 x3 : kK} {y1 : kY} {code : Int32 → Int32} {vK vY : Int32} (ck : chOk x (g_X12_begins y) f x1 y1 code) (ac : kAc (g_X12_begins y) y1) (kp : kKp x x1) (cd : f = 0 → x1 = x → RI (t + 1) (x3.1 0) (y1.2 0) ∧ vK = vY) (q : kKq (remS x1 0) x3) :
    (f = 0 ∧ RX (t + 1) x3 (g_X12_ends y1 vY) ∧ vK = f_X12_ends y1 vY ∧ vK = vY ∧ (g_X12_ends y1 vY).1 0 = 0) ∨ (f ≠ 0 ∧ code f ≠ 0 ∧ RX (t + 1) x1 (g_X12_ends y1 vY) ∧ (g_X12_ends y1 vY).1 0 = code f) := by
  rcases ck with ⟨e, ex, h0, h4, h5⟩ | ⟨e, h0, hc, hv, hk⟩
  · left
    obtain ⟨R, v⟩ := cd e ex
    subst ex
    obtain ⟨r1, r2, r3⟩ := RX_ok X (t2 := t + 1) (by omega) q ac h0 h4 h5 R vY
    exact ⟨e, r1, v.trans r2.symm, v, r3⟩
  · right
    have hK : rxK x1 y1 := by
      rcases hk with ⟨rfl, h4, h5⟩ | ⟨r, d, -, rfl, h4, h5, -⟩
      · exact ⟨X.K.1.trans h4.symm, X.K.2.trans h5.symm⟩
      · refine ⟨?_, ?_⟩
        · rw [h4]
          show upd (upd x.2.1 9 r) 10 d 9 = r
          rw [pk_un (by decide), pk_us]
        · rw [h5]
          show upd (upd x.2.1 9 r) 10 d 10 = d
          rw [pk_us]
    obtain ⟨r1, r2⟩ := RX_no X (t2 := t + 1) (by omega) kp ac (by rw [h0]; exact hc) hK vY
    exact ⟨e, hc, r1, r2.trans h0⟩
theorem cA_cs {f : Int32} (h : cdA f ≠ 0) : (f = 1 ∧ cdA f = 1) ∨ (f = 4 ∧ cdA f = 2) := by
  unfold cdA at *
  by_cases h1 : f = 1
  · exact Or.inl ⟨h1, if_pos h1⟩
  · by_cases h4 : f = 4
    · exact Or.inr ⟨h4, by rw [if_neg h1, if_pos h4]⟩
    · rw [if_neg h1, if_neg h4] at h; exact absurd rfl h
theorem cB_cs {f : Int32} (h : cdB f ≠ 0) : (f = 1 ∧ cdB f = 1) ∨ (f = 3 ∧ cdB f = 2) ∨ (f = 4 ∧ cdB f = 3) := by
  unfold cdB at *
  by_cases h1 : f = 1
  · exact Or.inl ⟨h1, if_pos h1⟩
  · by_cases h3 : f = 3
    · exact Or.inr (Or.inl ⟨h3, by rw [if_neg h1, if_pos h3]⟩)
    · by_cases h4 : f = 4
      · exact Or.inr (Or.inr ⟨h4, by rw [if_neg h1, if_neg h3, if_pos h4]⟩)
      · rw [if_neg h1, if_neg h3, if_neg h4] at h; exact absurd rfl h
theorem cC_cs {f : Int32} (h : cdC f ≠ 0) : (f = 1 ∧ cdC f = 1) ∨ (f = 2 ∧ cdC f = 2) ∨ (f = 4 ∧ cdC f = 3) := by
  unfold cdC at *
  by_cases h1 : f = 1
  · exact Or.inl ⟨h1, if_pos h1⟩
  · by_cases h3 : f = 2
    · exact Or.inr (Or.inl ⟨h3, by rw [if_neg h1, if_pos h3]⟩)
    · by_cases h4 : f = 4
      · exact Or.inr (Or.inr ⟨h4, by rw [if_neg h1, if_neg h3, if_pos h4]⟩)
      · rw [if_neg h1, if_neg h3, if_neg h4] at h; exact absurd rfl h
theorem cD_cs {f : Int32} (h : cdD f ≠ 0) : (f = 2 ∧ cdD f = 1) ∨ (f = 3 ∧ cdD f = 2) := by
  unfold cdD at *
  by_cases h1 : f = 2
  · exact Or.inl ⟨h1, if_pos h1⟩
  · by_cases h3 : f = 3
    · exact Or.inr ⟨h3, by rw [if_neg h1, if_pos h3]⟩
    · rw [if_neg h1, if_neg h3] at h; exact absurd rfl h
theorem RX.b (X : RX t x y) : RI t (x.1 0) ((g_X12_begins y).2 0) := X.R
theorem beg_0 : (g_X12_begins y).1 0 = 0 := rfl
theorem rem00 : (remS x 0).1 0 = x.1 0 := rem_c (by decide)
theorem ck_hears2 {x : kK} {y : kY} (R : RI t (x.1 0) (y.2 0)) (ht : t < 2 ^ 20) (h0 : y.1 0 = 0) {a : Int32} : chOk x y (f_X11_checkHearing x a) (g_X11_checkHearing x a) (g_X12_hears y a) cdA := by
  rcases ck_hears R (by omega) a with ⟨e1, e2, e3⟩ | ⟨r, d, hr, e1, e2, e3⟩ | ⟨e1, e2, -⟩
  · rw [e1, e2, e3]; exact ch_fail (by decide) rfl (by decide)
  · rw [e1, e2, e3]; exact ch_ref rfl (by decide) hr
  · have c := (cd_hears R (by omega) e1 (x2 := x) rfl).2.2
    exact Or.inl ⟨e1, e2, by rw [c]; exact h0, by rw [c], by rw [c]⟩
theorem cd_hears2 {x x2 : kK} {y : kY} (R : RI t (x.1 0) (y.2 0)) (ht : t < 2 ^ 20) {a : Int32} (hf : f_X11_checkHearing x a = 0) (hx : x2.1 0 = x.1 0) : RI (t + 1) ((g_X11_holdHearing x2 a).1 0) ((g_X12_hears y a).2 0) ∧ f_X11_holdHearing x2 a = f_X12_hears y a := by
  have c := cd_hears R (by omega) hf hx
  exact ⟨c.1.mono (by omega) (by omega), c.2.1⟩
theorem s_setTree (X : RX t x y) (ht : t < 2 ^ 20) {a b c : Int32} : RX (t + 1) (g_X11_setTree x a b c) (g_X12_setTree y a b c) ∧ (okI (o_X11_setTree x a b c) (g_X12_setTree y a b c) (f_X12_setTree y a b c) ∨ exE (o_X11_setTree x a b c) (g_X12_setTree y a b c) "java/lang/IndexOutOfBoundsException" 1 ∨ exE (o_X11_setTree x a b c) (g_X12_setTree y a b c) "java/lang/UnsupportedOperationException" 2) := by
  have h := act_ok X (f := f_X11_checkTree x a b c) (x1 := g_X11_checkTree x a b c) (x3 := g_X11_plant (remS (g_X11_checkTree x a b c) 0) a b c) (y1 := g_X12_plants (g_X12_begins y) a b c) (vK := f_X11_plant (remS (g_X11_checkTree x a b c) 0) a b c) (vY := f_X12_plants (g_X12_begins y) a b c) (ck_plants X.b rfl) ac_plants kp_checkTree (fun hf ex => by rw [ex]; exact cd_plants X.b hf (rem00)) q_plant
  rcases h with ⟨e, r1, r2, r3, r4⟩ | ⟨e, ec, r1, r2⟩
  · have eo : o_X11_setTree x a b c = .inl (some (.int (f_X11_plant (remS (g_X11_checkTree x a b c) 0) a b c))) := by unfold o_X11_setTree; rw [if_neg (show ¬ f_X11_checkTree x a b c = 1 by rw [e]; decide), if_neg (show ¬ f_X11_checkTree x a b c = 4 by rw [e]; decide)]
    have eg : g_X11_setTree x a b c = g_X11_plant (remS (g_X11_checkTree x a b c) 0) a b c := by unfold g_X11_setTree; rw [if_neg (show ¬ f_X11_checkTree x a b c = 1 by rw [e]; decide), if_neg (show ¬ f_X11_checkTree x a b c = 4 by rw [e]; decide)]
    rw [eg]
    exact ⟨r1, Or.inl ⟨eo.trans (by rw [r2]; rfl), r4⟩⟩
  · have cc := cA_cs ec
    rcases cc with ⟨e1, e2⟩ | ⟨e1, e2⟩
    · have eo : o_X11_setTree x a b c = .inr "java/lang/IndexOutOfBoundsException" := by unfold o_X11_setTree; rw [if_pos e1]
      have eg : g_X11_setTree x a b c = g_X11_checkTree x a b c := by unfold g_X11_setTree; rw [if_pos e1]
      rw [eg]
      exact ⟨r1, Or.inr ((Or.inl ⟨eo, r2.trans e2⟩))⟩
    · have eo : o_X11_setTree x a b c = .inr "java/lang/UnsupportedOperationException" := by unfold o_X11_setTree; rw [if_neg (show ¬ f_X11_checkTree x a b c = 1 by rw [e1]; decide), if_pos e1]
      have eg : g_X11_setTree x a b c = g_X11_checkTree x a b c := by unfold g_X11_setTree; rw [if_neg (show ¬ f_X11_checkTree x a b c = 1 by rw [e1]; decide), if_pos e1]
      rw [eg]
      exact ⟨r1, Or.inr (Or.inr (⟨eo, r2.trans e2⟩))⟩
theorem s_setBench (X : RX t x y) (ht : t < 2 ^ 20) {a b : Int32} : RX (t + 1) (g_X11_setBench x a b) (g_X12_setBench y a b) ∧ (okI (o_X11_setBench x a b) (g_X12_setBench y a b) (f_X12_setBench y a b) ∨ exE (o_X11_setBench x a b) (g_X12_setBench y a b) "java/lang/IndexOutOfBoundsException" 1 ∨ exE (o_X11_setBench x a b) (g_X12_setBench y a b) "java/lang/UnsupportedOperationException" 2) := by
  have h := act_ok X (f := f_X11_checkBench x a b) (x1 := g_X11_checkBench x a b) (x3 := g_X11_placeBench (remS (g_X11_checkBench x a b) 0) a b) (y1 := g_X12_benches (g_X12_begins y) a b) (vK := f_X11_placeBench (remS (g_X11_checkBench x a b) 0) a b) (vY := f_X12_benches (g_X12_begins y) a b) (ck_benches X.b rfl) ac_benches kp_checkBench (fun hf ex => by rw [ex]; exact cd_benches X.b hf rem00) kKq_S
  rcases h with ⟨e, r1, r2, r3, r4⟩ | ⟨e, ec, r1, r2⟩
  · have eo : o_X11_setBench x a b = .inl (some (.int (f_X11_placeBench (remS (g_X11_checkBench x a b) 0) a b))) := by unfold o_X11_setBench; rw [if_neg (show ¬ f_X11_checkBench x a b = 1 by rw [e]; decide), if_neg (show ¬ f_X11_checkBench x a b = 4 by rw [e]; decide)]
    have eg : g_X11_setBench x a b = g_X11_placeBench (remS (g_X11_checkBench x a b) 0) a b := by unfold g_X11_setBench; rw [if_neg (show ¬ f_X11_checkBench x a b = 1 by rw [e]; decide), if_neg (show ¬ f_X11_checkBench x a b = 4 by rw [e]; decide)]
    rw [eg]
    exact ⟨r1, Or.inl ⟨eo.trans (by rw [r2]; rfl), r4⟩⟩
  · have cc := cA_cs ec
    rcases cc with ⟨e1, e2⟩ | ⟨e1, e2⟩
    · have eo : o_X11_setBench x a b = .inr "java/lang/IndexOutOfBoundsException" := by unfold o_X11_setBench; rw [if_pos e1]
      have eg : g_X11_setBench x a b = g_X11_checkBench x a b := by unfold g_X11_setBench; rw [if_pos e1]
      rw [eg]
      exact ⟨r1, Or.inr ((Or.inl ⟨eo, r2.trans e2⟩))⟩
    · have eo : o_X11_setBench x a b = .inr "java/lang/UnsupportedOperationException" := by unfold o_X11_setBench; rw [if_neg (show ¬ f_X11_checkBench x a b = 1 by rw [e1]; decide), if_pos e1]
      have eg : g_X11_setBench x a b = g_X11_checkBench x a b := by unfold g_X11_setBench; rw [if_neg (show ¬ f_X11_checkBench x a b = 1 by rw [e1]; decide), if_pos e1]
      rw [eg]
      exact ⟨r1, Or.inr (Or.inr (⟨eo, r2.trans e2⟩))⟩
theorem s_setWind (X : RX t x y) (ht : t < 2 ^ 20) {a b : Int32} : RX (t + 1) (g_X11_setWind x a b) (g_X12_setWind y a b) ∧ (okI (o_X11_setWind x a b) (g_X12_setWind y a b) (f_X12_setWind y a b) ∨ exE (o_X11_setWind x a b) (g_X12_setWind y a b) "java/lang/IllegalArgumentException" 1) := by
  have h := act_ok X (f := f_X11_checkWind a b) (x1 := x) (x3 := g_X11_turnWind (remS (x) 0) a b) (y1 := g_X12_blows (g_X12_begins y) a b) (vK := f_X11_turnWind (remS (x) 0) a b) (vY := f_X12_blows (g_X12_begins y) a b) (ck_blows rfl) ac_blows kKp_r (fun hf ex => by rw [ex]; exact cd_blows X.b hf rem00) (kKq_t kKq_S kKq_S)
  rcases h with ⟨e, r1, r2, r3, r4⟩ | ⟨e, ec, r1, r2⟩
  · have eo : o_X11_setWind x a b = .inl (some (.int (f_X11_turnWind (remS (x) 0) a b))) := by unfold o_X11_setWind; rw [if_pos e]
    have eg : g_X11_setWind x a b = g_X11_turnWind (remS (x) 0) a b := by unfold g_X11_setWind; rw [if_pos e]
    rw [eg]
    exact ⟨r1, Or.inl ⟨eo.trans (by rw [r2]; rfl), r4⟩⟩
  · have cc := cD_cs ec
    rcases cc with ⟨e1, e2⟩ | ⟨e1, e2⟩
    · have eo : o_X11_setWind x a b = .inr "java/lang/IllegalArgumentException" := by unfold o_X11_setWind; rw [if_neg e]
      have eg : g_X11_setWind x a b = x := by unfold g_X11_setWind; rw [if_neg e]
      rw [eg]
      exact ⟨r1, Or.inr (⟨eo, r2.trans e2⟩)⟩
    · rcases wd_cs a b with ⟨q, -⟩ | ⟨q, -⟩ <;> rw [q] at e1 <;> exact absurd e1 (by decide)
theorem s_addParty (X : RX t x y) (ht : t < 2 ^ 20) {a b : Int32} : RX (t + 1) (g_X11_addParty x a b) (g_X12_addParty y a b) ∧ (okI (o_X11_addParty x a b) (g_X12_addParty y a b) (f_X12_addParty y a b) ∨ exE (o_X11_addParty x a b) (g_X12_addParty y a b) "java/lang/IndexOutOfBoundsException" 1 ∨ exE (o_X11_addParty x a b) (g_X12_addParty y a b) "java/lang/IllegalStateException" 2 ∨ exE (o_X11_addParty x a b) (g_X12_addParty y a b) "java/lang/UnsupportedOperationException" 3) := by
  have h := act_ok X (f := f_X11_checkNewParty x a b) (x1 := g_X11_checkNewParty x a b) (x3 := g_X11_seatParty (remS (g_X11_checkNewParty x a b) 0) a b) (y1 := g_X12_adds (g_X12_begins y) a b) (vK := f_X11_seatParty (remS (g_X11_checkNewParty x a b) 0) a b) (vY := f_X12_adds (g_X12_begins y) a b) (ck_adds X.b rfl) ac_adds kp_checkNewParty (fun hf ex => by rw [ex]; exact cd_adds X.b hf rem00) q_seat
  rcases h with ⟨e, r1, r2, r3, r4⟩ | ⟨e, ec, r1, r2⟩
  · have eo : o_X11_addParty x a b = .inl (some (.int (f_X11_seatParty (remS (g_X11_checkNewParty x a b) 0) a b))) := by unfold o_X11_addParty; rw [if_neg (show ¬ f_X11_checkNewParty x a b = 1 by rw [e]; decide), if_neg (show ¬ f_X11_checkNewParty x a b = 3 by rw [e]; decide), if_neg (show ¬ f_X11_checkNewParty x a b = 4 by rw [e]; decide)]
    have eg : g_X11_addParty x a b = g_X11_seatParty (remS (g_X11_checkNewParty x a b) 0) a b := by unfold g_X11_addParty; rw [if_neg (show ¬ f_X11_checkNewParty x a b = 1 by rw [e]; decide), if_neg (show ¬ f_X11_checkNewParty x a b = 3 by rw [e]; decide), if_neg (show ¬ f_X11_checkNewParty x a b = 4 by rw [e]; decide)]
    rw [eg]
    exact ⟨r1, Or.inl ⟨eo.trans (by rw [r2]; rfl), r4⟩⟩
  · have cc := cB_cs ec
    rcases cc with ⟨e1, e2⟩ | ⟨e1, e2⟩ | ⟨e1, e2⟩
    · have eo : o_X11_addParty x a b = .inr "java/lang/IndexOutOfBoundsException" := by unfold o_X11_addParty; rw [if_pos e1]
      have eg : g_X11_addParty x a b = g_X11_checkNewParty x a b := by unfold g_X11_addParty; rw [if_pos e1]
      rw [eg]
      exact ⟨r1, Or.inr ((Or.inl ⟨eo, r2.trans e2⟩))⟩
    · have eo : o_X11_addParty x a b = .inr "java/lang/IllegalStateException" := by unfold o_X11_addParty; rw [if_neg (show ¬ f_X11_checkNewParty x a b = 1 by rw [e1]; decide), if_pos e1]
      have eg : g_X11_addParty x a b = g_X11_checkNewParty x a b := by unfold g_X11_addParty; rw [if_neg (show ¬ f_X11_checkNewParty x a b = 1 by rw [e1]; decide), if_pos e1]
      rw [eg]
      exact ⟨r1, Or.inr (Or.inr ((Or.inl ⟨eo, r2.trans e2⟩)))⟩
    · have eo : o_X11_addParty x a b = .inr "java/lang/UnsupportedOperationException" := by unfold o_X11_addParty; rw [if_neg (show ¬ f_X11_checkNewParty x a b = 1 by rw [e1]; decide), if_neg (show ¬ f_X11_checkNewParty x a b = 3 by rw [e1]; decide), if_pos e1]
      have eg : g_X11_addParty x a b = g_X11_checkNewParty x a b := by unfold g_X11_addParty; rw [if_neg (show ¬ f_X11_checkNewParty x a b = 1 by rw [e1]; decide), if_neg (show ¬ f_X11_checkNewParty x a b = 3 by rw [e1]; decide), if_pos e1]
      rw [eg]
      exact ⟨r1, Or.inr (Or.inr (Or.inr (⟨eo, r2.trans e2⟩)))⟩
theorem s_moveParty (X : RX t x y) (ht : t < 2 ^ 20) {a b c : Int32} : RX (t + 1) (g_X11_moveParty x a b c) (g_X12_moveParty y a b c) ∧ (okI (o_X11_moveParty x a b c) (g_X12_moveParty y a b c) (f_X12_moveParty y a b c) ∨ exE (o_X11_moveParty x a b c) (g_X12_moveParty y a b c) "java/lang/IndexOutOfBoundsException" 1 ∨ exE (o_X11_moveParty x a b c) (g_X12_moveParty y a b c) "java/lang/UnsupportedOperationException" 2) := by
  have h := act_ok X (f := f_X11_checkMove x a b c) (x1 := g_X11_checkMove x a b c) (x3 := g_X11_shiftParty (remS (g_X11_checkMove x a b c) 0) a b c) (y1 := g_X12_moves (g_X12_begins y) a b c) (vK := f_X11_shiftParty (remS (g_X11_checkMove x a b c) 0) a b c) (vY := f_X12_moves (g_X12_begins y) a b c) (ck_moves X.b rfl) ac_moves kp_checkMove (fun hf ex => by rw [ex]; exact cd_moves X.b hf rem00) kKq_R
  rcases h with ⟨e, r1, r2, r3, r4⟩ | ⟨e, ec, r1, r2⟩
  · have eo : o_X11_moveParty x a b c = .inl (some (.int (f_X11_shiftParty (remS (g_X11_checkMove x a b c) 0) a b c))) := by unfold o_X11_moveParty; rw [if_neg (show ¬ f_X11_checkMove x a b c = 1 by rw [e]; decide), if_neg (show ¬ f_X11_checkMove x a b c = 4 by rw [e]; decide)]
    have eg : g_X11_moveParty x a b c = g_X11_shiftParty (remS (g_X11_checkMove x a b c) 0) a b c := by unfold g_X11_moveParty; rw [if_neg (show ¬ f_X11_checkMove x a b c = 1 by rw [e]; decide), if_neg (show ¬ f_X11_checkMove x a b c = 4 by rw [e]; decide)]
    rw [eg]
    exact ⟨r1, Or.inl ⟨eo.trans (by rw [r2]; rfl), r4⟩⟩
  · have cc := cA_cs ec
    rcases cc with ⟨e1, e2⟩ | ⟨e1, e2⟩
    · have eo : o_X11_moveParty x a b c = .inr "java/lang/IndexOutOfBoundsException" := by unfold o_X11_moveParty; rw [if_pos e1]
      have eg : g_X11_moveParty x a b c = g_X11_checkMove x a b c := by unfold g_X11_moveParty; rw [if_pos e1]
      rw [eg]
      exact ⟨r1, Or.inr ((Or.inl ⟨eo, r2.trans e2⟩))⟩
    · have eo : o_X11_moveParty x a b c = .inr "java/lang/UnsupportedOperationException" := by unfold o_X11_moveParty; rw [if_neg (show ¬ f_X11_checkMove x a b c = 1 by rw [e1]; decide), if_pos e1]
      have eg : g_X11_moveParty x a b c = g_X11_checkMove x a b c := by unfold g_X11_moveParty; rw [if_neg (show ¬ f_X11_checkMove x a b c = 1 by rw [e1]; decide), if_pos e1]
      rw [eg]
      exact ⟨r1, Or.inr (Or.inr (⟨eo, r2.trans e2⟩))⟩
theorem tv_01 {x : kK} {a b : Int32} : f_X11_throwAt x a b = 0 ∨ f_X11_throwAt x a b = 1 := by
  unfold f_X11_throwAt
  split
  · left; split <;> rfl
  · right; rfl
theorem s_summon (X : RX t x y) (ht : t < 2 ^ 20) {a b : Int32} : RX (t + 1) (g_X11_summon x a b) (g_X12_summon y a b) ∧ (okI (o_X11_summon x a b) (g_X12_summon y a b) (f_X12_summon y a b) ∨ exE (o_X11_summon x a b) (g_X12_summon y a b) "java/lang/IndexOutOfBoundsException" 1 ∨ exE (o_X11_summon x a b) (g_X12_summon y a b) "java/lang/IllegalArgumentException" 2 ∨ exE (o_X11_summon x a b) (g_X12_summon y a b) "java/lang/UnsupportedOperationException" 3) := by
  have h := act_ok X (f := f_X11_checkSummons x a b) (x1 := g_X11_checkSummons x a b) (x3 := g_X11_throwAt (remS (g_X11_checkSummons x a b) 0) a b) (y1 := g_X12_summons (g_X12_begins y) a b) (vK := f_X11_throwAt (remS (g_X11_checkSummons x a b) 0) a b) (vY := f_X12_summons (g_X12_begins y) a b) (ck_summons X.b ht rfl) ac_summons kp_checkSummons (fun hf ex => by rw [ex]; exact cd_summons X.b ht hf rem00) q_throwAt
  have g1 : g_X12_summon y a b = g_X12_ends (g_X12_summons (g_X12_begins y) a b) (f_X12_summons (g_X12_begins y) a b) := by unfold g_X12_summon; exact ite_self _
  rcases h with ⟨e, r1, r2, r3, r4⟩ | ⟨e, ec, r1, r2⟩
  · have eo : o_X11_summon x a b = .inl (some (.int (f_X11_throwAt (remS (g_X11_checkSummons x a b) 0) a b))) := by unfold o_X11_summon; rw [if_neg (show ¬ f_X11_checkSummons x a b = 1 by rw [e]; decide), if_neg (show ¬ f_X11_checkSummons x a b = 2 by rw [e]; decide), if_neg (show ¬ f_X11_checkSummons x a b = 4 by rw [e]; decide)]
    have eg : g_X11_summon x a b = g_X11_throwAt (remS (g_X11_checkSummons x a b) 0) a b := by unfold g_X11_summon; rw [if_neg (show ¬ f_X11_checkSummons x a b = 1 by rw [e]; decide), if_neg (show ¬ f_X11_checkSummons x a b = 2 by rw [e]; decide), if_neg (show ¬ f_X11_checkSummons x a b = 4 by rw [e]; decide)]
    rw [eg, g1]
    have fs : f_X11_throwAt (remS (g_X11_checkSummons x a b) 0) a b = f_X12_summon y a b := by
      unfold f_X12_summon
      rw [← r2]
      rcases tv_01 (x := remS (g_X11_checkSummons x a b) 0) (a := a) (b := b) with q | q
      · rw [q]; rfl
      · rw [q]; rfl
    rw [fs] at eo
    exact ⟨r1, Or.inl ⟨eo, r4⟩⟩
  · have cc := cC_cs ec
    rcases cc with ⟨e1, e2⟩ | ⟨e1, e2⟩ | ⟨e1, e2⟩
    · have eo : o_X11_summon x a b = .inr "java/lang/IndexOutOfBoundsException" := by unfold o_X11_summon; rw [if_pos e1]
      have eg : g_X11_summon x a b = g_X11_checkSummons x a b := by unfold g_X11_summon; rw [if_pos e1]
      rw [eg, g1]
      exact ⟨r1, Or.inr ((Or.inl ⟨eo, r2.trans e2⟩))⟩
    · have eo : o_X11_summon x a b = .inr "java/lang/IllegalArgumentException" := by unfold o_X11_summon; rw [if_neg (show ¬ f_X11_checkSummons x a b = 1 by rw [e1]; decide), if_pos e1]
      have eg : g_X11_summon x a b = g_X11_checkSummons x a b := by unfold g_X11_summon; rw [if_neg (show ¬ f_X11_checkSummons x a b = 1 by rw [e1]; decide), if_pos e1]
      rw [eg, g1]
      exact ⟨r1, Or.inr (Or.inr ((Or.inl ⟨eo, r2.trans e2⟩)))⟩
    · have eo : o_X11_summon x a b = .inr "java/lang/UnsupportedOperationException" := by unfold o_X11_summon; rw [if_neg (show ¬ f_X11_checkSummons x a b = 1 by rw [e1]; decide), if_neg (show ¬ f_X11_checkSummons x a b = 2 by rw [e1]; decide), if_pos e1]
      have eg : g_X11_summon x a b = g_X11_checkSummons x a b := by unfold g_X11_summon; rw [if_neg (show ¬ f_X11_checkSummons x a b = 1 by rw [e1]; decide), if_neg (show ¬ f_X11_checkSummons x a b = 2 by rw [e1]; decide), if_pos e1]
      rw [eg, g1]
      exact ⟨r1, Or.inr (Or.inr (Or.inr (⟨eo, r2.trans e2⟩)))⟩
theorem s_buyBoomerangs (X : RX t x y) (ht : t < 2 ^ 20) {a : Int32} : RX (t + 1) (g_X11_buyBoomerangs x a) (g_X12_buyBoomerangs y a) ∧ (okI (o_X11_buyBoomerangs x a) (g_X12_buyBoomerangs y a) (f_X12_buyBoomerangs y a) ∨ exE (o_X11_buyBoomerangs x a) (g_X12_buyBoomerangs y a) "java/lang/IllegalArgumentException" 1 ∨ exE (o_X11_buyBoomerangs x a) (g_X12_buyBoomerangs y a) "java/lang/IllegalStateException" 2) := by
  have h := act_ok X (f := f_X11_checkPurchase x a) (x1 := x) (x3 := g_X11_purchase (remS (x) 0) a) (y1 := g_X12_buys (g_X12_begins y) a) (vK := f_X11_purchase (remS (x) 0) a) (vY := f_X12_buys (g_X12_begins y) a) (ck_buys X.b rfl) ac_buys kKp_r (fun hf ex => by rw [ex]; exact cd_buys X.b hf rem00) (kKq_t (kKq_t kKq_S kKq_S) kKq_S)
  rcases h with ⟨e, r1, r2, r3, r4⟩ | ⟨e, ec, r1, r2⟩
  · have eo : o_X11_buyBoomerangs x a = .inl (some (.int (f_X11_purchase (remS (x) 0) a))) := by unfold o_X11_buyBoomerangs; rw [if_neg (show ¬ f_X11_checkPurchase x a = 2 by rw [e]; decide), if_neg (show ¬ f_X11_checkPurchase x a = 3 by rw [e]; decide)]
    have eg : g_X11_buyBoomerangs x a = g_X11_purchase (remS (x) 0) a := by unfold g_X11_buyBoomerangs; rw [if_neg (show ¬ f_X11_checkPurchase x a = 2 by rw [e]; decide), if_neg (show ¬ f_X11_checkPurchase x a = 3 by rw [e]; decide)]
    rw [eg]
    exact ⟨r1, Or.inl ⟨eo.trans (by rw [r2]; rfl), r4⟩⟩
  · have cc := cD_cs ec
    rcases cc with ⟨e1, e2⟩ | ⟨e1, e2⟩
    · have eo : o_X11_buyBoomerangs x a = .inr "java/lang/IllegalArgumentException" := by unfold o_X11_buyBoomerangs; rw [if_pos e1]
      have eg : g_X11_buyBoomerangs x a = x := by unfold g_X11_buyBoomerangs; rw [if_pos e1]
      rw [eg]
      exact ⟨r1, Or.inr ((Or.inl ⟨eo, r2.trans e2⟩))⟩
    · have eo : o_X11_buyBoomerangs x a = .inr "java/lang/IllegalStateException" := by unfold o_X11_buyBoomerangs; rw [if_neg (show ¬ f_X11_checkPurchase x a = 2 by rw [e1]; decide), if_pos e1]
      have eg : g_X11_buyBoomerangs x a = x := by unfold g_X11_buyBoomerangs; rw [if_neg (show ¬ f_X11_checkPurchase x a = 2 by rw [e1]; decide), if_pos e1]
      rw [eg]
      exact ⟨r1, Or.inr (Or.inr (⟨eo, r2.trans e2⟩))⟩
theorem s_hear (X : RX t x y) (ht : t < 2 ^ 20) {a : Int32} : RX (t + 1) (g_X11_hear x a) (g_X12_hear y a) ∧ (okI (o_X11_hear x a) (g_X12_hear y a) (f_X12_hear y a) ∨ exE (o_X11_hear x a) (g_X12_hear y a) "java/lang/IndexOutOfBoundsException" 1 ∨ exE (o_X11_hear x a) (g_X12_hear y a) "java/lang/UnsupportedOperationException" 2) := by
  have h := act_ok X (f := f_X11_checkHearing x a) (x1 := g_X11_checkHearing x a) (x3 := g_X11_holdHearing (remS (g_X11_checkHearing x a) 0) a) (y1 := g_X12_hears (g_X12_begins y) a) (vK := f_X11_holdHearing (remS (g_X11_checkHearing x a) 0) a) (vY := f_X12_hears (g_X12_begins y) a) (ck_hears2 X.b ht rfl) ac_hears kp_checkHearing (fun hf ex => by rw [ex]; exact cd_hears2 X.b ht hf rem00) q_hold
  rcases h with ⟨e, r1, r2, r3, r4⟩ | ⟨e, ec, r1, r2⟩
  · have eo : o_X11_hear x a = .inl (some (.int (f_X11_holdHearing (remS (g_X11_checkHearing x a) 0) a))) := by unfold o_X11_hear; rw [if_neg (show ¬ f_X11_checkHearing x a = 1 by rw [e]; decide), if_neg (show ¬ f_X11_checkHearing x a = 4 by rw [e]; decide)]
    have eg : g_X11_hear x a = g_X11_holdHearing (remS (g_X11_checkHearing x a) 0) a := by unfold g_X11_hear; rw [if_neg (show ¬ f_X11_checkHearing x a = 1 by rw [e]; decide), if_neg (show ¬ f_X11_checkHearing x a = 4 by rw [e]; decide)]
    rw [eg]
    exact ⟨r1, Or.inl ⟨eo.trans (by rw [r2]; rfl), r4⟩⟩
  · have cc := cA_cs ec
    rcases cc with ⟨e1, e2⟩ | ⟨e1, e2⟩
    · have eo : o_X11_hear x a = .inr "java/lang/IndexOutOfBoundsException" := by unfold o_X11_hear; rw [if_pos e1]
      have eg : g_X11_hear x a = g_X11_checkHearing x a := by unfold g_X11_hear; rw [if_pos e1]
      rw [eg]
      exact ⟨r1, Or.inr ((Or.inl ⟨eo, r2.trans e2⟩))⟩
    · have eo : o_X11_hear x a = .inr "java/lang/UnsupportedOperationException" := by unfold o_X11_hear; rw [if_neg (show ¬ f_X11_checkHearing x a = 1 by rw [e1]; decide), if_pos e1]
      have eg : g_X11_hear x a = g_X11_checkHearing x a := by unfold g_X11_hear; rw [if_neg (show ¬ f_X11_checkHearing x a = 1 by rw [e1]; decide), if_pos e1]
      rw [eg]
      exact ⟨r1, Or.inr (Or.inr (⟨eo, r2.trans e2⟩))⟩
theorem s_pass (X : RX t x y) (ht : t < 2 ^ 20) {a : Int32} : RX (t + 1) (g_X11_pass x a) (g_X12_pass y a) ∧ (okI (o_X11_pass x a) (g_X12_pass y a) (f_X12_pass y a) ∨ exE (o_X11_pass x a) (g_X12_pass y a) "java/lang/IllegalArgumentException" 1) := by
  have h := act_ok X (f := f_X11_checkPassing a) (x1 := x) (x3 := g_X11_passHours (remS (x) 0) a) (y1 := g_X12_passes (g_X12_begins y) a) (vK := f_X11_passHours (remS (x) 0) a) (vY := f_X12_passes (g_X12_begins y) a) (ck_passes X.b (by omega) rfl) ac_passes kKp_r (fun hf ex => by rw [ex]; exact cd_passes X.b (by omega) hf rem00) q_paL
  rcases h with ⟨e, r1, r2, r3, r4⟩ | ⟨e, ec, r1, r2⟩
  · have eo : o_X11_pass x a = .inl (some (.int (f_X11_passHours (remS (x) 0) a))) := by unfold o_X11_pass; rw [if_pos e]
    have eg : g_X11_pass x a = g_X11_passHours (remS (x) 0) a := by unfold g_X11_pass; rw [if_pos e]
    rw [eg]
    exact ⟨r1, Or.inl ⟨eo.trans (by rw [r2]; rfl), r4⟩⟩
  · have cc := cD_cs ec
    rcases cc with ⟨e1, e2⟩ | ⟨e1, e2⟩
    · have eo : o_X11_pass x a = .inr "java/lang/IllegalArgumentException" := by unfold o_X11_pass; rw [if_neg e]
      have eg : g_X11_pass x a = x := by unfold g_X11_pass; rw [if_neg e]
      rw [eg]
      exact ⟨r1, Or.inr (⟨eo, r2.trans e2⟩)⟩
    · rcases ps_cs a with ⟨q, -⟩ | ⟨q, -⟩ <;> rw [q] at e1 <;> exact absurd e1 (by decide)
theorem sv_01 {x : kK} {a : Int32} : f_X3_sitsAt x a = 0 ∨ f_X3_sitsAt x a = 1 := by
  unfold f_X3_sitsAt
  split
  · left; rfl
  · right; rfl
theorem s_setSitting (X : RX t x y) {a b : Int32} : RX (t + 1) (g_X11_setSitting x a b) (g_X12_setSitting y a b) ∧ (okI (o_X11_setSitting x a b) (g_X12_setSitting y a b) (f_X12_setSitting y a b) ∨ exE (o_X11_setSitting x a b) (g_X12_setSitting y a b) "java/lang/IndexOutOfBoundsException" 1) := by
  have g1 : g_X12_setSitting y a b = g_X12_ends (g_X12_seats (g_X12_begins y) a b) (f_X12_seats (g_X12_begins y) a b) := by unfold g_X12_setSitting; exact ite_self _
  have i23 : f_X12_isIn a 0 23 = f_X12_isIn a 0 (nI 24 - 1) := by rw [show (23 : Int32) = nI 24 - 1 by decide]
  rcases in_cs a (n := 24) (by omega) with ⟨i1, i2⟩ | ⟨i1, p, hp, rfl⟩
  · have gs : g_X12_seats (g_X12_begins y) a b = g_X12_fail (g_X12_begins y) 1 := by unfold g_X12_seats; rw [i23, i1, if_pos rfl]
    have eo : o_X11_setSitting x a b = .inr "java/lang/IndexOutOfBoundsException" ∧ g_X11_setSitting x a b = x := by
      unfold o_X11_setSitting g_X11_setSitting
      rcases i2 with z | z
      · rw [if_pos z, if_pos z]; exact ⟨rfl, rfl⟩
      · have z2 : ¬ a < 24 := Int32.not_lt.2 z
        rw [if_neg z2, if_neg z2, ite_self, ite_self]; exact ⟨rfl, rfl⟩
    rw [g1, gs, eo.2]
    obtain ⟨r1, r2⟩ := RX_no X (t2 := t + 1) (by omega) kKp_r (ac_fail (x := g_X12_begins y) (a := 1)) (by show (1 : Int32) ≠ 0; decide) ⟨X.K.1, X.K.2⟩ (f_X12_seats (g_X12_begins y) a b)
    exact ⟨r1, Or.inr ⟨eo.1, r2⟩⟩
  · obtain ⟨c1, c2, c3⟩ := cd_seats X.b hp (b := b)
    have l24 : nI p < 24 := nI_lt (b := 24) hp (by omega)
    have sr : f_X3_sitsAt (remS x 0) (nI p) = f_X3_sitsAt x (nI p) := by unfold f_X3_sitsAt; rw [rem00]
    have eo : o_X11_setSitting x (nI p) b = .inl (some (.int (f_X3_sitsAt x (nI p)))) := by
      unfold o_X11_setSitting
      rw [if_neg (nI_pos (by omega)), if_pos l24, ite_self, sr]
    have eg : g_X11_setSitting x (nI p) b = nS (remS x 0) 5 (if b = 0 then (x.1 0).2.1 5 &&& ((1 <<< (nI p &&& 31)) ^^^ (-1)) else (x.1 0).2.1 5 ||| (1 <<< (nI p &&& 31))) := by
      unfold g_X11_setSitting
      rw [if_neg (nI_pos (by omega)), if_pos l24, rem00]
      split <;> rfl
    have ac : kAc (g_X12_begins y) (g_X12_seats (g_X12_begins y) (nI p) b) := ac_seats
    obtain ⟨r1, r2, r3⟩ := RX_ok X (t2 := t + 1) (by omega) (x3 := nS (remS x 0) 5 (if b = 0 then (x.1 0).2.1 5 &&& ((1 <<< (nI p &&& 31)) ^^^ (-1)) else (x.1 0).2.1 5 ||| (1 <<< (nI p &&& 31)))) kKq_S ac (by rw [c2]; rfl) (by rw [c2]; rfl) (by rw [c2]; rfl) (by
      refine RI_up ?_ (Nat.le_succ t)
      show RI t (cS ((remS x 0).1 0) 5 _) _
      rw [rem00]
      exact c3) (f_X12_seats (g_X12_begins y) (nI p) b)
    rw [eg, g1]
    have fs : f_X3_sitsAt x (nI p) = f_X12_setSitting y (nI p) b := by
      unfold f_X12_setSitting
      rw [r2, c1]
      rcases sv_01 (x := x) (a := nI p) with q | q
      · rw [q]; rfl
      · rw [q]; rfl
    rw [fs] at eo
    exact ⟨r1, Or.inl ⟨eo, r3⟩⟩
end STP
