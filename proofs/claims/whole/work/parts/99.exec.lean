/-! COMMANDS CARRIED OUT, both sides. -/
section EXC
variable {T : Nat → Int32} {L t : Nat} {x : kK} {y : kY}
/-- one command: the check and the change -/
def doP (t : Nat) (x : kK) (y : kY) (w : Nat) (a b c b2 c2 : Int32) : Prop := (∃ code, chOk x y (f_cc x w a b2 c2) (g_cc x w a b2 c2) (g_does w y a b c) code) ∧ kAc y (g_does w y a b c) ∧ (f_cc x w a b2 c2 = 0 → RI (t + 1) ((g_co x w a b2 c2).1 0) ((g_does w y a b c).2 0))
theorem dfc_0 (x : kK) (a b c : Int32) : f_cc x 0 a b c = f_X11_checkTree x a b 1 := rfl
theorem dgc_0 (x : kK) (a b c : Int32) : g_cc x 0 a b c = g_X11_checkTree x a b 1 := rfl
theorem dgo_0 (x : kK) (a b c : Int32) : g_co x 0 a b c = g_X11_plant x a b 1 := rfl
theorem ddo_0 (y : kY) (a b c : Int32) : g_does 0 y a b c = g_X12_plants y a b 1 := rfl
theorem doP_0 (R : RI t (x.1 0) (y.2 0)) (ht : t < 2 ^ 20) (h0 : y.1 0 = 0) {a b c : Int32} {c2 : Int32} : doP t x y 0 a b c b c2 := by
  unfold doP
  rw [dfc_0, dgc_0, dgo_0, ddo_0]
  exact ⟨⟨cdA, ck_plants R h0⟩, ac_plants, fun hf => (cd_plants R hf rfl).1⟩
theorem dfc_1 (x : kK) (a b c : Int32) : f_cc x 1 a b c = f_X11_checkTree x a b 0 := rfl
theorem dgc_1 (x : kK) (a b c : Int32) : g_cc x 1 a b c = g_X11_checkTree x a b 0 := rfl
theorem dgo_1 (x : kK) (a b c : Int32) : g_co x 1 a b c = g_X11_plant x a b 0 := rfl
theorem ddo_1 (y : kY) (a b c : Int32) : g_does 1 y a b c = g_X12_plants y a b 0 := rfl
theorem doP_1 (R : RI t (x.1 0) (y.2 0)) (ht : t < 2 ^ 20) (h0 : y.1 0 = 0) {a b c : Int32} {c2 : Int32} : doP t x y 1 a b c b c2 := by
  unfold doP
  rw [dfc_1, dgc_1, dgo_1, ddo_1]
  exact ⟨⟨cdA, ck_plants R h0⟩, ac_plants, fun hf => (cd_plants R hf rfl).1⟩
theorem dfc_2 (x : kK) (a b c : Int32) : f_cc x 2 a b c = f_X11_checkBench x a b := rfl
theorem dgc_2 (x : kK) (a b c : Int32) : g_cc x 2 a b c = g_X11_checkBench x a b := rfl
theorem dgo_2 (x : kK) (a b c : Int32) : g_co x 2 a b c = g_X11_placeBench x a b := rfl
theorem ddo_2 (y : kY) (a b c : Int32) : g_does 2 y a b c = g_X12_benches y a b := rfl
theorem doP_2 (R : RI t (x.1 0) (y.2 0)) (ht : t < 2 ^ 20) (h0 : y.1 0 = 0) {a b c : Int32} {c2 : Int32} : doP t x y 2 a b c b c2 := by
  unfold doP
  rw [dfc_2, dgc_2, dgo_2, ddo_2]
  exact ⟨⟨cdA, ck_benches R h0⟩, ac_benches, fun hf => (cd_benches R hf rfl).1⟩
theorem dfc_3 (x : kK) (a b c : Int32) : f_cc x 3 a b c = f_X11_checkNewParty x a b := rfl
theorem dgc_3 (x : kK) (a b c : Int32) : g_cc x 3 a b c = g_X11_checkNewParty x a b := rfl
theorem dgo_3 (x : kK) (a b c : Int32) : g_co x 3 a b c = g_X11_seatParty x a b := rfl
theorem ddo_3 (y : kY) (a b c : Int32) : g_does 3 y a b c = g_X12_adds y a b := rfl
theorem doP_3 (R : RI t (x.1 0) (y.2 0)) (ht : t < 2 ^ 20) (h0 : y.1 0 = 0) {a b c : Int32} {c2 : Int32} : doP t x y 3 a b c b c2 := by
  unfold doP
  rw [dfc_3, dgc_3, dgo_3, ddo_3]
  exact ⟨⟨cdB, ck_adds R h0⟩, ac_adds, fun hf => (cd_adds R hf rfl).1⟩
theorem dfc_4 (x : kK) (a b c : Int32) : f_cc x 4 a b c = f_X11_checkMove x a b c := rfl
theorem dgc_4 (x : kK) (a b c : Int32) : g_cc x 4 a b c = g_X11_checkMove x a b c := rfl
theorem dgo_4 (x : kK) (a b c : Int32) : g_co x 4 a b c = g_X11_shiftParty x a b c := rfl
theorem ddo_4 (y : kY) (a b c : Int32) : g_does 4 y a b c = g_X12_moves y a b c := rfl
theorem doP_4 (R : RI t (x.1 0) (y.2 0)) (ht : t < 2 ^ 20) (h0 : y.1 0 = 0) {a b c : Int32} : doP t x y 4 a b c b c := by
  unfold doP
  rw [dfc_4, dgc_4, dgo_4, ddo_4]
  exact ⟨⟨cdA, ck_moves R h0⟩, ac_moves, fun hf => (cd_moves R hf rfl).1⟩
theorem dfc_5 (x : kK) (a b c : Int32) : f_cc x 5 a b c = f_X11_checkWind a b := rfl
theorem dgc_5 (x : kK) (a b c : Int32) : g_cc x 5 a b c = x := rfl
theorem dgo_5 (x : kK) (a b c : Int32) : g_co x 5 a b c = g_X11_turnWind x a b := rfl
theorem ddo_5 (y : kY) (a b c : Int32) : g_does 5 y a b c = g_X12_blows y a b := rfl
theorem doP_5 (R : RI t (x.1 0) (y.2 0)) (ht : t < 2 ^ 20) (h0 : y.1 0 = 0) {a b c : Int32} {c2 : Int32} : doP t x y 5 a b c b c2 := by
  unfold doP
  rw [dfc_5, dgc_5, dgo_5, ddo_5]
  exact ⟨⟨cdD, ck_blows h0⟩, ac_blows, fun hf => (cd_blows R hf rfl).1⟩
theorem dfc_6 (x : kK) (a b c : Int32) : f_cc x 6 a b c = f_X11_checkSummons x a b := rfl
theorem dgc_6 (x : kK) (a b c : Int32) : g_cc x 6 a b c = g_X11_checkSummons x a b := rfl
theorem dgo_6 (x : kK) (a b c : Int32) : g_co x 6 a b c = g_X11_throwAt x a b := rfl
theorem ddo_6 (y : kY) (a b c : Int32) : g_does 6 y a b c = g_X12_summons y a b := rfl
theorem doP_6 (R : RI t (x.1 0) (y.2 0)) (ht : t < 2 ^ 20) (h0 : y.1 0 = 0) {a b c : Int32} {c2 : Int32} : doP t x y 6 a b c b c2 := by
  unfold doP
  rw [dfc_6, dgc_6, dgo_6, ddo_6]
  exact ⟨⟨cdC, ck_summons R ht h0⟩, ac_summons, fun hf => (cd_summons R ht hf rfl).1⟩
theorem dfc_7 (x : kK) (a b c : Int32) : f_cc x 7 a b c = f_X11_checkPurchase x a := rfl
theorem dgc_7 (x : kK) (a b c : Int32) : g_cc x 7 a b c = x := rfl
theorem dgo_7 (x : kK) (a b c : Int32) : g_co x 7 a b c = g_X11_purchase x a := rfl
theorem ddo_7 (y : kY) (a b c : Int32) : g_does 7 y a b c = g_X12_buys y a := rfl
theorem doP_7 (R : RI t (x.1 0) (y.2 0)) (ht : t < 2 ^ 20) (h0 : y.1 0 = 0) {a b c : Int32} {b2 : Int32} {c2 : Int32} : doP t x y 7 a b c b2 c2 := by
  unfold doP
  rw [dfc_7, dgc_7, dgo_7, ddo_7]
  exact ⟨⟨cdD, ck_buys R h0⟩, ac_buys, fun hf => (cd_buys R hf rfl).1⟩
theorem dfc_8 (x : kK) (a b c : Int32) : f_cc x 8 a b c = f_X11_checkHearing x a := rfl
theorem dgc_8 (x : kK) (a b c : Int32) : g_cc x 8 a b c = g_X11_checkHearing x a := rfl
theorem dgo_8 (x : kK) (a b c : Int32) : g_co x 8 a b c = g_X11_holdHearing x a := rfl
theorem ddo_8 (y : kY) (a b c : Int32) : g_does 8 y a b c = g_X12_hears y a := rfl
theorem doP_8 (R : RI t (x.1 0) (y.2 0)) (ht : t < 2 ^ 20) (h0 : y.1 0 = 0) {a b c : Int32} {b2 : Int32} {c2 : Int32} : doP t x y 8 a b c b2 c2 := by
  unfold doP
  rw [dfc_8, dgc_8, dgo_8, ddo_8]
  exact ⟨⟨cdA, ck_hears2 R ht h0⟩, ac_hears, fun hf => (cd_hears2 R ht hf rfl).1⟩
theorem dfc_9 (x : kK) (a b c : Int32) : f_cc x 9 a b c = f_X11_checkPassing a := rfl
theorem dgc_9 (x : kK) (a b c : Int32) : g_cc x 9 a b c = x := rfl
theorem dgo_9 (x : kK) (a b c : Int32) : g_co x 9 a b c = g_X11_passHours x a := rfl
theorem ddo_9 (y : kY) (a b c : Int32) : g_does 9 y a b c = g_X12_passes y a := rfl
theorem doP_9 (R : RI t (x.1 0) (y.2 0)) (ht : t < 2 ^ 20) (h0 : y.1 0 = 0) {a b c : Int32} {b2 : Int32} {c2 : Int32} : doP t x y 9 a b c b2 c2 := by
  unfold doP
  rw [dfc_9, dgc_9, dgo_9, ddo_9]
  exact ⟨⟨cdD, ck_passes R (by omega) h0⟩, ac_passes, fun hf => (cd_passes R (by omega) hf rfl).1⟩
theorem does_s (R : RI t (x.1 0) (y.2 0)) (ht : t < 2 ^ 20) (h0 : y.1 0 = 0) {w : Nat} (hw : w < 10) {a b c b2 c2 : Int32} (eb : w < 7 → b2 = b) (ec : w = 4 → c2 = c) : doP t x y w a b c b2 c2 := by
  match w, hw with
  | 0, _ =>
    rw [eb (by omega)]
    exact doP_0 R ht h0
  | 1, _ =>
    rw [eb (by omega)]
    exact doP_1 R ht h0
  | 2, _ =>
    rw [eb (by omega)]
    exact doP_2 R ht h0
  | 3, _ =>
    rw [eb (by omega)]
    exact doP_3 R ht h0
  | 4, _ =>
    rw [eb (by omega)]
    rw [ec rfl]
    exact doP_4 R ht h0
  | 5, _ =>
    rw [eb (by omega)]
    exact doP_5 R ht h0
  | 6, _ =>
    rw [eb (by omega)]
    exact doP_6 R ht h0
  | 7, _ =>
    exact doP_7 R ht h0
  | 8, _ =>
    exact doP_8 R ht h0
  | 9, _ =>
    exact doP_9 R ht h0
theorem rxK_ck {f : Int32} {x1 : kK} {y1 : kY} {code : Int32 → Int32} (K : rxK x y) (ck : chOk x y f x1 y1 code) : rxK x1 y1 := by
  rcases ck with ⟨-, rfl, -, h4, h5⟩ | ⟨-, -, -, -, hk⟩
  · exact ⟨K.1.trans h4.symm, K.2.trans h5.symm⟩
  · rcases hk with ⟨rfl, h4, h5⟩ | ⟨r, d, -, rfl, h4, h5, -⟩
    · exact ⟨K.1.trans h4.symm, K.2.trans h5.symm⟩
    · refine ⟨?_, ?_⟩
      · rw [h4]
        show upd (upd x.2.1 9 r) 10 d 9 = r
        rw [pk_un (by decide), pk_us]
      · rw [h5]
        show upd (upd x.2.1 9 r) 10 d 10 = d
        rw [pk_us]
/-- what running may change in the reference -/
def yQ (y y2 : kY) : Prop := (∀ r, r ≠ 0 → r ≠ 4 → r ≠ 8 → y2.2 r = y.2 r) ∧ ∀ k, k ≠ 0 → k ≠ 4 → k ≠ 5 → k ≠ 7 → k ≠ 8 → k ≠ 10 → k ≠ 13 → y2.1 k = y.1 k
theorem yQ_t {y y2 y3 : kY} (a : yQ y y2) (b : yQ y2 y3) : yQ y y3 := ⟨fun r h1 h2 h3 => (b.1 r h1 h2 h3).trans (a.1 r h1 h2 h3), fun k h1 h2 h3 h4 h5 h6 h7 => (b.2 k h1 h2 h3 h4 h5 h6 h7).trans (a.2 k h1 h2 h3 h4 h5 h6 h7)⟩
theorem yQ_p {y2 : kY} {q : Nat} {w : Int32} (h : yP y y2 q w) : yQ y y2 := ⟨fun r _ _ h8 => h.1 r h8, fun k _ _ _ _ _ h10 h13 => h.2.1 k h10 h13⟩
theorem yQ_a {y2 : kY} (h : kAc y y2) : yQ y y2 := ⟨fun r h0 h4 _ => h.2 r h0 h4, fun k h0 h4 h5 h7 h8 _ _ => h.1 k h0 h4 h5 h7 h8⟩
theorem tY_a {y2 : kY} {q : Nat} (h : tY T L q y) (a : kAc y y2) : tY T L q y2 := ⟨(a.1 11 (by decide) (by decide) (by decide) (by decide) (by decide)).trans h.1, (a.1 10 (by decide) (by decide) (by decide) (by decide) (by decide)).trans h.2.1, fun j hj => by rw [a.2 6 (by decide) (by decide)]; exact h.2.2 j hj⟩
theorem wo_a {y2 : kY} (h : kWo y) (a : kAc y y2) : kWo y2 := ⟨fun j hj => by rw [a.2 10 (by decide) (by decide)]; exact h.1 j hj, fun q hq => by rw [a.2 9 (by decide) (by decide)]; exact h.2 q hq⟩
theorem rm1_of {hb : Nat} {v : Nat → Int32} {c : kCo} (R : RJ hb t c v) : kRm1 v := RJ.rm1 (x := (fun _ => c, fun _ => 0, fun _ _ => 0, fun _ => none)) (y := (fun _ => 0, fun _ => v)) R
theorem opA (x : kK) {i c : Nat} (h6 : x.2.1 6 = nI c) (hi : i < c) (hc : c ≤ 11) {p : Nat} (hp : p < 3) : f_X2_operandAt x (nI i) (nI p) = x.2.2.1 6 (3 * i + p) := by
  unfold f_X2_operandAt
  rw [if_neg (nI_pos (by omega)), h6, if_neg (nI_ge hi (by omega)), if_neg (nI_pos (by omega)), if_neg (show ¬ (3 : Int32) ≤ nI p from nI_ge (a := p) (b := 3) hp (by decide)), show (3 : Int32) = nI 3 from rfl, pk_mul, nI_add, nI_clamp (by omega)]
theorem cdA_of {x : kK} {i w : Nat} (h : x.2.2.2 i = some (1010 + w)) (hi : i < 2 ^ 31) : kCd x (nI i) = w := by
  unfold kCd
  rw [nI_clamp hi, h]
  show 1010 + w - 1010 = w
  omega
/-- from place i on: m + 1 commands are carried out, or one fails -/
theorem exc_s (hL : L ≤ 60) {xs : kK} {m : Nat} : ∀ {x : kK} {y : kY} {q i k j t : Nat}, m < k → i + m < 10 → x.2.1 6 = nI (i + m + 1) → x.2.2.2 = xs.2.2.2 → x.2.2.1 6 = xs.2.2.1 6 → RI t (x.1 0) (y.2 0) → t + m < 2 ^ 20 → rxK x y → kWo y → tY T L q y → q ≤ L → y.1 13 = 0 → ¬ y.1 14 = 0 → y.1 0 = 0 → pL T L xs m i q →
    kKr x (ccL (m + 1) x i).1 ∧ yQ y (cmL k (g_X12_command y) j (nI (i + 1))).1 ∧ okC k (g_X12_command y) ∧ rxK (ccL (m + 1) x i).1 (cmL k (g_X12_command y) j (nI (i + 1))).1 ∧ (((ccL (m + 1) x i).2 = -1 ∧ (cmL k (g_X12_command y) j (nI (i + 1))).2 = nI (i + m + 1) ∧ (cmL k (g_X12_command y) j (nI (i + 1))).1.1 0 = 0 ∧ RI (t + m + 1) ((ccL (m + 1) x i).1.1 0) ((cmL k (g_X12_command y) j (nI (i + 1))).1.2 0)) ∨ ∃ p, p < 10 ∧ (ccL (m + 1) x i).2 = nI p ∧ (cmL k (g_X12_command y) j (nI (i + 1))).2 = nI (p + 1) ∧ ¬ (cmL k (g_X12_command y) j (nI (i + 1))).1.1 0 = 0) := by
  induction m with
  | zero =>
    intro x y q i k j t hk hi h6 hE h5 R ht K hW h hq h13 h14 h0 p
    obtain ⟨w, a, b, c, o, st⟩ := p
    have hw := o.1
    obtain ⟨y2, p2, e2⟩ := cm_o hW h hL hq h13 o
    rw [if_neg h14] at e2
    have R2 : RI t (x.1 0) (y2.2 0) := by rw [p2.1 0 (by decide)]; exact R
    have h02 : y2.1 0 = 0 := (p2.2.1 0 (by decide) (by decide)).trans h0
    have K2 : rxK x y2 := ⟨K.1.trans (p2.2.1 4 (by decide) (by decide)).symm, K.2.trans (p2.2.1 5 (by decide) (by decide)).symm⟩
    have kd : kCd x (nI i) = w := cdA_of (by rw [hE]; exact st.1) (by omega)
    have o0 : f_X2_operandAt x (nI i) 0 = a := (opA x h6 (by omega) (by omega) (p := 0) (by omega)).trans (by rw [h5]; exact st.2.1)
    have o1 : w < 7 → f_X2_operandAt x (nI i) 1 = b := fun z => (opA x h6 (by omega) (by omega) (p := 1) (by omega)).trans (by rw [h5]; exact st.2.2.1 z)
    have o2 : w = 4 → f_X2_operandAt x (nI i) 2 = c := fun z => (opA x h6 (by omega) (by omega) (p := 2) (by omega)).trans (by rw [h5]; exact st.2.2.2 z)
    obtain ⟨⟨code, ck⟩, ac, cd⟩ := does_s (y := y2) R2 (by omega) h02 hw (a := a) o1 o2
    have K3 := rxK_ck K2 ck
    have pc := p_cc (x := x) (a := a) (b := f_X2_operandAt x (nI i) 1) (c := f_X2_operandAt x (nI i) 2) hw
    have qc := q_co (x := x) (a := a) (b := f_X2_operandAt x (nI i) 1) (c := f_X2_operandAt x (nI i) 2) hw
    have t3 : tY T L L (g_does w y2 a b c) := tY_a (yP_T h p2) ac
    have en := yend t3 hL
    rw [e2, cmL_0 (Or.inr (Or.inr en)), ccL, kd, o0]
    rw [ccL]
    have yq := yQ_t (yQ_p p2) (yQ_a ac)
    rcases ck with ⟨f0, ex, z0, -, -⟩ | ⟨f1, z0, zc, -, -⟩
    · rw [if_pos f0, ex]
      rw [ex] at K3
      exact ⟨kKr_q qc, yq, okC_0 (Or.inr (Or.inr en)), ⟨(qc.2.1 9 (by decide) (by decide)).trans K3.1, (qc.2.1 10 (by decide) (by decide)).trans K3.2⟩, Or.inl ⟨rfl, rfl, z0, cd f0⟩⟩
    · rw [if_neg f1]
      exact ⟨kKr_p pc, yq, okC_0 (Or.inr (Or.inr en)), K3, Or.inr ⟨i, by omega, rfl, rfl, by rw [z0]; exact zc⟩⟩
  | succ m ih =>
    intro x y q i k j t hk hi h6 hE h5 R ht K hW h hq h13 h14 h0 p
    obtain ⟨w, a, b, c, e, o, st, he, sc, p⟩ := p
    have hw := o.1
    obtain ⟨y2, p2, e2⟩ := cm_o hW h hL hq h13 o
    rw [if_neg h14] at e2
    have R2 : RI t (x.1 0) (y2.2 0) := by rw [p2.1 0 (by decide)]; exact R
    have h02 : y2.1 0 = 0 := (p2.2.1 0 (by decide) (by decide)).trans h0
    have K2 : rxK x y2 := ⟨K.1.trans (p2.2.1 4 (by decide) (by decide)).symm, K.2.trans (p2.2.1 5 (by decide) (by decide)).symm⟩
    have kd : kCd x (nI i) = w := cdA_of (by rw [hE]; exact st.1) (by omega)
    have o0 : f_X2_operandAt x (nI i) 0 = a := (opA x h6 (by omega) (by omega) (p := 0) (by omega)).trans (by rw [h5]; exact st.2.1)
    have o1 : w < 7 → f_X2_operandAt x (nI i) 1 = b := fun z => (opA x h6 (by omega) (by omega) (p := 1) (by omega)).trans (by rw [h5]; exact st.2.2.1 z)
    have o2 : w = 4 → f_X2_operandAt x (nI i) 2 = c := fun z => (opA x h6 (by omega) (by omega) (p := 2) (by omega)).trans (by rw [h5]; exact st.2.2.2 z)
    obtain ⟨⟨code, ck⟩, ac, cd⟩ := does_s (y := y2) R2 (by omega) h02 hw (a := a) o1 o2
    have K3 := rxK_ck K2 ck
    have pc := p_cc (x := x) (a := a) (b := f_X2_operandAt x (nI i) 1) (c := f_X2_operandAt x (nI i) 2) hw
    have qc := q_co (x := x) (a := a) (b := f_X2_operandAt x (nI i) 1) (c := f_X2_operandAt x (nI i) 2) hw
    have t3 : tY T L e (g_does w y2 a b c) := tY_a (yP_T h p2) ac
    have yq := yQ_t (yQ_p p2) (yQ_a ac)
    rw [e2, ccL, kd, o0]
    rcases ck with ⟨f0, ex, z0, -, -⟩ | ⟨f1, z0, zc, -, -⟩
    · have cd := cd f0
      rw [if_pos f0, ex]
      rw [ex] at K3
      have W3 : kWo (g_does w y2 a b c) := wo_a (wo_y hW p2.1) ac
      have a13 : (g_does w y2 a b c).1 13 = 0 := (ac.1 13 (by decide) (by decide) (by decide) (by decide) (by decide)).trans p2.2.2.2
      have a14 : ¬ (g_does w y2 a b c).1 14 = 0 := by rw [yq.2 14 (by decide) (by decide) (by decide) (by decide) (by decide) (by decide) (by decide)]; exact h14
      have K4 : rxK (g_co x w a (f_X2_operandAt x (nI i) 1) (f_X2_operandAt x (nI i) 2)) (g_does w y2 a b c) := ⟨(qc.2.1 9 (by decide) (by decide)).trans K3.1, (qc.2.1 10 (by decide) (by decide)).trans K3.2⟩
      have q6 : (g_co x w a (f_X2_operandAt x (nI i) 1) (f_X2_operandAt x (nI i) 2)).2.1 6 = nI (i + 1 + m + 1) := ((qc.2.1 6 (by decide) (by decide)).trans h6).trans (by rw [show i + (m + 1) + 1 = i + 1 + m + 1 by omega])
      have qE := qc.2.2.2.trans hE
      have q5 := (qc.2.2.1 6 (by decide)).trans h5
      have kq := kKr_q qc
      clear K3 K2 pc qc e2
      revert cd z0 t3 W3 a13 a14 K4 q6 qE q5 kq yq
      generalize g_does w y2 a b c = y3
      generalize g_co x w a (f_X2_operandAt x (nI i) 1) (f_X2_operandAt x (nI i) 2) = x3
      intro t3 yq z0 cd W3 a13 a14 K4 q6 qE q5 kq
      obtain ⟨k, rfl⟩ : ∃ k2, k = k2 + 1 := ⟨k - 1, by omega⟩
      have ne := nend t3 hL he
      rcases bod_s t3 hL he a13 with ⟨-, p4, e4⟩ | ⟨d, -⟩
      · have z := ih (x := x3) (y := g_X12_expects y3 59) (q := e + 1) (i := i + 1) (k := k) (j := j + 1) (t := t + 1) (by omega) (by omega) q6 qE q5 (by rw [p4.1 0 (by decide)]; exact cd) (by omega) ⟨K4.1.trans (p4.2.1 4 (by decide) (by decide)).symm, K4.2.trans (p4.2.1 5 (by decide) (by decide)).symm⟩ (wo_y W3 p4.1) (yP_T t3 p4) (by omega) p4.2.2.2 (by rw [p4.2.1 14 (by decide) (by decide)]; exact a14) ((p4.2.1 0 (by decide) (by decide)).trans z0) p
        rw [cmL_1 a13 z0 ne, e4, show nI (i + 1) + Int32.ofInt 1 = nI (i + 1 + 1) from nI_1 (i + 1)]
        obtain ⟨z1, z2, z3, z4, z5⟩ := z
        refine ⟨kKr_t kq z1, yQ_t yq (yQ_t (yQ_p p4) z2), fun _ _ _ => ⟨ok_of t3 hL (by omega) (Or.inl a13) W3 cd.mv (rm1_of cd), by rw [e4]; exact z3⟩, z4, ?_⟩
        rcases z5 with ⟨b1, b2, b3, b4⟩ | z5
        · refine Or.inl ⟨b1, b2.trans (by rw [show i + 1 + m + 1 = i + (m + 1) + 1 by omega]), b3, ?_⟩
          rw [show t + (m + 1) + 1 = t + 1 + m + 1 by omega]
          exact b4
        · exact Or.inr z5
      · exact absurd sc d
    · have nz : ¬ (g_does w y2 a b c).1 0 = 0 := by rw [z0]; exact zc
      rw [if_neg f1, cmL_0 (Or.inr (Or.inl nz))]
      exact ⟨kKr_p pc, yq, okC_0 (Or.inr (Or.inl nz)), K3, Or.inr ⟨i, by omega, rfl, rfl, nz⟩⟩
end EXC
