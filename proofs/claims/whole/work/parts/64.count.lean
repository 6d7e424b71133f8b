/-! HOW MANY: the bits of a long number, counted by bytes. -/
theorem tb_lN {n q : Nat} (hq : q < 64) : tb (lN n) q = n.testBit q := by
  show (BitVec.ofNat 64 n).getLsbD q = n.testBit q
  rw [BitVec.getLsbD_ofNat, decide_eq_true hq, Bool.true_and]
theorem bc_of (x : Int64) : ∃ n, n < 2 ^ 64 ∧ x = lN n := ⟨x.toBitVec.toNat, x.toBitVec.isLt, Int64.toBitVec_inj.1 (by show x.toBitVec = BitVec.ofNat 64 _; simp)⟩
def ush (a : Int64) (c : Int32) : Int64 := (Int64.toUInt64 a >>> (Int64.toUInt64 (Int32.toInt64 c) &&& Int64.toUInt64 63)).toInt64
theorem bc_shr {n k : Nat} {c : Int32} (hc : c = nI k) (hk : k < 64) (hn : n < 2 ^ 64) : ush (lN n) c = lN (n / 2 ^ k) := by
  apply tb_ext
  intro q hq
  unfold ush
  rw [tb_shr hc hk, tb_lN hq, Nat.testBit_div_two_pow]
  by_cases h : q + k < 64
  · first | (rw [tb_lN h, Nat.add_comm]; done) | rw [tb_lN h]
  · rw [tb_hi (by omega)]
    symm
    apply Nat.testBit_lt_two_pow
    exact Nat.lt_of_lt_of_le hn (Nat.pow_le_pow_right (by decide) (by omega))
theorem bc_and {a b : Nat} : lN a &&& lN b = lN (a &&& b) := by
  apply tb_ext
  intro q hq
  rw [tb_and, tb_lN hq, tb_lN hq, tb_lN hq, Nat.testBit_and]
def rpB (c : Nat) : Nat → Nat
  | 0 => 0
  | k + 1 => c + 256 * rpB c k
theorem land_sp {x y c d : Nat} (hx : x < 256) (hc : c < 256) : (x + 256 * y) &&& (c + 256 * d) = (x &&& c) + 256 * (y &&& d) := by
  have h1 : ((x + 256 * y) &&& (c + 256 * d)) % 2 ^ 8 = x &&& c := by
    rw [Nat.and_mod_two_pow, show (x + 256 * y) % 2 ^ 8 = x by omega, show (c + 256 * d) % 2 ^ 8 = c by omega]
  have h2 : ((x + 256 * y) &&& (c + 256 * d)) / 2 ^ 8 = y &&& d := by
    rw [Nat.and_div_two_pow, show (x + 256 * y) / 2 ^ 8 = y by omega, show (c + 256 * d) / 2 ^ 8 = d by omega]
  omega
def st1 (k n : Nat) : Nat := n - (n / 2 &&& rpB 85 k)
def st2 (k n : Nat) : Nat := (n &&& rpB 51 k) + (n / 4 &&& rpB 51 k)
def st3 (k n : Nat) : Nat := (n + n / 16) &&& rpB 15 k
def s1b (b : Nat) : Nat := b - (b / 2 &&& 85)
def s2b (b : Nat) : Nat := (b &&& 51) + (b / 4 &&& 51)
def pcB (n : Nat) : Nat := n % 2 + n / 2 % 2 + n / 4 % 2 + n / 8 % 2 + n / 16 % 2 + n / 32 % 2 + n / 64 % 2 + n / 128 % 2
theorem st1_b {k b m : Nat} (hb : b < 256) : st1 (k + 1) (b + 256 * m) = s1b b + 256 * st1 k m := by
  have f1 : ∀ b, b < 256 → ∀ e, e < 2 → (b / 2 + 128 * e) &&& 85 = b / 2 &&& 85 := by decide +kernel
  have f2 : ∀ b, b < 256 → b / 2 &&& 85 ≤ b := by decide +kernel
  have h3 : m / 2 &&& rpB 85 k ≤ m / 2 := Nat.and_le_left
  unfold st1 s1b
  rw [show (b + 256 * m) / 2 = (b / 2 + 128 * (m % 2)) + 256 * (m / 2) by omega]
  rw [rpB, land_sp (by omega) (by decide), f1 b hb (m % 2) (by omega)]
  have := f2 b hb
  omega
theorem s1b_lt {b : Nat} (hb : b < 256) : s1b b < 256 := by unfold s1b; omega
theorem st2_b {k b m : Nat} (hb : b < 256) : st2 (k + 1) (b + 256 * m) = s2b b + 256 * st2 k m := by
  have f1 : ∀ b, b < 256 → ∀ e, e < 4 → (b / 4 + 64 * e) &&& 51 = b / 4 &&& 51 := by decide +kernel
  unfold st2 s2b
  rw [show (b + 256 * m) / 4 = (b / 4 + 64 * (m % 4)) + 256 * (m / 4) by omega]
  rw [rpB, land_sp hb (by decide), land_sp (by omega) (by decide), f1 b hb (m % 4) (by omega)]
  omega
theorem s2b_lt {b : Nat} : s2b b < 256 := by
  unfold s2b
  have h1 : b &&& 51 ≤ 51 := Nat.and_le_right
  have h2 : b / 4 &&& 51 ≤ 51 := Nat.and_le_right
  omega
theorem st_lo {k m : Nat} : st2 k (st1 k m) % 16 ≤ 4 := by
  cases k with
  | zero =>
    have : st2 0 (st1 0 m) = 0 := by unfold st2; rw [rpB, Nat.and_zero, Nat.and_zero]
    omega
  | succ k =>
    have f1 : ∀ b, b < 256 → s2b (s1b b) % 16 ≤ 4 := by decide +kernel
    rw [show m = m % 256 + 256 * (m / 256) by omega, st1_b (by omega), st2_b (s1b_lt (by omega))]
    have := f1 (m % 256) (by omega)
    omega
theorem st3_b {k b m : Nat} (hb : b < 256) : st3 (k + 1) (st2 (k + 1) (st1 (k + 1) (b + 256 * m))) = pcB b + 256 * st3 k (st2 k (st1 k m)) := by
  have f1 : ∀ b, b < 256 → ∀ e, e < 5 → (s2b (s1b b) + s2b (s1b b) / 16 + 16 * e) &&& 15 = pcB b := by decide +kernel
  have f2 : ∀ b, b < 256 → s2b (s1b b) ≤ 68 := by decide +kernel
  have h3 := st_lo (k := k) (m := m)
  have h4 := f2 b hb
  rw [st1_b hb, st2_b (s1b_lt hb)]
  unfold st3
  rw [show s2b (s1b b) + 256 * st2 k (st1 k m) + (s2b (s1b b) + 256 * st2 k (st1 k m)) / 16 = (s2b (s1b b) + s2b (s1b b) / 16 + 16 * (st2 k (st1 k m) % 16)) + 256 * (st2 k (st1 k m) + st2 k (st1 k m) / 16) by omega]
  rw [rpB, land_sp (by omega) (by decide), f1 b hb _ (by omega)]
def byS : Nat → Nat → Nat
  | 0, _ => 0
  | k + 1, n => pcB (n % 256) + 256 * byS k (n / 256)
theorem st_by {k : Nat} : ∀ {n : Nat}, st3 k (st2 k (st1 k n)) = byS k n := by
  induction k with
  | zero => intro n; unfold st3; rw [rpB, Nat.and_zero, byS]
  | succ k ih =>
    intro n
    have h := st3_b (k := k) (b := n % 256) (m := n / 256) (by omega)
    rw [show n % 256 + 256 * (n / 256) = n by omega] at h
    rw [h, ih, byS]
theorem pcB_le {n : Nat} : pcB n ≤ 8 := by unfold pcB; omega
theorem bd_1 {a : Nat} (h : a ≤ 8) : a < 256 := by omega
theorem bd_2 {a b : Nat} (h : a ≤ 8) (h2 : b ≤ 8) : a + b < 256 := by omega
theorem bd_4 {a b c d : Nat} (h : a ≤ 8) (h2 : b ≤ 8) (h3 : c ≤ 8) (h4 : d ≤ 8) : a + b + (c + d) < 256 := by omega
theorem dg_a {a b c d e : Nat} (h1 : a = c + 256 * b) (h2 : b = d + 256 * e) : a + b = (c + d) + 256 * (b + e) := by omega
theorem dg_d {a b c : Nat} (hc : c < 256) (h : a = c + 256 * b) : a / 256 = b := by omega
theorem dg_b {a b c m : Nat} (hc : c ≤ 8) (hb : b ≤ m) (h : a = c + 256 * b) : a ≤ 8 + 256 * m := by omega
theorem dg_e {a b c d e f : Nat} (h1 : a = c + 256 * b) (h2 : d = e + 256 * f) : a + d = (c + e) + 256 * (b + f) := by omega
theorem bc_end {c0 c1 c2 c3 c4 c5 c6 c7 r1 r2 r3 r4 r5 r6 r7 : Nat} (h0 : c0 ≤ 8) (h1 : c1 ≤ 8) (h2 : c2 ≤ 8) (h3 : c3 ≤ 8) (h4 : c4 ≤ 8) (h5 : c5 ≤ 8) (h6 : c6 ≤ 8) (h7 : c7 ≤ 8) {s3 s4 s5 s6 : Nat} (q0 : s3 = c0 + 256 * r1) (q1 : r1 = c1 + 256 * r2) (q2 : r2 = c2 + 256 * r3) (q3 : r3 = c3 + 256 * r4) (q4 : r4 = c4 + 256 * r5) (q5 : r5 = c5 + 256 * r6) (q6 : r6 = c6 + 256 * r7) (q7 : r7 = c7 + 256 * 0) (e4 : s4 = s3 + s3 / 256) (e5 : s5 = s4 + s4 / 65536) (e6 : s6 = s5 + s5 / 4294967296) : s5 < 2 ^ 64 ∧ s4 < 2 ^ 64 ∧ s6 % 128 = c0 + c1 + c2 + c3 + c4 + c5 + c6 + c7 := by
  have b0 : s3 ≤ _ := dg_b h0 (dg_b h1 (dg_b h2 (dg_b h3 (dg_b h4 (dg_b h5 (dg_b h6 (dg_b h7 (Nat.le_refl 0) q7) q6) q5) q4) q3) q2) q1) q0
  have l5 : s5 < 2 ^ 64 ∧ s4 < 2 ^ 64 := by
    clear q0 q1 q2 q3 q4 q5 q6 q7 e6
    have := Nat.div_le_self s3 256
    have := Nat.div_le_self s4 65536
    omega
  refine ⟨l5.1, l5.2, ?_⟩
  have v0 := dg_d (bd_1 h0) q0
  have g0 := dg_a q0 q1
  have g1 := dg_a q1 q2
  have g2 := dg_a q2 q3
  have g3 := dg_a q3 q4
  have g4 := dg_a q4 q5
  have g5 := dg_a q5 q6
  have g6 := dg_a q6 q7
  have g7 : r7 + 0 = (c7 + 0) + 256 * 0 := q7
  rw [v0] at e4
  rw [← e4] at g0
  have v1 := dg_d (bd_2 h0 h1) g0
  have v2 := dg_d (bd_2 h1 h2) g1
  have v3 : s4 / 65536 = r2 + r3 := by rw [show 65536 = 256 * 256 from rfl, ← Nat.div_div_eq_div_mul, v1, v2]
  rw [v3] at e5
  have x0 := dg_e g0 g2
  have x1 := dg_e g1 g3
  have x2 := dg_e g2 g4
  have x3 := dg_e g3 g5
  have x4 := dg_e g4 g6
  have x5 := dg_e g5 g7
  rw [← e5] at x0
  have y0 := dg_d (bd_4 h0 h1 h2 h3) x0
  have y1 := dg_d (bd_4 h1 h2 h3 h4) x1
  have y2 := dg_d (bd_4 h2 h3 h4 h5) x2
  have y3 := dg_d (bd_4 h3 h4 h5 h6) x3
  have y5 : s5 / 4294967296 = r4 + r5 + (r6 + r7) := by rw [show 4294967296 = 256 * 256 * 256 * 256 from rfl, ← Nat.div_div_eq_div_mul, ← Nat.div_div_eq_div_mul, ← Nat.div_div_eq_div_mul, y0, y1, y2, y3]
  rw [y5, dg_e x0 x4] at e6
  rw [e6]
  clear x0 x1 x2 x3 x4 x5 g0 g1 g2 g3 g4 g5 g6 g7 v0 v1 v2 v3 y0 y1 y2 y3 y5 e4 e5 e6 q0 q1 q2 q3 q4 q5 q6 q7 b0 l5
  omega
def sumB : Nat → Nat → Nat
  | 0, _ => 0
  | k + 1, n => pcB (n % 256) + sumB k (n / 256)
theorem bc_is {n : Nat} (hn : n < 2 ^ 64) : f_J13_bitCount_95d88 (lN n) = nI (sumB 8 n) := by
  have e : f_J13_bitCount_95d88 (lN n) = (Int64.toInt32 ((fun a => a + ush a 32) ((fun a => a + ush a 16) ((fun a => a + ush a 8) ((fun a => (a + ush a 4) &&& 1085102592571150095) ((fun a => (a &&& 3689348814741910323) + (ush a 2 &&& 3689348814741910323)) ((fun a => a - (ush a 1 &&& 6148914691236517205)) (lN n)))))))) &&& 127 := rfl
  rw [e]
  have m1 : (6148914691236517205 : Int64) = lN (rpB 85 8) := by decide +kernel
  have m2 : (3689348814741910323 : Int64) = lN (rpB 51 8) := by decide +kernel
  have m3 : (1085102592571150095 : Int64) = lN (rpB 15 8) := by decide +kernel
  have g1 : (fun a => a - (ush a 1 &&& 6148914691236517205)) (lN n) = lN (st1 8 n) := by
    show lN n - (ush (lN n) 1 &&& 6148914691236517205) = lN (st1 8 n)
    rw [bc_shr (c := 1) (k := 1) rfl (by decide) hn, m1, bc_and, lN_sub (Nat.le_trans Nat.and_le_left (by omega))]
    rfl
  have l1 : st1 8 n < 2 ^ 64 := by unfold st1; omega
  have g2 : (fun a => (a &&& 3689348814741910323) + (ush a 2 &&& 3689348814741910323)) (lN (st1 8 n)) = lN (st2 8 (st1 8 n)) := by
    show (lN (st1 8 n) &&& 3689348814741910323) + (ush (lN (st1 8 n)) 2 &&& 3689348814741910323) = lN (st2 8 (st1 8 n))
    rw [bc_shr (c := 2) (k := 2) rfl (by decide) l1, m2, bc_and, bc_and, lN_add]
    rfl
  have r51 : rpB 51 8 = 3689348814741910323 := by decide +kernel
  have r15 : rpB 15 8 = 1085102592571150095 := by decide +kernel
  have l2 : st2 8 (st1 8 n) < 2 ^ 64 := by
    unfold st2
    have h1 : st1 8 n &&& rpB 51 8 ≤ rpB 51 8 := Nat.and_le_right
    have h2 : st1 8 n / 4 &&& rpB 51 8 ≤ rpB 51 8 := Nat.and_le_right
    rw [r51] at h1 h2 ⊢
    omega
  have g3 : (fun a => (a + ush a 4) &&& 1085102592571150095) (lN (st2 8 (st1 8 n))) = lN (st3 8 (st2 8 (st1 8 n))) := by
    show (lN (st2 8 (st1 8 n)) + ush (lN (st2 8 (st1 8 n))) 4) &&& 1085102592571150095 = lN (st3 8 (st2 8 (st1 8 n)))
    rw [bc_shr (c := 4) (k := 4) rfl (by decide) l2, m3, lN_add, bc_and]
    rfl
  have l3 : st3 8 (st2 8 (st1 8 n)) < 2 ^ 64 := by
    unfold st3
    have h1 : (st2 8 (st1 8 n) + st2 8 (st1 8 n) / 16) &&& rpB 15 8 ≤ rpB 15 8 := Nat.and_le_right
    rw [r15] at h1 ⊢
    omega
  rw [g1, g2, g3]
  have e3 := st_by (k := 8) (n := n)
  generalize st3 8 (st2 8 (st1 8 n)) = s3 at e3 l3
  have b := bc_end (pcB_le (n := n % 256)) (pcB_le (n := n / 256 % 256)) (pcB_le (n := n / 256 / 256 % 256)) (pcB_le (n := n / 256 / 256 / 256 % 256)) (pcB_le (n := n / 256 / 256 / 256 / 256 % 256)) (pcB_le (n := n / 256 / 256 / 256 / 256 / 256 % 256)) (pcB_le (n := n / 256 / 256 / 256 / 256 / 256 / 256 % 256)) (pcB_le (n := n / 256 / 256 / 256 / 256 / 256 / 256 / 256 % 256)) (s3 := s3) e3 rfl rfl rfl rfl rfl rfl rfl rfl rfl rfl
  obtain ⟨b5, b4, bs⟩ := b
  show Int64.toInt32 (((lN s3 + ush (lN s3) 8) + ush (lN s3 + ush (lN s3) 8) 16) + ush ((lN s3 + ush (lN s3) 8) + ush (lN s3 + ush (lN s3) 8) 16) 32) &&& 127 = nI (sumB 8 n)
  rw [bc_shr (c := 8) (k := 8) rfl (by decide) l3, lN_add, bc_shr (c := 16) (k := 16) rfl (by decide) b4, lN_add, bc_shr (c := 32) (k := 32) rfl (by decide) b5, lN_add, lN_i, pk_and _ 7 rfl]
  rw [show (nI (s3 + s3 / 256 + (s3 + s3 / 256) / 65536 + (s3 + s3 / 256 + (s3 + s3 / 256) / 65536) / 4294967296)).toBitVec.toNat % 2 ^ 7 = (s3 + s3 / 256 + (s3 + s3 / 256) / 65536 + (s3 + s3 / 256 + (s3 + s3 / 256) / 65536) / 4294967296) % 128 by
    show (BitVec.ofNat 32 _).toNat % 2 ^ 7 = _
    rw [BitVec.toNat_ofNat]
    omega]
  rw [bs]
  simp only [sumB]
  congr 1
  omega
/-- how many of the k places from j on -/
def pcT (f : Nat → Bool) : Nat → Nat → Nat
  | 0, _ => 0
  | k + 1, j => (if f j = true then 1 else 0) + pcT f k (j + 1)
theorem pcT_add {f : Nat → Bool} {b : Nat} {a : Nat} : ∀ {j : Nat}, pcT f (a + b) j = pcT f a j + pcT f b (j + a) := by
  induction a with
  | zero => intro j; rw [Nat.zero_add, pcT, Nat.zero_add]; rfl
  | succ a ih =>
    intro j
    rw [show a + 1 + b = (a + b) + 1 by omega, pcT, pcT, ih, show j + 1 + a = j + (a + 1) by omega]
    omega
theorem pcT_8 {n j : Nat} : pcT (fun q => n.testBit q) 8 j = pcB (n / 2 ^ j % 256) := by
  have g : ∀ i, (if n.testBit (j + i) = true then 1 else 0) = n / 2 ^ j / 2 ^ i % 2 := by
    intro i
    rw [Nat.testBit_eq_decide_div_mod_eq, Nat.pow_add, ← Nat.div_div_eq_div_mul]
    by_cases h : n / 2 ^ j / 2 ^ i % 2 = 1
    · rw [decide_eq_true h, h]; rfl
    · rw [decide_eq_false h, if_neg (by decide)]; omega
  have g0 := g 0
  have g1 := g 1
  have g2 := g 2
  have g3 := g 3
  have g4 := g 4
  have g5 := g 5
  have g6 := g 6
  have g7 := g 7
  simp only [pcT, Nat.add_zero, Nat.add_assoc, Nat.reduceAdd] at *
  rw [g0, g1, g2, g3, g4, g5, g6, g7]
  unfold pcB
  generalize n / 2 ^ j = x
  omega
theorem pcT_64 {n : Nat} : pcT (fun q => n.testBit q) 64 0 = sumB 8 n := by
  have e0 : n / 2 ^ 0 = n := by rw [Nat.pow_zero, Nat.div_one]
  have e1 : n / 2 ^ 8 = n / 256 := rfl
  have e2 : n / 2 ^ 16 = n / 256 / 256 := by rw [Nat.div_div_eq_div_mul]
  have e3 : n / 2 ^ 24 = n / 256 / 256 / 256 := by rw [Nat.div_div_eq_div_mul, Nat.div_div_eq_div_mul]
  have e4 : n / 2 ^ 32 = n / 256 / 256 / 256 / 256 := by rw [Nat.div_div_eq_div_mul, Nat.div_div_eq_div_mul, Nat.div_div_eq_div_mul]
  have e5 : n / 2 ^ 40 = n / 256 / 256 / 256 / 256 / 256 := by rw [Nat.div_div_eq_div_mul, Nat.div_div_eq_div_mul, Nat.div_div_eq_div_mul, Nat.div_div_eq_div_mul]
  have e6 : n / 2 ^ 48 = n / 256 / 256 / 256 / 256 / 256 / 256 := by rw [Nat.div_div_eq_div_mul, Nat.div_div_eq_div_mul, Nat.div_div_eq_div_mul, Nat.div_div_eq_div_mul, Nat.div_div_eq_div_mul]
  have e7 : n / 2 ^ 56 = n / 256 / 256 / 256 / 256 / 256 / 256 / 256 := by rw [Nat.div_div_eq_div_mul, Nat.div_div_eq_div_mul, Nat.div_div_eq_div_mul, Nat.div_div_eq_div_mul, Nat.div_div_eq_div_mul, Nat.div_div_eq_div_mul]
  rw [show (64 : Nat) = 8 + (8 + (8 + (8 + (8 + (8 + (8 + 8)))))) from rfl, pcT_add, pcT_add, pcT_add, pcT_add, pcT_add, pcT_add, pcT_add, pcT_8, pcT_8, pcT_8, pcT_8, pcT_8, pcT_8, pcT_8, pcT_8]
  rw [show 0 + 8 = 8 from rfl, show 8 + 8 = 16 from rfl, show 16 + 8 = 24 from rfl, show 24 + 8 = 32 from rfl, show 32 + 8 = 40 from rfl, show 40 + 8 = 48 from rfl, show 48 + 8 = 56 from rfl, e0, e1, e2, e3, e4, e5, e6, e7]
  rfl
/-- the number of trees, by bits -/
theorem bc_tb {t : Int64} : f_J13_bitCount_95d88 t = nI (pcT (tb t) 64 0) := by
  obtain ⟨n, hn, rfl⟩ := bc_of t
  rw [bc_is hn, ← pcT_64]
  have h : ∀ k j, j + k ≤ 64 → pcT (fun q => n.testBit q) k j = pcT (tb (lN n)) k j := by
    intro k
    induction k with
    | zero => intro j _; rfl
    | succ k ih => intro j hj; rw [pcT, pcT, tb_lN (by omega), ih (j + 1) (by omega)]
  rw [h 64 0 (by omega)]
