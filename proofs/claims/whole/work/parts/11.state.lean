/-! THE STATE OF THE SYSTEM AS NUMBERS. A core: trees; numbers (0 bench, 1 wind's direction, 2 its strength, 3 parties, 4 hour, 5 sitting, 6 pleas, 7 boomerangs, 8 coins, 9 fines, 10 spent on throws, 11 spent on boomerangs, 12 thrown, 13 caught, 14 steps); rows (0 cells of parties, 1 parties of pleas, 2 first hours, 3 arms, 4 served). -/
abbrev kCo : Type := Int64 × (Nat → Int32) × (Nat → Nat → Int32)
def cT (c : kCo) (t : Int64) : kCo := (t, c.2.1, c.2.2)
def cS (c : kCo) (k : Nat) (v : Int32) : kCo := (c.1, upd c.2.1 k v, c.2.2)
def cR (c : kCo) (k : Nat) (f : Nat → Int32) : kCo := (c.1, c.2.1, va_up c.2.2 k f)
/-- the nine things of a State whose first has the number b -/
def kBl (b : Nat) (c : kCo) : Nat → kE
  | 0 => kO 9 [.ref (b + 1), .ref (b + 3), .ref (b + 7)]
  | 1 => kO 10 [.long c.1, .int (c.2.1 0), .int (c.2.1 1), .int (c.2.1 2), .int (c.2.1 3), .ref (b + 2)]
  | 2 => kI 8 (c.2.2 0)
  | 3 => kO 3 [.int (c.2.1 4), .int (c.2.1 5), .int (c.2.1 6), .ref (b + 4), .ref (b + 5), .ref (b + 6)]
  | 4 => kI 8 (c.2.2 1)
  | 5 => kI 8 (c.2.2 2)
  | 6 => kI 8 (c.2.2 3)
  | 7 => kO 7 [.int (c.2.1 7), .int (c.2.1 8), .int (c.2.1 9), .int (c.2.1 10), .int (c.2.1 11), .int (c.2.1 12), .int (c.2.1 13), .int (c.2.1 14), .ref (b + 8)]
  | _ => kI 8 (c.2.2 4)
/-- the class: its cores (0 now, 1 saved, 2 before a run, 3 + j the history's); numbers (0 next and 1 count of the history, 2 length and 3 end of the flight, 4 length, 5 at and 6 count of the text, 7 length of the line, 8 isSaved, 9 reason, 10 detail, 11 error position, 12 failed command); rows (0 the flight's cells, 1 queue, 2 hourOfPlea, 3 pleaInHour, 4 foundFrom, 5 the text, 6 operands, 7 the line, 8 cellQueue); the commands read -/
abbrev kK : Type := (Nat → kCo) × (Nat → Int32) × (Nat → Nat → Int32) × (Nat → Option Nat)
def kkC (x : kK) (k : Nat) (c : kCo) : kK := (va_up x.1 k c, x.2.1, x.2.2.1, x.2.2.2)
def kkS (x : kK) (k : Nat) (v : Int32) : kK := (x.1, upd x.2.1 k v, x.2.2.1, x.2.2.2)
def kkR (x : kK) (k : Nat) (f : Nat → Int32) : kK := (x.1, x.2.1, va_up x.2.2.1 k f, x.2.2.2)
def kkE (x : kK) (f : Nat → Option Nat) : kK := (x.1, x.2.1, x.2.2.1, f)
def kHx (x : kK) : Nat → kE
  | 0 => kO 4 [.ref 103, .int (x.2.1 2), .int (x.2.1 3)]
  | 1 => kI 36 (x.2.2.1 0)
  | 2 => kO 5 [.ref 105, .ref 106, .ref 107, .ref 108]
  | 3 => kI 8 (x.2.2.1 1)
  | 4 => kI 8 (x.2.2.1 2)
  | 5 => kI 33 (x.2.2.1 3)
  | 6 => kI 33 (x.2.2.1 4)
  | 7 => kO 2 [.ref 110, .int (x.2.1 4), .int (x.2.1 5), .int (x.2.1 6), .ref 111, .ref 112]
  | 8 => kCh 60 (x.2.2.1 5)
  | 9 => kRf 5 11 x.2.2.2
  | 10 => kI 33 (x.2.2.1 6)
  | 11 => kO 8 [.ref 114, .int (x.2.1 7)]
  | 12 => kCh 32 (x.2.2.1 7)
  | 13 => kI 64 (x.2.2.1 8)
  | _ => kI 0 (fun _ => 0)
/-- the class's things, by their numbers -/
def kHc (x : kK) (i : Nat) : kE :=
  cond (Nat.beq i 0) (kO 11 [.ref 1, .ref 10, .ref 19, .ref 28, .ref 102, .ref 104, .ref 109, .ref 113, .ref 115, .int (x.2.1 8), .int (x.2.1 9), .int (x.2.1 10), .int (x.2.1 11), .int (x.2.1 12)])
  (cond (Nat.blt i 10) (kBl 1 (x.1 0) (i - 1)) (cond (Nat.blt i 19) (kBl 10 (x.1 1) (i - 10)) (cond (Nat.blt i 28) (kBl 19 (x.1 2) (i - 19))
  (cond (Nat.beq i 28) (kO 6 [.ref 29, .int (x.2.1 0), .int (x.2.1 1)])
  (cond (Nat.beq i 29) (kRf 4 8 (fun j => cond (Nat.blt j 8) (some (30 + 9 * j)) none))
  (cond (Nat.blt i 102) (kBl (9 * ((i - 30) / 9) + 30) (x.1 (3 + (i - 30) / 9)) ((i - 30) % 9)) (kHx x (i - 102))))))))
/-- two heaps side by side: the class's numbers are below 116 -/
def kTp (a b : kH) : kH := fun i => cond (Nat.blt i 116) (a i) (b i)
theorem kTp_U {a b : kH} {i : Nat} {e : kE} (hi : Nat.blt i 116 = true) : kU (kTp a b) i e = kTp (kU a i e) b := by
  funext j
  unfold kTp kU
  cases h : Nat.beq j i with
  | true =>
    rw [Nat.eq_of_beq_eq_true h, hi]
    simp
  | false => simp
theorem kTp_V {a b : kH} {i : Nat} {e : kE} (hi : Nat.blt i 116 = false) : kU (kTp a b) i e = kTp a (kU b i e) := by
  funext j
  unfold kTp kU
  cases h : Nat.beq j i with
  | true =>
    rw [Nat.eq_of_beq_eq_true h, hi]
    simp
  | false => simp
theorem kU_self {h : kH} {i : Nat} {e : kE} (he : h i = e) : kU h i e = h := by
  funext j
  unfold kU
  cases h9 : Nat.beq j i with
  | true => rw [Nat.eq_of_beq_eq_true h9, he]; rfl
  | false => rfl
/-- one thing changes: the heap of the changed state -/
theorem kU_to {h h' : kH} {i : Nat} {e : kE} (he : e = h' i) (ho : ∀ j, j ≠ i → h j = h' j) : kU h i e = h' := by
  funext j
  by_cases hj : j = i
  · subst hj; rw [kU_s, he]
  · rw [kU_n hj]; exact ho j hj
theorem kHc_core {x : kK} {k : Nat} {c : kCo} (k0 : k = 0) (t : Nat) (ht : t < 9) (hc : ∀ u, u < 9 → u ≠ t → kBl 1 c u = kBl 1 (x.1 0) u) : ∀ j, j ≠ 1 + t → kHc x j = kHc (kkC x k c) j := by
  subst k0
  intro j hj
  unfold kHc
  by_cases h0 : j = 0
  · subst h0; rfl
  have b0 : Nat.beq j 0 = false := by
    cases h9 : Nat.beq j 0 with
    | false => rfl
    | true => exact absurd (Nat.eq_of_beq_eq_true h9) h0
  rw [b0]
  by_cases h1 : j < 10
  · have b1 : Nat.blt j 10 = true := Nat.ble_eq_true_of_le h1
    rw [b1]
    show kBl 1 (x.1 0) (j - 1) = kBl 1 c (j - 1)
    exact (hc (j - 1) (by omega) (by omega)).symm
  · have b1 : Nat.blt j 10 = false := by
      cases h9 : Nat.blt j 10 with
      | false => rfl
      | true => exact absurd (Nat.le_of_ble_eq_true h9) (by omega)
    rw [b1]
    have n2 : 3 + (j - 30) / 9 ≠ 0 := by omega
    simp only [kkC, va_up, if_neg n2, kHx]
    rfl
theorem kHc_S {x : kK} {k : Nat} {v : Int32} {i : Nat} (ho : ∀ j, j ≠ i → (j = 0 ∨ j = 28 ∨ 102 ≤ j) → kHc x j = kHc (kkS x k v) j) : ∀ j, j ≠ i → kHc x j = kHc (kkS x k v) j := by
  intro j hj
  by_cases h : j = 0 ∨ j = 28 ∨ 102 ≤ j
  · exact ho j hj h
  · have n0 : Nat.beq j 0 = false := by cases h9 : Nat.beq j 0 with | false => rfl | true => exact absurd (Or.inl (Nat.eq_of_beq_eq_true h9)) h
    have n1 : Nat.beq j 28 = false := by cases h9 : Nat.beq j 28 with | false => rfl | true => exact absurd (Or.inr (Or.inl (Nat.eq_of_beq_eq_true h9))) h
    have n2 : Nat.blt j 102 = true := Nat.ble_eq_true_of_le (by omega)
    unfold kHc
    rw [n0, n1, n2]
    rfl
/-- rows of numbers that agree where they count are one thing to the machine -/
def kEq (e e' : kE) : Prop := e = e' ∨ ∃ (t n : Nat) (f f' : Nat → Int32), e = .inl (t, n, .inl f) ∧ e' = .inl (t, n, .inl f') ∧ ∀ j, j < n → f j = f' j
theorem kEq_at {g : kG} {q : Nat} {e e' : kE} {H : Heap} (h : kEq e e') (ha : va_at g.1 vwCl (q, kC g e) H) : va_at g.1 vwCl (q, kC g e') H := by
  rcases h with rfl | ⟨t, n, f, f', rfl, rfl, h⟩
  · exact ha
  · have ha : H[q]? = some (vp_cell (g.2.1 t) (n, .inl f)) := ha
    show H[q]? = some (vp_cell (g.2.1 t) (n, .inl f'))
    rw [ha]
    have e1 : arrV (g.2.1 t) n (fun j => Value.int (f j)) = arrV (g.2.1 t) n (fun j => Value.int (f' j)) := by
      unfold arrV
      congr 1
      apply Array.ext
      · simp
      · intro i h1 h2
        simp only [Array.getElem_ofFn]
        rw [h i (by simpa using h1)]
    rw [vp_cell_i, vp_cell_i, e1]
theorem k_alike {K : kM} {R : Room} {F : kFn} {mu : Bool} {pc : Nat} {ls st : List Value} {h h' : kH} {N cs ss : Nat} (ha : ∀ i, i < N → kEq (h i) (h' i)) (k : kEv K R F mu pc ls st h' N cs ss) : kEv K R F mu pc ls st h N cs ss := by
  intro p l e s m args below meth c g A C H locs lsA hW hS hl hz
  refine k p l e s m args below meth c g A C H locs lsA ⟨fun j q hq => ?_, ⟨fun i j p1 q1 hp hq he => ?_, fun j q hq => ?_⟩⟩ hS hl hz
  · obtain ⟨hj, rfl⟩ := kW_out hq
    exact kEq_at (ha j hj) (hW.1 j _ (kW_get hj))
  · obtain ⟨hi, rfl⟩ := kW_out hp
    obtain ⟨hj, rfl⟩ := kW_out hq
    exact hW.2.1 i j _ _ (kW_get hi) (kW_get hj) he
  · obtain ⟨hj, rfl⟩ := kW_out hq
    have h9 := hW.2.2 j _ (kW_get (g := g) (h := h) hj)
    exact h9
/-- the plainest end of a method: this value, this heap -/
def kRt (v : Option Value) (h : kH) (N : Nat) : kQ := fun o h2 N2 => o = .inl v ∧ h2 = h ∧ N2 = N
theorem kRt_rfl {v : Option Value} {h : kH} {N : Nat} : kRt v h N (.inl v) h N := ⟨rfl, rfl, rfl⟩
theorem kRt_of {v v' : Option Value} {h h' : kH} {N : Nat} (hv : v = v') (hh : h = h') : kRt v' h' N (.inl v) h N := ⟨by rw [hv], hh, rfl⟩
def kTh (E : String) (h : kH) (N : Nat) : kQ := fun o h2 N2 => o = .inr E ∧ h2 = h ∧ N2 = N
