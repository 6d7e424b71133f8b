/-! THE ABSTRACT HEAP: things by small numbers. An entry is an array (number of its type, length, what it holds) or an object (number of its class in vwCl, its fields). References in it are those small numbers. -/
abbrev kE : Type := (Nat × vp_A) ⊕ (Nat × List Value)
abbrev kH : Type := Nat → kE
/-- a run's own numbers: classes and slots; array classes; addresses -/
abbrev kG : Type := va_G × (Nat → ClassId) × (Nat → Nat)
def kV (g : kG) : Value → Value
  | .ref i => .ref (g.2.2 i)
  | v => v
def kA (g : kG) (x : vp_A) : vp_A := match x with
  | (n, .inr (.inr (.inr (.inr f)))) => (n, .inr (.inr (.inr (.inr (fun j => (f j).map g.2.2)))))
  | x => x
def kC (g : kG) : kE → va_E
  | .inl (t, a) => .inl (g.2.1 t, kA g a)
  | .inr (c, fs) => .inr (c, fs.map (kV g))
abbrev kI (n : Nat) (f : Nat → Int32) : kE := .inl (0, n, .inl f)
abbrev kCh (n : Nat) (f : Nat → Int32) : kE := .inl (1, n, .inl f)
abbrev kJ (n : Nat) (f : Nat → Int64) : kE := .inl (2, n, .inr (.inl f))
abbrev kDb (n : Nat) (f : Nat → UInt64) : kE := .inl (3, n, .inr (.inr (.inr (.inl f))))
abbrev kRf (t n : Nat) (f : Nat → Option Nat) : kE := .inl (t, n, .inr (.inr (.inr (.inr f))))
abbrev kO (c : Nat) (fs : List Value) : kE := .inr (c, fs)
def kU (h : kH) (i : Nat) (e : kE) : kH := fun j => cond (Nat.beq j i) e (h j)
theorem kU_s {h : kH} {i : Nat} {e : kE} : kU h i e i = e := by
  have : Nat.beq i i = true := Nat.beq_refl i
  simp [kU, this]
theorem kU_n {h : kH} {i j : Nat} {e : kE} (hj : j ≠ i) : kU h i e j = h j := by
  have : Nat.beq j i = false := by
    cases h9 : Nat.beq j i with
    | false => rfl
    | true => exact absurd (Nat.eq_of_beq_eq_true h9) hj
  simp [kU, this]
/-- the world: the first N things, each at its address -/
def kW (g : kG) (h : kH) (N : Nat) : va_W := (List.range N).map fun i => (g.2.2 i, kC g (h i))
theorem kW_get {g : kG} {h : kH} {N i : Nat} (hi : i < N) : (kW g h N)[i]? = some (g.2.2 i, kC g (h i)) := by
  simp [kW, hi]
theorem kW_out {g : kG} {h : kH} {N i : Nat} {q : Nat × va_E} (hq : (kW g h N)[i]? = some q) : i < N ∧ q = (g.2.2 i, kC g (h i)) := by
  have hl := (List.getElem?_eq_some_iff.mp hq).1
  have hi : i < N := by simpa [kW] using hl
  rw [kW_get hi] at hq
  exact ⟨hi, (Option.some.inj hq).symm⟩
theorem kW_set {g : kG} {h : kH} {N i : Nat} {e : kE} (_ : i < N) : (kW g h N).set i (g.2.2 i, kC g e) = kW g (kU h i e) N := by
  apply List.ext_getElem?
  intro j
  rw [List.getElem?_set]
  by_cases hj : j < N
  · rw [kW_get hj, kW_get hj]
    by_cases hij : i = j
    · subst hij
      rw [kU_s]
      simp [kW, hj]
    · rw [if_neg hij, kU_n (Ne.symm hij)]
  · have h1 : (kW g h N).length = N := by simp [kW]
    have h2 : (kW g (kU h i e) N)[j]? = none := by simp [kW, hj]
    have h3 : (kW g h N)[j]? = none := by simp [kW, hj]
    rw [h2, h3]
    by_cases hij : i = j
    · subst hij; simp [h1, hj]
    · simp [if_neg hij]
/-- only entries below N count -/
theorem kW_congr {g : kG} {h h' : kH} {N : Nat} (e : ∀ i, i < N → h i = h' i) : kW g h N = kW g h' N := by
  apply List.map_congr_left
  intro i hi
  rw [e i (List.mem_range.mp hi)]
theorem kW_push {g : kG} {h : kH} {N : Nat} {e : kE} : kW g h N ++ [(g.2.2 N, kC g e)] = kW g (kU h N e) (N + 1) := by
  rw [show kW g (kU h N e) (N + 1) = (List.range N ++ [N]).map (fun i => (g.2.2 i, kC g (kU h N e i))) by simp only [kW, List.range_succ]]
  rw [List.map_append]
  congr 1
  · apply List.map_congr_left
    intro i hi
    rw [kU_n (Nat.ne_of_lt (List.mem_range.mp hi))]
  · simp [kU_s]
/-- array types, by number -/
def kTy : List FieldType := [.int, .char, .long, .double, .object "BoomerangCourt$State", .object "BoomerangCourt$Command"]
def kTs (g : kG) : List (ClassId × FieldType) := [(g.2.1 0, .int), (g.2.1 1, .char), (g.2.1 2, .long), (g.2.1 3, .double), (g.2.1 4, .object "BoomerangCourt$State"), (g.2.1 5, .object "BoomerangCourt$Command")]
theorem kTs_get {g : kG} {t : Nat} {ty : FieldType} (h : kTy[t]? = some ty) : (kTs g)[t]? = some (g.2.1 t, ty) := by
  match t, h with
  | 0, h => cases h; rfl
  | 1, h => cases h; rfl
  | 2, h => cases h; rfl
  | 3, h => cases h; rfl
  | 4, h => cases h; rfl
  | 5, h => cases h; rfl
  | t + 6, h => simp [kTy] at h
theorem kV_cat (g : kG) (v : Value) : (kV g v).category = v.category := by cases v <;> rfl
theorem kV_cats (g : kG) (st : List Value) : ((st.map (kV g)).map fun v => v.category).sum = (st.map fun v => v.category).sum := by
  rw [List.map_map]
  congr 1
  apply List.map_congr_left
  intro v _
  exact kV_cat g v
theorem kV_narrow {g : kG} {ty : FieldType} {v : Value} (h : narrow ty v = v) : narrow ty (kV g v) = kV g v := by
  cases v <;> first | exact h | (cases ty <;> rfl)
theorem kV_fits {g : kG} {ty : FieldType} {v : Value} (h : fits ty v = true) : fits ty (kV g v) = true := by
  cases v <;> first | exact h | (cases ty <;> first | rfl | exact h)
/-! LOCALS by their places; what is not set (and a second half) is a retAddr -/
def kLs (g : kG) (ls : List Value) : List (Nat × Value) := ls.zipIdx.filterMap fun q => match q.1 with
  | .retAddr _ => none
  | v => some (q.2, kV g v)
theorem kLs_mem {g : kG} {ls : List Value} {q : Nat × Value} : q ∈ kLs g ls ↔ ∃ v, ls[q.1]? = some v ∧ (∀ k, v ≠ .retAddr k) ∧ q.2 = kV g v := by
  unfold kLs
  rw [List.mem_filterMap]
  constructor
  · rintro ⟨⟨v, i⟩, hm, he⟩
    have hv : ls[i]? = some v := by
      have := List.mem_zipIdx_iff_getElem?.mp hm
      simpa using this
    cases v <;> first
      | (simp only [Option.some.injEq] at he; subst he; exact ⟨_, hv, (fun k hk => by cases hk), rfl⟩)
      | cases he
  · rintro ⟨v, hv, hn, he⟩
    refine ⟨(v, q.1), List.mem_zipIdx_iff_getElem?.mpr (by simpa using hv), ?_⟩
    obtain ⟨i, w⟩ := q
    cases v <;> first
      | (simp only at he; subst he; rfl)
      | exact absurd rfl (hn _)
theorem kLs_at {g : kG} {lsA : Array Slot} {nL : Nat} {ls : List Value} (h : lv_has lsA nL (kLs g ls)) {i : Nat} {v : Value} (hi : ls[i]? = some v) (hv : ∀ k, v ≠ .retAddr k) : lsA[i]? = some (.val (kV g v)) :=
  h.2.2 (i, kV g v) (kLs_mem.mpr ⟨v, hi, hv, rfl⟩)
theorem kLs_sub {lsA : Array Slot} {nL : Nat} {l l' : List (Nat × Value)} (h : lv_has lsA nL l) (hs : ∀ q ∈ l', q ∈ l) : lv_has lsA nL l' := ⟨h.1, h.2.1, fun q hq => h.2.2 q (hs q hq)⟩
/-- a place's forerunner, if it is a long's first half, is gone once the place is written -/
def kCl (ls : List Value) : Nat → List Value
  | 0 => ls
  | j + 1 => match ls[j]? with
    | some (.long _) => ls.set j (.retAddr 0)
    | some (.double _) => ls.set j (.retAddr 0)
    | _ => ls
def kS1 (ls : List Value) (i : Nat) (v : Value) : List Value := (kCl ls i).set i v
def kS2 (ls : List Value) (i : Nat) (v : Value) : List Value := ((kCl ls i).set i v).set (i + 1) (.retAddr 0)
theorem kCl_get {ls : List Value} {i j : Nat} {w : Value} (h : (kCl ls i)[j]? = some w) (hw : ∀ k, w ≠ .retAddr k) : ls[j]? = some w ∧ (j + 1 = i → w.category ≠ 2) := by
  cases i with
  | zero => exact ⟨h, fun q => by omega⟩
  | succ i =>
    have plain : (kCl ls (i + 1) = ls) → (∀ v, ls[i]? = some v → v.category ≠ 2) → ls[j]? = some w ∧ (j + 1 = i + 1 → w.category ≠ 2) := by
      intro e hc
      rw [e] at h
      refine ⟨h, fun q => ?_⟩
      have : j = i := by omega
      subst this
      exact hc w h
    have gone : (kCl ls (i + 1) = ls.set i (.retAddr 0)) → ls[j]? = some w ∧ (j + 1 = i + 1 → w.category ≠ 2) := by
      intro e
      rw [e, List.getElem?_set] at h
      by_cases hij : i = j
      · subst hij
        rw [if_pos rfl] at h
        split at h
        · cases h; exact absurd rfl (hw 0)
        · cases h
      · rw [if_neg hij] at h
        exact ⟨h, fun q => absurd (by omega) hij⟩
    cases hv : ls[i]? with
    | none => exact plain (by simp [kCl, hv]) (fun v q => by rw [hv] at q; cases q)
    | some v =>
      cases v with
      | long x => exact gone (by simp [kCl, hv])
      | double x => exact gone (by simp [kCl, hv])
      | _ => exact plain (by simp [kCl, hv]) (fun v q => by rw [hv] at q; cases q; simp [Value.category])
theorem kS1_sub {g : kG} {ls : List Value} {i : Nat} {v : Value} : ∀ q ∈ kLs g (kS1 ls i v), q ∈ (i, kV g v) :: (kLs g ls).filter (fun q => !(q.1 == i) && !(q.1 + 1 == i && q.2.category == 2)) := by
  rintro ⟨j, w⟩ hq
  obtain ⟨u, h1, h2, h3⟩ := kLs_mem.mp hq
  simp only at h1 h3
  unfold kS1 at h1
  rw [List.getElem?_set] at h1
  by_cases hij : i = j
  · subst hij
    rw [if_pos rfl] at h1
    split at h1
    · cases h1; rw [h3]; exact List.mem_cons_self
    · cases h1
  · rw [if_neg hij] at h1
    obtain ⟨g1, g2⟩ := kCl_get h1 h2
    refine List.mem_cons_of_mem _ (List.mem_filter.mpr ⟨kLs_mem.mpr ⟨u, g1, h2, h3⟩, ?_⟩)
    simp only [Bool.and_eq_true, Bool.not_eq_true', beq_eq_false_iff_ne, Bool.and_eq_false_iff, ne_eq]
    refine ⟨fun q => hij q.symm, ?_⟩
    by_cases hj : j + 1 = i
    · right; rw [h3, kV_cat]; exact g2 hj
    · left; exact hj
theorem kS2_sub {g : kG} {ls : List Value} {i : Nat} {v : Value} : ∀ q ∈ kLs g (kS2 ls i v), q ∈ (i, kV g v) :: (kLs g ls).filter (fun q => !(q.1 == i) && (!(q.1 == i + 1) && !(q.1 + 1 == i && q.2.category == 2))) := by
  rintro ⟨j, w⟩ hq
  obtain ⟨u, h1, h2, h3⟩ := kLs_mem.mp hq
  simp only at h1 h3
  unfold kS2 at h1
  rw [List.getElem?_set] at h1
  by_cases hi1 : i + 1 = j
  · rw [if_pos hi1] at h1
    split at h1
    · cases h1; exact absurd rfl (h2 0)
    · cases h1
  rw [if_neg hi1, List.getElem?_set] at h1
  by_cases hij : i = j
  · subst hij
    rw [if_pos rfl] at h1
    split at h1
    · cases h1; rw [h3]; exact List.mem_cons_self
    · cases h1
  · rw [if_neg hij] at h1
    obtain ⟨g1, g2⟩ := kCl_get h1 h2
    refine List.mem_cons_of_mem _ (List.mem_filter.mpr ⟨kLs_mem.mpr ⟨u, g1, h2, h3⟩, ?_⟩)
    simp only [Bool.and_eq_true, Bool.not_eq_true', beq_eq_false_iff_ne, Bool.and_eq_false_iff, ne_eq]
    refine ⟨fun q => hij q.symm, fun q => hi1 q.symm, ?_⟩
    by_cases hj : j + 1 = i
    · right; rw [h3, kV_cat]; exact g2 hj
    · left; exact hj
/-- a method's first locals -/
def kAr : List Value → List Value
  | [] => []
  | v :: vs => if v.category = 2 then v :: .retAddr 0 :: kAr vs else v :: kAr vs
def kEnt (n : Nat) (av : List Value) : List Value := kAr av ++ List.replicate (n - (kAr av).length) (.retAddr 0)
theorem kAr_len (av : List Value) (g : kG) : (lg_sl (av.map (kV g))).length = (kAr av).length := by
  induction av with
  | nil => rfl
  | cons v vs ih =>
    have e : lg_sl ((v :: vs).map (kV g)) = (if (kV g v).category = 2 then [.val (kV g v), .second] else [.val (kV g v)]) ++ lg_sl (vs.map (kV g)) := by simp [lg_sl]
    rw [e, kAr, kV_cat]
    split
    · simp [ih]
    · simp [ih]
theorem kAr_args (g : kG) : ∀ (av : List Value) (pre : List Value), ∀ q ∈ kLs g (pre ++ kAr av), q ∈ kLs g pre ∨ q ∈ lv_args pre.length (av.map (kV g)) := by
  intro av
  induction av with
  | nil => intro pre q hq; left; simpa [kAr] using hq
  | cons v vs ih =>
    intro pre q hq
    have key : ∀ tail : List Value, tail.length = (if v.category = 2 then 1 else 0) → (∀ x ∈ tail, x = .retAddr 0) → q ∈ kLs g ((pre ++ v :: tail) ++ kAr vs) → q ∈ kLs g pre ∨ q ∈ lv_args pre.length ((v :: vs).map (kV g)) := by
      intro tail ht hx hq
      have hlen : (pre ++ v :: tail).length = if v.category = 2 then pre.length + 2 else pre.length + 1 := by
        simp only [List.length_append, List.length_cons, ht]
        split <;> omega
      rcases ih _ q hq with h | h
      · obtain ⟨u, h1, h2, h3⟩ := kLs_mem.mp h
        rw [List.getElem?_append] at h1
        split at h1
        · left; exact kLs_mem.mpr ⟨u, h1, h2, h3⟩
        · rename_i hge
          right
          cases hk : q.1 - pre.length with
          | zero =>
            rw [hk] at h1
            simp only [List.getElem?_cons_zero, Option.some.injEq] at h1
            subst h1
            have : q = (pre.length, kV g v) := by
              obtain ⟨a, b⟩ := q
              simp only at h3 hk hge
              simp only [Prod.mk.injEq]
              exact ⟨by omega, h3⟩
            rw [this]
            exact List.mem_cons_self
          | succ k =>
            rw [hk] at h1
            simp only [List.getElem?_cons_succ] at h1
            exact absurd (hx u (List.mem_of_getElem? h1)) (h2 0)
      · right
        rw [hlen] at h
        show q ∈ (pre.length, kV g v) :: lv_args (if (kV g v).category = 2 then pre.length + 2 else pre.length + 1) (vs.map (kV g))
        rw [kV_cat]
        exact List.mem_cons_of_mem _ h
    rw [kAr] at hq
    split at hq
    · rename_i hc
      exact key [.retAddr 0] (by simp [hc]) (fun x hx => by simpa using hx) (by simpa using hq)
    · rename_i hc
      exact key [] (by simp [hc]) (fun x hx => by cases hx) (by simpa using hq)
theorem kEnt_has {g : kG} {n : Nat} {av : List Value} (h : (kAr av).length ≤ n) : lv_has ((lg_sl (av.map (kV g)) ++ List.replicate (n - (lg_sl (av.map (kV g))).length) Slot.unset).toArray) n (kLs g (kEnt n av)) := by
  refine kLs_sub (lv_entry (av.map (kV g)) (by rw [kAr_len]; exact h)) ?_
  intro q hq
  obtain ⟨u, h1, h2, h3⟩ := kLs_mem.mp hq
  unfold kEnt at h1
  rw [List.getElem?_append] at h1
  split at h1
  · rcases kAr_args g av [] q (kLs_mem.mpr ⟨u, by simpa using h1, h2, h3⟩) with h | h
    · simp [kLs] at h
    · exact h
  · rw [List.getElem?_replicate] at h1
    split at h1
    · cases h1; exact absurd rfl (h2 0)
    · cases h1
