/-! THE LAW'S START: what the Statement gives of constants, texts and classes. -/
abbrev NL : List Cond := flatC (Jvm.Cond.and given_1 narrow_1)
abbrev EC : String := "BoomerangCourt$Command"
def nmE : List String := ["TREE", "FELL", "BENCH", "PARTY", "MOVE", "WIND", "THROW", "BUY", "HEAR", "PASS"]
def kyE : List Nat := [61, 69, 72, 75, 78, 83, 86, 91, 96, 101]
def fmE : List Nat := [63, 80, 88, 93, 98]
abbrev tSX : Term := .static "BoomerangCourt" "STEP_X" "[I"
abbrev tSY : Term := .static "BoomerangCourt" "STEP_Y" "[I"
abbrev tSW : Term := .static "BoomerangCourt$1" "$SwitchMap$BoomerangCourt$Command" "[I"
abbrev tAL : Term := .static EC "ALL" "[LBoomerangCourt$Command;"
abbrev tSF : Term := .static "jdk/internal/util/Preconditions" "SIOOBE_FORMATTER" "Ljava/util/function/BiFunction;"
abbrev tEn (i : Nat) : Term := .static EC (nmE.getD i "") "LBoomerangCourt$Command;"
abbrev tSt (k : Nat) : Term := .string EC k
abbrev tVa (k : Nat) : Term := .field (.string EC k) "java/lang/String" "value" "[B"
theorem n_sx : Cond.arrayOf tSX .int ∈ NL ∧ Cond.eq (.length tSX) (.int (Int32.ofNat 8)) ∈ NL ∧ ∀ j, j < 8 → Cond.eq (.elem tSX (.int (Int32.ofNat j))) (.int (kStepX.getD j 0)) ∈ NL := by decide +kernel
theorem n_sy : Cond.arrayOf tSY .int ∈ NL ∧ Cond.eq (.length tSY) (.int (Int32.ofNat 8)) ∈ NL ∧ ∀ j, j < 8 → Cond.eq (.elem tSY (.int (Int32.ofNat j))) (.int (kStepY.getD j 0)) ∈ NL := by decide +kernel
theorem n_sw : Cond.arrayOf tSW .int ∈ NL ∧ Cond.eq (.length tSW) (.int (Int32.ofNat 10)) ∈ NL ∧ ∀ j, j < 10 → Cond.eq (.elem tSW (.int (Int32.ofNat j))) (.int (kSw.getD j 0)) ∈ NL := by decide +kernel
theorem n_al : Cond.arrayOf tAL (.object EC) ∈ NL ∧ Cond.eq (.length tAL) (.int (Int32.ofNat 10)) ∈ NL ∧ ∀ j, j < 10 → Cond.eq (.elem tAL (.int (Int32.ofNat j))) (tEn j) ∈ NL := by decide +kernel
theorem n_en : ∀ i, i < 10 → Cond.exactly (tEn i) EC ∈ NL ∧ Cond.eq (.field (tEn i) "java/lang/Enum" "ordinal" "I") (.int (Int32.ofNat i)) ∈ NL ∧ Cond.eq (.field (tEn i) EC "keyword" "Ljava/lang/String;") (tSt (kyE.getD i 0)) ∈ NL ∧ Cond.eq (.field (tEn i) EC "form" "Ljava/lang/String;") (tSt (fmE.getD (kFormOf.getD i 0) 0)) ∈ NL := by decide +kernel
/-- a text's own words -/
def strW (k : Nat) (L : List Int32) : Prop := Cond.exactly (tSt k) "java/lang/String" ∈ NL ∧ Cond.eq (.field (tSt k) "java/lang/String" "coder" "B") (.int 0) ∈ NL ∧ Cond.arrayOf (tVa k) .byte ∈ NL ∧ Cond.eq (.length (tVa k)) (.int (Int32.ofNat L.length)) ∈ NL ∧ ∀ j, j < L.length → Cond.eq (.elem (tVa k) (.int (Int32.ofNat j))) (.int (L.getD j 0)) ∈ NL
def strL (k : Nat) (L : List Int32) : List Cond := [Cond.exactly (tSt k) "java/lang/String", Cond.eq (.field (tSt k) "java/lang/String" "coder" "B") (.int 0), Cond.arrayOf (tVa k) .byte, Cond.eq (.length (tVa k)) (.int (Int32.ofNat L.length))] ++ (List.range L.length).map (fun j => Cond.eq (.elem (tVa k) (.int (Int32.ofNat j))) (.int (L.getD j 0)))
def ordT : List (Nat × List Int32) := [(61, kKeyB.getD 0 []), (63, kFormB.getD 0 []), (69, kKeyB.getD 1 []), (72, kKeyB.getD 2 []), (75, kKeyB.getD 3 []), (78, kKeyB.getD 4 []), (80, kFormB.getD 1 []), (83, kKeyB.getD 5 []), (86, kKeyB.getD 6 []), (88, kFormB.getD 2 []), (91, kKeyB.getD 7 []), (93, kFormB.getD 3 []), (96, kKeyB.getD 8 []), (98, kFormB.getD 4 []), (101, kKeyB.getD 9 [])]
theorem n_ord : (NL.drop 1199).take 123 = ordT.flatMap (fun q => strL q.1 q.2) := by decide +kernel
theorem strW_of {k : Nat} {L : List Int32} (h : (k, L) ∈ ordT) : strW k L := by
  have sub : ∀ w ∈ strL k L, w ∈ NL := fun w hw => List.mem_of_mem_drop (i := 1199) (List.mem_of_mem_take (i := 123) (by rw [n_ord]; exact List.mem_flatMap.2 ⟨(k, L), h, hw⟩))
  unfold strL at sub
  exact ⟨sub _ (List.mem_append.2 (Or.inl (List.Mem.head _))), sub _ (List.mem_append.2 (Or.inl (List.Mem.tail _ (List.Mem.head _)))), sub _ (List.mem_append.2 (Or.inl (List.Mem.tail _ (List.Mem.tail _ (List.Mem.head _))))), sub _ (List.mem_append.2 (Or.inl (List.Mem.tail _ (List.Mem.tail _ (List.Mem.tail _ (List.Mem.head _)))))), fun j hj => sub _ (List.mem_append.2 (Or.inr (List.mem_map.2 ⟨j, List.mem_range.2 hj, rfl⟩)))⟩
theorem n_ky (i : Nat) (hi : i < 10) : strW (kyE.getD i 0) (kKeyB.getD i []) :=
  have h : ∀ i, i < 10 → (kyE.getD i 0, kKeyB.getD i []) ∈ ordT := by decide +kernel
  strW_of (h i hi)
theorem n_fm (i : Nat) (hi : i < 5) : strW (fmE.getD i 0) (kFormB.getD i []) :=
  have h : ∀ i, i < 5 → (fmE.getD i 0, kFormB.getD i []) ∈ ordT := by decide +kernel
  strW_of (h i hi)
theorem n_cs : Cond.eq (.static "java/lang/String" "COMPACT_STRINGS" "Z") (.int 1) ∈ NL ∧ Cond.isRef tSF ∈ NL ∧ Cond.isRef (.static Bundle.tN "UNASSIGNED_STACK" Bundle.steD) ∈ NL ∧ Cond.isRef (.static Bundle.tN "SUPPRESSED_SENTINEL" Bundle.listD) ∈ NL := by decide +kernel
theorem n_ms : ∀ q ∈ kMs, Cond.exactly (.string q.1 q.2.1) "java/lang/String" ∈ NL := by decide +kernel
theorem n_nc : ∀ q ∈ kNc, Cond.not (.castable q.1 q.2) ∈ NL := by decide +kernel
def evA (s : State) (b : Nat) (t : Term) : Nat := match t.eval #[Value.ref b] s none [] s with
  | some (.ref a) => a
  | _ => 0
/-- the addresses of the numbered things -/
def gAd (s : State) (b : Nat) (i : Nat) : Nat :=
  if i ≤ 500 then s.heap.size + i else if i = 1000 then evA s b tSX else if i = 1001 then evA s b tSY else if i = 1002 then evA s b tSW else if i = 1003 then evA s b tAL else if i = 1004 then evA s b tSF
  else if i < 1020 then evA s b (tEn (i - 1010)) else if i < 1030 then evA s b (tSt (kyE.getD (i - 1020) 0)) else if i < 1035 then evA s b (tSt (fmE.getD (i - 1030) 0))
  else if i < 1130 then evA s b (tVa (kyE.getD (i - 1120) 0)) else if i < 1135 then evA s b (tVa (fmE.getD (i - 1130) 0)) else b
section STA
variable {s : State} {b : Nat} {A : Nat → Prop}
theorem ga_en {i : Nat} (h : i < 10) : gAd s b (1010 + i) = evA s b (tEn i) := by
  unfold gAd
  rw [if_neg (by omega), if_neg (by omega), if_neg (by omega), if_neg (by omega), if_neg (by omega), if_neg (by omega), if_pos (by omega), Nat.add_sub_cancel_left]
theorem ga_ky {i : Nat} (h : i < 10) : gAd s b (1020 + i) = evA s b (tSt (kyE.getD i 0)) := by
  unfold gAd
  rw [if_neg (by omega), if_neg (by omega), if_neg (by omega), if_neg (by omega), if_neg (by omega), if_neg (by omega), if_neg (by omega), if_pos (by omega), Nat.add_sub_cancel_left]
theorem ga_fm {i : Nat} (h : i < 5) : gAd s b (1030 + i) = evA s b (tSt (fmE.getD i 0)) := by
  unfold gAd
  rw [if_neg (by omega), if_neg (by omega), if_neg (by omega), if_neg (by omega), if_neg (by omega), if_neg (by omega), if_neg (by omega), if_neg (by omega), if_pos (by omega), Nat.add_sub_cancel_left]
theorem ga_kv {i : Nat} (h : i < 10) : gAd s b (1020 + i + 100) = evA s b (tVa (kyE.getD i 0)) := by
  unfold gAd
  rw [if_neg (by omega), if_neg (by omega), if_neg (by omega), if_neg (by omega), if_neg (by omega), if_neg (by omega), if_neg (by omega), if_neg (by omega), if_neg (by omega), if_pos (by omega), show 1020 + i + 100 - 1120 = i by omega]
theorem ga_fv {i : Nat} (h : i < 5) : gAd s b (1030 + i + 100) = evA s b (tVa (fmE.getD i 0)) := by
  unfold gAd
  rw [if_neg (by omega), if_neg (by omega), if_neg (by omega), if_neg (by omega), if_neg (by omega), if_neg (by omega), if_neg (by omega), if_neg (by omega), if_neg (by omega), if_neg (by omega), if_pos (by omega), show 1030 + i + 100 - 1130 = i by omega]
theorem evA_of {t : Term} {a : Nat} (h : t.eval #[Value.ref b] s none [] s = some (.ref a)) : evA s b t = a := by
  unfold evA
  rw [h]
theorem ev_eq {t u : Term} {v : Value} (h : (Cond.eq t u).before #[Value.ref b] s = true) (hu : u.eval #[Value.ref b] s none [] s = some v) : t.eval #[Value.ref b] s none [] s = some v := by
  obtain ⟨w, h1, h2⟩ := Cond.eq_one (show (Cond.eq t u).holds #[Value.ref b] s none s [] = true from h)
  rw [hu] at h2
  cases h2
  exact h1
theorem arr_of (hq : ∀ w ∈ NL, w.before #[Value.ref b] s = true) (hA : ∀ a : Nat, a < s.heap.size → ¬ A a) {tm : Term} {ty : FieldType} {N : Nat} {vs : List Int32} (hN : N < 2 ^ 31) (h : Cond.arrayOf tm ty ∈ NL ∧ Cond.eq (.length tm) (.int (Int32.ofNat N)) ∈ NL ∧ ∀ j, j < N → Cond.eq (.elem tm (.int (Int32.ofNat j))) (.int (vs.getD j 0)) ∈ NL) : tm.eval #[Value.ref b] s none [] s = some (.ref (evA s b tm)) ∧ va_T ty (evA s b tm) N (fun j => .int (vs.getD j 0)) A s s.heap := by
  obtain ⟨t, e, r⟩ := va_Tof (args := #[Value.ref b]) (f := fun j => .int (vs.getD j 0)) hN (hq _ h.1) (ev_eq (hq _ h.2.1) rfl) (fun j hj => ev_eq (hq _ (h.2.2 j hj)) rfl) hA
  rw [evA_of e]
  exact ⟨e, r⟩
theorem str_of (hq : ∀ w ∈ NL, w.before #[Value.ref b] s = true) (hA : ∀ a : Nat, a < s.heap.size → ¬ A a) {k : Nat} {L : List Int32} (hL : L.length < 2 ^ 31) (h : strW k L) : (tSt k).eval #[Value.ref b] s none [] s = some (.ref (evA s b (tSt k))) ∧ va_O "java/lang/String" (evA s b (tSt k)) A s s.heap ∧ va_OF "java/lang/String" "coder" "B" (.int 0) (evA s b (tSt k)) A s s.heap ∧ va_OF "java/lang/String" "value" "[B" (.ref (evA s b (tVa k))) (evA s b (tSt k)) A s s.heap ∧ va_T .byte (evA s b (tVa k)) L.length (fun j => .int (L.getD j 0)) A s s.heap := by
  obtain ⟨h0, h1, h2⟩ := h
  obtain ⟨a, _, _, _, e, -⟩ := Cond.exactly_spec (show (Cond.exactly (tSt k) "java/lang/String").holds #[Value.ref b] s none s [] = true from hq _ h0)
  obtain ⟨e2, r⟩ := arr_of (A := A) hq hA hL h2
  rw [evA_of e]
  exact ⟨e, va_Oof (hq _ h0) e hA, vk_OFof e (ev_eq (hq _ h1) rfl) hA, vk_OFof e e2 hA, r⟩
theorem enm_of (hq : ∀ w ∈ NL, w.before #[Value.ref b] s = true) (hA : ∀ a : Nat, a < s.heap.size → ¬ A a) {i : Nat} (hi : i < 10) {D : va_G} {E : Nat → ClassId} : (tEn i).eval #[Value.ref b] s none [] s = some (.ref (evA s b (tEn i))) ∧ kEnm (D, E, gAd s b) A s s.heap i := by
  obtain ⟨h0, h1, h2, h3⟩ := n_en i hi
  obtain ⟨a, _, _, _, e, -⟩ := Cond.exactly_spec (show (Cond.exactly (tEn i) EC).holds #[Value.ref b] s none s [] = true from hq _ h0)
  have k1 := (str_of (A := A) hq hA (L := kKeyB.getD i []) (Nat.lt_trans (kK_len hi) (by decide)) (n_ky i hi)).1
  have f5 : ∀ i, i < 10 → kFormOf.getD i 0 < 5 := by decide
  have l5 : ∀ j, j < 5 → (kFormB.getD j []).length < 2 ^ 31 := by decide
  have k2 := (str_of (A := A) hq hA (L := kFormB.getD (kFormOf.getD i 0) []) (l5 _ (f5 i hi)) (n_fm _ (f5 i hi))).1
  have e0 := evA_of e
  refine ⟨by rw [e0]; exact e, ?_⟩
  unfold kEnm
  show va_O _ (gAd s b (1010 + i)) _ _ _ ∧ va_OF _ _ _ _ (gAd s b (1010 + i)) _ _ _ ∧ va_OF _ _ _ (.ref (gAd s b (1020 + i))) (gAd s b (1010 + i)) _ _ _ ∧ va_OF _ _ _ (.ref (gAd s b (1030 + kFormOf.getD i 0))) (gAd s b (1010 + i)) _ _ _
  rw [ga_en hi, ga_ky hi, ga_fm (f5 i hi), e0]
  exact ⟨va_Oof (hq _ h0) e hA, vk_OFof e (ev_eq (hq _ h1) rfl) hA, vk_OFof e (ev_eq (hq _ h2) k1) hA, vk_OFof e (ev_eq (hq _ h3) k2) hA⟩
theorem w_at {w : Cond} (i : Nat) (h : lw_tbl[i]? = some w) : w ∈ lw_tbl := List.mem_of_getElem? h
theorem st_of (hq : ∀ w ∈ NL, w.before #[Value.ref b] s = true) (hts : ∀ w ∈ lw_tbl, w.before #[Value.ref b] s = true) (hA : ∀ a : Nat, a < s.heap.size → ¬ A a) {D : va_G} {E : Nat → ClassId} : kSt (D, E, gAd s b) A s s.heap := by
  have sx := arr_of (A := A) hq hA (by decide) n_sx
  have sy := arr_of (A := A) hq hA (by decide) n_sy
  have sw := arr_of (A := A) hq hA (by decide) n_sw
  obtain ⟨ta, al, alT⟩ := va_Tof (A := A) (args := #[Value.ref b]) (N := 10) (f := fun j => .ref (gAd s b (1010 + j))) (by decide) (hq _ n_al.1) (ev_eq (hq _ n_al.2.1) rfl) (fun j hj => by
    rw [ga_en hj]
    exact ev_eq (hq _ (n_al.2.2 j hj)) (enm_of (A := A) (D := D) (E := E) hq hA hj).1) hA
  have tc := hts _ (w_at 104 (by decide +kernel) : Cond.initialized "java/lang/String" ∈ lw_tbl)
  have tt := hts _ (w_at 99 (by decide +kernel) : Cond.initialized "java/lang/Throwable" ∈ lw_tbl)
  have tb := hts _ (w_at 88 (by decide +kernel) : Cond.initialized "BoomerangCourt" ∈ lw_tbl)
  have t1 := hts _ (w_at 121 (by decide +kernel) : Cond.initialized "BoomerangCourt$1" ∈ lw_tbl)
  have te := hts _ (w_at 117 (by decide +kernel) : Cond.initialized "BoomerangCourt$Command" ∈ lw_tbl)
  have tp := hts _ (w_at 119 (by decide +kernel) : Cond.initialized "jdk/internal/util/Preconditions" ∈ lw_tbl)
  refine ⟨fun w hw => ?_, ⟨vx_Zqof (args := #[Value.ref b]) (hts _ (w_at 572 (by decide +kernel))) tt (hq _ n_cs.2.2.1) hA, vx_Zqof (args := #[Value.ref b]) (hts _ (w_at 574 (by decide +kernel))) tt (hq _ n_cs.2.2.2) hA⟩, fun q hm => ?_, fun q hm => ?_, fun q hm => ?_, ?_, fun i hi => (enm_of hq hA hi).2, fun q hm => ?_, fun i hi => ?_, fun q hm => va_Nc.of (hq _ (n_nc q hm)), va_Zof (args := #[Value.ref b]) (hts _ (w_at 1240 (by decide +kernel))) tc (ev_eq (hq _ n_cs.1) rfl) hA, ?_⟩
  · -- words
    have h := hts w (List.mem_filter.mp hw).1
    have hg : gN w = true := (List.mem_filter.mp hw).2
    cases w <;> first
      | exact va_Nw.of rfl h
      | (rename_i t9; cases t9 <;> first | exact va_AO.of h | cases hg)
      | cases hg
  · -- texts of exceptions
    obtain ⟨a, _, _, _, e, -⟩ := Cond.exactly_spec (show (Cond.exactly (.string q.1 q.2.1) "java/lang/String").holds #[Value.ref b] s none s [] = true from hq _ (n_ms q hm))
    obtain ⟨w, hw, hf⟩ := List.mem_filterMap.mp hm
    have h := hts w hw
    refine ⟨a, vk_R.of (A := #[Value.ref b]) ?_ e⟩
    cases w <;> first
      | (cases hf; exact h)
      | cases hf
  · -- statics
    have g0 : gAd s b 1000 = evA s b tSX := rfl
    have g1 : gAd s b 1001 = evA s b tSY := rfl
    have g2 : gAd s b 1002 = evA s b tSW := rfl
    have g3 : gAd s b 1003 = evA s b tAL := rfl
    rcases List.mem_cons.1 hm with rfl | hm
    · show va_Z _ _ _ (.ref (gAd s b 1000)) _ _ _
      rw [g0]
      exact va_Zref (args := #[Value.ref b]) (hts _ (w_at 643 (by decide +kernel))) tb sx.1 hA
    rcases List.mem_cons.1 hm with rfl | hm
    · show va_Z _ _ _ (.ref (gAd s b 1001)) _ _ _
      rw [g1]
      exact va_Zref (args := #[Value.ref b]) (hts _ (w_at 645 (by decide +kernel))) tb sy.1 hA
    rcases List.mem_cons.1 hm with rfl | hm
    · show va_Z _ _ _ (.ref (gAd s b 1002)) _ _ _
      rw [g2]
      exact va_Zref (args := #[Value.ref b]) (hts _ (w_at 1316 (by decide +kernel))) t1 sw.1 hA
    rcases List.mem_cons.1 hm with rfl | hm
    · show va_Z _ _ _ (.ref (gAd s b 1003)) _ _ _
      rw [g3, evA_of al]
      exact va_Zref (args := #[Value.ref b]) (hts _ (w_at 1226 (by decide +kernel))) te al hA
    · exact absurd hm List.not_mem_nil
  · -- rows of whole numbers
    rcases List.mem_cons.1 hm with rfl | hm
    · exact sx.2
    rcases List.mem_cons.1 hm with rfl | hm
    · exact sy.2
    rcases List.mem_cons.1 hm with rfl | hm
    · exact sw.2
    · exact absurd hm List.not_mem_nil
  · show va_T (.object EC) (gAd s b 1003) 10 (fun j => .ref (gAd s b (1010 + j))) A s s.heap
    rw [show gAd s b 1003 = evA s b tAL from rfl, evA_of al]
    exact alT
  · -- texts
    have l5 : ∀ j, j < 5 → (kFormB.getD j []).length < 2 ^ 31 := by decide
    rcases List.mem_append.1 hm with hm | hm
    · obtain ⟨i, hi, rfl⟩ := List.mem_map.1 hm
      have hi := List.mem_range.1 hi
      have r := (str_of (A := A) hq hA (L := kKeyB.getD i []) (Nat.lt_trans (kK_len hi) (by decide)) (n_ky i hi)).2
      unfold kStr
      show va_O _ (gAd s b (1020 + i)) _ _ _ ∧ va_OF _ _ _ _ (gAd s b (1020 + i)) _ _ _ ∧ va_OF _ _ _ (.ref (gAd s b (1020 + i + 100))) (gAd s b (1020 + i)) _ _ _ ∧ va_T .byte (gAd s b (1020 + i + 100)) _ _ _ _ _
      rw [ga_ky hi, ga_kv hi]
      exact r
    · obtain ⟨i, hi, rfl⟩ := List.mem_map.1 hm
      have hi := List.mem_range.1 hi
      have r := (str_of (A := A) hq hA (L := kFormB.getD i []) (l5 i hi) (n_fm i hi)).2
      unfold kStr
      show va_O _ (gAd s b (1030 + i)) _ _ _ ∧ va_OF _ _ _ _ (gAd s b (1030 + i)) _ _ _ ∧ va_OF _ _ _ (.ref (gAd s b (1030 + i + 100))) (gAd s b (1030 + i)) _ _ _ ∧ va_T .byte (gAd s b (1030 + i + 100)) _ _ _ _ _
      rw [ga_fm hi, ga_fv hi]
      exact r
  · show gAd s b (i + 1) = gAd s b i + 1
    unfold gAd
    rw [if_pos (by omega), if_pos (by omega)]
    rfl
  · -- the formatter: a reference, or null
    obtain ⟨v, e, hr⟩ := Cond.isRef_spec (show (Cond.isRef tSF).holds #[Value.ref b] s none s [] = true from hq _ n_cs.2.1)
    cases v with
    | null => exact Or.inl (va_Zof (args := #[Value.ref b]) (hts _ (w_at 1256 (by decide +kernel))) tp e hA)
    | ref a =>
      right
      show va_Z _ _ _ (.ref (gAd s b 1004)) _ _ _
      rw [show gAd s b 1004 = evA s b tSF from rfl, evA_of e]
      exact va_Zref (args := #[Value.ref b]) (hts _ (w_at 1256 (by decide +kernel))) tp e hA
    | _ => cases hr
/-- the classes and the arrays' classes -/
theorem k_of (hts : ∀ w ∈ lw_tbl, w.before #[Value.ref b] s = true) : ∃ (D : va_G) (E : Nat → ClassId), ∀ f : Nat → Nat, va_K D vwCl (kTs (D, E, f)) s := by
  have gt : ∀ w ∈ gT, w.before #[Value.ref b] s = true := fun w hw => hts w (List.mem_filter.mp hw).1
  have hcl : ∀ c : Nat, ∃ d : ClassId × (Nat → Nat), ∀ q : vw_C, vwCl[c]? = some q → u_Kn s q.1 q.2.1 q.2.2 d.1 d.2 := by
    have mk : ∀ {C : String} {T : u_T} {N : Nat} (n : Nat), (∀ w ∈ u_ws C T N, w ∈ gT) → Cond.instantiable C n ∈ lw_tbl → ∃ d : ClassId × (Nat → Nat), ∀ q : vw_C, some (C, T, N) = some q → u_Kn s q.1 q.2.1 q.2.2 d.1 d.2 := by
      intro C T N n h1 h2
      obtain ⟨cC, iS, h⟩ := u_known gt h1 (hts _ h2)
      exact ⟨(cC, iS), fun q e => by cases e; exact h⟩
    intro c
    match c with
    | 0 => exact mk 4 inJ0 (w_at 755 (by decide +kernel))
    | 1 => exact mk 6 inJx00060 (w_at 740 (by decide +kernel))
    | 2 => exact mk 6 inX2 (w_at 319 (by decide +kernel))
    | 3 => exact mk 6 inX3 (w_at 172 (by decide +kernel))
    | 4 => exact mk 3 inX4 (w_at 281 (by decide +kernel))
    | 5 => exact mk 4 inX5 (w_at 300 (by decide +kernel))
    | 6 => exact mk 3 inX6 (w_at 261 (by decide +kernel))
    | 7 => exact mk 9 inX7 (w_at 206 (by decide +kernel))
    | 8 => exact mk 2 inX8 (w_at 350 (by decide +kernel))
    | 9 => exact mk 3 inX9 (w_at 131 (by decide +kernel))
    | 10 => exact mk 6 inX10 (w_at 137 (by decide +kernel))
    | 11 => exact mk 14 inX11 (w_at 123 (by decide +kernel))
    | 12 => exact mk 26 inX12 (w_at 1404 (by decide +kernel))
    | n + 13 => exact ⟨(0, fun _ => 0), fun q e => by cases e⟩
  obtain ⟨d, hd⟩ := Classical.axiomOfChoice hcl
  have hac : ∀ t : Nat, ∃ cA : ClassId, ∀ ty : FieldType, kTy[t]? = some ty → ArrOfT s cA ty ∧ va_RA s cA ty := by
    intro t
    match t with
    | 0 =>
      obtain ⟨c, k, comp, h1, h2, h3⟩ := Cond.arrayClass_spec (hts _ (w_at 170 (by decide +kernel) : Cond.arrayClass .int ∈ lw_tbl))
      exact ⟨c, fun ty e => by cases e; exact ⟨fun n z => ⟨fun k h => (by cases h), k, h2, comp, h3⟩, h1⟩⟩
    | 1 =>
      obtain ⟨c, k, comp, h1, h2, h3⟩ := Cond.arrayClass_spec (hts _ (w_at 348 (by decide +kernel) : Cond.arrayClass .char ∈ lw_tbl))
      exact ⟨c, fun ty e => by cases e; exact ⟨fun n z => ⟨fun k h => (by cases h), k, h2, comp, h3⟩, h1⟩⟩
    | 2 =>
      obtain ⟨c, k, comp, h1, h2, h3⟩ := Cond.arrayClass_spec (hts _ (w_at 1926 (by decide +kernel) : Cond.arrayClass .long ∈ lw_tbl))
      exact ⟨c, fun ty e => by cases e; exact ⟨fun n z => ⟨fun k h => (by cases h), k, h2, comp, h3⟩, h1⟩⟩
    | 3 =>
      obtain ⟨c, k, comp, h1, h2, h3⟩ := Cond.arrayClass_spec (hts _ (w_at 1927 (by decide +kernel) : Cond.arrayClass .double ∈ lw_tbl))
      exact ⟨c, fun ty e => by cases e; exact ⟨fun n z => ⟨fun k h => (by cases h), k, h2, comp, h3⟩, h1⟩⟩
    | 4 =>
      obtain ⟨comp, c, k, h1, -, h2, h3, h4⟩ := Cond.arrayOver_spec (hts _ (w_at 267 (by decide +kernel) : Cond.arrayOver (.object "BoomerangCourt$State") ∈ lw_tbl))
      exact ⟨c, fun ty e => by cases e; exact ⟨fun n z => ⟨fun k h => (by cases h), k, h2, comp, h3⟩, k, comp, h2, h3, h1, h4⟩⟩
    | 5 =>
      obtain ⟨comp, c, k, h1, -, h2, h3, h4⟩ := Cond.arrayOver_spec (hts _ (w_at 325 (by decide +kernel) : Cond.arrayOver (.object "BoomerangCourt$Command") ∈ lw_tbl))
      exact ⟨c, fun ty e => by cases e; exact ⟨fun n z => ⟨fun k h => (by cases h), k, h2, comp, h3⟩, k, comp, h2, h3, h1, h4⟩⟩
    | t + 6 => exact ⟨0, fun ty e => by cases e⟩
  obtain ⟨E, hE⟩ := Classical.axiomOfChoice hac
  refine ⟨(fun c => (d c).1, fun c => (d c).2), E, fun f => ⟨fun c q hq => hd c q hq, fun k q hk => ?_⟩⟩
  match k, hk with
  | 0, hk => cases hk; exact hE 0 .int rfl
  | 1, hk => cases hk; exact hE 1 .char rfl
  | 2, hk => cases hk; exact hE 2 .long rfl
  | 3, hk => cases hk; exact hE 3 .double rfl
  | 4, hk => cases hk; exact hE 4 (.object "BoomerangCourt$State") rfl
  | 5, hk => cases hk; exact hE 5 (.object "BoomerangCourt$Command") rfl
  | k + 6, hk => simp [kTs] at hk
end STA
/-- YOUR PART: from the entry, for every script of at most 2048 ints, the law comes to its end with true -/
theorem whole_start {p : Program} {e : Env} {s : State} {m : MethodId} {below : List Frame} {meth : Method} {c : Code} (l : Launch) (hflags : l.flags = flags0) {b L : Nat} {xs : Nat → Int32} (hL : L ≤ 2048) (C0 : lw_At p s m meth c b L xs) : W p l e room_1 s m #[Value.ref b] below meth c s.heap [] 0 0 (lw_Z below #[Value.ref b] s) (entryFrame m ([Value.ref b] : List Value).toArray 9) := by
  obtain ⟨hx, hb, hr, hml, hown, hts, hX, hbl, hlocks, hgv⟩ := id C0
  have hq : ∀ w ∈ NL, w.before #[Value.ref b] s = true := flat_of_before _ hgv
  have hA : ∀ a : Nat, a < s.heap.size → ¬ (fun q : Nat => s.heap.size ≤ q) a := fun a h => Nat.not_le.mpr h
  obtain ⟨D, E, hK⟩ := k_of (s := s) (b := b) hts
  have hst : l.stackTraces = false := by
    unfold Launch.stackTraces
    rw [hflags]
    decide +kernel
  obtain ⟨tb, htb⟩ : ∃ tb : List (Nat × Nat × Nat × Nat), c.exceptionTable.toList = tableOf tb := by
    refine ⟨c.exceptionTable.toList.map (fun x => (x.startPc, x.endPc, x.handlerPc, x.catchType)), ?_⟩
    unfold tableOf
    rw [List.map_map]
    exact (List.map_id _).symm
  have C : kCx (kLw meth.name tb) p l s m #[Value.ref b] meth c (D, E, gAd s b) (fun q : Nat => s.heap.size ≤ q) := ⟨hx, hb, hml, hr, fun w hw => hts w (List.mem_filter.mp hw).1, hown, hlocks, hst, rfl, htb, hK _, st_of hq hts hA, fun q h => h⟩
  have P : lP b L xs s #[Value.ref b] (D, E, gAd s b) (fun q : Nat => s.heap.size ≤ q) := ⟨rfl, hX, hbl, rfl, fun q h => h⟩
  have go := law_entry (nm := meth.name) (tb := tb) (b := b) (L := L) (xs := xs) hL (h := fun _ => kI 0 (fun _ => 0)) p l e s m #[Value.ref b] below meth c (D, E, gAd s b) _ C s.heap [] _ ⟨fun k q h => by simp [kW] at h, ⟨fun i j p q h => by simp [kW] at h, fun k q h => by simp [kW] at h⟩⟩ va_S.rf (kEnt_has (g := (D, E, gAd s b)) (n := 9) (av := [.ref 2000]) (by decide)) (fun _ => rfl)
  rw [lg_entry_eq]
  intro T hT X
  obtain ⟨t, a1, a2⟩ := go T hT X
  exact ⟨t, a1, a2 P⟩
