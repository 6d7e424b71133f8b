/-! WHAT STANDS OUTSIDE THE WORLD: static arrays, the enum's constants, their texts. Their numbers begin at 1000. -/
def kStepX : List Int32 := [1, 1, 0, -1, -1, -1, 0, 1]
def kStepY : List Int32 := [0, 1, 1, 1, 0, -1, -1, -1]
def kSw : List Int32 := [1, 2, 3, 4, 5, 6, 7, 8, 9, 10]
def kKeyB : List (List Int32) := [[116, 114, 101, 101, 32], [102, 101, 108, 108, 32], [98, 101, 110, 99, 104, 32], [112, 97, 114, 116, 121, 32], [109, 111, 118, 101, 32], [119, 105, 110, 100, 32], [116, 104, 114, 111, 119, 32], [98, 117, 121, 32], [104, 101, 97, 114, 32], [112, 97, 115, 115, 32]]
def kFormB : List (List Int32) := [[100, 100], [100, 64, 100, 100], [100, 35, 110], [110], [100]]
def kFormOf : List Nat := [0, 0, 0, 0, 1, 0, 2, 3, 4, 3]
/-- static fields that hold references: class, name, descriptor, number -/
def kZs : List (String × String × String × Nat) := [("BoomerangCourt", "STEP_X", "[I", 1000), ("BoomerangCourt", "STEP_Y", "[I", 1001), ("BoomerangCourt$1", "$SwitchMap$BoomerangCourt$Command", "[I", 1002), ("BoomerangCourt$Command", "ALL", "[LBoomerangCourt$Command;", 1003)]
def kIs : List (Nat × List Int32) := [(1000, kStepX), (1001, kStepY), (1002, kSw)]
/-- a text: its number, its letters; its row of bytes is 100 further on -/
def kTx : List (Nat × List Int32) := (List.range 10).map (fun i => (1020 + i, kKeyB.getD i [])) ++ (List.range 5).map (fun i => (1030 + i, kFormB.getD i []))
def kStr (g : kG) (A : Nat → Prop) (U : State) (H : Heap) (q : Nat × List Int32) : Prop :=
  va_O "java/lang/String" (g.2.2 q.1) A U H ∧ va_OF "java/lang/String" "coder" "B" (.int 0) (g.2.2 q.1) A U H ∧ va_OF "java/lang/String" "value" "[B" (.ref (g.2.2 (q.1 + 100))) (g.2.2 q.1) A U H ∧ va_T .byte (g.2.2 (q.1 + 100)) q.2.length (fun j => .int (q.2.getD j 0)) A U H
def kEnm (g : kG) (A : Nat → Prop) (U : State) (H : Heap) (i : Nat) : Prop :=
  va_O "BoomerangCourt$Command" (g.2.2 (1010 + i)) A U H ∧ va_OF "java/lang/Enum" "ordinal" "I" (.int (Int32.ofNat i)) (g.2.2 (1010 + i)) A U H ∧ va_OF "BoomerangCourt$Command" "keyword" "Ljava/lang/String;" (.ref (g.2.2 (1020 + i))) (g.2.2 (1010 + i)) A U H ∧ va_OF "BoomerangCourt$Command" "form" "Ljava/lang/String;" (.ref (g.2.2 (1030 + kFormOf.getD i 0))) (g.2.2 (1010 + i)) A U H
/-- the texts of exceptions: class, entry, text -/
def kMs : List (String × Nat × String) := lw_tbl.filterMap fun w => match w with
  | .stringRef c k t => some (c, k, t)
  | _ => none
/-- what is thrown, and what it isn't: pairs that a table's rows pass over -/
def kNc : List (String × String) := [("java/lang/UnsupportedOperationException", "java/lang/IndexOutOfBoundsException"), ("java/lang/IllegalStateException", "java/lang/IndexOutOfBoundsException"), ("java/lang/UnsupportedOperationException", "java/lang/IllegalStateException"), ("java/util/NoSuchElementException", "java/lang/IndexOutOfBoundsException"), ("java/util/NoSuchElementException", "java/lang/IllegalArgumentException"), ("java/lang/IllegalArgumentException", "java/lang/IndexOutOfBoundsException"), ("java/lang/UnsupportedOperationException", "java/lang/IllegalArgumentException"), ("java/lang/IllegalStateException", "java/lang/IllegalArgumentException")]
def kSt (g : kG) (A : Nat → Prop) (U : State) (H : Heap) : Prop :=
  (∀ w ∈ gT2, va_Nw w U) ∧ (vx_Zq Bundle.tN "UNASSIGNED_STACK" Bundle.steD A U H ∧ vx_Zq Bundle.tN "SUPPRESSED_SENTINEL" Bundle.listD A U H) ∧ (∀ q ∈ kMs, ∃ a, vk_R q.1 q.2.1 q.2.2 a U) ∧
  (∀ q ∈ kZs, va_Z q.1 q.2.1 q.2.2.1 (.ref (g.2.2 q.2.2.2)) A U H) ∧ (∀ q ∈ kIs, va_T .int (g.2.2 q.1) q.2.length (fun j => .int (q.2.getD j 0)) A U H) ∧
  va_T (.object "BoomerangCourt$Command") (g.2.2 1003) 10 (fun j => .ref (g.2.2 (1010 + j))) A U H ∧ (∀ i, i < 10 → kEnm g A U H i) ∧ (∀ q ∈ kTx, kStr g A U H q) ∧ (∀ i, i < 500 → g.2.2 (i + 1) = g.2.2 i + 1) ∧ (∀ q ∈ kNc, va_Nc q.1 q.2 U) ∧ va_Z "java/lang/String" "COMPACT_STRINGS" "Z" (.int 1) A U H ∧ (va_Z "jdk/internal/util/Preconditions" "SIOOBE_FORMATTER" "Ljava/util/function/BiFunction;" .null A U H ∨ va_Z "jdk/internal/util/Preconditions" "SIOOBE_FORMATTER" "Ljava/util/function/BiFunction;" (.ref (g.2.2 1004)) A U H)
theorem kSt_to {g : kG} {A B : Nat → Prop} {s U : State} {H H1 : Heap} (h : kSt g A s H) (hW : s.WarmedH U.vm) (hq : ∀ a : Nat, a < H.size → ¬ A a → H1[a]? = H[a]?) (hAB : ∀ q, B q → A q) : kSt g B U H1 := by
  obtain ⟨h1, ⟨h2, h3⟩, h4, h5, h6, h7, h8, h9, h10, h11, h12, h13⟩ := h
  have hal := hW.alike
  refine ⟨fun w hw => ?_, ⟨((h2.kept hq).narrow hAB).moved hal, ((h3.kept hq).narrow hAB).moved hal⟩, fun q hm => ?_, fun q hm => (((h5 q hm).kept hq).narrow hAB).moved hal, fun q hm => (((h6 q hm).kept hq).narrow hAB).moved hal, ((h7.kept hq).narrow hAB).moved hal, fun i hi => ?_, fun q hm => ?_, h10, fun q hm => (h11 q hm).moved hal, ((h12.kept hq).narrow hAB).moved hal, ?_⟩
  · have h := h1 w hw
    have hg : gN w = true := (List.mem_filter.mp hw).2
    cases w <;> first
      | exact va_Nw.warmM hW h
      | exact va_Nw.warmF hW h
      | exact va_Nw.warmD hW h
      | exact va_Nw.warmC hW h
      | (rename_i t9; cases t9 <;> first | exact va_AO.moved hal h | cases hg)
      | cases hg
  · obtain ⟨a, ha⟩ := h4 q hm
    exact ⟨a, ha.warm hW⟩
  · obtain ⟨e1, e2, e3, e4⟩ := h8 i hi
    exact ⟨((e1.kept hq).narrow hAB).moved hal, ((e2.kept hq).narrow hAB).moved hal, ((e3.kept hq).narrow hAB).moved hal, ((e4.kept hq).narrow hAB).moved hal⟩
  · obtain ⟨e1, e2, e3, e4⟩ := h9 q hm
    exact ⟨((e1.kept hq).narrow hAB).moved hal, ((e2.kept hq).narrow hAB).moved hal, ((e3.kept hq).narrow hAB).moved hal, ((e4.kept hq).narrow hAB).moved hal⟩
  · rcases h13 with h13 | h13
    · exact Or.inl (((h13.kept hq).narrow hAB).moved hal)
    · exact Or.inr (((h13.kept hq).narrow hAB).moved hal)
/-! A METHOD: name, code, locals, what it returns, its table, its frames, its locals' words -/
abbrev kM : Type := MethodName × ByteArray × Nat × Option FieldType × List (Nat × Nat × Nat × Nat) × Nat × Nat
def kCode (K : kM) : Cond := match K.2.2.2.2.1 with
  | [] => .code K.1 K.2.1 K.2.2.1 K.2.2.2.1
  | t => .codeWith K.1 K.2.1 K.2.2.1 K.2.2.2.1 t
def kWs (K : kM) : List Cond := kCode K :: gT
def kRm (K : kM) (mc ms : Nat) : Room := { frames := K.2.2.2.2.2.1, cells := mc, slots := ms, locals := K.2.2.2.2.2.2 }
def kCx (K : kM) (p : Program) (l : Launch) (s : State) (m : MethodId) (args : Array Value) (meth : Method) (c : Code) (g : kG) (A : Nat → Prop) : Prop :=
  p.tables.exec = Jvm.exec ∧ c.code = K.2.1 ∧ c.maxLocals = K.2.2.1 ∧ meth.sig.returnType = K.2.2.2.1 ∧ (∀ w ∈ gT, w.before args s = true) ∧ s.vm.findClass K.1.cls = some m.cls ∧ meth.locks = false ∧ l.stackTraces = false ∧ meth.name = K.1.name ∧
  c.exceptionTable.toList = tableOf K.2.2.2.2.1 ∧ va_K g.1 vwCl (kTs g) s ∧ kSt g A s s.heap ∧ (∀ q : Nat, s.heap.size ≤ q → A q)
abbrev kFn : Type := Program → Launch → Env → State → MethodId → Array Value → List Frame → Method → Code → kG → (Nat → Prop) → State → Prop
def kWd (g : kG) (A : Nat → Prop) (h : kH) (N : Nat) (H : Heap) : Prop := va_P g.1 vwCl (kW g h N) H ∧ va_D A (kW g h N)
/-- from this frame of method K, with these things on the heap, the machine comes to F -/
def kEv (K : kM) (R : Room) (F : kFn) (mu : Bool) (pc : Nat) (ls st : List Value) (h : kH) (N cs ss : Nat) : Prop :=
  ∀ (p : Program) (l : Launch) (e : Env) (s : State) (m : MethodId) (args : Array Value) (below : List Frame) (meth : Method) (c : Code) (g : kG) (A : Nat → Prop), kCx K p l s m args meth c g A →
  ∀ (H : Heap) (locs : List Loc) (lsA : Array Slot), kWd g A h N H → va_S A s.heap H locs → lv_has lsA K.2.2.1 (kLs g ls) → (mu = true → H.size = g.2.2 N) →
    W p l e R s m args below meth c H locs cs ss (F p l e s m args below meth c g A) (F0 m pc lsA (st.map (kV g)))
section KR
variable {K : kM} {R : Room} {F : kFn} {mu : Bool} {pc pc' : Nat} {ls st : List Value} {h : kH} {N cs ss : Nat}

theorem k_iconst {n : Int} {v : Int32} (hd : decode K.2.1 pc = .ok (.iconst n, 1)) (hp : pc + 1 = pc') (hv : Int32.ofInt n = v)
    (k : kEv K R F mu pc' ls (.int v :: st) h N cs ss) : kEv K R F mu pc ls (st) h N cs ss := by
  subst hp
  intro p l e s m args below meth c g A C H locs lsA hW hS hl hz
  exact lv_iconst C.1 C.2.1 hd hv (k p l e s m args below meth c g A C H locs lsA hW hS hl hz)
theorem k_bipush {n : Int} {v : Int32} (hd : decode K.2.1 pc = .ok (.bipush n, 2)) (hp : pc + 2 = pc') (hv : (Int8.ofInt n).toInt32 = v)
    (k : kEv K R F mu pc' ls (.int v :: st) h N cs ss) : kEv K R F mu pc ls (st) h N cs ss := by
  subst hp
  intro p l e s m args below meth c g A C H locs lsA hW hS hl hz
  exact lv_bipush C.1 C.2.1 hd hv (k p l e s m args below meth c g A C H locs lsA hW hS hl hz)
theorem k_sipush {n : Int} {v : Int32} (hd : decode K.2.1 pc = .ok (.sipush n, 3)) (hp : pc + 3 = pc') (hv : (Int16.ofInt n).toInt32 = v)
    (k : kEv K R F mu pc' ls (.int v :: st) h N cs ss) : kEv K R F mu pc ls (st) h N cs ss := by
  subst hp
  intro p l e s m args below meth c g A C H locs lsA hW hS hl hz
  exact lv_sipush C.1 C.2.1 hd hv (k p l e s m args below meth c g A C H locs lsA hW hS hl hz)
theorem k_lconst {n : Fin 2} {v : Int64} (hd : decode K.2.1 pc = .ok (.lconst n, 1)) (hp : pc + 1 = pc') (hv : Int64.ofNat (n : Nat) = v)
    (k : kEv K R F mu pc' ls (.long v :: st) h N cs ss) : kEv K R F mu pc ls (st) h N cs ss := by
  subst hp
  intro p l e s m args below meth c g A C H locs lsA hW hS hl hz
  exact lv_lconst C.1 C.2.1 hd hv (k p l e s m args below meth c g A C H locs lsA hW hS hl hz)
theorem k_fconst0  (hd : decode K.2.1 pc = .ok (.fconst 0, 1)) (hp : pc + 1 = pc') 
    (k : kEv K R F mu pc' ls (.float FP.fconst0 :: st) h N cs ss) : kEv K R F mu pc ls (st) h N cs ss := by
  subst hp
  intro p l e s m args below meth c g A C H locs lsA hW hS hl hz
  exact lv_fconst0 C.1 C.2.1 hd  (k p l e s m args below meth c g A C H locs lsA hW hS hl hz)
theorem k_fconst1  (hd : decode K.2.1 pc = .ok (.fconst 1, 1)) (hp : pc + 1 = pc') 
    (k : kEv K R F mu pc' ls (.float FP.fconst1 :: st) h N cs ss) : kEv K R F mu pc ls (st) h N cs ss := by
  subst hp
  intro p l e s m args below meth c g A C H locs lsA hW hS hl hz
  exact lv_fconst1 C.1 C.2.1 hd  (k p l e s m args below meth c g A C H locs lsA hW hS hl hz)
theorem k_dconst0  (hd : decode K.2.1 pc = .ok (.dconst 0, 1)) (hp : pc + 1 = pc') 
    (k : kEv K R F mu pc' ls (.double FP.dconst0 :: st) h N cs ss) : kEv K R F mu pc ls (st) h N cs ss := by
  subst hp
  intro p l e s m args below meth c g A C H locs lsA hW hS hl hz
  exact lv_dconst0 C.1 C.2.1 hd  (k p l e s m args below meth c g A C H locs lsA hW hS hl hz)
theorem k_null  (hd : decode K.2.1 pc = .ok (.aconst_null, 1)) (hp : pc + 1 = pc') 
    (k : kEv K R F mu pc' ls (.null :: st) h N cs ss) : kEv K R F mu pc ls (st) h N cs ss := by
  subst hp
  intro p l e s m args below meth c g A C H locs lsA hW hS hl hz
  exact lv_null C.1 C.2.1 hd  (k p l e s m args below meth c g A C H locs lsA hW hS hl hz)
theorem k_ldc {idx : Nat} {v : Int32} (hd : decode K.2.1 pc = .ok (.ldc idx, 2)) (hp : pc + 2 = pc') (hw : Cond.constant K.1.cls idx v ∈ gT)
    (k : kEv K R F mu pc' ls (.int v :: st) h N cs ss) : kEv K R F mu pc ls (st) h N cs ss := by
  subst hp
  intro p l e s m args below meth c g A C H locs lsA hW hS hl hz
  exact (fun hx hb hd hw => lv_ldc hx hb C.2.2.2.2.2.1 (C.2.2.2.2.1 _ hw) hd) C.1 C.2.1 hd hw (k p l e s m args below meth c g A C H locs lsA hW hS hl hz)
theorem k_ldcw {idx : Nat} {v : Int32} (hd : decode K.2.1 pc = .ok (.ldc_w idx, 3)) (hp : pc + 3 = pc') (hw : Cond.constant K.1.cls idx v ∈ gT)
    (k : kEv K R F mu pc' ls (.int v :: st) h N cs ss) : kEv K R F mu pc ls (st) h N cs ss := by
  subst hp
  intro p l e s m args below meth c g A C H locs lsA hW hS hl hz
  exact (fun hx hb hd hw => lv_ldcw hx hb C.2.2.2.2.2.1 (C.2.2.2.2.1 _ hw) hd) C.1 C.2.1 hd hw (k p l e s m args below meth c g A C H locs lsA hW hS hl hz)
theorem k_ldcf {idx : Nat} {v : UInt32} (hd : decode K.2.1 pc = .ok (.ldc idx, 2)) (hp : pc + 2 = pc') (hw : Cond.constantFloat K.1.cls idx v ∈ gT)
    (k : kEv K R F mu pc' ls (.float v :: st) h N cs ss) : kEv K R F mu pc ls (st) h N cs ss := by
  subst hp
  intro p l e s m args below meth c g A C H locs lsA hW hS hl hz
  exact (fun hx hb hd hw => lv_ldcf hx hb C.2.2.2.2.2.1 (C.2.2.2.2.1 _ hw) hd) C.1 C.2.1 hd hw (k p l e s m args below meth c g A C H locs lsA hW hS hl hz)
theorem k_ldc2 {idx : Nat} {v : Int64} (hd : decode K.2.1 pc = .ok (.ldc2_w idx, 3)) (hp : pc + 3 = pc') (hw : Cond.constantLong K.1.cls idx v ∈ gT)
    (k : kEv K R F mu pc' ls (.long v :: st) h N cs ss) : kEv K R F mu pc ls (st) h N cs ss := by
  subst hp
  intro p l e s m args below meth c g A C H locs lsA hW hS hl hz
  exact (fun hx hb hd hw => lv_ldc2 hx hb C.2.2.2.2.2.1 (C.2.2.2.2.1 _ hw) hd) C.1 C.2.1 hd hw (k p l e s m args below meth c g A C H locs lsA hW hS hl hz)
theorem k_iload_n {q : Fin 4} {i : Nat} {x : Int32} (hd : decode K.2.1 pc = .ok (.iload_n q, 1)) (hp : pc + 1 = pc') (hi : (q : Nat) = i) (hv : ls[i]? = some (.int x))
    (k : kEv K R F mu pc' ls (.int x :: st) h N cs ss) : kEv K R F mu pc ls (st) h N cs ss := by
  subst hp
  intro p l e s m args below meth c g A C H locs lsA hW hS hl hz
  exact lv_iload_n C.1 C.2.1 hd hi (kLs_at hl hv (fun _ q => by cases q)) (k p l e s m args below meth c g A C H locs lsA hW hS hl hz)
theorem k_iload {i : Nat} {x : Int32} (hd : decode K.2.1 pc = .ok (.iload i, 2)) (hp : pc + 2 = pc') (hv : ls[i]? = some (.int x))
    (k : kEv K R F mu pc' ls (.int x :: st) h N cs ss) : kEv K R F mu pc ls (st) h N cs ss := by
  subst hp
  intro p l e s m args below meth c g A C H locs lsA hW hS hl hz
  exact lv_iload C.1 C.2.1 hd (kLs_at hl hv (fun _ q => by cases q)) (k p l e s m args below meth c g A C H locs lsA hW hS hl hz)
theorem k_lload_n {q : Fin 4} {i : Nat} {x : Int64} (hd : decode K.2.1 pc = .ok (.lload_n q, 1)) (hp : pc + 1 = pc') (hi : (q : Nat) = i) (hv : ls[i]? = some (.long x))
    (k : kEv K R F mu pc' ls (.long x :: st) h N cs ss) : kEv K R F mu pc ls (st) h N cs ss := by
  subst hp
  intro p l e s m args below meth c g A C H locs lsA hW hS hl hz
  exact lv_lload_n C.1 C.2.1 hd hi (kLs_at hl hv (fun _ q => by cases q)) (k p l e s m args below meth c g A C H locs lsA hW hS hl hz)
theorem k_lload {i : Nat} {x : Int64} (hd : decode K.2.1 pc = .ok (.lload i, 2)) (hp : pc + 2 = pc') (hv : ls[i]? = some (.long x))
    (k : kEv K R F mu pc' ls (.long x :: st) h N cs ss) : kEv K R F mu pc ls (st) h N cs ss := by
  subst hp
  intro p l e s m args below meth c g A C H locs lsA hW hS hl hz
  exact lv_lload C.1 C.2.1 hd (kLs_at hl hv (fun _ q => by cases q)) (k p l e s m args below meth c g A C H locs lsA hW hS hl hz)
theorem k_fload_n {q : Fin 4} {i : Nat} {x : UInt32} (hd : decode K.2.1 pc = .ok (.fload_n q, 1)) (hp : pc + 1 = pc') (hi : (q : Nat) = i) (hv : ls[i]? = some (.float x))
    (k : kEv K R F mu pc' ls (.float x :: st) h N cs ss) : kEv K R F mu pc ls (st) h N cs ss := by
  subst hp
  intro p l e s m args below meth c g A C H locs lsA hW hS hl hz
  exact lv_fload_n C.1 C.2.1 hd hi (kLs_at hl hv (fun _ q => by cases q)) (k p l e s m args below meth c g A C H locs lsA hW hS hl hz)
theorem k_fload {i : Nat} {x : UInt32} (hd : decode K.2.1 pc = .ok (.fload i, 2)) (hp : pc + 2 = pc') (hv : ls[i]? = some (.float x))
    (k : kEv K R F mu pc' ls (.float x :: st) h N cs ss) : kEv K R F mu pc ls (st) h N cs ss := by
  subst hp
  intro p l e s m args below meth c g A C H locs lsA hW hS hl hz
  exact lv_fload C.1 C.2.1 hd (kLs_at hl hv (fun _ q => by cases q)) (k p l e s m args below meth c g A C H locs lsA hW hS hl hz)
theorem k_dload {i : Nat} {x : UInt64} (hd : decode K.2.1 pc = .ok (.dload i, 2)) (hp : pc + 2 = pc') (hv : ls[i]? = some (.double x))
    (k : kEv K R F mu pc' ls (.double x :: st) h N cs ss) : kEv K R F mu pc ls (st) h N cs ss := by
  subst hp
  intro p l e s m args below meth c g A C H locs lsA hW hS hl hz
  exact lv_dload C.1 C.2.1 hd (kLs_at hl hv (fun _ q => by cases q)) (k p l e s m args below meth c g A C H locs lsA hW hS hl hz)
theorem k_aload_n {q : Fin 4} {i : Nat} {x : Nat} (hd : decode K.2.1 pc = .ok (.aload_n q, 1)) (hp : pc + 1 = pc') (hi : (q : Nat) = i) (hv : ls[i]? = some (.ref x))
    (k : kEv K R F mu pc' ls (.ref x :: st) h N cs ss) : kEv K R F mu pc ls (st) h N cs ss := by
  subst hp
  intro p l e s m args below meth c g A C H locs lsA hW hS hl hz
  exact lv_aload_n C.1 C.2.1 hd hi (kLs_at hl hv (fun _ q => by cases q)) (k p l e s m args below meth c g A C H locs lsA hW hS hl hz)
theorem k_aload {i : Nat} {x : Nat} (hd : decode K.2.1 pc = .ok (.aload i, 2)) (hp : pc + 2 = pc') (hv : ls[i]? = some (.ref x))
    (k : kEv K R F mu pc' ls (.ref x :: st) h N cs ss) : kEv K R F mu pc ls (st) h N cs ss := by
  subst hp
  intro p l e s m args below meth c g A C H locs lsA hW hS hl hz
  exact lv_aload C.1 C.2.1 hd (kLs_at hl hv (fun _ q => by cases q)) (k p l e s m args below meth c g A C H locs lsA hW hS hl hz)
theorem k_aload_nN {q : Fin 4} {i : Nat} (hd : decode K.2.1 pc = .ok (.aload_n q, 1)) (hp : pc + 1 = pc') (hi : (q : Nat) = i) (hv : ls[i]? = some .null)
    (k : kEv K R F mu pc' ls (.null :: st) h N cs ss) : kEv K R F mu pc ls (st) h N cs ss := by
  subst hp
  intro p l e s m args below meth c g A C H locs lsA hW hS hl hz
  exact lv_aload_nN C.1 C.2.1 hd hi (kLs_at hl hv (fun _ q => by cases q)) (k p l e s m args below meth c g A C H locs lsA hW hS hl hz)
theorem k_aloadN {i : Nat} (hd : decode K.2.1 pc = .ok (.aload i, 2)) (hp : pc + 2 = pc') (hv : ls[i]? = some .null)
    (k : kEv K R F mu pc' ls (.null :: st) h N cs ss) : kEv K R F mu pc ls (st) h N cs ss := by
  subst hp
  intro p l e s m args below meth c g A C H locs lsA hW hS hl hz
  exact lv_aloadN C.1 C.2.1 hd (kLs_at hl hv (fun _ q => by cases q)) (k p l e s m args below meth c g A C H locs lsA hW hS hl hz)
theorem k_istore_n {q : Fin 4} {i : Nat} {x : Int32} (hd : decode K.2.1 pc = .ok (.istore_n q, 1)) (hp : pc + 1 = pc') (hi : (q : Nat) = i) (hn : i < K.2.2.1)
    (k : kEv K R F mu pc' (kS1 ls i (.int x)) st h N cs ss) : kEv K R F mu pc ls (.int x :: st) h N cs ss := by
  subst hp
  intro p l e s m args below meth c g A C H locs lsA hW hS hl hz
  exact lv_istore_n C.1 C.2.1 hd hi hl hn rfl (fun ls' hl' => k p l e s m args below meth c g A C H locs ls' hW hS (kLs_sub hl' kS1_sub) hz)
theorem k_istore {i : Nat} {x : Int32} (hd : decode K.2.1 pc = .ok (.istore i, 2)) (hp : pc + 2 = pc') (hn : i < K.2.2.1)
    (k : kEv K R F mu pc' (kS1 ls i (.int x)) st h N cs ss) : kEv K R F mu pc ls (.int x :: st) h N cs ss := by
  subst hp
  intro p l e s m args below meth c g A C H locs lsA hW hS hl hz
  exact lv_istore C.1 C.2.1 hd hl hn rfl (fun ls' hl' => k p l e s m args below meth c g A C H locs ls' hW hS (kLs_sub hl' kS1_sub) hz)
theorem k_lstore_n {q : Fin 4} {i : Nat} {x : Int64} (hd : decode K.2.1 pc = .ok (.lstore_n q, 1)) (hp : pc + 1 = pc') (hi : (q : Nat) = i) (hn : i + 1 < K.2.2.1)
    (k : kEv K R F mu pc' (kS2 ls i (.long x)) st h N cs ss) : kEv K R F mu pc ls (.long x :: st) h N cs ss := by
  subst hp
  intro p l e s m args below meth c g A C H locs lsA hW hS hl hz
  exact lv_lstore_n C.1 C.2.1 hd hi hl hn rfl (fun ls' hl' => k p l e s m args below meth c g A C H locs ls' hW hS (kLs_sub hl' kS2_sub) hz)
theorem k_lstore {i : Nat} {x : Int64} (hd : decode K.2.1 pc = .ok (.lstore i, 2)) (hp : pc + 2 = pc') (hn : i + 1 < K.2.2.1)
    (k : kEv K R F mu pc' (kS2 ls i (.long x)) st h N cs ss) : kEv K R F mu pc ls (.long x :: st) h N cs ss := by
  subst hp
  intro p l e s m args below meth c g A C H locs lsA hW hS hl hz
  exact lv_lstore C.1 C.2.1 hd hl hn rfl (fun ls' hl' => k p l e s m args below meth c g A C H locs ls' hW hS (kLs_sub hl' kS2_sub) hz)
theorem k_fstore_n {q : Fin 4} {i : Nat} {x : UInt32} (hd : decode K.2.1 pc = .ok (.fstore_n q, 1)) (hp : pc + 1 = pc') (hi : (q : Nat) = i) (hn : i < K.2.2.1)
    (k : kEv K R F mu pc' (kS1 ls i (.float x)) st h N cs ss) : kEv K R F mu pc ls (.float x :: st) h N cs ss := by
  subst hp
  intro p l e s m args below meth c g A C H locs lsA hW hS hl hz
  exact lv_fstore_n C.1 C.2.1 hd hi hl hn rfl (fun ls' hl' => k p l e s m args below meth c g A C H locs ls' hW hS (kLs_sub hl' kS1_sub) hz)
theorem k_fstore {i : Nat} {x : UInt32} (hd : decode K.2.1 pc = .ok (.fstore i, 2)) (hp : pc + 2 = pc') (hn : i < K.2.2.1)
    (k : kEv K R F mu pc' (kS1 ls i (.float x)) st h N cs ss) : kEv K R F mu pc ls (.float x :: st) h N cs ss := by
  subst hp
  intro p l e s m args below meth c g A C H locs lsA hW hS hl hz
  exact lv_fstore C.1 C.2.1 hd hl hn rfl (fun ls' hl' => k p l e s m args below meth c g A C H locs ls' hW hS (kLs_sub hl' kS1_sub) hz)
theorem k_dstore {i : Nat} {x : UInt64} (hd : decode K.2.1 pc = .ok (.dstore i, 2)) (hp : pc + 2 = pc') (hn : i + 1 < K.2.2.1)
    (k : kEv K R F mu pc' (kS2 ls i (.double x)) st h N cs ss) : kEv K R F mu pc ls (.double x :: st) h N cs ss := by
  subst hp
  intro p l e s m args below meth c g A C H locs lsA hW hS hl hz
  exact lv_dstore C.1 C.2.1 hd hl hn rfl (fun ls' hl' => k p l e s m args below meth c g A C H locs ls' hW hS (kLs_sub hl' kS2_sub) hz)
theorem k_astore_n {q : Fin 4} {i : Nat} {x : Nat} (hd : decode K.2.1 pc = .ok (.astore_n q, 1)) (hp : pc + 1 = pc') (hi : (q : Nat) = i) (hn : i < K.2.2.1)
    (k : kEv K R F mu pc' (kS1 ls i (.ref x)) st h N cs ss) : kEv K R F mu pc ls (.ref x :: st) h N cs ss := by
  subst hp
  intro p l e s m args below meth c g A C H locs lsA hW hS hl hz
  exact lv_astore_n C.1 C.2.1 hd hi hl hn rfl (fun ls' hl' => k p l e s m args below meth c g A C H locs ls' hW hS (kLs_sub hl' kS1_sub) hz)
theorem k_astore {i : Nat} {x : Nat} (hd : decode K.2.1 pc = .ok (.astore i, 2)) (hp : pc + 2 = pc') (hn : i < K.2.2.1)
    (k : kEv K R F mu pc' (kS1 ls i (.ref x)) st h N cs ss) : kEv K R F mu pc ls (.ref x :: st) h N cs ss := by
  subst hp
  intro p l e s m args below meth c g A C H locs lsA hW hS hl hz
  exact lv_astore C.1 C.2.1 hd hl hn rfl (fun ls' hl' => k p l e s m args below meth c g A C H locs ls' hW hS (kLs_sub hl' kS1_sub) hz)
theorem k_astoreN {i : Nat} (hd : decode K.2.1 pc = .ok (.astore i, 2)) (hp : pc + 2 = pc') (hn : i < K.2.2.1)
    (k : kEv K R F mu pc' (kS1 ls i .null) st h N cs ss) : kEv K R F mu pc ls (.null :: st) h N cs ss := by
  subst hp
  intro p l e s m args below meth c g A C H locs lsA hW hS hl hz
  exact lv_astoreN C.1 C.2.1 hd hl hn rfl (fun ls' hl' => k p l e s m args below meth c g A C H locs ls' hW hS (kLs_sub hl' kS1_sub) hz)
theorem k_iinc {i : Nat} {n : Int} {x v : Int32} (hd : decode K.2.1 pc = .ok (.iinc i n, 3)) (hp : pc + 3 = pc') (hv : ls[i]? = some (.int x)) (hn : i < K.2.2.1) (hx : x + Int32.ofInt n = v)
    (k : kEv K R F mu pc' (kS1 ls i (.int v)) st h N cs ss) : kEv K R F mu pc ls st h N cs ss := by
  subst hp
  intro p l e s m args below meth c g A C H locs lsA hW hS hl hz
  have hm : (i, kV g (.int x)) ∈ kLs g ls := kLs_mem.mpr ⟨_, hv, (fun _ q => by cases q), rfl⟩
  obtain ⟨kk, hk⟩ := List.getElem?_of_mem hm
  exact lv_iinc C.1 C.2.1 hd hl hk hx hn rfl (fun ls' hl' => k p l e s m args below meth c g A C H locs ls' hW hS (kLs_sub hl' kS1_sub) hz)
theorem k_iadd {x y : Int32} (hd : decode K.2.1 pc = .ok (.iadd, 1)) (hp : pc + 1 = pc') 
    (k : kEv K R F mu pc' ls (.int (x + y) :: st) h N cs ss) : kEv K R F mu pc ls (.int y :: .int x :: st) h N cs ss := by
  subst hp
  intro p l e s m args below meth c g A C H locs lsA hW hS hl hz
  exact lv_iadd C.1 C.2.1 hd  (k p l e s m args below meth c g A C H locs lsA hW hS hl hz)
theorem k_isub {x y : Int32} (hd : decode K.2.1 pc = .ok (.isub, 1)) (hp : pc + 1 = pc') 
    (k : kEv K R F mu pc' ls (.int (x - y) :: st) h N cs ss) : kEv K R F mu pc ls (.int y :: .int x :: st) h N cs ss := by
  subst hp
  intro p l e s m args below meth c g A C H locs lsA hW hS hl hz
  exact lv_isub C.1 C.2.1 hd  (k p l e s m args below meth c g A C H locs lsA hW hS hl hz)
theorem k_imul {x y : Int32} (hd : decode K.2.1 pc = .ok (.imul, 1)) (hp : pc + 1 = pc') 
    (k : kEv K R F mu pc' ls (.int (x * y) :: st) h N cs ss) : kEv K R F mu pc ls (.int y :: .int x :: st) h N cs ss := by
  subst hp
  intro p l e s m args below meth c g A C H locs lsA hW hS hl hz
  exact lv_imul C.1 C.2.1 hd  (k p l e s m args below meth c g A C H locs lsA hW hS hl hz)
theorem k_iand {x y : Int32} (hd : decode K.2.1 pc = .ok (.iand, 1)) (hp : pc + 1 = pc') 
    (k : kEv K R F mu pc' ls (.int (x &&& y) :: st) h N cs ss) : kEv K R F mu pc ls (.int y :: .int x :: st) h N cs ss := by
  subst hp
  intro p l e s m args below meth c g A C H locs lsA hW hS hl hz
  exact lv_iand C.1 C.2.1 hd  (k p l e s m args below meth c g A C H locs lsA hW hS hl hz)
theorem k_ior {x y : Int32} (hd : decode K.2.1 pc = .ok (.ior, 1)) (hp : pc + 1 = pc') 
    (k : kEv K R F mu pc' ls (.int (x ||| y) :: st) h N cs ss) : kEv K R F mu pc ls (.int y :: .int x :: st) h N cs ss := by
  subst hp
  intro p l e s m args below meth c g A C H locs lsA hW hS hl hz
  exact lv_ior C.1 C.2.1 hd  (k p l e s m args below meth c g A C H locs lsA hW hS hl hz)
theorem k_ixor {x y : Int32} (hd : decode K.2.1 pc = .ok (.ixor, 1)) (hp : pc + 1 = pc') 
    (k : kEv K R F mu pc' ls (.int (x ^^^ y) :: st) h N cs ss) : kEv K R F mu pc ls (.int y :: .int x :: st) h N cs ss := by
  subst hp
  intro p l e s m args below meth c g A C H locs lsA hW hS hl hz
  exact lv_ixor C.1 C.2.1 hd  (k p l e s m args below meth c g A C H locs lsA hW hS hl hz)
theorem k_ineg {x : Int32} (hd : decode K.2.1 pc = .ok (.ineg, 1)) (hp : pc + 1 = pc') 
    (k : kEv K R F mu pc' ls (.int (-x) :: st) h N cs ss) : kEv K R F mu pc ls (.int x :: st) h N cs ss := by
  subst hp
  intro p l e s m args below meth c g A C H locs lsA hW hS hl hz
  exact lv_ineg C.1 C.2.1 hd  (k p l e s m args below meth c g A C H locs lsA hW hS hl hz)
theorem k_ishl {x y : Int32} (hd : decode K.2.1 pc = .ok (.ishl, 1)) (hp : pc + 1 = pc') 
    (k : kEv K R F mu pc' ls (.int (x <<< (y &&& 31)) :: st) h N cs ss) : kEv K R F mu pc ls (.int y :: .int x :: st) h N cs ss := by
  subst hp
  intro p l e s m args below meth c g A C H locs lsA hW hS hl hz
  exact lv_ishl C.1 C.2.1 hd  (k p l e s m args below meth c g A C H locs lsA hW hS hl hz)
theorem k_ishr {x y : Int32} (hd : decode K.2.1 pc = .ok (.ishr, 1)) (hp : pc + 1 = pc') 
    (k : kEv K R F mu pc' ls (.int (x >>> (y &&& 31)) :: st) h N cs ss) : kEv K R F mu pc ls (.int y :: .int x :: st) h N cs ss := by
  subst hp
  intro p l e s m args below meth c g A C H locs lsA hW hS hl hz
  exact lv_ishr C.1 C.2.1 hd  (k p l e s m args below meth c g A C H locs lsA hW hS hl hz)
theorem k_iushr {x y : Int32} (hd : decode K.2.1 pc = .ok (.iushr, 1)) (hp : pc + 1 = pc') 
    (k : kEv K R F mu pc' ls (.int (x.toUInt32 >>> (y.toUInt32 &&& Int32.toUInt32 31)).toInt32 :: st) h N cs ss) : kEv K R F mu pc ls (.int y :: .int x :: st) h N cs ss := by
  subst hp
  intro p l e s m args below meth c g A C H locs lsA hW hS hl hz
  exact lv_iushr C.1 C.2.1 hd rfl (k p l e s m args below meth c g A C H locs lsA hW hS hl hz)
theorem k_ladd {x y : Int64} (hd : decode K.2.1 pc = .ok (.ladd, 1)) (hp : pc + 1 = pc') 
    (k : kEv K R F mu pc' ls (.long (x + y) :: st) h N cs ss) : kEv K R F mu pc ls (.long y :: .long x :: st) h N cs ss := by
  subst hp
  intro p l e s m args below meth c g A C H locs lsA hW hS hl hz
  exact lv_ladd C.1 C.2.1 hd  (k p l e s m args below meth c g A C H locs lsA hW hS hl hz)
theorem k_lsub {x y : Int64} (hd : decode K.2.1 pc = .ok (.lsub, 1)) (hp : pc + 1 = pc') 
    (k : kEv K R F mu pc' ls (.long (x - y) :: st) h N cs ss) : kEv K R F mu pc ls (.long y :: .long x :: st) h N cs ss := by
  subst hp
  intro p l e s m args below meth c g A C H locs lsA hW hS hl hz
  exact lv_lsub C.1 C.2.1 hd  (k p l e s m args below meth c g A C H locs lsA hW hS hl hz)
theorem k_lmul {x y : Int64} (hd : decode K.2.1 pc = .ok (.lmul, 1)) (hp : pc + 1 = pc') 
    (k : kEv K R F mu pc' ls (.long (x * y) :: st) h N cs ss) : kEv K R F mu pc ls (.long y :: .long x :: st) h N cs ss := by
  subst hp
  intro p l e s m args below meth c g A C H locs lsA hW hS hl hz
  exact lv_lmul C.1 C.2.1 hd  (k p l e s m args below meth c g A C H locs lsA hW hS hl hz)
theorem k_land {x y : Int64} (hd : decode K.2.1 pc = .ok (.land, 1)) (hp : pc + 1 = pc') 
    (k : kEv K R F mu pc' ls (.long (x &&& y) :: st) h N cs ss) : kEv K R F mu pc ls (.long y :: .long x :: st) h N cs ss := by
  subst hp
  intro p l e s m args below meth c g A C H locs lsA hW hS hl hz
  exact lv_land C.1 C.2.1 hd  (k p l e s m args below meth c g A C H locs lsA hW hS hl hz)
theorem k_lor {x y : Int64} (hd : decode K.2.1 pc = .ok (.lor, 1)) (hp : pc + 1 = pc') 
    (k : kEv K R F mu pc' ls (.long (x ||| y) :: st) h N cs ss) : kEv K R F mu pc ls (.long y :: .long x :: st) h N cs ss := by
  subst hp
  intro p l e s m args below meth c g A C H locs lsA hW hS hl hz
  exact lv_lor C.1 C.2.1 hd  (k p l e s m args below meth c g A C H locs lsA hW hS hl hz)
theorem k_lxor {x y : Int64} (hd : decode K.2.1 pc = .ok (.lxor, 1)) (hp : pc + 1 = pc') 
    (k : kEv K R F mu pc' ls (.long (x ^^^ y) :: st) h N cs ss) : kEv K R F mu pc ls (.long y :: .long x :: st) h N cs ss := by
  subst hp
  intro p l e s m args below meth c g A C H locs lsA hW hS hl hz
  exact lv_lxor C.1 C.2.1 hd  (k p l e s m args below meth c g A C H locs lsA hW hS hl hz)
theorem k_lshl {x : Int64} {y : Int32} (hd : decode K.2.1 pc = .ok (.lshl, 1)) (hp : pc + 1 = pc') 
    (k : kEv K R F mu pc' ls (.long (x <<< (y.toInt64 &&& 63)) :: st) h N cs ss) : kEv K R F mu pc ls (.int y :: .long x :: st) h N cs ss := by
  subst hp
  intro p l e s m args below meth c g A C H locs lsA hW hS hl hz
  exact lv_lshl C.1 C.2.1 hd rfl (k p l e s m args below meth c g A C H locs lsA hW hS hl hz)
theorem k_lushr {x : Int64} {y : Int32} (hd : decode K.2.1 pc = .ok (.lushr, 1)) (hp : pc + 1 = pc') 
    (k : kEv K R F mu pc' ls (.long (x.toUInt64 >>> (y.toInt64.toUInt64 &&& Int64.toUInt64 63)).toInt64 :: st) h N cs ss) : kEv K R F mu pc ls (.int y :: .long x :: st) h N cs ss := by
  subst hp
  intro p l e s m args below meth c g A C H locs lsA hW hS hl hz
  exact lv_lushr C.1 C.2.1 hd rfl (k p l e s m args below meth c g A C H locs lsA hW hS hl hz)
theorem k_idiv {x y : Int32} (hd : decode K.2.1 pc = .ok (.idiv, 1)) (hp : pc + 1 = pc') (hne : ¬ y = 0)
    (k : kEv K R F mu pc' ls (.int (x / y) :: st) h N cs ss) : kEv K R F mu pc ls (.int y :: .int x :: st) h N cs ss := by
  subst hp
  intro p l e s m args below meth c g A C H locs lsA hW hS hl hz
  exact lv_idiv C.1 C.2.1 hd hne (k p l e s m args below meth c g A C H locs lsA hW hS hl hz)
theorem k_irem {x y : Int32} (hd : decode K.2.1 pc = .ok (.irem, 1)) (hp : pc + 1 = pc') (hne : ¬ y = 0)
    (k : kEv K R F mu pc' ls (.int (x - x / y * y) :: st) h N cs ss) : kEv K R F mu pc ls (.int y :: .int x :: st) h N cs ss := by
  subst hp
  intro p l e s m args below meth c g A C H locs lsA hW hS hl hz
  exact lv_irem C.1 C.2.1 hd hne (k p l e s m args below meth c g A C H locs lsA hW hS hl hz)
theorem k_i2l {x : Int32} (hd : decode K.2.1 pc = .ok (.i2l, 1)) (hp : pc + 1 = pc') 
    (k : kEv K R F mu pc' ls (.long x.toInt64 :: st) h N cs ss) : kEv K R F mu pc ls (.int x :: st) h N cs ss := by
  subst hp
  intro p l e s m args below meth c g A C H locs lsA hW hS hl hz
  exact lv_i2l C.1 C.2.1 hd rfl (k p l e s m args below meth c g A C H locs lsA hW hS hl hz)
theorem k_i2c {x : Int32} (hd : decode K.2.1 pc = .ok (.i2c, 1)) (hp : pc + 1 = pc') 
    (k : kEv K R F mu pc' ls (.int (x.toUInt32 % 65536).toInt32 :: st) h N cs ss) : kEv K R F mu pc ls (.int x :: st) h N cs ss := by
  subst hp
  intro p l e s m args below meth c g A C H locs lsA hW hS hl hz
  exact lv_i2c C.1 C.2.1 hd rfl (k p l e s m args below meth c g A C H locs lsA hW hS hl hz)
theorem k_i2f {x : Int32} (hd : decode K.2.1 pc = .ok (.i2f, 1)) (hp : pc + 1 = pc') 
    (k : kEv K R F mu pc' ls (.float (FP.i2f x) :: st) h N cs ss) : kEv K R F mu pc ls (.int x :: st) h N cs ss := by
  subst hp
  intro p l e s m args below meth c g A C H locs lsA hW hS hl hz
  exact lv_i2f C.1 C.2.1 hd  (k p l e s m args below meth c g A C H locs lsA hW hS hl hz)
theorem k_i2d {x : Int32} (hd : decode K.2.1 pc = .ok (.i2d, 1)) (hp : pc + 1 = pc') 
    (k : kEv K R F mu pc' ls (.double (FP.i2d x) :: st) h N cs ss) : kEv K R F mu pc ls (.int x :: st) h N cs ss := by
  subst hp
  intro p l e s m args below meth c g A C H locs lsA hW hS hl hz
  exact lv_i2d C.1 C.2.1 hd  (k p l e s m args below meth c g A C H locs lsA hW hS hl hz)
theorem k_f2i {x : UInt32} (hd : decode K.2.1 pc = .ok (.f2i, 1)) (hp : pc + 1 = pc') 
    (k : kEv K R F mu pc' ls (.int (FP.f2i x) :: st) h N cs ss) : kEv K R F mu pc ls (.float x :: st) h N cs ss := by
  subst hp
  intro p l e s m args below meth c g A C H locs lsA hW hS hl hz
  exact lv_f2i C.1 C.2.1 hd  (k p l e s m args below meth c g A C H locs lsA hW hS hl hz)
theorem k_f2d {x : UInt32} (hd : decode K.2.1 pc = .ok (.f2d, 1)) (hp : pc + 1 = pc') (hne : vf_n64 (FP.f2d x))
    (k : kEv K R F mu pc' ls (.double (FP.f2d x) :: st) h N cs ss) : kEv K R F mu pc ls (.float x :: st) h N cs ss := by
  subst hp
  intro p l e s m args below meth c g A C H locs lsA hW hS hl hz
  exact lv_f2d C.1 C.2.1 hd hne (k p l e s m args below meth c g A C H locs lsA hW hS hl hz)
theorem k_fsub {x y : UInt32} (hd : decode K.2.1 pc = .ok (.fsub, 1)) (hp : pc + 1 = pc') (hne : vf_n32 (FP.fsub x y))
    (k : kEv K R F mu pc' ls (.float (FP.fsub x y) :: st) h N cs ss) : kEv K R F mu pc ls (.float y :: .float x :: st) h N cs ss := by
  subst hp
  intro p l e s m args below meth c g A C H locs lsA hW hS hl hz
  exact lv_fsub C.1 C.2.1 hd hne (k p l e s m args below meth c g A C H locs lsA hW hS hl hz)
theorem k_fmul {x y : UInt32} (hd : decode K.2.1 pc = .ok (.fmul, 1)) (hp : pc + 1 = pc') (hne : vf_n32 (FP.fmul x y))
    (k : kEv K R F mu pc' ls (.float (FP.fmul x y) :: st) h N cs ss) : kEv K R F mu pc ls (.float y :: .float x :: st) h N cs ss := by
  subst hp
  intro p l e s m args below meth c g A C H locs lsA hW hS hl hz
  exact lv_fmul C.1 C.2.1 hd hne (k p l e s m args below meth c g A C H locs lsA hW hS hl hz)
theorem k_fdiv {x y : UInt32} (hd : decode K.2.1 pc = .ok (.fdiv, 1)) (hp : pc + 1 = pc') (hne : vf_n32 (FP.fdiv x y))
    (k : kEv K R F mu pc' ls (.float (FP.fdiv x y) :: st) h N cs ss) : kEv K R F mu pc ls (.float y :: .float x :: st) h N cs ss := by
  subst hp
  intro p l e s m args below meth c g A C H locs lsA hW hS hl hz
  exact lv_fdiv C.1 C.2.1 hd hne (k p l e s m args below meth c g A C H locs lsA hW hS hl hz)
theorem k_ddiv {x y : UInt64} (hd : decode K.2.1 pc = .ok (.ddiv, 1)) (hp : pc + 1 = pc') (hne : vf_n64 (FP.ddiv x y))
    (k : kEv K R F mu pc' ls (.double (FP.ddiv x y) :: st) h N cs ss) : kEv K R F mu pc ls (.double y :: .double x :: st) h N cs ss := by
  subst hp
  intro p l e s m args below meth c g A C H locs lsA hW hS hl hz
  exact lv_ddiv C.1 C.2.1 hd hne (k p l e s m args below meth c g A C H locs lsA hW hS hl hz)
theorem k_fcmp {x y : UInt32} {op : CmpOp} (hd : decode K.2.1 pc = .ok (.fcmp op, 1)) (hp : pc + 1 = pc') 
    (k : kEv K R F mu pc' ls (.int (Op.cmpValue (FP.fcmp x y) op) :: st) h N cs ss) : kEv K R F mu pc ls (.float y :: .float x :: st) h N cs ss := by
  subst hp
  intro p l e s m args below meth c g A C H locs lsA hW hS hl hz
  exact lv_fcmp C.1 C.2.1 hd  (k p l e s m args below meth c g A C H locs lsA hW hS hl hz)
theorem k_dcmp {x y : UInt64} {op : CmpOp} (hd : decode K.2.1 pc = .ok (.dcmp op, 1)) (hp : pc + 1 = pc') 
    (k : kEv K R F mu pc' ls (.int (Op.cmpValue (FP.dcmp x y) op) :: st) h N cs ss) : kEv K R F mu pc ls (.double y :: .double x :: st) h N cs ss := by
  subst hp
  intro p l e s m args below meth c g A C H locs lsA hW hS hl hz
  exact lv_dcmp C.1 C.2.1 hd  (k p l e s m args below meth c g A C H locs lsA hW hS hl hz)
theorem k_lcmp {x y : Int64} (hd : decode K.2.1 pc = .ok (.lcmp, 1)) (hp : pc + 1 = pc') 
    (k : kEv K R F mu pc' ls (.int (lg_cmp x y) :: st) h N cs ss) : kEv K R F mu pc ls (.long y :: .long x :: st) h N cs ss := by
  subst hp
  intro p l e s m args below meth c g A C H locs lsA hW hS hl hz
  exact W.lcmp C.1 C.2.1 hd  (k p l e s m args below meth c g A C H locs lsA hW hS hl hz)
theorem k_dup {va : Value} (hd : decode K.2.1 pc = .ok (.dup, 1)) (hp : pc + 1 = pc') (ha : va.category = 1)
    (k : kEv K R F mu pc' ls (va :: va :: st) h N cs ss) : kEv K R F mu pc ls (va :: st) h N cs ss := by
  subst hp
  intro p l e s m args below meth c g A C H locs lsA hW hS hl hz
  exact lv_dup C.1 C.2.1 hd ((kV_cat _ _).trans ha) (k p l e s m args below meth c g A C H locs lsA hW hS hl hz)
theorem k_pop {va : Value} (hd : decode K.2.1 pc = .ok (.pop, 1)) (hp : pc + 1 = pc') (ha : va.category = 1)
    (k : kEv K R F mu pc' ls (st) h N cs ss) : kEv K R F mu pc ls (va :: st) h N cs ss := by
  subst hp
  intro p l e s m args below meth c g A C H locs lsA hW hS hl hz
  exact lv_pop C.1 C.2.1 hd ((kV_cat _ _).trans ha) (k p l e s m args below meth c g A C H locs lsA hW hS hl hz)
theorem k_dup_x1 {va vb : Value} (hd : decode K.2.1 pc = .ok (.dup_x1, 1)) (hp : pc + 1 = pc') (ha : va.category = 1) (hb : vb.category = 1)
    (k : kEv K R F mu pc' ls (va :: vb :: va :: st) h N cs ss) : kEv K R F mu pc ls (va :: vb :: st) h N cs ss := by
  subst hp
  intro p l e s m args below meth c g A C H locs lsA hW hS hl hz
  exact lv_dup_x1 C.1 C.2.1 hd ((kV_cat _ _).trans ha) ((kV_cat _ _).trans hb) (k p l e s m args below meth c g A C H locs lsA hW hS hl hz)
theorem k_dup2_11 {va vb : Value} (hd : decode K.2.1 pc = .ok (.dup2, 1)) (hp : pc + 1 = pc') (ha : va.category = 1) (hb : vb.category = 1)
    (k : kEv K R F mu pc' ls (va :: vb :: va :: vb :: st) h N cs ss) : kEv K R F mu pc ls (va :: vb :: st) h N cs ss := by
  subst hp
  intro p l e s m args below meth c g A C H locs lsA hW hS hl hz
  exact lv_dup2_11 C.1 C.2.1 hd ((kV_cat _ _).trans ha) ((kV_cat _ _).trans hb) (k p l e s m args below meth c g A C H locs lsA hW hS hl hz)
theorem k_dup2_2 {va : Value} (hd : decode K.2.1 pc = .ok (.dup2, 1)) (hp : pc + 1 = pc') (ha : va.category = 2)
    (k : kEv K R F mu pc' ls (va :: va :: st) h N cs ss) : kEv K R F mu pc ls (va :: st) h N cs ss := by
  subst hp
  intro p l e s m args below meth c g A C H locs lsA hW hS hl hz
  exact lv_dup2_2 C.1 C.2.1 hd ((kV_cat _ _).trans ha) (k p l e s m args below meth c g A C H locs lsA hW hS hl hz)
theorem k_if_eq {x : Int32} {off : Int} {tgt : Nat} (hd : decode K.2.1 pc = .ok (.ifCond .eq off, 3)) (hp : pc + 3 = pc') (ht : (pc : Int) + off = (tgt : Int))
    (kt : x = 0 → kEv K R F mu tgt ls st h N cs ss) (kf : ¬ x = 0 → kEv K R F mu pc' ls st h N cs ss) : kEv K R F mu pc ls (.int x :: st) h N cs ss := by
  subst hp
  intro p l e s m args below meth c g A C H locs lsA hW hS hl hz
  exact lv_if_eq C.1 C.2.1 hd ht (fun q => kt q p l e s m args below meth c g A C H locs lsA hW hS hl hz) (fun q => kf q p l e s m args below meth c g A C H locs lsA hW hS hl hz)
theorem k_if_ne {x : Int32} {off : Int} {tgt : Nat} (hd : decode K.2.1 pc = .ok (.ifCond .ne off, 3)) (hp : pc + 3 = pc') (ht : (pc : Int) + off = (tgt : Int))
    (kt : ¬ x = 0 → kEv K R F mu tgt ls st h N cs ss) (kf : x = 0 → kEv K R F mu pc' ls st h N cs ss) : kEv K R F mu pc ls (.int x :: st) h N cs ss := by
  subst hp
  intro p l e s m args below meth c g A C H locs lsA hW hS hl hz
  exact lv_if_ne C.1 C.2.1 hd ht (fun q => kt q p l e s m args below meth c g A C H locs lsA hW hS hl hz) (fun q => kf q p l e s m args below meth c g A C H locs lsA hW hS hl hz)
theorem k_if_lt {x : Int32} {off : Int} {tgt : Nat} (hd : decode K.2.1 pc = .ok (.ifCond .lt off, 3)) (hp : pc + 3 = pc') (ht : (pc : Int) + off = (tgt : Int))
    (kt : x < 0 → kEv K R F mu tgt ls st h N cs ss) (kf : ¬ x < 0 → kEv K R F mu pc' ls st h N cs ss) : kEv K R F mu pc ls (.int x :: st) h N cs ss := by
  subst hp
  intro p l e s m args below meth c g A C H locs lsA hW hS hl hz
  exact lv_if_lt C.1 C.2.1 hd ht (fun q => kt q p l e s m args below meth c g A C H locs lsA hW hS hl hz) (fun q => kf q p l e s m args below meth c g A C H locs lsA hW hS hl hz)
theorem k_if_ge {x : Int32} {off : Int} {tgt : Nat} (hd : decode K.2.1 pc = .ok (.ifCond .ge off, 3)) (hp : pc + 3 = pc') (ht : (pc : Int) + off = (tgt : Int))
    (kt : 0 ≤ x → kEv K R F mu tgt ls st h N cs ss) (kf : ¬ 0 ≤ x → kEv K R F mu pc' ls st h N cs ss) : kEv K R F mu pc ls (.int x :: st) h N cs ss := by
  subst hp
  intro p l e s m args below meth c g A C H locs lsA hW hS hl hz
  exact lv_if_ge C.1 C.2.1 hd ht (fun q => kt q p l e s m args below meth c g A C H locs lsA hW hS hl hz) (fun q => kf q p l e s m args below meth c g A C H locs lsA hW hS hl hz)
theorem k_if_gt {x : Int32} {off : Int} {tgt : Nat} (hd : decode K.2.1 pc = .ok (.ifCond .gt off, 3)) (hp : pc + 3 = pc') (ht : (pc : Int) + off = (tgt : Int))
    (kt : 0 < x → kEv K R F mu tgt ls st h N cs ss) (kf : ¬ 0 < x → kEv K R F mu pc' ls st h N cs ss) : kEv K R F mu pc ls (.int x :: st) h N cs ss := by
  subst hp
  intro p l e s m args below meth c g A C H locs lsA hW hS hl hz
  exact lv_if_gt C.1 C.2.1 hd ht (fun q => kt q p l e s m args below meth c g A C H locs lsA hW hS hl hz) (fun q => kf q p l e s m args below meth c g A C H locs lsA hW hS hl hz)
theorem k_if_le {x : Int32} {off : Int} {tgt : Nat} (hd : decode K.2.1 pc = .ok (.ifCond .le off, 3)) (hp : pc + 3 = pc') (ht : (pc : Int) + off = (tgt : Int))
    (kt : x ≤ 0 → kEv K R F mu tgt ls st h N cs ss) (kf : ¬ x ≤ 0 → kEv K R F mu pc' ls st h N cs ss) : kEv K R F mu pc ls (.int x :: st) h N cs ss := by
  subst hp
  intro p l e s m args below meth c g A C H locs lsA hW hS hl hz
  exact lv_if_le C.1 C.2.1 hd ht (fun q => kt q p l e s m args below meth c g A C H locs lsA hW hS hl hz) (fun q => kf q p l e s m args below meth c g A C H locs lsA hW hS hl hz)
theorem k_icmp_eq {x y : Int32} {off : Int} {tgt : Nat} (hd : decode K.2.1 pc = .ok (.if_icmp .eq off, 3)) (hp : pc + 3 = pc') (ht : (pc : Int) + off = (tgt : Int))
    (kt : x = y → kEv K R F mu tgt ls st h N cs ss) (kf : ¬ x = y → kEv K R F mu pc' ls st h N cs ss) : kEv K R F mu pc ls (.int y :: .int x :: st) h N cs ss := by
  subst hp
  intro p l e s m args below meth c g A C H locs lsA hW hS hl hz
  exact lv_icmp_eq C.1 C.2.1 hd ht (fun q => kt q p l e s m args below meth c g A C H locs lsA hW hS hl hz) (fun q => kf q p l e s m args below meth c g A C H locs lsA hW hS hl hz)
theorem k_icmp_ne {x y : Int32} {off : Int} {tgt : Nat} (hd : decode K.2.1 pc = .ok (.if_icmp .ne off, 3)) (hp : pc + 3 = pc') (ht : (pc : Int) + off = (tgt : Int))
    (kt : ¬ x = y → kEv K R F mu tgt ls st h N cs ss) (kf : x = y → kEv K R F mu pc' ls st h N cs ss) : kEv K R F mu pc ls (.int y :: .int x :: st) h N cs ss := by
  subst hp
  intro p l e s m args below meth c g A C H locs lsA hW hS hl hz
  exact lv_icmp_ne C.1 C.2.1 hd ht (fun q => kt q p l e s m args below meth c g A C H locs lsA hW hS hl hz) (fun q => kf q p l e s m args below meth c g A C H locs lsA hW hS hl hz)
theorem k_icmp_lt {x y : Int32} {off : Int} {tgt : Nat} (hd : decode K.2.1 pc = .ok (.if_icmp .lt off, 3)) (hp : pc + 3 = pc') (ht : (pc : Int) + off = (tgt : Int))
    (kt : x < y → kEv K R F mu tgt ls st h N cs ss) (kf : ¬ x < y → kEv K R F mu pc' ls st h N cs ss) : kEv K R F mu pc ls (.int y :: .int x :: st) h N cs ss := by
  subst hp
  intro p l e s m args below meth c g A C H locs lsA hW hS hl hz
  exact lv_icmp_lt C.1 C.2.1 hd ht (fun q => kt q p l e s m args below meth c g A C H locs lsA hW hS hl hz) (fun q => kf q p l e s m args below meth c g A C H locs lsA hW hS hl hz)
theorem k_icmp_ge {x y : Int32} {off : Int} {tgt : Nat} (hd : decode K.2.1 pc = .ok (.if_icmp .ge off, 3)) (hp : pc + 3 = pc') (ht : (pc : Int) + off = (tgt : Int))
    (kt : y ≤ x → kEv K R F mu tgt ls st h N cs ss) (kf : ¬ y ≤ x → kEv K R F mu pc' ls st h N cs ss) : kEv K R F mu pc ls (.int y :: .int x :: st) h N cs ss := by
  subst hp
  intro p l e s m args below meth c g A C H locs lsA hW hS hl hz
  exact lv_icmp_ge C.1 C.2.1 hd ht (fun q => kt q p l e s m args below meth c g A C H locs lsA hW hS hl hz) (fun q => kf q p l e s m args below meth c g A C H locs lsA hW hS hl hz)
theorem k_icmp_gt {x y : Int32} {off : Int} {tgt : Nat} (hd : decode K.2.1 pc = .ok (.if_icmp .gt off, 3)) (hp : pc + 3 = pc') (ht : (pc : Int) + off = (tgt : Int))
    (kt : y < x → kEv K R F mu tgt ls st h N cs ss) (kf : ¬ y < x → kEv K R F mu pc' ls st h N cs ss) : kEv K R F mu pc ls (.int y :: .int x :: st) h N cs ss := by
  subst hp
  intro p l e s m args below meth c g A C H locs lsA hW hS hl hz
  exact lv_icmp_gt C.1 C.2.1 hd ht (fun q => kt q p l e s m args below meth c g A C H locs lsA hW hS hl hz) (fun q => kf q p l e s m args below meth c g A C H locs lsA hW hS hl hz)
theorem k_icmp_le {x y : Int32} {off : Int} {tgt : Nat} (hd : decode K.2.1 pc = .ok (.if_icmp .le off, 3)) (hp : pc + 3 = pc') (ht : (pc : Int) + off = (tgt : Int))
    (kt : x ≤ y → kEv K R F mu tgt ls st h N cs ss) (kf : ¬ x ≤ y → kEv K R F mu pc' ls st h N cs ss) : kEv K R F mu pc ls (.int y :: .int x :: st) h N cs ss := by
  subst hp
  intro p l e s m args below meth c g A C H locs lsA hW hS hl hz
  exact lv_icmp_le C.1 C.2.1 hd ht (fun q => kt q p l e s m args below meth c g A C H locs lsA hW hS hl hz) (fun q => kf q p l e s m args below meth c g A C H locs lsA hW hS hl hz)
theorem k_goto {off : Int} {tgt : Nat} (hd : decode K.2.1 pc = .ok (.goto off, 3)) (ht : (pc : Int) + off = (tgt : Int)) (k : kEv K R F mu tgt ls st h N cs ss) : kEv K R F mu pc ls st h N cs ss := by
  intro p l e s m args below meth c g A C H locs lsA hW hS hl hz
  exact lv_goto C.1 C.2.1 hd ht (k p l e s m args below meth c g A C H locs lsA hW hS hl hz)
theorem k_ifnonnull {x : Nat} {off : Int} {tgt : Nat} (hd : decode K.2.1 pc = .ok (.ifnonnull off, 3)) (ht : (pc : Int) + off = (tgt : Int)) (k : kEv K R F mu tgt ls st h N cs ss) : kEv K R F mu pc ls (.ref x :: st) h N cs ss := by
  intro p l e s m args below meth c g A C H locs lsA hW hS hl hz
  exact lv_ifnonnull C.1 C.2.1 hd ht (k p l e s m args below meth c g A C H locs lsA hW hS hl hz)
theorem k_ifnonnullN {off : Int} (hd : decode K.2.1 pc = .ok (.ifnonnull off, 3)) (hp : pc + 3 = pc') (k : kEv K R F mu pc' ls st h N cs ss) : kEv K R F mu pc ls (.null :: st) h N cs ss := by
  subst hp
  intro p l e s m args below meth c g A C H locs lsA hW hS hl hz
  exact lv_ifnonnullN C.1 C.2.1 hd (k p l e s m args below meth c g A C H locs lsA hW hS hl hz)
theorem k_ifnull {x : Nat} {off : Int} (hd : decode K.2.1 pc = .ok (.ifnull off, 3)) (hp : pc + 3 = pc') (k : kEv K R F mu pc' ls st h N cs ss) : kEv K R F mu pc ls (.ref x :: st) h N cs ss := by
  subst hp
  intro p l e s m args below meth c g A C H locs lsA hW hS hl hz
  exact lv_ifnull C.1 C.2.1 hd (k p l e s m args below meth c g A C H locs lsA hW hS hl hz)
theorem k_ifnullN {off : Int} {tgt : Nat} (hd : decode K.2.1 pc = .ok (.ifnull off, 3)) (ht : (pc : Int) + off = (tgt : Int)) (k : kEv K R F mu tgt ls st h N cs ss) : kEv K R F mu pc ls (.null :: st) h N cs ss := by
  intro p l e s m args below meth c g A C H locs lsA hW hS hl hz
  exact lv_ifnullN C.1 C.2.1 hd ht (k p l e s m args below meth c g A C H locs lsA hW hS hl hz)
theorem k_tableOut {dflt lo hi : Int} {offs : Array Int} {len : Nat} {x : Int32} {tgt : Nat} (hd : decode K.2.1 pc = .ok (.tableswitch dflt lo hi offs, len)) (hx : x.toInt < lo ∨ hi < x.toInt) (ht : (pc : Int) + dflt = (tgt : Int)) (k : kEv K R F mu tgt ls st h N cs ss) : kEv K R F mu pc ls (.int x :: st) h N cs ss := by
  intro p l e s m args below meth c g A C H locs lsA hW hS hl hz
  exact lv_tableOut C.1 C.2.1 hd hx ht (k p l e s m args below meth c g A C H locs lsA hW hS hl hz)
theorem k_tableIn {dflt lo hi : Int} {offs : Array Int} {len : Nat} {x : Int32} {off : Int} {tgt : Nat} (hd : decode K.2.1 pc = .ok (.tableswitch dflt lo hi offs, len)) (h1 : ¬ x.toInt < lo) (h2 : ¬ hi < x.toInt) (ho : offs[(x.toInt - lo).toNat]? = some off) (ht : (pc : Int) + off = (tgt : Int)) (k : kEv K R F mu tgt ls st h N cs ss) : kEv K R F mu pc ls (.int x :: st) h N cs ss := by
  intro p l e s m args below meth c g A C H locs lsA hW hS hl hz
  exact lv_tableIn C.1 C.2.1 hd h1 h2 ho ht (k p l e s m args below meth c g A C H locs lsA hW hS hl hz)
end KR
