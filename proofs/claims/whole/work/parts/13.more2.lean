section KD2
variable {K : kM} {R : Room} {F : kFn} {pc pc' : Nat} {ls st : List Value} {h : kH} {N cs ss mc ms : Nat} {mu : Bool}
theorem k_l2i {x : Int64} (hd : decode K.2.1 pc = .ok (.l2i, 1)) (hp : pc + 1 = pc')
    (k : kEv K R F mu pc' ls (.int x.toInt32 :: st) h N cs ss) : kEv K R F mu pc ls (.long x :: st) h N cs ss := by
  subst hp
  intro p l e s m args below meth c g A C H locs lsA hW hS hl hz
  exact lv_l2i C.1 C.2.1 hd rfl (k p l e s m args below meth c g A C H locs lsA hW hS hl hz)
theorem k_throwW {Q : kQ} {ik is ic : Nat} {E text : String} {names : List String} (th : kThr K.1.cls ik ic E names) (tx : (K.1.cls, is, text) ∈ kMs) (hh : K.2.2.2.2.1 = []) (d0 : decode K.2.1 pc = .ok (.new ik, 3)) (d3 : decode K.2.1 (pc + 3) = .ok (.dup, 1)) (d4 : decode K.2.1 (pc + 4) = .ok (.ldc_w is, 3)) (d7 : decode K.2.1 (pc + 7) = .ok (.invokespecial ic, 3)) (d10 : decode K.2.1 (pc + 10) = .ok (.athrow, 1))
    (hRf : names.length + 3 < R.frames) (hRl : (st.map fun v => v.category).sum + (13 * (names.length + 1) + 43) ≤ R.locals) (hRc : cs + 1 ≤ R.cells ∧ ss + 6 ≤ R.slots) (hc : cs + 1 ≤ mc) (hs : ss + 6 ≤ ms) (hQ : Q (.inr E) h N) : kEv K R (kFm false mc ms Q) false pc ls st h N cs ss := by
  intro p l e s m args below meth c g A C H locs lsA hW hS hl hz
  obtain ⟨hx, hb, hml, hr, hts, hown, hlk, hst, hnm, htb, hK, hSt, hA⟩ := id C
  obtain ⟨t1, t2, t3, t4, t5, t6⟩ := th
  obtain ⟨sa, hsa⟩ := hSt.2.2.1 _ tx
  refine vx_throwSW hx hb hst hown t1 t2 (hts _ t3) (hts _ t4) hsa (fun w hw => ?_) t6 hSt.2.1.1 hSt.2.1.2 hS (by rw [hl.1, hml]) d0 d3 d4 d7 d10 ?_ hRf (by rw [kV_cats]; exact hRl) hRc.1 hRc.2 hlk (fun t hal hz1 ho => ?_) hS.2.2 hc hs
  · rcases t5 w hw with hw2 | hw2
    · exact hts _ hw2
    · have h3 := hSt.1 w hw2
      have hg : gN w = true := (List.mem_filter.mp hw2).2
      cases w <;> first
        | exact va_Nw.use rfl h3
        | (rename_i t9; cases t9 <;> first | exact va_AO.use h3 | cases hg)
        | cases hg
  · rw [htb, hh]
    intro x hx9
    cases hx9
  · refine ⟨h, N, hQ, ⟨hW.1.kept (fun k x hx9 => ho x.1 ((hW.1 k x hx9).lt)), hW.2⟩, (fun q => by cases q), Nat.le_trans hS.1 hz1, fun q h1 h2 => ?_⟩
    rw [ho q (Nat.lt_of_lt_of_le h1 hS.1)]
    exact hS.2.1 q h1 h2
end KD2

/-! NoSuchElementException: its constructor calls its parent's by link 13, so the kit's laws of throws don't fit it. What follows needs less at its end than they do. -/
abbrev nseeN : String := "java/util/NoSuchElementException"
abbrev nseeP : String := "java/lang/RuntimeException"
abbrev nseeB : ByteArray := prog_39_method_4_code
theorem nsee_0 : decode nseeB 0 = .ok (.aload_n 0, 1) := by decide +kernel
theorem nsee_1 : decode nseeB 1 = .ok (.aload_n 1, 1) := by decide +kernel
theorem nsee_2 : decode nseeB 2 = .ok (.invokespecial 13, 3) := by decide +kernel
theorem nsee_5 : decode nseeB 5 = .ok (.return_, 1) := by decide +kernel
def nseeTail (own : String) (ic : Nat) : List Cond := (Bundle.ownAtoms own ic nseeN []).drop (Bundle.throwableAtoms ++ Bundle.throwableSAtoms ++ Bundle.chainSAtoms nseeN []).length
def nseeW (own : String) (ic : Nat) : List Cond := Bundle.throwableAtoms ++ Bundle.throwableSAtoms ++ (Bundle.passSAtoms nseeN nseeP 13 nseeB ++ Bundle.chainSAtoms nseeP ["java/lang/Exception"]) ++ nseeTail own ic
theorem nseeTail_mem {own : String} {ic : Nat} {w : Cond} (h : w ∈ nseeTail own ic) : w ∈ nseeW own ic := by
  unfold nseeW
  exact List.mem_append.mpr (Or.inr h)
def nseePre : List Cond := Bundle.throwableAtoms ++ Bundle.throwableSAtoms ++ Bundle.chainSAtoms nseeN []
theorem nseeTail_of {own : String} {ic : Nat} {w : Cond} (h : w ∈ Bundle.ownAtoms own ic nseeN []) (hp : w ∉ nseePre) : w ∈ nseeTail own ic := by
  have e : Bundle.ownAtoms own ic nseeN [] = nseePre ++ nseeTail own ic := by
    unfold nseeTail nseePre Bundle.ownAtoms
    rw [List.drop_left]
  rw [e] at h
  rcases List.mem_append.mp h with h | h
  · exact absurd h hp
  · exact h
theorem nsee_link {own : String} {ic : Nat} : Cond.methodLink own ic (Bundle.initS nseeN) ∉ nseePre := by
  simp [nseePre, Bundle.throwableAtoms, Bundle.throwableSAtoms, Bundle.chainSAtoms, Bundle.passSAtoms, Bundle.initS, Bundle.tN]
  exact ⟨fun _ _ => by decide, fun _ _ => by decide, fun _ _ => by decide, fun _ _ => by decide⟩
section NSEE
variable {p : Program} {l : Launch} {e : Env} {R : Room} {s : State} {m₀ : MethodId} {args : Array Value} {below : List Frame} {meth : Method} {c : Code} {V : State} {locs : List Loc} {cells slots : Nat}
theorem nsee_ctor (X : Stand p l e R s m₀ args below meth c V locs cells slots) (hexec : p.tables.exec = Jvm.exec) (htr : e.platform.stackTraces = false) {own : String} {ic : Nat}
    (hown : s.vm.findClass own = some m₀.cls) (h : ∀ w ∈ nseeW own ic, w.before args s = true)
    (hlocs : ∀ x ∈ locs, ∀ cell, s.heap[x.base]? = some cell → cell.vm.isStatics = false)
    {a : Addr} {cX : ClassId} {kX : Class} (hfX : s.vm.findClass nseeN = some cX) (hkX : s.vm.classes[cX]? = some kX) (hcell : V.heap[a]? = some (freshCell cX kX)) (hnew : s.heap.size ≤ a)
    {msg : Value} (hmsg : msg.isRef = true)
    {g : JFrame} (hg : g.method = m₀) (hsize : g.locals.size = c.maxLocals) (hlocked : g.locked = none) (hentered : g.entered = []) {rest : List Value} (hstack : g.stack = msg :: .ref a :: .ref a :: rest)
    (dc : decode c.code g.pc = .ok (.invokespecial ic, 3)) (dt : decode c.code (g.pc + 3) = .ok (.athrow, 1)) (hout : ∀ x ∈ c.exceptionTable.toList, covers x (g.pc + 3) = false)
    (hRf : 5 < R.frames) (hRl : 2 * g.monitorRoom + ((Value.ref a :: rest).map fun v => v.category).sum + 81 ≤ R.locals) (hlocks : meth.locks = false) :
    ∃ U : State, Steps p.tables e below (V.setTop g) U ∧ U.status = .running ∧ Ended U below (.threw a) ∧ s.WarmedH U.vm ∧ s.sameButNew ({ U with vm := s.vm } : State) locs cells slots ∧
      ∃ ce, U.heap[a]? = some ce ∧ ce.vm = .none ∧ s.vm.findClass nseeN = some ce.cls := by
  have howns : e.platform.frameOwnsMonitors = true := by rw [X.admits.platform]
  have hfin : e.platform.finalization = false := by rw [X.admits.platform]
  have hpl : e.platform.magicAccessors = ({} : Platform).magicAccessors := by rw [X.admits.platform]
  have hn : ∀ x, x ∈ nseeTail own ic → x.before args s = true := fun x hx => h x (nseeTail_mem hx)
  have ha : ∀ x, x ∈ nseeTail own ic → x.holds args s none s [] = true := fun x hx => hn x hx
  obtain ⟨T, Z0, L, -, Y⟩ := ThrowableC.of_atoms (args := args) howns hfin hpl (fun x hx => h x (by simp only [nseeW, List.mem_append]; exact Or.inl (Or.inl (Or.inl hx))))
  obtain ⟨Z, M, LZ, LM, hnZ⟩ := Init0T.ofS_atoms (args := args) hpl L Y (fun x hx => h x (by simp only [nseeW, List.mem_append]; exact Or.inl (Or.inl (Or.inr hx))))
  obtain ⟨P1, L1, hP1m, hP1s⟩ := PassC.ofS_atoms (args := args) hpl (X := nseeN) (Y := nseeP) (by decide +kernel) (by decide +kernel) nsee_0 nsee_1 nsee_2 nsee_5 (fun x hx => h x (by simp only [nseeW, List.mem_append]; exact Or.inl (Or.inr (Or.inl hx))))
  obtain ⟨P2, Ps, hlen, L2, hL, hP2m, hlink1, hlink⟩ := Bundle.chainS (args := args) hpl hnZ ["java/lang/Exception"] nseeP (by decide +kernel) (by decide +kernel) (fun x hx => h x (by simp only [nseeW, List.mem_append]; exact Or.inl (Or.inr (Or.inr hx))))
  have hP12 : P1.sup = P2.m := Option.some.inj (hP1s.symm.trans hP2m)
  have hfound : s.vm.findClass nseeN = some P1.m.cls := findClass_of_methodNamed hP1m
  cases Option.some.inj (hfX.symm.trans hfound)
  obtain ⟨c1, kX', hc1, hk, hord, -, -, hn6⟩ := Cond.instantiable_spec (ha (.instantiable nseeN 6) (nseeTail_of (by simp [Bundle.ownAtoms]) (by decide +kernel)))
  cases Option.some.inj (hc1.symm.trans hfound)
  cases Option.some.inj (hkX.symm.trans hk)
  have hsel0 : selectMethod e.platform s.vm P1.m.cls T.fill0 = .method T.fill0 := by
    obtain ⟨c2, r2, m2, q1, q2, q3, q4, -⟩ := Cond.selects_spec (ha (.selects nseeN Bundle.tFill0 Bundle.tFill0) (nseeTail_of (by simp [Bundle.ownAtoms]) (by decide +kernel)))
    cases Option.some.inj (q1.symm.trans hfound)
    cases Option.some.inj (q2.symm.trans (State.methodFound?_of_named Y.fill0 (by decide)))
    cases Option.some.inj (q3.symm.trans Y.fill0)
    rw [Launch.admits_selectMethod X.admits]; exact q4
  have hselF : selectMethod e.platform s.vm P1.m.cls T.fill = .method T.fill := by
    obtain ⟨c2, r2, m2, q1, q2, q3, q4, -⟩ := Cond.selects_spec (ha (.selects nseeN Bundle.tFill Bundle.tFill) (nseeTail_of (by simp [Bundle.ownAtoms]) (by decide +kernel)))
    cases Option.some.inj (q1.symm.trans hfound)
    cases Option.some.inj (q2.symm.trans (State.methodFound?_of_named Y.fill (by decide)))
    cases Option.some.inj (q3.symm.trans Y.fill)
    rw [Launch.admits_selectMethod X.admits]; exact q4
  obtain ⟨cellS0, hcS0, hiss⟩ := Y.statics
  have wU : (Cond.isRef (.static Bundle.tN "UNASSIGNED_STACK" Bundle.steD)) ∈ nseeTail own ic := nseeTail_of (by simp [Bundle.ownAtoms]) (by decide +kernel)
  have wN : (Cond.isRef (.static Bundle.tN "SUPPRESSED_SENTINEL" Bundle.listD)) ∈ nseeTail own ic := nseeTail_of (by simp [Bundle.ownAtoms]) (by decide +kernel)
  obtain ⟨u0, hu0⟩ := Cond.staticRefV Y.unassigned L.unassignedStatic L.statics hcS0 hiss (ha _ wU)
  obtain ⟨sen, hsen⟩ := Cond.staticRefV Y.sentinel L.sentinelStatic L.statics hcS0 hiss (ha _ wN)
  obtain ⟨ci198, i198, fB, hk198, hg198, ha198, hsB, -, hnB, htB, hffB⟩ := Cond.ownField (t := .object "java/lang/Object") Y.found L.cls (by decide +kernel) (ha (.fieldLink Bundle.tN 198 Bundle.tN "backtrace" "Ljava/lang/Object;") (nseeTail_of (by simp [Bundle.ownAtoms]) (by decide +kernel))) (ha (.lays Bundle.tN Bundle.tN "backtrace" "Ljava/lang/Object;") (nseeTail_of (by simp [Bundle.ownAtoms]) (by decide +kernel))) e.platform hpl
  obtain ⟨cellS, hcS', heS, -, hkeep⟩ := X.same.2.2.2.2.2 T.aS cellS0 hcS0
  have hcellS : V.heap[T.aS]? = some cellS := hcS'
  have hout' : ∀ i, (⟨T.aS, i⟩ : Loc) ∉ locs := fun i hm => by
    have q := hlocs _ hm cellS0 hcS0
    rw [hiss] at q; cases q
  have hknownS : cellS.vm ≠ .unknown := by
    rw [heS]; intro hu
    rw [show cellS0.vm = .unknown from hu] at hiss
    cases hiss
  have hneS : T.aS ≠ a := Nat.ne_of_lt (Nat.lt_of_lt_of_le (Array.getElem?_eq_some_iff.mp hcS0).1 hnew)
  obtain ⟨iM, hffM⟩ := Y.msg
  obtain ⟨tyC, dC, hdC, hdnC⟩ := Cond.laysAt hfound hk Y.cause (ha (.lays nseeN Bundle.tN "cause" "Ljava/lang/Throwable;") (nseeTail_of (by simp [Bundle.ownAtoms]) (by decide +kernel)))
  obtain ⟨tyS, dS, hdS, hdnS⟩ := Cond.laysAt hfound hk Y.stack (ha (.lays nseeN Bundle.tN "stackTrace" Bundle.steD) (nseeTail_of (by simp [Bundle.ownAtoms]) (by decide +kernel)))
  obtain ⟨tyP, dP, hdP, hdnP⟩ := Cond.laysAt hfound hk Y.supp (ha (.lays nseeN Bundle.tN "suppressedExceptions" Bundle.listD) (nseeTail_of (by simp [Bundle.ownAtoms]) (by decide +kernel)))
  obtain ⟨tyM, dM, hdM, hdnM⟩ := Cond.laysAt hfound hk hffM (ha (.lays nseeN Bundle.tN "detailMessage" "Ljava/lang/String;") (nseeTail_of (by simp [Bundle.ownAtoms]) (by decide +kernel)))
  obtain ⟨tyB, dB, hdB, hdnB⟩ := Cond.laysAt hfound hk hffB (ha (.lays nseeN Bundle.tN "backtrace" "Ljava/lang/Object;") (nseeTail_of (by simp [Bundle.ownAtoms]) (by decide +kernel)))
  have bC := Cond.laysApart hdB hdC hdnB hdnC (by rw [hnB, Y.causeName]; decide)
  have bS := Cond.laysApart hdB hdS hdnB hdnS (by rw [hnB, Y.stackName]; decide)
  have bP := Cond.laysApart hdB hdP hdnB hdnP (by rw [hnB, Y.suppName]; decide)
  have hskip : SkipFacts T e.platform s (fun u => u) u0 ((preparedCellV T.toThrowableT (freshCell P1.m.cls kX) a u0 sen).withEntry V.cur) :=
    ⟨{ ci198 := ci198, i198 := i198, fBack := fB }, ⟨hk198, hg198, ha198, hsB⟩, by
      have q := fresh_default (c := P1.m.cls) tyB
      rw [htB] at q
      simpa [preparedCellV, Cell.setSlot, Cell.withEntry, Array.getElem?_setIfInBounds, bC, bS, bP, bC.symm, bS.symm, bP.symm, defaultValue] using q, fun _ _ => rfl⟩
  obtain ⟨tm, methC, cdC, kC, vm₁, hnC, -, -, -, -, -, -, -, hW₁, st1⟩ := Steps.initColdS (tb := p.tables) (e := e) (below := below) (s := s) (U := V) X.here hexec X.warmed hpl hown (t := Bundle.initS nseeN) rfl rfl (by decide +kernel)
    (args := args) (hn _ (nseeTail_of (by simp [Bundle.ownAtoms]) nsee_link))
    (h (.instanceMethod (Bundle.initS nseeN)) (by simp [nseeW, Bundle.passSAtoms])) (bytes := nseeB) (maxL := 2) (h (.code (Bundle.initS nseeN) nseeB 2 none) (by simp [nseeW, Bundle.passSAtoms]))
    (f := g) hg (a := a) (msg := msg) (rest := .ref a :: rest) hstack dc
  cases Option.some.inj (hnC.symm.trans hP1m)
  have X₁ := X.noted hW₁
  obtain ⟨vm₂, X₂, st2⟩ := X₁.ctorMessageOffV hexec (g := { g with stack := .ref a :: rest }) hg hsize T L Z LZ M LM (P1 :: P2 :: Ps)
    (fun P hP => by
      rcases List.mem_cons.mp hP with rfl | hP
      · exact L1
      · rcases List.mem_cons.mp hP with rfl | hP
        · exact L2
        · exact hL P hP) ⟨hP12, hlink1, hlink⟩ (u0 := u0) (sen := sen) (self := a) hmsg (cell := freshCell P1.m.cls kX) (cellS := cellS)
    hcell (fun _ => by simp) (by simp) rfl rfl hsel0 hselF hcellS hneS hknownS (by rw [hkeep _ (hout' _)]; exact hu0) (by rw [hkeep _ (hout' _)]; exact hsen)
    (Takes.of_laid hk hord tyC (by rw [Y.causeType]; rfl)) (Takes.of_laid hk hord tyS (by rw [Y.stackType]; exact fits_refV_array _ u0)) (Takes.of_laid hk hord tyP (by rw [Y.suppType]; exact fits_refV_object _ sen))
    (Takes.of_laid hk hord tyM (by rw [Y.msgType]; exact fits_refV_object _ ⟨msg, hmsg⟩)) Y.objLocals hskip htr [] dc
    (by simp only [List.length_cons, hlen, List.length_nil]; omega) (by simp only [List.length_cons, hlen, List.length_nil]; exact hRl)
  obtain ⟨hwalk, hrun, hended, hWU, hsame⟩ := X₂.athrowLeaves hexec (g := { g with stack := .ref a :: rest, pc := g.pc + 3 }) hg hlocked hentered hout (a := a) (rest := rest) rfl dt
  have hlt : a < ((V.setVm vm₁).setVm vm₂).heap.size := (Array.getElem?_eq_some_iff.mp hcell).1
  have hU := heapAt_setCell_self (s := (V.setVm vm₁).setVm vm₂) (plainBareV T.toThrowableT (freshCell P1.m.cls kX) a u0 sen msg) hlt
  refine ⟨_, st1 _ (fun acts => ?_), hrun, hended, hWU, hsame.weaken (fun y hy hy2 => ?_) (Nat.le_refl _) (Nat.le_refl _), _, hU, rfl, hfound⟩
  · rw [doInvoke_state]
    exact st2 _ hwalk
  · rcases List.mem_append.mp hy with h1 | h1
    · exact h1
    · exfalso
      have hb : y.base = a := by
        simp only [List.mem_cons, List.not_mem_nil, or_false] at h1
        rcases h1 with rfl | rfl | rfl | rfl | rfl <;> rfl
      rw [hb] at hy2
      exact Nat.not_lt.mpr hnew hy2
theorem nsee_throw {cc : ByteArray} {pc : Nat} {H : Heap} {ls : Array Slot} {rest : List Value} {XC : String → State → State → Prop} {Qc : Array Value → State → Outcome → State → Prop} {free : Addr → Prop} (hexec : p.tables.exec = Jvm.exec) (hb : c.code = cc) (hl : l.stackTraces = false) {own text : String} {ik is ic mc ms sa : Nat} {A : Nat → Prop}
    (hown : s.vm.findClass own = some m₀.cls)
    (hk : (Cond.classLink own ik nseeN).before args s = true) (hini : (Cond.initialized nseeN).before args s = true) (hstr : vk_R own is text sa s) (hat : ∀ w ∈ (nseeW own ic).filter vx_no, w.before args s = true)
    (hgood : ∀ w ∈ Cond.classLink own ik nseeN :: Cond.initialized nseeN :: (nseeW own ic).filter vx_no, vx_ot w = true)
    (hU : vx_Zq Bundle.tN "UNASSIGNED_STACK" Bundle.steD A s s.heap) (hN : vx_Zq Bundle.tN "SUPPRESSED_SENTINEL" Bundle.listD A s s.heap) (hS : va_S A s.heap H locs) (hsize : ls.size = c.maxLocals)
    (d0 : decode cc pc = .ok (.new ik, 3)) (d3 : decode cc (pc + 3) = .ok (.dup, 1)) (d4 : decode cc (pc + 4) = .ok (.ldc is, 2)) (d6 : decode cc (pc + 4 + 2) = .ok (.invokespecial ic, 3)) (d9 : decode cc (pc + 4 + 2 + 3) = .ok (.athrow, 1))
    (hout : ∀ x ∈ c.exceptionTable.toList, covers x (pc + 4 + 2 + 3) = false)
    (hRf : 5 < R.frames) (hRl : (rest.map fun v => v.category).sum + 82 ≤ R.locals) (hRc : cells + 1 ≤ R.cells) (hRs : slots + 6 ≤ R.slots) (hlocks : meth.locks = false)
    (hx : ∀ t : State, s.vm.Alike t.vm → H.size ≤ t.heap.size → (∀ q : Nat, q < H.size → t.heap[q]? = H[q]?) → XC nseeN s t)
    (hf : ∀ z ∈ locs, free z.base) (hc : cells + 1 ≤ mc) (hs : slots + 6 ≤ ms) :
    W p l e R s m₀ args below meth c H locs cells slots (vx_MQ below Qc XC args s mc ms free) (F0 m₀ pc ls rest) := by
  intro T hT X
  have htr : e.platform.stackTraces = false := (show e.platform.stackTraces = l.stackTraces by rw [X.admits.platform]).trans hl
  have Y := vx_rebase X (R' := { frames := R.frames, locals := R.locals, cells := 1, slots := 6 }) (Nat.le_refl _) (Nat.le_refl _) hRc hRs
  obtain ⟨s', hA⟩ : ∃ z, z = (T.setVm s.vm).setFrames (.invoking m₀ args :: below) := ⟨_, rfl⟩
  rw [← hA] at Y
  have hvm : s'.vm = s.vm := by rw [hA]; rfl
  have hhp : s'.heap = H := by rw [hA]; exact hT
  have hW0 : s.WarmedH s'.vm := by rw [hvm]; exact State.WarmedH.refl s
  have hat' : ∀ w ∈ (nseeW own ic).filter vx_no, w.before args s' = true := fun w hw => vx_ot_at hW0 hvm.symm (hgood w (List.mem_cons_of_mem _ (List.mem_cons_of_mem _ hw))) (hat w hw)
  have hk' : (Cond.classLink own ik nseeN).before args s' = true := vx_ot_at hW0 hvm.symm (hgood _ List.mem_cons_self) hk
  have hini' : (Cond.initialized nseeN).before args s' = true := vx_ot_at hW0 hvm.symm (hgood _ (List.mem_cons_of_mem _ List.mem_cons_self)) hini
  have hU' : vx_Zq Bundle.tN "UNASSIGNED_STACK" Bundle.steD A s' s'.heap := by rw [hhp]; exact vx_Zq.moved hW0.alike (hU.kept hS.2.1)
  have hN' : vx_Zq Bundle.tN "SUPPRESSED_SENTINEL" Bundle.listD A s' s'.heap := by rw [hhp]; exact vx_Zq.moved hW0.alike (hN.kept hS.2.1)
  have h : ∀ w ∈ nseeW own ic, w.before args s' = true := vx_own hat' (vx_isRefq hU'.1) (vx_isRefq hN'.1) hU'.2.word hN'.2.word
  have hown' : s'.vm.findClass own = some m₀.cls := by rw [hvm]; exact hown
  have hins : (Cond.instantiable nseeN 6).before args s' = true := h _ (nseeTail_mem (nseeTail_of (by simp [Bundle.ownAtoms]) (by decide +kernel)))
  obtain ⟨vm₁, cX, kX, hfX, hkX, -, -, X₁, st1⟩ := Y.newCold hexec (own := own) (C := nseeN) (index := ik) (n := 6) hown' hk' hins hini'
    (g := F0 m₀ pc ls rest) rfl (by rw [hb]; exact d0) (Nat.le_refl _) (Nat.le_refl _)
  generalize hT1 : (T.setVm vm₁).pushCell { cls := cX, slots := kX.instanceTypes.map defaultValue, vm := .none } = T1 at X₁ st1
  have hcat : (Value.ref T.heap.size).category = 1 := rfl
  have hcellA : T1.heap[T.heap.size]? = some (freshCell cX kX) := by rw [← hT1]; exact State.heap_pushCell_size _ _
  have d3' : decode c.code (pc + 3) = .ok (.dup, 1) := by rw [hb]; exact d3
  have d4' : decode c.code (pc + 4) = .ok (.ldc is, 2) := by rw [hb]; exact d4
  have hstr' : vk_R own is text sa s' := vk_R.warm hW0 hstr
  obtain ⟨U, hsteps, hrun, hend, hW, hsame, ce, hce, hcv, hcc⟩ := nsee_ctor X₁ hexec htr (own := own) (ic := ic) hown' h (fun x hx => nomatch hx) hfX hkX hcellA (by rw [hhp, hT]; exact Nat.le_refl _) (msg := .ref sa) rfl
    (g := { method := m₀, pc := pc + 4 + 2, locals := ls, stack := .ref sa :: .ref T.heap.size :: .ref T.heap.size :: rest, locked := none }) rfl hsize rfl rfl (rest := rest) rfl
    (by rw [hb]; exact d6) (by rw [hb]; exact d9) hout hRf (by simp only [List.map_cons, List.sum_cons, hcat]; show 2 * 0 + _ + 81 ≤ _; omega) hlocks
  obtain ⟨f1, f2⟩ := vx_frame hsame
  rw [hhp] at f1 f2
  have hWs : s.WarmedH U.vm := State.WarmedH.trans hW0 hW
  have hcl : s.vm.findClass nseeN = some ce.cls := by rw [← hvm]; exact hcc
  have hall : s.sameButNew ({ U with vm := s.vm } : State) locs mc ms := by
    subst hA
    obtain ⟨e1, e2⟩ := hsame
    rw [State.setFrames_setFrames] at e1
    have h2 : (T.setVm s.vm).sameButNew ({ U with vm := s.vm } : State) [] (0 + 1) (0 + 6) := ⟨e1, e2⟩
    have h3 := X.same.trans h2
    rw [List.append_nil] at h3
    exact h3.mono hc hs
  refine ⟨U, ?_, .threw T.heap.size, hrun, hend, Or.inr ⟨T.heap.size, rfl, nseeN, ce, locs, hx U hWs.alike f1 (fun q hq => f2 q hq (fun z hz => nomatch hz)), hce, hcv, hcl, hWs, hall, hf⟩⟩
  refine st1 _ ?_
  show Steps p.tables e below (T1.setTop { method := m₀, pc := pc + 3, locals := ls, stack := .ref T.heap.size :: rest, locked := none }) _
  jvm_step X₁.here [X₁.here.top, hexec, d3', Value.category]
  exact X₁.ldcString hexec (own := own) (text := text) (index := is) (a := sa) hown' hstr'.1 hstr'.2
    (g := { method := m₀, pc := pc + 4, locals := ls, stack := .ref T.heap.size :: .ref T.heap.size :: rest, locked := none }) rfl d4' _ hsteps
theorem nsee_throwW {cc : ByteArray} {pc : Nat} {H : Heap} {ls : Array Slot} {rest : List Value} {XC : String → State → State → Prop} {Qc : Array Value → State → Outcome → State → Prop} {free : Addr → Prop} (hexec : p.tables.exec = Jvm.exec) (hb : c.code = cc) (hl : l.stackTraces = false) {own text : String} {ik is ic mc ms sa : Nat} {A : Nat → Prop}
    (hown : s.vm.findClass own = some m₀.cls)
    (hk : (Cond.classLink own ik nseeN).before args s = true) (hini : (Cond.initialized nseeN).before args s = true) (hstr : vk_R own is text sa s) (hat : ∀ w ∈ (nseeW own ic).filter vx_no, w.before args s = true)
    (hgood : ∀ w ∈ Cond.classLink own ik nseeN :: Cond.initialized nseeN :: (nseeW own ic).filter vx_no, vx_ot w = true)
    (hU : vx_Zq Bundle.tN "UNASSIGNED_STACK" Bundle.steD A s s.heap) (hN : vx_Zq Bundle.tN "SUPPRESSED_SENTINEL" Bundle.listD A s s.heap) (hS : va_S A s.heap H locs) (hsize : ls.size = c.maxLocals)
    (d0 : decode cc pc = .ok (.new ik, 3)) (d3 : decode cc (pc + 3) = .ok (.dup, 1)) (d4 : decode cc (pc + 4) = .ok (.ldc_w is, 3)) (d6 : decode cc (pc + 4 + 3) = .ok (.invokespecial ic, 3)) (d9 : decode cc (pc + 4 + 3 + 3) = .ok (.athrow, 1))
    (hout : ∀ x ∈ c.exceptionTable.toList, covers x (pc + 4 + 3 + 3) = false)
    (hRf : 5 < R.frames) (hRl : (rest.map fun v => v.category).sum + 82 ≤ R.locals) (hRc : cells + 1 ≤ R.cells) (hRs : slots + 6 ≤ R.slots) (hlocks : meth.locks = false)
    (hx : ∀ t : State, s.vm.Alike t.vm → H.size ≤ t.heap.size → (∀ q : Nat, q < H.size → t.heap[q]? = H[q]?) → XC nseeN s t)
    (hf : ∀ z ∈ locs, free z.base) (hc : cells + 1 ≤ mc) (hs : slots + 6 ≤ ms) :
    W p l e R s m₀ args below meth c H locs cells slots (vx_MQ below Qc XC args s mc ms free) (F0 m₀ pc ls rest) := by
  intro T hT X
  have htr : e.platform.stackTraces = false := (show e.platform.stackTraces = l.stackTraces by rw [X.admits.platform]).trans hl
  have Y := vx_rebase X (R' := { frames := R.frames, locals := R.locals, cells := 1, slots := 6 }) (Nat.le_refl _) (Nat.le_refl _) hRc hRs
  obtain ⟨s', hA⟩ : ∃ z, z = (T.setVm s.vm).setFrames (.invoking m₀ args :: below) := ⟨_, rfl⟩
  rw [← hA] at Y
  have hvm : s'.vm = s.vm := by rw [hA]; rfl
  have hhp : s'.heap = H := by rw [hA]; exact hT
  have hW0 : s.WarmedH s'.vm := by rw [hvm]; exact State.WarmedH.refl s
  have hat' : ∀ w ∈ (nseeW own ic).filter vx_no, w.before args s' = true := fun w hw => vx_ot_at hW0 hvm.symm (hgood w (List.mem_cons_of_mem _ (List.mem_cons_of_mem _ hw))) (hat w hw)
  have hk' : (Cond.classLink own ik nseeN).before args s' = true := vx_ot_at hW0 hvm.symm (hgood _ List.mem_cons_self) hk
  have hini' : (Cond.initialized nseeN).before args s' = true := vx_ot_at hW0 hvm.symm (hgood _ (List.mem_cons_of_mem _ List.mem_cons_self)) hini
  have hU' : vx_Zq Bundle.tN "UNASSIGNED_STACK" Bundle.steD A s' s'.heap := by rw [hhp]; exact vx_Zq.moved hW0.alike (hU.kept hS.2.1)
  have hN' : vx_Zq Bundle.tN "SUPPRESSED_SENTINEL" Bundle.listD A s' s'.heap := by rw [hhp]; exact vx_Zq.moved hW0.alike (hN.kept hS.2.1)
  have h : ∀ w ∈ nseeW own ic, w.before args s' = true := vx_own hat' (vx_isRefq hU'.1) (vx_isRefq hN'.1) hU'.2.word hN'.2.word
  have hown' : s'.vm.findClass own = some m₀.cls := by rw [hvm]; exact hown
  have hins : (Cond.instantiable nseeN 6).before args s' = true := h _ (nseeTail_mem (nseeTail_of (by simp [Bundle.ownAtoms]) (by decide +kernel)))
  obtain ⟨vm₁, cX, kX, hfX, hkX, -, -, X₁, st1⟩ := Y.newCold hexec (own := own) (C := nseeN) (index := ik) (n := 6) hown' hk' hins hini'
    (g := F0 m₀ pc ls rest) rfl (by rw [hb]; exact d0) (Nat.le_refl _) (Nat.le_refl _)
  generalize hT1 : (T.setVm vm₁).pushCell { cls := cX, slots := kX.instanceTypes.map defaultValue, vm := .none } = T1 at X₁ st1
  have hcat : (Value.ref T.heap.size).category = 1 := rfl
  have hcellA : T1.heap[T.heap.size]? = some (freshCell cX kX) := by rw [← hT1]; exact State.heap_pushCell_size _ _
  have d3' : decode c.code (pc + 3) = .ok (.dup, 1) := by rw [hb]; exact d3
  have d4' : decode c.code (pc + 4) = .ok (.ldc_w is, 3) := by rw [hb]; exact d4
  have hstr' : vk_R own is text sa s' := vk_R.warm hW0 hstr
  obtain ⟨U, hsteps, hrun, hend, hW, hsame, ce, hce, hcv, hcc⟩ := nsee_ctor X₁ hexec htr (own := own) (ic := ic) hown' h (fun x hx => nomatch hx) hfX hkX hcellA (by rw [hhp, hT]; exact Nat.le_refl _) (msg := .ref sa) rfl
    (g := { method := m₀, pc := pc + 4 + 3, locals := ls, stack := .ref sa :: .ref T.heap.size :: .ref T.heap.size :: rest, locked := none }) rfl hsize rfl rfl (rest := rest) rfl
    (by rw [hb]; exact d6) (by rw [hb]; exact d9) hout hRf (by simp only [List.map_cons, List.sum_cons, hcat]; show 2 * 0 + _ + 81 ≤ _; omega) hlocks
  obtain ⟨f1, f2⟩ := vx_frame hsame
  rw [hhp] at f1 f2
  have hWs : s.WarmedH U.vm := State.WarmedH.trans hW0 hW
  have hcl : s.vm.findClass nseeN = some ce.cls := by rw [← hvm]; exact hcc
  have hall : s.sameButNew ({ U with vm := s.vm } : State) locs mc ms := by
    subst hA
    obtain ⟨e1, e2⟩ := hsame
    rw [State.setFrames_setFrames] at e1
    have h2 : (T.setVm s.vm).sameButNew ({ U with vm := s.vm } : State) [] (0 + 1) (0 + 6) := ⟨e1, e2⟩
    have h3 := X.same.trans h2
    rw [List.append_nil] at h3
    exact h3.mono hc hs
  refine ⟨U, ?_, .threw T.heap.size, hrun, hend, Or.inr ⟨T.heap.size, rfl, nseeN, ce, locs, hx U hWs.alike f1 (fun q hq => f2 q hq (fun z hz => nomatch hz)), hce, hcv, hcl, hWs, hall, hf⟩⟩
  refine st1 _ ?_
  show Steps p.tables e below (T1.setTop { method := m₀, pc := pc + 3, locals := ls, stack := .ref T.heap.size :: rest, locked := none }) _
  jvm_step X₁.here [X₁.here.top, hexec, d3', Value.category]
  exact X₁.ldcStringW hexec (own := own) (text := text) (index := is) (a := sa) hown' hstr'.1 hstr'.2
    (g := { method := m₀, pc := pc + 4, locals := ls, stack := .ref T.heap.size :: .ref T.heap.size :: rest, locked := none }) rfl d4' _ hsteps
end NSEE
section KD3
variable {K : kM} {R : Room} {F : kFn} {pc pc' : Nat} {ls st : List Value} {h : kH} {N cs ss mc ms : Nat}
def kThN (own : String) (ik ic : Nat) : Prop :=
  Cond.classLink own ik nseeN ∈ gT ∧ Cond.initialized nseeN ∈ gT ∧ (∀ w ∈ (nseeW own ic).filter vx_no, w ∈ gT ∨ w ∈ gT2) ∧ (∀ w ∈ Cond.classLink own ik nseeN :: Cond.initialized nseeN :: (nseeW own ic).filter vx_no, vx_ot w = true)
theorem thN_X11 : kThN RX11 185 189 := ⟨gm 934 (by decide +kernel) (by decide +kernel), gm 112 (by decide +kernel) (by decide +kernel), by decide +kernel, by decide +kernel⟩
theorem k_throwN {Q : kQ} {ik is ic : Nat} {text : String} (th : kThN K.1.cls ik ic) (tx : (K.1.cls, is, text) ∈ kMs) (hh : K.2.2.2.2.1 = []) (d0 : decode K.2.1 pc = .ok (.new ik, 3)) (d3 : decode K.2.1 (pc + 3) = .ok (.dup, 1)) (d4 : decode K.2.1 (pc + 4) = .ok (.ldc is, 2)) (d6 : decode K.2.1 (pc + 4 + 2) = .ok (.invokespecial ic, 3)) (d9 : decode K.2.1 (pc + 4 + 2 + 3) = .ok (.athrow, 1))
    (hRf : 5 < R.frames) (hRl : (st.map fun v => v.category).sum + 82 ≤ R.locals) (hRc : cs + 1 ≤ R.cells ∧ ss + 6 ≤ R.slots) (hc : cs + 1 ≤ mc) (hs : ss + 6 ≤ ms) (hQ : Q (.inr nseeN) h N) : kEv K R (kFm false mc ms Q) false pc ls st h N cs ss := by
  intro p l e s m args below meth c g A C H locs lsA hW hS hl hz
  obtain ⟨hx, hb, hml, hr, hts, hown, hlk, hst, hnm, htb, hK, hSt, hA⟩ := id C
  obtain ⟨t3, t4, t5, t6⟩ := th
  obtain ⟨sa, hsa⟩ := hSt.2.2.1 _ tx
  refine nsee_throw hx hb hst hown (hts _ t3) (hts _ t4) hsa (fun w hw => ?_) t6 hSt.2.1.1 hSt.2.1.2 hS (by rw [hl.1, hml]) d0 d3 d4 d6 d9 ?_ hRf (by rw [kV_cats]; exact hRl) hRc.1 hRc.2 hlk (fun t hal hz1 ho => ?_) hS.2.2 hc hs
  · rcases t5 w hw with hw2 | hw2
    · exact hts _ hw2
    · have h3 := hSt.1 w hw2
      have hg : gN w = true := (List.mem_filter.mp hw2).2
      cases w <;> first
        | exact va_Nw.use rfl h3
        | (rename_i t9; cases t9 <;> first | exact va_AO.use h3 | cases hg)
        | cases hg
  · rw [htb, hh]
    intro x hx9
    cases hx9
  · refine ⟨h, N, hQ, ⟨hW.1.kept (fun k x hx9 => ho x.1 ((hW.1 k x hx9).lt)), hW.2⟩, (fun q => by cases q), Nat.le_trans hS.1 hz1, fun q h1 h2 => ?_⟩
    rw [ho q (Nat.lt_of_lt_of_le h1 hS.1)]
    exact hS.2.1 q h1 h2
theorem k_throwNW {Q : kQ} {ik is ic : Nat} {text : String} (th : kThN K.1.cls ik ic) (tx : (K.1.cls, is, text) ∈ kMs) (hh : K.2.2.2.2.1 = []) (d0 : decode K.2.1 pc = .ok (.new ik, 3)) (d3 : decode K.2.1 (pc + 3) = .ok (.dup, 1)) (d4 : decode K.2.1 (pc + 4) = .ok (.ldc_w is, 3)) (d6 : decode K.2.1 (pc + 4 + 3) = .ok (.invokespecial ic, 3)) (d9 : decode K.2.1 (pc + 4 + 3 + 3) = .ok (.athrow, 1))
    (hRf : 5 < R.frames) (hRl : (st.map fun v => v.category).sum + 82 ≤ R.locals) (hRc : cs + 1 ≤ R.cells ∧ ss + 6 ≤ R.slots) (hc : cs + 1 ≤ mc) (hs : ss + 6 ≤ ms) (hQ : Q (.inr nseeN) h N) : kEv K R (kFm false mc ms Q) false pc ls st h N cs ss := by
  intro p l e s m args below meth c g A C H locs lsA hW hS hl hz
  obtain ⟨hx, hb, hml, hr, hts, hown, hlk, hst, hnm, htb, hK, hSt, hA⟩ := id C
  obtain ⟨t3, t4, t5, t6⟩ := th
  obtain ⟨sa, hsa⟩ := hSt.2.2.1 _ tx
  refine nsee_throwW hx hb hst hown (hts _ t3) (hts _ t4) hsa (fun w hw => ?_) t6 hSt.2.1.1 hSt.2.1.2 hS (by rw [hl.1, hml]) d0 d3 d4 d6 d9 ?_ hRf (by rw [kV_cats]; exact hRl) hRc.1 hRc.2 hlk (fun t hal hz1 ho => ?_) hS.2.2 hc hs
  · rcases t5 w hw with hw2 | hw2
    · exact hts _ hw2
    · have h3 := hSt.1 w hw2
      have hg : gN w = true := (List.mem_filter.mp hw2).2
      cases w <;> first
        | exact va_Nw.use rfl h3
        | (rename_i t9; cases t9 <;> first | exact va_AO.use h3 | cases hg)
        | cases hg
  · rw [htb, hh]
    intro x hx9
    cases hx9
  · refine ⟨h, N, hQ, ⟨hW.1.kept (fun k x hx9 => ho x.1 ((hW.1 k x hx9).lt)), hW.2⟩, (fun q => by cases q), Nat.le_trans hS.1 hz1, fun q h1 h2 => ?_⟩
    rw [ho q (Nat.lt_of_lt_of_le h1 hS.1)]
    exact hS.2.1 q h1 h2
end KD3

