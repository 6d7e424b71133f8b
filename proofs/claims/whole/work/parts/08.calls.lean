/-! CONTRACTS AND CALLS. What comes out: a value or none, or an exception's class. -/
abbrev kOut : Type := Option Value ⊕ String
abbrev kQ : Type := kOut → kH → Nat → Prop
def kQc (g : kG) (mu : Bool) (Q : kQ) (A : Nat → Prop) : Array Value → State → Outcome → State → Prop := fun _ st o t =>
  ∃ (v : Option Value) (h' : kH) (N' : Nat), o = .returned (v.map (kV g)) ∧ Q (.inl v) h' N' ∧ kWd g A h' N' t.heap ∧ (mu = true → t.heap.size = g.2.2 N') ∧ va_F A st t
def kXc (g : kG) (mu : Bool) (Q : kQ) (A : Nat → Prop) : String → State → State → Prop := fun E st t =>
  ∃ (h' : kH) (N' : Nat), Q (.inr E) h' N' ∧ kWd g A h' N' t.heap ∧ (mu = true → False) ∧ va_F A st t
def kPc (g : kG) (mu : Bool) (av : List Value) (h : kH) (N sz : Nat) : Array Value → State → Prop :=
  va_Pc (av.map (kV g)) (fun U => U.heap.size = sz ∧ kWd g (fun _ => True) h N U.heap ∧ va_K g.1 vwCl (kTs g) U ∧ kSt g (va_A (kW g h N) sz) U U.heap ∧ (mu = true → sz = g.2.2 N))
/-- the contract: K called with av over the heap h of N things ends, and Q holds of what comes out -/
def kMet (K : kM) (mu : Bool) (mc ms : Nat) (av : List Value) (h : kH) (N : Nat) (Q : kQ) : Prop :=
  ∀ (l : Launch) (g : kG) (sz : Nat), l.stackTraces = false → vx_Met l K.1 (kWs K) (kRm K mc ms) (kPc g mu av h N sz) (kQc g mu Q (va_A (kW g h N) sz)) (kXc g mu Q (va_A (kW g h N) sz)) mc ms (va_A (kW g h N) sz)
def kFm (mu : Bool) (mc ms : Nat) (Q : kQ) : kFn := fun _ _ _ s _ args below _ _ g A => vx_MQ below (kQc g mu Q A) (kXc g mu Q A) args s mc ms A
theorem kMet.mono {K : kM} {mu : Bool} {mc ms : Nat} {av : List Value} {h : kH} {N : Nat} {Q Q' : kQ} (m : kMet K mu mc ms av h N Q) (hq : ∀ o h' N', Q o h' N' → Q' o h' N') : kMet K mu mc ms av h N Q' := by
  intro l g sz hl p e ha hc hk s m' args below hf happ hpre hK
  obtain ⟨k, o, h1, h2, h3, h4⟩ := m l g sz hl p e ha hc hk s m' args below hf happ hpre hK
  refine ⟨k, o, h1, h2, h3, ?_⟩
  rcases h4 with ⟨⟨v, h', N', a1, a2, a3⟩, a4⟩ | ⟨q, a1, E, ce, L, ⟨h', N', b1, b2⟩, a2⟩
  · exact Or.inl ⟨⟨v, h', N', a1, hq _ _ _ a2, a3⟩, a4⟩
  · exact Or.inr ⟨q, a1, E, ce, L, ⟨h', N', hq _ _ _ b1, b2⟩, a2⟩
/-- into a method without a table -/
theorem kMet.in {K : kM} {mu : Bool} {mc ms : Nat} {av : List Value} {h : kH} {N : Nat} {Q : kQ} (hy : plainName K.1.cls = true) (hh : K.2.2.2.2.1 = []) (hlen : Nat.ble (kAr av).length K.2.2.1 = true) (ls : List Value) (hls : kEnt K.2.2.1 av = ls)
    (k : kEv K (kRm K mc ms) (kFm mu mc ms Q) mu 0 ls [] h N 0 0) : kMet K mu mc ms av h N Q := by
  subst hls
  intro l g sz hl
  have hw : kWs K = Cond.code K.1 K.2.1 K.2.2.1 K.2.2.2.1 :: gT := by unfold kWs kCode; rw [hh]
  refine vx_ofW (cc := K.2.1) (maxL := K.2.2.1) (ret := K.2.2.2.1) hy hw ?_
  intro p e s m args below meth c s₁ B hml hnt hv
  obtain ⟨rfl, hsz, hW, hK, hSt, hmu⟩ := hv
  subst hsz
  have hts0 := atoms_spec (ws := kWs K) B.pre
  have hts : ∀ w ∈ gT, w.before ((av.map (kV g)).toArray) s = true := fun w hw => hts0 w (List.mem_cons_of_mem _ hw)
  have C : kCx K p l s m ((av.map (kV g)).toArray) meth c g (va_A (kW g h N) s.heap.size) := by
    refine ⟨B.exec, B.bytes, hml, B.returns, hts, findClass_of_methodNamed B.named, B.notSynchronized, hl, (name_of_methodNamed B.named B.method).1, ?_, hK, hSt, fun q hq => Or.inr hq⟩
    rw [hh]
    cases hc : c.exceptionTable.toList with
    | nil => rfl
    | cons x xs => exact (hnt x (by rw [hc]; exact List.mem_cons_self)).elim
  have hlen' : (kAr av).length ≤ K.2.2.1 := Nat.le_of_ble_eq_true hlen
  have hl2 := kEnt_has (g := g) hlen'
  rw [lg_entry_eq]
  exact k p l e s m _ below meth c g _ C s.heap [] _ ⟨hW.1, hW.2.self⟩ va_S.rf hl2 hmu
/-- into a method with a table -/
theorem kMet.inT {K : kM} {mu : Bool} {mc ms : Nat} {av : List Value} {h : kH} {N : Nat} {Q : kQ} (hy : plainName K.1.cls = true) (x : Nat × Nat × Nat × Nat) (xs : List (Nat × Nat × Nat × Nat)) (hh : K.2.2.2.2.1 = x :: xs) (hlen : Nat.ble (kAr av).length K.2.2.1 = true) (ls : List Value) (hls : kEnt K.2.2.1 av = ls)
    (k : kEv K (kRm K mc ms) (kFm mu mc ms Q) mu 0 ls [] h N 0 0) : kMet K mu mc ms av h N Q := by
  subst hls
  intro l g sz hl
  have hw : kWs K = Cond.codeWith K.1 K.2.1 K.2.2.1 K.2.2.2.1 (x :: xs) :: gT := by unfold kWs kCode; rw [hh]
  refine vx_ofWH (cc := K.2.1) (maxL := K.2.2.1) (ret := K.2.2.2.1) (hh := x :: xs) hy hw ?_
  intro p e s m args below meth c s₁ B hml hv
  obtain ⟨rfl, hsz, hW, hK, hSt, hmu⟩ := hv
  subst hsz
  have hts0 := atoms_spec (ws := kWs K) B.pre
  have hts : ∀ w ∈ gT, w.before ((av.map (kV g)).toArray) s = true := fun w hw => hts0 w (List.mem_cons_of_mem _ hw)
  have C : kCx K p l s m ((av.map (kV g)).toArray) meth c g (va_A (kW g h N) s.heap.size) := by
    refine ⟨B.exec, B.bytes, hml, B.returns, hts, findClass_of_methodNamed B.named, B.notSynchronized, hl, (name_of_methodNamed B.named B.method).1, ?_, hK, hSt, fun q hq => Or.inr hq⟩
    rw [hh]
    exact vx_table (x := K.1) B (hts0 _ (by rw [hw]; exact List.mem_cons_self))
  have hlen' : (kAr av).length ≤ K.2.2.1 := Nat.le_of_ble_eq_true hlen
  have hl2 := kEnt_has (g := g) hlen'
  rw [lg_entry_eq]
  exact k p l e s m _ below meth c g _ C s.heap [] _ ⟨hW.1, hW.2.self⟩ va_S.rf hl2 hmu
section KC
variable {K J : kM} {R : Room} {F : kFn} {mu : Bool} {pc pc' : Nat} {ls st : List Value} {h : kH} {N cs ss mc ms : Nat}
/-! ends -/
theorem k_end {Q : kQ} {v : Option Value} {p : Program} {l : Launch} {e : Env} {s : State} {m : MethodId} {args : Array Value} {below : List Frame} {meth : Method} {c : Code} {g : kG} {A : Nat → Prop} {H : Heap} {locs : List Loc} {gf : JFrame}
    (hc : cs ≤ mc) (hs : ss ≤ ms) (hS : va_S A s.heap H locs) (hW : kWd g A h N H) (hz : mu = true → H.size = g.2.2 N) (hQ : Q (.inl v) h N)
    (k : ∀ Qc : Array Value → State → Outcome → State → Prop, (∀ t : State, t.heap = H → s.WarmedH t.vm → Qc args s (.returned (v.map (kV g))) t) → (∀ q ∈ locs, A q.base) → W p l e R s m args below meth c H locs mc ms (MQ below Qc args s mc ms A) gf) :
    W p l e R s m args below meth c H locs cs ss (kFm mu mc ms Q p l e s m args below meth c g A) gf := by
  refine W.widen hc hs (vx_ret (k _ (fun t ht _ => ⟨v, h, N, rfl, hQ, by rw [ht]; exact hW, fun q => by rw [ht]; exact hz q, hS.F ht⟩) hS.2.2))
theorem k_iret {Q : kQ} {v : Int32} {ty : FieldType} (hr : K.2.2.2.1 = some ty) (hn : narrow ty (.int v) = .int v) (hd : decode K.2.1 pc = .ok (.ireturn, 1)) (hc : cs ≤ mc) (hs : ss ≤ ms) (hQ : Q (.inl (some (.int v))) h N) : kEv K R (kFm mu mc ms Q) mu pc ls [.int v] h N cs ss := by
  intro p l e s m args below meth c g A C H locs lsA hW hS hl hz
  exact k_end hc hs hS hW hz hQ (fun Qc hq hf => W.zret C.1 C.2.1 (C.2.2.2.1.trans hr) hn hq hf hd C.2.2.2.2.2.2.1)
theorem k_lret {Q : kQ} {v : Int64} (hr : K.2.2.2.1 = some .long) (hd : decode K.2.1 pc = .ok (.lreturn, 1)) (hc : cs ≤ mc) (hs : ss ≤ ms) (hQ : Q (.inl (some (.long v))) h N) : kEv K R (kFm mu mc ms Q) mu pc ls [.long v] h N cs ss := by
  intro p l e s m args below meth c g A C H locs lsA hW hS hl hz
  exact k_end hc hs hS hW hz hQ (fun Qc hq hf => W.lret C.1 C.2.1 (C.2.2.2.1.trans hr) hq hf hd C.2.2.2.2.2.2.1)
theorem k_fret {Q : kQ} {v : UInt32} (hr : K.2.2.2.1 = some .float) (hd : decode K.2.1 pc = .ok (.freturn, 1)) (hc : cs ≤ mc) (hs : ss ≤ ms) (hQ : Q (.inl (some (.float v))) h N) : kEv K R (kFm mu mc ms Q) mu pc ls [.float v] h N cs ss := by
  intro p l e s m args below meth c g A C H locs lsA hW hS hl hz
  exact k_end hc hs hS hW hz hQ (fun Qc hq hf => W.fret C.1 C.2.1 (C.2.2.2.1.trans hr) hq hf hd C.2.2.2.2.2.2.1)
theorem k_dret {Q : kQ} {v : UInt64} (hr : K.2.2.2.1 = some .double) (hd : decode K.2.1 pc = .ok (.dreturn, 1)) (hc : cs ≤ mc) (hs : ss ≤ ms) (hQ : Q (.inl (some (.double v))) h N) : kEv K R (kFm mu mc ms Q) mu pc ls [.double v] h N cs ss := by
  intro p l e s m args below meth c g A C H locs lsA hW hS hl hz
  exact k_end hc hs hS hW hz hQ (fun Qc hq hf => W.dret C.1 C.2.1 (C.2.2.2.1.trans hr) hq hf hd C.2.2.2.2.2.2.1)
theorem k_aret {Q : kQ} {a : Nat} {ty : FieldType} (hr : K.2.2.2.1 = some ty) (hty : (∃ n, ty = .object n) ∨ ∃ t, ty = .array t) (hd : decode K.2.1 pc = .ok (.areturn, 1)) (hc : cs ≤ mc) (hs : ss ≤ ms) (hQ : Q (.inl (some (.ref a))) h N) : kEv K R (kFm mu mc ms Q) mu pc ls [.ref a] h N cs ss := by
  intro p l e s m args below meth c g A C H locs lsA hW hS hl hz
  exact k_end hc hs hS hW hz hQ (fun Qc hq hf => W.aret C.1 C.2.1 (C.2.2.2.1.trans hr) hty (Or.inr ⟨_, rfl⟩) hq hf hd C.2.2.2.2.2.2.1)
theorem k_aretN {Q : kQ} {ty : FieldType} (hr : K.2.2.2.1 = some ty) (hty : (∃ n, ty = .object n) ∨ ∃ t, ty = .array t) (hd : decode K.2.1 pc = .ok (.areturn, 1)) (hc : cs ≤ mc) (hs : ss ≤ ms) (hQ : Q (.inl (some .null)) h N) : kEv K R (kFm mu mc ms Q) mu pc ls [.null] h N cs ss := by
  intro p l e s m args below meth c g A C H locs lsA hW hS hl hz
  exact k_end hc hs hS hW hz hQ (fun Qc hq hf => W.aret C.1 C.2.1 (C.2.2.2.1.trans hr) hty (Or.inl rfl) hq hf hd C.2.2.2.2.2.2.1)
theorem k_vret {Q : kQ} (hr : K.2.2.2.1 = none) (hd : decode K.2.1 pc = .ok (.return_, 1)) (hc : cs ≤ mc) (hs : ss ≤ ms) (hQ : Q (.inl none) h N) : kEv K R (kFm mu mc ms Q) mu pc ls [] h N cs ss := by
  intro p l e s m args below meth c g A C H locs lsA hW hS hl hz
  exact k_end hc hs hS hW hz hQ (fun Qc hq hf => W.vret C.1 C.2.1 (C.2.2.2.1.trans hr) hq hf hd C.2.2.2.2.2.2.1)
/-! calls: what the tables say of one -/
def kRoom (R : Room) (J : kM) : Prop := J.2.2.2.2.2.1 + 1 ≤ R.frames ∧ 8 + (J.2.2.1 + 11) + J.2.2.2.2.2.2 ≤ R.locals
def kNamed (J : kM) (n : Nat) : Prop := Cond.initialized J.1.cls ∈ gT ∧ (J.1.cls ≠ "java/lang/invoke/MethodHandle" ∧ J.1.cls ≠ "java/lang/invoke/VarHandle") ∧ (parseMethodDescriptor J.1.desc).map (fun d => d.parameters.length) = some n ∧ kCode J ∈ gT
def kCv (own : String) (idx : Nat) (J : kM) (n : Nat) : Prop := kNamed J n ∧ J.2.2.2.2.1 = [] ∧ Cond.methodLink own idx J.1 ∈ gT ∧ Cond.instanceMethod J.1 ∈ gT ∧ Cond.selects J.1.cls J.1 J.1 ∈ gT
def kCs (own : String) (idx : Nat) (J : kM) (n : Nat) : Prop := kNamed J n ∧ J.2.2.2.2.1 = [] ∧ Cond.methodLink own idx J.1 ∈ gT ∧ Cond.static J.1 ∈ gT
def kCi (own : String) (idx : Nat) (J : kM) (n : Nat) : Prop := kNamed J n ∧ J.2.2.2.2.1 = [] ∧ J.2.2.2.1 = none ∧ J.1.name = "<init>" ∧ Cond.methodLink own idx J.1 ∈ gT ∧ Cond.instanceMethod J.1 ∈ gT
def kCsN (own : String) (idx : Nat) (J : kM) (host : String) (n : Nat) : Prop := kNamed J n ∧ J.2.2.2.2.1 = [] ∧ Cond.methodLinkNest own idx J.1 host ∈ gT2 ∧ Cond.static J.1 ∈ gT
def kCiN (own : String) (idx : Nat) (J : kM) (host : String) (n : Nat) : Prop := kNamed J n ∧ J.2.2.2.2.1 = [] ∧ J.2.2.2.1 = none ∧ J.1.name = "<init>" ∧ Cond.methodLinkNest own idx J.1 host ∈ gT2 ∧ Cond.instanceMethod J.1 ∈ gT
/-- a static call of a method with a table -/
def kCsT (own : String) (idx : Nat) (J : kM) (n : Nat) : Prop := kNamed J n ∧ Cond.methodLink own idx J.1 ∈ gT ∧ Cond.static J.1 ∈ gT
theorem gT_good {w : Cond} (h : w ∈ gT) : (w.onTables && w.keeps) = true ∨ ∃ ty, w = .arrayClass ty := good_of_word (List.mem_filter.mp h).2
theorem kWs_warm {s : State} {args : Array Value} (hts : ∀ w ∈ gT, w.before args s = true) {n : Nat} (hn : kNamed J n) : ∀ w ∈ kWs J, ∀ (a' : Array Value) (U : State), s.WarmedH U.vm → w.before a' U = true := by
  intro w hw a' U hW
  rcases List.mem_cons.mp hw with rfl | hw
  · exact word_at hW (gT_good hn.2.2.2) (hts _ hn.2.2.2)
  · exact word_at hW (gT_good hw) (hts _ hw)
theorem kB_of {R : Room} {s : State} {args : Array Value} {own : String} {idx n : Nat} (hts : ∀ w ∈ gT, w.before args s = true) (hn : kNamed J n) (hh : J.2.2.2.2.1 = []) (hl : Cond.methodLink own idx J.1 ∈ gT) (hR : kRoom R J) :
    CallB R s args own idx J.1 J.2.1 J.2.2.1 J.2.2.2.1 (kWs J) (kRm J mc ms) mc ms n := by
  have hc : kCode J = Cond.code J.1 J.2.1 J.2.2.1 J.2.2.2.1 := by unfold kCode; rw [hh]
  refine ⟨rfl, rfl, hR.1, hR.2, kWs_warm hts hn, by rw [← hc]; exact List.mem_cons_self, by rw [← hc]; exact hts _ hn.2.2.2, hts _ hn.1, hn.2.1, fun sig h => ?_, hts _ hl⟩
  have h2 := hn.2.2.1
  rw [h] at h2
  exact (Option.some.inj h2).symm
theorem kN_of {R : Room} {s : State} {args : Array Value} {own host : String} {idx n : Nat} (hts : ∀ w ∈ gT, w.before args s = true) (hN : ∀ w ∈ gT2, va_Nw w s) (hn : kNamed J n) (hh : J.2.2.2.2.1 = []) (hl : Cond.methodLinkNest own idx J.1 host ∈ gT2) (hR : kRoom R J) :
    va_CN R s args own idx J.1 host J.2.1 J.2.2.1 J.2.2.2.1 (kWs J) (kRm J mc ms) mc ms n := by
  have hc : kCode J = Cond.code J.1 J.2.1 J.2.2.1 J.2.2.2.1 := by unfold kCode; rw [hh]
  refine ⟨⟨rfl, rfl, hR.1, hR.2, kWs_warm hts hn, by rw [← hc]; exact List.mem_cons_self⟩, by rw [← hc]; exact hts _ hn.2.2.2, hts _ hn.1, hn.2.1, fun sig h => ?_, va_Nw.use rfl (hN _ hl)⟩
  have h2 := hn.2.2.1
  rw [h] at h2
  exact (Option.some.inj h2).symm
theorem kPc_blind {g : kG} {av : List Value} {sz : Nat} : FrameBlind (kPc g mu av h N sz) := by
  intro a U gf mk q
  obtain ⟨q0, q1, q2, q3, q4, q5⟩ := q
  exact ⟨q0, q1, q2, va_K.moved (u := U) (U := U.calling gf mk a) (Vm.Alike.refl U.vm) q3, kSt_to (U := U.calling gf mk a) (H1 := U.heap) q4 (State.WarmedH.refl U) (fun _ _ _ => rfl) (fun _ h => h), q5⟩
/-- what the caller hands over -/
theorem kPc_of {g : kG} {A : Nat → Prop} {s U : State} {H : Heap} {locs : List Loc} {av : List Value} (hK : va_K g.1 vwCl (kTs g) s) (hSt : kSt g A s s.heap) (hA : ∀ q : Nat, s.heap.size ≤ q → A q) (hW : kWd g A h N H) (hS : va_S A s.heap H locs) (hz : mu = true → H.size = g.2.2 N) (hU : U.heap = H) (hw : s.WarmedH U.vm) :
    kPc g mu av h N H.size ((av.map (kV g)).toArray) U := by
  refine ⟨rfl, by rw [hU], ⟨by rw [hU]; exact hW.1, hW.2.weaken (fun _ _ _ _ => trivial)⟩, va_K.moved hw.alike hK, ?_, hz⟩
  rw [hU]
  refine kSt_to hSt hw (fun a h1 h2 => hS.2.1 a h1 h2) (fun q hq => ?_)
  rcases hq with ⟨k, e, hq⟩ | hq
  · exact hW.2.2 k (q, e) hq
  · exact hA q (Nat.le_trans hS.1 hq)
/-- behind a call -/
theorem k_back {Q : kQ} {p : Program} {l : Launch} {e : Env} {s : State} {m : MethodId} {args : Array Value} {below : List Frame} {meth : Method} {c : Code} {g : kG} {A : Nat → Prop} {H : Heap} {locs : List Loc} {lsA : Array Slot} {st0 rest : List Value} {a : Array Value} {Qf : State → Prop}
    (hr : vx_Run p l e R s m args below meth c H locs cs ss mc ms (F0 m pc lsA st0) rest (kQc g mu Q (va_A (kW g h N) H.size) a) (kXc g mu Q (va_A (kW g h N) H.size)) (va_A (kW g h N) H.size))
    (hA : ∀ q : Nat, s.heap.size ≤ q → A q) (hW : kWd g A h N H) (hS : va_S A s.heap H locs)
    (kk : ∀ (v : Option Value) (h' : kH) (N' : Nat) (H1 : Heap) (locs1 : List Loc), Q (.inl v) h' N' → kWd g A h' N' H1 → va_S A s.heap H1 locs1 → (mu = true → H1.size = g.2.2 N') → W p l e R s m args below meth c H1 locs1 (cs + mc) (ss + ms) Qf (F0 m (pc + 3) lsA ((v.map (kV g)).toList ++ rest)))
    (kx : ∀ (E : String) (h' : kH) (N' : Nat) (H1 : Heap) (locs1 : List Loc) (q : Addr) (ce : Cell), Q (.inr E) h' N' → kWd g A h' N' H1 → va_S A s.heap H1 locs1 → (mu = true → False) → H1[q]? = some ce → ce.vm = .none → s.vm.findClass E = some ce.cls → vx_W p l e R s m args below meth c H1 locs1 (cs + mc) (ss + ms) Qf (F0 m pc lsA rest) q) :
    W p l e R s m args below meth c H locs cs ss Qf (F0 m pc lsA st0) := by
  have hin : ∀ q, va_A (kW g h N) H.size q → A q := by
    intro q hq
    rcases hq with ⟨k, e, hq⟩ | hq
    · exact hW.2.2 k (q, e) hq
    · exact hA q (Nat.le_trans hS.1 hq)
  have wd : ∀ {h' : kH} {N' : Nat} {H1 : Heap}, kWd g (va_A (kW g h N) H.size) h' N' H1 → kWd g A h' N' H1 := fun hw => ⟨hw.1, hw.2.weaken (fun _ q _ h => hin q.1 h)⟩
  intro T hT X
  rcases hr T hT X with ⟨v, st₀, t, T', L, h0, X', hL, e1, e2, ⟨v', h', N', b1, b2, b3, b4, b5⟩, stp⟩ | ⟨q, st₀, t, T', L, E, ce, h0, X', hL, e1, e2, ⟨h', N', b2, b3, b4, b5⟩, hce, hcv, hcl, stp⟩
  · cases b1
    obtain ⟨-, -, s1⟩ := vx_keep h0 e1 hS (fun q _ z => hin q z) hin hL b5
    obtain ⟨t2, a1, a2⟩ := kk v' h' N' T'.heap (locs ++ L) b2 (wd (by rw [e1]; exact b3)) s1 (by rw [e1]; exact b4) T' rfl X'
    exact ⟨t2, stp t2 a1, a2⟩
  · obtain ⟨-, -, s1⟩ := vx_keep h0 e1 hS (fun q _ z => hin q z) hin hL b5
    obtain ⟨t2, a1, a2⟩ := kx E h' N' T'.heap (locs ++ L) q ce b2 (wd (by rw [e1]; exact b3)) s1 b4 (by rw [e1]; exact hce) hcv hcl T' rfl X'
    exact ⟨t2, stp.trans a1, a2⟩
end KC
