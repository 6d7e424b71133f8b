/-! THE CLAIM OUT OF ONE WALK OF THE LAW'S BODY. Your part is whole_start (and what it stands on); all else here is the same for every law, but numbers. -/
def R_law : String := "BoomerangCourtLaw"
def lw_P (b : Addr) (xs : List Int32) (args : Array Value) (s : State) : Prop := args = #[.ref b] ∧ s.IntsAt b xs ∧ xs.length ≤ 2048 ∧ (Jvm.Cond.and given_1 narrow_1).before args s = true
/-- what a walk over the start with the record d0 says of its end, said of the start itself -/
theorem lw_closed {s t : State} {o : Outcome} {d0 : Drawn} {L : List Loc} {k n : Nat} (hd0 : s.drawn.sameBut d0 lw_cs) (hv : ∃ v, o = .returned v) (hW : (s.setDrawn d0).WarmedH t.vm) (hs : (s.setDrawn d0).sameButNew ({ t with vm := s.vm } : State) L k n) : State.butDraws s t lw_cs (fun t1 => Framed s o t1 L k n) := by
  have h2 : t.drawn = d0 := congrArg State.drawn hs.1
  refine ⟨⟨hv, hW, State.sameButNew.setDrawn hs s.drawn⟩, ?_, by decide⟩
  rw [h2]
  exact hd0
def lw_Q (_ : Array Value) (s : State) (o : Outcome) (t : State) : Prop := o = .returned (some (.int 1)) ∧ State.butDraws s t lw_cs (fun t1 => Framed s o t1 [] 603072 7182442)
def lw_Z (below : List Frame) (a : Array Value) (s : State) : State → Prop := fun t => ∃ o, t.status = .running ∧ Ended t below o ∧ lw_Q a s o t
/-- the law's own end, with 1 on the stack, nothing written that was there before, its room as the claim has it; d0: the record of draws at this point (at the entry s.drawn: begin with 'refine W.base ?_' and 'have hd0 := Drawn.sameBut.refl s.drawn lw_cs') -/
theorem lw_ret {p : Program} {l : Launch} {e : Env} {s : State} {m : MethodId} {below : List Frame} {meth : Method} {c : Code} {b : Nat} {d0 : Drawn} (hd0 : s.drawn.sameBut d0 lw_cs) (hx : p.tables.exec = Jvm.exec) (hb : c.code = code) (hr : meth.sig.returnType = ret) (hlocks : meth.locks = false) {pc : Nat} {H : Heap} {ls : Array Slot} (hdg : decode code pc = .ok (.ireturn, 1)) : W p l e room_1 (s.setDrawn d0) m #[Value.ref b] below meth c H [] 603072 7182442 (lw_Z below #[Value.ref b] s) (F0 m pc ls [.int 1]) := by
  intro T hT X
  obtain ⟨fs, hret, hrun, hended, hW, hframe⟩ := X.leave (v := some (.int 1)) (hlocks := hlocks) (fun h => by rw [hr] at h; cases h)
  have hmeth' : T.vm.method? m = some meth := X.method'
  refine ⟨T.setFrames fs, ?_, .returned (some (.int 1)), hrun, hended, rfl, lw_closed hd0 ⟨_, rfl⟩ hW hframe⟩
  jvm_step X.here [X.here.top, hx, hb, hdg, hmeth', hr, ret, narrow_b1]
  (try refine ⟨rfl, ?_⟩); (try refine ⟨rfl, ?_⟩)
  first | (intro acts; rw [hret _ acts rfl rfl rfl]) | rw [hret _ _ rfl rfl rfl]
  exact Steps.refl _
/-- what holds at the law's entry: the machine, the code, the tables' words (any of lw_tbl by 'hts w (by decide +kernel)'), the script of L ints xs at the cell b, what the Statement gives of the start (any of its parts by flat_of_before) -/
def lw_At (p : Program) (s : State) (m : MethodId) (meth : Method) (c : Code) (b L : Nat) (xs : Nat → Int32) : Prop :=
  p.tables.exec = Jvm.exec ∧ c.code = code ∧ meth.sig.returnType = ret ∧ c.maxLocals = 9 ∧ s.vm.findClass R_law = some m.cls ∧ (∀ w ∈ lw_tbl, w.before #[Value.ref b] s = true) ∧ va_X b L xs s s.heap ∧ b < s.heap.size ∧ meth.locks = false ∧ (Jvm.Cond.and given_1 narrow_1).before #[Value.ref b] s = true
/-! THE LAW'S WALK: what its run is given, its own rows. -/
abbrev h4 (x : kK) (y : kY) (f : Nat → Int64) (d : Nat → UInt64) : kH := kTp (kHc x) (kHr y (kJ 1 f, kDb 1 d))
theorem kHr_f {y : kY} {z z2 w : kE} : ∀ j, j ≠ 128 → kHr y (z, w) j = kHr y (z2, w) j := by
  intro j hj
  unfold kHr
  rw [beq_f hj]
  rfl
theorem kHr_d {y : kY} {z w w2 : kE} : ∀ j, j ≠ 129 → kHr y (z, w) j = kHr y (z, w2) j := by
  intro j hj
  unfold kHr
  rw [beq_f hj]
  rfl
theorem h4_f {x : kK} {y : kY} {f f2 : Nat → Int64} {d : Nat → UInt64} : kU (h4 x y f d) 128 (kJ 1 f2) = h4 x y f2 d := by
  refine kU_to rfl (fun j hj => ?_)
  show cond (Nat.blt j 116) (kHc x j) (kHr y (kJ 1 f, kDb 1 d) j) = cond (Nat.blt j 116) (kHc x j) (kHr y (kJ 1 f2, kDb 1 d) j)
  rw [kHr_f (z2 := kJ 1 f2) j hj]
theorem h4_d {x : kK} {y : kY} {f : Nat → Int64} {d d2 : Nat → UInt64} : kU (h4 x y f d) 129 (kDb 1 d2) = h4 x y f d2 := by
  refine kU_to rfl (fun j hj => ?_)
  show cond (Nat.blt j 116) (kHc x j) (kHr y (kJ 1 f, kDb 1 d) j) = cond (Nat.blt j 116) (kHc x j) (kHr y (kJ 1 f, kDb 1 d2) j)
  rw [kHr_d (w2 := kDb 1 d2) j hj]
/-- what the law is given beyond any method's due: the script, and that nothing old is its own -/
def lP (b L : Nat) (xs : Nat → Int32) (s : State) (args : Array Value) (g : kG) (A : Nat → Prop) : Prop := args = #[Value.ref b] ∧ va_X b L xs s s.heap ∧ b < s.heap.size ∧ g.2.2 2000 = b ∧ ∀ q, A q → s.heap.size ≤ q
def FL (b L : Nat) (xs : Nat → Int32) : kFn := fun _ _ _ s _ args below _ _ g A t => lP b L xs s args g A → lw_Z below #[Value.ref b] s t
abbrev RW : Room := kRm kL_law 603072 7182442
/-- the law's method, whatever its name and table are said to be -/
abbrev kLw (nm : String) (tb : List (Nat × Nat × Nat × Nat)) : kM := (⟨RL, nm, "([I)Z"⟩, cL_law, 9, some .boolean, tb, 21, 10882)
theorem RW_is : RW = room_1 := rfl
section LWR
variable {K : kM} {R : Room} {mu : Bool} {pc pc' : Nat} {ls st : List Value} {h : kH} {N cs ss b L : Nat} {xs : Nat → Int32}
theorem k_sld {j : Nat} {a : Int32} (hd : decode K.2.1 pc = .ok (.iaload, 1)) (hp : pc + 1 = pc') (ha : a = nI j) (hj : j < L) (hL : L < 2 ^ 31) (kk : kEv K R (FL b L xs) mu pc' ls (.int (xs j) :: st) h N cs ss) : kEv K R (FL b L xs) mu pc ls (.int a :: .ref 2000 :: st) h N cs ss := by
  subst hp
  subst ha
  intro p l e s m args below meth c g A C H locs lsA hW hS hl hz
  by_cases P : lP b L xs s args g A
  · have k2 := kk p l e s m args below meth c g A C H locs lsA hW hS hl hz
    show W _ _ _ _ _ _ _ _ _ _ _ _ _ _ _ (F0 m pc lsA (.int (nI j) :: .ref (g.2.2 2000) :: st.map (kV g)))
    rw [P.2.2.2.1]
    refine va_sld C.1 C.2.1 P.2.1 P.2.2.1 (fun q => absurd (P.2.2.2.2 b q) (Nat.not_le_of_lt P.2.2.1)) hS (vp_in_nI hj hL) hd ?_
    rw [nI_clamp (Nat.lt_trans hj hL)]
    exact k2
  · exact fun T hT X => ⟨T.setTop _, Steps.refl _, fun q => absurd q P⟩
theorem k_slen0 (hd : decode K.2.1 pc = .ok (.arraylength, 1)) (hp : pc + 1 = pc') (kk : kEv K R (FL b L xs) mu pc' ls (.int (nI L) :: st) h N cs ss) : kEv K R (FL b L xs) mu pc ls (.ref 2000 :: st) h N cs ss := by
  subst hp
  intro p l e s m args below meth c g A C H locs lsA hW hS hl hz
  by_cases P : lP b L xs s args g A
  · have k2 := kk p l e s m args below meth c g A C H locs lsA hW hS hl hz
    show W _ _ _ _ _ _ _ _ _ _ _ _ _ _ _ (F0 m pc lsA (.ref (g.2.2 2000) :: st.map (kV g)))
    rw [P.2.2.2.1]
    exact va_slen C.1 C.2.1 P.2.1 P.2.2.1 (fun q => absurd (P.2.2.2.2 b q) (Nat.not_le_of_lt P.2.2.1)) hS hd k2
  · exact fun T hT X => ⟨T.setTop _, Steps.refl _, fun q => absurd q P⟩
/-- the law's end, with 1 on the stack -/
theorem k_lend {nm : String} {tb : List (Nat × Nat × Nat × Nat)} (hd : decode cL_law pc = .ok (.ireturn, 1)) (hc : cs ≤ 603072) (hs : ss ≤ 7182442) : kEv (kLw nm tb) RW (FL b L xs) mu pc ls [.int 1] h N cs ss := by
  intro p l e s m args below meth c g A C H locs lsA hW hS hl hz
  by_cases P : lP b L xs s args g A
  · obtain ⟨ha, -, -, -, hA2⟩ := P
    subst ha
    obtain ⟨hx, hb, hml, hr, hts, hown, hlk, -⟩ := id C
    have w : W p l e RW s m #[Value.ref b] below meth c H locs cs ss (lw_Z below #[Value.ref b] s) (F0 m pc lsA [.int 1]) := va_forget (fun q hq => hA2 _ (hS.2.2 q hq)) (W.widen hc hs (W.base (lw_ret (Drawn.sameBut.refl s.drawn lw_cs) hx hb hr hlk hd)))
    intro T hT X
    obtain ⟨t, a1, b1⟩ := w T hT X
    exact ⟨t, a1, fun _ => b1⟩
  · exact fun T hT X => ⟨T.setTop _, Steps.refl _, fun q => absurd q P⟩
/-- places 6, 7, 8 forgotten -/
theorem k_fg {F : kFn} {l0 l1 l2 l3 l4 l5 v6 v7 v8 : Value} (k : kEv K R F mu pc [l0, l1, l2, l3, l4, l5, .retAddr 0, .retAddr 0, .retAddr 0] st h N cs ss) : kEv K R F mu pc [l0, l1, l2, l3, l4, l5, v6, v7, v8] st h N cs ss := by
  intro p l e s m args below meth c g A C H locs lsA hW hS hl hz
  refine k p l e s m args below meth c g A C H locs lsA hW hS (kLs_sub hl (fun q hq => ?_)) hz
  obtain ⟨v, h1, h2, h3⟩ := kLs_mem.1 hq
  refine kLs_mem.2 ⟨v, ?_, h2, h3⟩
  obtain ⟨n, w⟩ := q
  match n, h1 with
  | 0, h1 => exact h1
  | 1, h1 => exact h1
  | 2, h1 => exact h1
  | 3, h1 => exact h1
  | 4, h1 => exact h1
  | 5, h1 => exact h1
  | 6, h1 => cases h1; exact absurd rfl (h2 0)
  | 7, h1 => cases h1; exact absurd rfl (h2 0)
  | 8, h1 => cases h1; exact absurd rfl (h2 0)
  | n + 9, h1 => cases h1
/-- new things are made no more -/
theorem k_mu {F : kFn} (k : kEv K R F false pc ls st h N cs ss) : kEv K R F true pc ls st h N cs ss := fun p l e s m args below meth c g A C H locs lsA hW hS hl _ => k p l e s m args below meth c g A C H locs lsA hW hS hl (fun q => by cases q)
end LWR
/-- behind a call of the script: what is still to do -/
def LG (nm : String) (tb : List (Nat × Nat × Nat × Nat)) (b L : Nat) (xs : Nat → Int32) (i t cs ss : Nat) : Prop := ∀ (x : kK) (y : kY) (f : Nat → Int64) (d : Nat → UInt64) (cs2 ss2 : Nat), RX t x y → cs2 ≤ cs → ss2 ≤ ss → kEv (kLw nm tb) RW (FL b L xs) false 2815 [.ref 2000, .ref 0, .ref 116, .ref 128, .ref 129, .int (nI i), .retAddr 0, .retAddr 0, .retAddr 0] [] (h4 x y f d) 130 cs2 ss2
theorem RX_up {t t2 : Nat} {x : kK} {y : kY} (X : RX t x y) (h : t ≤ t2) : RX t2 x y := RX_q X h rfl (fun _ _ _ => rfl) (fun _ _ => rfl) X.O.2.1 (fun _ _ _ _ => rfl) (fun _ _ _ => rfl)
theorem l_go {nm : String} {tb : List (Nat × Nat × Nat × Nat)} {b L i t t2 cs ss cs2 ss2 : Nat} {xs : Nat → Int32} {x : kK} {y : kY} {f : Nat → Int64} {d : Nat → UInt64} {v6 v7 v8 : Value} (go : LG nm tb b L xs i t cs ss) (X : RX t2 x y) (h : t2 ≤ t) (hc : cs2 ≤ cs) (hs : ss2 ≤ ss) : kEv (kLw nm tb) RW (FL b L xs) false 2815 [.ref 2000, .ref 0, .ref 116, .ref 128, .ref 129, .int (nI i), v6, v7, v8] [] (h4 x y f d) 130 cs2 ss2 := k_fg (go x y f d cs2 ss2 (RX_up X h) hc hs)
theorem lc0 {cs ss : Nat} (hc : cs + 1 ≤ 603072) (hs : ss + 6 ≤ 7182442) : cs + 0 ≤ RW.cells ∧ ss + 0 ≤ RW.slots := ⟨show cs + 0 ≤ 603072 by omega, show ss + 0 ≤ 7182442 by omega⟩
theorem lc1 {cs ss : Nat} (hc : cs + 1 ≤ 603072) (hs : ss + 6 ≤ 7182442) : cs + 1 ≤ RW.cells ∧ ss + 6 ≤ RW.slots := ⟨hc, hs⟩
theorem uL0 {f : Nat → Int64} {v : Int64} : vp_updL f 0 v (Int32.toNatClampNeg 0) = v := if_pos rfl
theorem uD0 {f : Nat → UInt64} {v : UInt64} : vf_upd f 0 v (Int32.toNatClampNeg 0) = v := if_pos rfl
/-! what the methods need -/
section LPR
variable {t : Nat} {x : kK} {y : kY}
theorem pr_tl (X : RX t x y) : kTl x := by obtain ⟨L, hL, h, -⟩ := X.T; exact ⟨L, hL, h⟩
theorem pr_ln (X : RX t x y) : kLn x := by obtain ⟨L, hL, h, -⟩ := X.L; exact ⟨L, hL, h⟩
theorem pr_t9 (X : RX t x y) : ∃ n, n ≤ 60 ∧ y.1 9 = nI n := by obtain ⟨L, hL, -, h, -⟩ := X.T; exact ⟨L, hL, h⟩
theorem pr_l2 (X : RX t x y) : kLn2 y 40 := by obtain ⟨L, hL, -, h, -⟩ := X.L; exact ⟨L, by omega, h⟩
theorem pr_h (X : RX t x y) (ht : t + 11 < 2 ^ 20) : ∃ n, n < 2 ^ 30 ∧ (y.2 0) 0 = nI n := by
  obtain ⟨n, hn, e⟩ := X.R.B.2.2.2.2.2.1
  exact ⟨n, by omega, e⟩
theorem pr_p2 (X : RX t x y) (ht : t + 11 < 2 ^ 20) : kPn2 (y.2 0) := by
  intro l hl
  obtain ⟨⟨a, ha, ea⟩, ⟨b, hb, eb⟩, -⟩ := X.R.E.1 l hl
  exact ⟨⟨a, by omega, ea⟩, ⟨b, by omega, eb⟩⟩
end LPR
