section FLW
variable {p : Program} {l : Launch} {e : Env} {R : Room} {s : State} {m : MethodId} {args : Array Value} {below : List Frame} {meth : Method} {c : Code} {H : Array Cell} {locs : List Loc} {cells slots : Nat} {pc : Nat} {ls : Array Slot} {rest : List Value}
theorem kf_ldcwF {T : State} (X : Stand p l e R s m args below meth c T locs cells slots) (hexec : p.tables.exec = Jvm.exec) {own : String} {index : Nat} {v : UInt32} (hown : s.vm.findClass own = some m.cls)
    (hconst : (Cond.constantFloat own index v).before args s = true) {g : JFrame} (hg : g.method = m) (hdg : decode c.code g.pc = .ok (.ldc_w index, 3)) :
    ∀ target, Steps p.tables e below (T.setTop { g with pc := g.pc + 3, stack := .float v :: g.stack }) target → Steps p.tables e below (T.setTop g) target := by
  obtain ⟨k, cf, hk, hcf, hcp⟩ := Cond.constantFloat_spec hown hconst
  obtain ⟨k', hk', he⟩ := X.warmed.alike.2.2 _ _ hk
  intro target hrest
  subst hg
  jvm_step X.here [hexec, hdg, ldc_w.wp_float (s := T) (f := g) X.here.top hk' (by rw [he]; exact hcf) hcp]
  exact hrest
end FLW
section KFL
variable {K : kM} {R : Room} {F : kFn} {pc pc' : Nat} {ls st : List Value} {h : kH} {N cs ss mc ms : Nat} {mu : Bool}
theorem k_fconst2  (hd : decode K.2.1 pc = .ok (.fconst 2, 1)) (hp : pc + 1 = pc')
    (k : kEv K R F mu pc' ls (.float FP.fconst2 :: st) h N cs ss) : kEv K R F mu pc ls (st) h N cs ss := by
  subst hp
  intro p l e s m args below meth c g A C H locs lsA hW hS hl hz
  exact lv_fconst2 C.1 C.2.1 hd (k p l e s m args below meth c g A C H locs lsA hW hS hl hz)
theorem k_ldcwf {idx : Nat} {v : UInt32} (hd : decode K.2.1 pc = .ok (.ldc_w idx, 3)) (hp : pc + 3 = pc') (hw : Cond.constantFloat K.1.cls idx v ∈ gT)
    (k : kEv K R F mu pc' ls (.float v :: st) h N cs ss) : kEv K R F mu pc ls (st) h N cs ss := by
  subst hp
  intro p l e s m args below meth c g A C H locs lsA hW hS hl hz
  intro T hT X
  obtain ⟨t, a, b⟩ := k p l e s m args below meth c g A C H locs lsA hW hS hl hz T hT X
  exact ⟨t, kf_ldcwF X C.1 C.2.2.2.2.2.1 (C.2.2.2.2.1 _ hw) rfl (by rw [C.2.1]; exact hd) t a, b⟩
end KFL
/-! a counter that runs up to a number that is given as an int -/
theorem cl_lt (a : Int32) : a.toNatClampNeg < 2 ^ 31 := by
  have h := Int32.toInt_lt a
  show a.toInt.toNat < 2 ^ 31
  omega
theorem cl_le {a : Int32} {j : Nat} (h : j = a.toNatClampNeg) : a ≤ nI j := by
  have hl := cl_lt a
  rw [Int32.le_iff_toInt_le, nI_toInt (by omega), h]
  show a.toInt ≤ ((a.toInt.toNat : Nat) : Int)
  omega
theorem cl_nle {a : Int32} {j : Nat} (h : j < a.toNatClampNeg) : ¬ a ≤ nI j := by
  have hl := cl_lt a
  rw [Int32.le_iff_toInt_le, nI_toInt (by omega)]
  have h : j < a.toInt.toNat := h
  omega
theorem cl_of {a : Int32} (h : ¬ a < 0) : a = nI a.toNatClampNeg := by
  obtain ⟨k, hk, rfl⟩ := nI_of h
  rw [nI_clamp hk]
theorem cl_nI {n : Nat} (h : n < 2 ^ 31) : (nI n).toNatClampNeg = n := nI_clamp h
