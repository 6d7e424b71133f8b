/-! THE HEAP'S ROWS -/
theorem kW_put {g : kG} {A : Nat → Prop} {h : kH} {N i k : Nat} {e : kE} {H0 H H1 : Heap} {locs : List Loc} (hW : kWd g A h N H) (hS : va_S A H0 H locs) (hi : i < N) (z : H1.size = H.size) (oq : ∀ q : Nat, q ≠ g.2.2 i → H1[q]? = H[q]?) (he : va_at g.1 vwCl (g.2.2 i, kC g e) H1) :
    kWd g A (kU h i e) N H1 ∧ va_S A H0 H1 (locs ++ [⟨g.2.2 i, k⟩]) := by
  have hg : (kW g h N)[i]? = some (g.2.2 i, kC g (h i)) := kW_get hi
  refine ⟨⟨?_, ?_⟩, hS.put z oq (hW.2.2 i _ hg)⟩
  · rw [← kW_set (e := e) hi]
    exact hW.1.set hW.2 hg he oq
  · rw [← kW_set (e := e) hi]
    exact hW.2.set hg
theorem kW_new {g : kG} {A : Nat → Prop} {h : kH} {N : Nat} {e : kE} {H0 H H1 : Heap} {locs : List Loc} (hW : kWd g A h N H) (hS : va_S A H0 H locs) (hA : ∀ q : Nat, H0.size ≤ q → A q) (hz : H.size = g.2.2 N) (z1 : H1.size = H.size + 1) (o1 : ∀ q : Nat, q < H.size → H1[q]? = H[q]?) (he : va_at g.1 vwCl (g.2.2 N, kC g e) H1) :
    kWd g A (kU h N e) (N + 1) H1 ∧ va_S A H0 H1 locs := by
  have hk : ∀ (k : Nat) (x : Nat × va_E), (kW g h N)[k]? = some x → H1[x.1]? = H[x.1]? := fun k x hx => o1 x.1 ((hW.1 k x hx).lt)
  refine ⟨⟨?_, ?_⟩, Nat.le_trans hS.1 (by omega), fun x h1 h2 => (o1 x (Nat.lt_of_lt_of_le h1 hS.1)).trans (hS.2.1 x h1 h2), hS.2.2⟩
  · rw [← kW_push]
    refine (hW.1.kept hk).app (fun k x hx => ?_)
    have hz : k < 1 := (List.getElem?_eq_some_iff.mp hx).1
    rw [show k = 0 by omega] at hx
    cases hx
    exact he
  · rw [← kW_push]
    exact hW.2.push hW.1 hz.symm (hA _ (by rw [← hz]; exact hS.1))
def kFg (own : String) (idx ci k : Nat) : Prop := ∃ (C : String) (T : u_T) (n : Nat), vwCl[ci]? = some (C, T, n) ∧ k < n ∧ (∀ w ∈ u_ws C T n, w ∈ gT) ∧ Cond.fieldLink own idx (T k).1 (T k).2.1 (T k).2.2.1 ∈ gT
def kFp (own : String) (idx ci k : Nat) (ty : FieldType) (fin : Bool) : Prop := ∃ (C : String) (T : u_T) (n : Nat) (ty0 : Nat → FieldType), vwCl[ci]? = some (C, T, n) ∧ k < n ∧ (∀ w ∈ u_ws C T n, w ∈ gT) ∧ Cond.fieldLink own idx (T k).1 (T k).2.1 (T k).2.2.1 ∈ gT ∧ (∀ k, k < n → parseFieldDescriptor (T k).2.2.1 = some (ty0 k)) ∧ (∀ a, a < n → ∀ b, b < n → a ≠ b → (T a).2.1 ≠ (T b).2.1) ∧ (T k).2.2.2 = fin ∧ parseFieldDescriptor (T k).2.2.1 = some ty ∧ (fin = true → (T k).1 = own)
section KH
variable {K : kM} {R : Room} {F : kFn} {mu : Bool} {pc pc' : Nat} {ls st : List Value} {h : kH} {N cs ss : Nat}
theorem k_get {idx : Nat} (ci k : Nat) {i : Nat} {fs : List Value} {v : Value} (fg : kFg K.1.cls idx ci k) (hd : decode K.2.1 pc = .ok (.getfield idx, 3)) (hp : pc + 3 = pc') (hi : i < N) (he : h i = .inr (ci, fs)) (hv : fs[k]? = some v)
    (kk : kEv K R F mu pc' ls (v :: st) h N cs ss) : kEv K R F mu pc ls (.ref i :: st) h N cs ss := by
  subst hp
  obtain ⟨Cn, T, n, f1, f2, f3, f4⟩ := fg
  intro p l e s m args below meth c g A C H locs lsA hW hS hl hz
  obtain ⟨hx, hb, hml, hr, hts, hown, hlk, hst, hnm, htb, hK, hSt, hA⟩ := id C
  have hg : (kW g h N)[i]? = some (g.2.2 i, .inr (ci, fs.map (kV g))) := by rw [kW_get hi, he]; rfl
  exact va_get (v := kV g v) hx hb hts f3 hown hK hW.1 i hg f1 k f2 (hts _ f4) (fun _ h => h) (by rw [List.getElem?_map, hv]; rfl) hd (kk p l e s m args below meth c g A C H locs lsA hW hS hl hz)
theorem k_put {idx : Nat} (ci k : Nat) {ty : FieldType} {i : Nat} {fs : List Value} {v : Value} (fp : kFp K.1.cls idx ci k ty false) (hd : decode K.2.1 pc = .ok (.putfield idx, 3)) (hp : pc + 3 = pc') (hi : i < N) (he : h i = .inr (ci, fs)) (hlt : k < fs.length) (hn : narrow ty v = v) (hf : fits ty v = true)
    (kk : kEv K R F mu pc' ls st (kU h i (.inr (ci, fs.set k v))) N cs ss) : kEv K R F mu pc ls (v :: .ref i :: st) h N cs ss := by
  subst hp
  obtain ⟨Cn, T, n, ty0, f1, f2, f3, f4, f5, f6, f7, f8, -⟩ := fp
  intro p l e s m args below meth c g A C H locs lsA hW hS hl hz
  obtain ⟨hx, hb, hml, hr, hts, hown, hlk, hst, hnm, htb, hK, hSt, hA⟩ := id C
  have hg : (kW g h N)[i]? = some (g.2.2 i, .inr (ci, fs.map (kV g))) := by rw [kW_get hi, he]; rfl
  have hap := va_apart (own := K.1.cls) hts f3 ty0 f5 f6 hK f1
  obtain ⟨r, h1, cell, q1, q2, q3, q4⟩ := hW.1 i _ hg
  have hrr : r = (Cn, T, n) := Option.some.inj (h1.symm.trans f1)
  subst hrr
  obtain ⟨hSl, hfc, kC0, hkC, hkind⟩ := hK.1 ci _ f1
  obtain ⟨cf, kf, fi, f, hif, hsl⟩ := hSl k f2
  have hlay := hts _ (f3 _ (u_in_lay f2))
  unfold u_lay at hlay
  rw [if_neg (by rw [f7]; decide)] at hlay
  have hstc := (u_facts hfc hkC (u_lays hts f3 f2) hif).1
  have h6 := u_store hfc hkC hkind hlay hif f8 (kV_narrow (g := g) hn) (kV_fits (g := g) hf)
  refine W.putK hx hb (f := f) ⟨hown, hts _ f4, ⟨_, _, _, hif⟩, hstc⟩ (by rw [q2]; exact h6) q1 q3 (by rw [hsl]; exact k2_hasslot (q4 k f2)) rfl rfl hd fun H' e1 e2 e3 => ?_
  rw [hsl] at e1 ⊢
  have hlt' : k < (fs.map (kV g)).length := by simpa using hlt
  have he' : va_at g.1 vwCl (g.2.2 i, kC g (.inr (ci, fs.set k v))) H' := by
    show va_at g.1 vwCl (g.2.2 i, .inr (ci, (fs.set k v).map (kV g))) H'
    rw [List.map_set]
    exact ⟨_, f1, t_OB.to (V := updV (vp_V (fs.map (kV g))) k (kV g v)) ⟨_, e1, q2, q3, t_set q4 hap f2 (kV g v)⟩ (fun j _ => vp_updV_set hlt' (kV g v) j)⟩
  obtain ⟨g1, g2⟩ := kW_put (k := (g.1.2 ci) k) hW hS hi e2 e3 he'
  exact kk p l e s m args below meth c g A C H' _ lsA g1 g2 hl (fun q => by rw [e2]; exact hz q)
theorem k_putF {idx : Nat} (ci k : Nat) {ty : FieldType} {i : Nat} {fs : List Value} {v : Value} (fp : kFp K.1.cls idx ci k ty true) (hin : K.1.name = "<init>") (hd : decode K.2.1 pc = .ok (.putfield idx, 3)) (hp : pc + 3 = pc') (hi : i < N) (he : h i = .inr (ci, fs)) (hlt : k < fs.length) (hn : narrow ty v = v) (hf : fits ty v = true)
    (kk : kEv K R F mu pc' ls st (kU h i (.inr (ci, fs.set k v))) N cs ss) : kEv K R F mu pc ls (v :: .ref i :: st) h N cs ss := by
  subst hp
  obtain ⟨Cn, T, n, ty0, f1, f2, f3, f4, f5, f6, f7, f8, f9⟩ := fp
  intro p l e s m args below meth c g A C H locs lsA hW hS hl hz
  obtain ⟨hx, hb, hml, hr, hts, hown, hlk, hst, hnm, htb, hK, hSt, hA⟩ := id C
  have hg : (kW g h N)[i]? = some (g.2.2 i, .inr (ci, fs.map (kV g))) := by rw [kW_get hi, he]; rfl
  have hap := va_apart (own := K.1.cls) hts f3 ty0 f5 f6 hK f1
  obtain ⟨r, h1, cell, q1, q2, q3, q4⟩ := hW.1 i _ hg
  have hrr : r = (Cn, T, n) := Option.some.inj (h1.symm.trans f1)
  subst hrr
  obtain ⟨hSl, hfc, kC0, hkC, hkind⟩ := hK.1 ci _ f1
  obtain ⟨cf, kf, fi, f, hif, hsl⟩ := hSl k f2
  have hlay := hts _ (f3 _ (u_in_lay f2))
  unfold u_lay at hlay
  rw [if_pos f7] at hlay
  have hstc := (u_facts hfc hkC (u_lays hts f3 f2) hif).1
  have hcf : m.cls = cf := by
    obtain ⟨_, _, c', _, _, _, -, -, hf', -, -, -, hown2, -⟩ := Cond.laysFinal_spec hlay
    have e1 : c' = cf := by have := hif.symm.trans hf'; simp at this; exact this.1.symm
    rw [f9 rfl] at hown2
    rw [← e1]; exact Option.some.inj (hown.symm.trans hown2)
  have h6 := u_fits hfc hkC hkind (Or.inr hlay) hif f8 (kV_narrow (g := g) hn) (kV_fits (g := g) hf)
  refine W.putFinK hx hb hown (hts _ f4) hif hstc hcf (hnm.trans hin) (by rw [q2]; exact h6) q1 q3 (by rw [hsl]; exact k2_hasslot (q4 k f2)) rfl rfl hd fun H' e1 e2 e3 => ?_
  rw [hsl] at e1 ⊢
  have hlt' : k < (fs.map (kV g)).length := by simpa using hlt
  have he' : va_at g.1 vwCl (g.2.2 i, kC g (.inr (ci, fs.set k v))) H' := by
    show va_at g.1 vwCl (g.2.2 i, .inr (ci, (fs.set k v).map (kV g))) H'
    rw [List.map_set]
    exact ⟨_, f1, t_OB.to (V := updV (vp_V (fs.map (kV g))) k (kV g v)) ⟨_, e1, q2, q3, t_set q4 hap f2 (kV g v)⟩ (fun j _ => vp_updV_set hlt' (kV g v) j)⟩
  obtain ⟨g1, g2⟩ := kW_put (k := (g.1.2 ci) k) hW hS hi e2 e3 he'
  exact kk p l e s m args below meth c g A C H' _ lsA g1 g2 hl (fun q => by rw [e2]; exact hz q)
/-! arrays -/
theorem k_iald {i n : Nat} {f : Nat → Int32} {j : Int32} (hd : decode K.2.1 pc = .ok (.iaload, 1)) (hp : pc + 1 = pc') (hi : i < N) (he : h i = kI n f) (hin : vp_in j n)
    (kk : kEv K R F mu pc' ls (.int (f j.toNatClampNeg) :: st) h N cs ss) : kEv K R F mu pc ls (.int j :: .ref i :: st) h N cs ss := by
  subst hp
  intro p l e s m args below meth c g A C H locs lsA hW hS hl hz
  obtain ⟨hx, hb, hml, hr, hts, hown, hlk, hst, hnm, htb, hK, hSt, hA⟩ := id C
  have hg : (kW g h N)[i]? = some (g.2.2 i, .inl (g.2.1 0, n, .inl f)) := by rw [kW_get hi, he]; rfl
  exact va_iald hx hb hK hW.1 i 0 hg rfl hin hd (kk p l e s m args below meth c g A C H locs lsA hW hS hl hz)
theorem k_cald {i n : Nat} {f : Nat → Int32} {j : Int32} (hd : decode K.2.1 pc = .ok (.caload, 1)) (hp : pc + 1 = pc') (hi : i < N) (he : h i = kCh n f) (hin : vp_in j n)
    (kk : kEv K R F mu pc' ls (.int (f j.toNatClampNeg) :: st) h N cs ss) : kEv K R F mu pc ls (.int j :: .ref i :: st) h N cs ss := by
  subst hp
  intro p l e s m args below meth c g A C H locs lsA hW hS hl hz
  obtain ⟨hx, hb, hml, hr, hts, hown, hlk, hst, hnm, htb, hK, hSt, hA⟩ := id C
  have hg : (kW g h N)[i]? = some (g.2.2 i, .inl (g.2.1 1, n, .inl f)) := by rw [kW_get hi, he]; rfl
  exact va_cald hx hb hK hW.1 i 1 hg rfl hin hd (kk p l e s m args below meth c g A C H locs lsA hW hS hl hz)
theorem k_lald {i n : Nat} {f : Nat → Int64} {j : Int32} (hd : decode K.2.1 pc = .ok (.laload, 1)) (hp : pc + 1 = pc') (hi : i < N) (he : h i = kJ n f) (hin : vp_in j n)
    (kk : kEv K R F mu pc' ls (.long (f j.toNatClampNeg) :: st) h N cs ss) : kEv K R F mu pc ls (.int j :: .ref i :: st) h N cs ss := by
  subst hp
  intro p l e s m args below meth c g A C H locs lsA hW hS hl hz
  obtain ⟨hx, hb, hml, hr, hts, hown, hlk, hst, hnm, htb, hK, hSt, hA⟩ := id C
  have hg : (kW g h N)[i]? = some (g.2.2 i, .inl (g.2.1 2, n, .inr (.inl f))) := by rw [kW_get hi, he]; rfl
  exact va_lald hx hb hK hW.1 i 2 hg rfl hin hd (kk p l e s m args below meth c g A C H locs lsA hW hS hl hz)
theorem k_dald {i n : Nat} {f : Nat → UInt64} {j : Int32} (hd : decode K.2.1 pc = .ok (.daload, 1)) (hp : pc + 1 = pc') (hi : i < N) (he : h i = kDb n f) (hin : vp_in j n)
    (kk : kEv K R F mu pc' ls (.double (f j.toNatClampNeg) :: st) h N cs ss) : kEv K R F mu pc ls (.int j :: .ref i :: st) h N cs ss := by
  subst hp
  intro p l e s m args below meth c g A C H locs lsA hW hS hl hz
  obtain ⟨hx, hb, hml, hr, hts, hown, hlk, hst, hnm, htb, hK, hSt, hA⟩ := id C
  have hg : (kW g h N)[i]? = some (g.2.2 i, .inl (g.2.1 3, n, .inr (.inr (.inr (.inl f))))) := by rw [kW_get hi, he]; rfl
  exact va_dald hx hb hK hW.1 i 3 hg rfl hin hd (kk p l e s m args below meth c g A C H locs lsA hW hS hl hz)
theorem k_rald {i n t a : Nat} {f : Nat → Option Nat} {j : Int32} (ht : t = 4 ∨ t = 5) (hd : decode K.2.1 pc = .ok (.aaload, 1)) (hp : pc + 1 = pc') (hi : i < N) (he : h i = kRf t n f) (hin : vp_in j n) (ha : f j.toNatClampNeg = some a)
    (kk : kEv K R F mu pc' ls (.ref a :: st) h N cs ss) : kEv K R F mu pc ls (.int j :: .ref i :: st) h N cs ss := by
  subst hp
  intro p l e s m args below meth c g A C H locs lsA hW hS hl hz
  obtain ⟨hx, hb, hml, hr, hts, hown, hlk, hst, hnm, htb, hK, hSt, hA⟩ := id C
  have hg : (kW g h N)[i]? = some (g.2.2 i, .inl (g.2.1 t, n, .inr (.inr (.inr (.inr (fun j => (f j).map g.2.2)))))) := by rw [kW_get hi, he]; rfl
  have ee : va_rf ((f j.toNatClampNeg).map g.2.2) = .ref (g.2.2 a) := by rw [ha]; rfl
  have k2 := kk p l e s m args below meth c g A C H locs lsA hW hS hl hz
  rcases ht with rfl | rfl
  · exact va_aldq hx hb hK hW.1 i 4 hg rfl hin hd (by rw [ee]; exact k2)
  · exact va_aldq hx hb hK hW.1 i 5 hg rfl hin hd (by rw [ee]; exact k2)
theorem k_alen {i t n : Nat} {x : vp_A} {ty : FieldType} {v : Int32} (ht : kTy[t]? = some ty) (hd : decode K.2.1 pc = .ok (.arraylength, 1)) (hp : pc + 1 = pc') (hi : i < N) (he : h i = .inl (t, x)) (hx1 : x.1 = n) (hv : Int32.ofNat n = v)
    (kk : kEv K R F mu pc' ls (.int v :: st) h N cs ss) : kEv K R F mu pc ls (.ref i :: st) h N cs ss := by
  subst hp
  intro p l e s m args below meth c g A C H locs lsA hW hS hl hz
  obtain ⟨hx, hb, hml, hr, hts, hown, hlk, hst, hnm, htb, hK, hSt, hA⟩ := id C
  have hg : (kW g h N)[i]? = some (g.2.2 i, .inl (g.2.1 t, kA g x)) := by rw [kW_get hi, he]; rfl
  have hlen : (kA g x).1 = n := by
    rw [← hx1]
    obtain ⟨a, b⟩ := x
    rcases b with b | b | b | b | b <;> rfl
  exact va_alen hx hb hK hW.1 i t hg (kTs_get ht) (by rw [hlen]; exact hv) hd (kk p l e s m args below meth c g A C H locs lsA hW hS hl hz)
theorem k_iast {i n : Nat} {f : Nat → Int32} {j x : Int32} (hd : decode K.2.1 pc = .ok (.iastore, 1)) (hp : pc + 1 = pc') (hi : i < N) (he : h i = kI n f) (hin : vp_in j n)
    (kk : kEv K R F mu pc' ls st (kU h i (kI n (upd f j.toNatClampNeg x))) N cs ss) : kEv K R F mu pc ls (.int x :: .int j :: .ref i :: st) h N cs ss := by
  subst hp
  intro p l e s m args below meth c g A C H locs lsA hW hS hl hz
  obtain ⟨hx, hb, hml, hr, hts, hown, hlk, hst, hnm, htb, hK, hSt, hA⟩ := id C
  have hg : (kW g h N)[i]? = some (g.2.2 i, .inl (g.2.1 0, n, .inl f)) := by rw [kW_get hi, he]; rfl
  refine W.iast hx hb (hW.1 i _ hg) ((hK.2 0 _ rfl).1 n (fun j => .int (f j))) (fun q => by cases q) (by show ¬ (j < 0 ∨ (arrV _ _ _).slots.size ≤ _); rw [arrV_size]; exact hin) rfl rfl hd fun H1 e1 z oq => ?_
  have he' : va_at g.1 vwCl (g.2.2 i, kC g (kI n (upd f j.toNatClampNeg x))) H1 := by
    show H1[g.2.2 i]? = some (vp_cell (g.2.1 0) (n, .inl (upd f j.toNatClampNeg x)))
    rw [e1]
    rw [vp_cell_i, vp_cell_i, arrV_store]
    congr 2
    funext q
    by_cases hq : q = j.toNatClampNeg
    · subst hq; simp [updV, upd]
    · simp [updV, upd, hq]
  obtain ⟨g1, g2⟩ := kW_put (k := j.toNatClampNeg) hW hS hi z oq he'
  exact kk p l e s m args below meth c g A C H1 _ lsA g1 g2 hl (fun q => by rw [z]; exact hz q)
theorem k_cast {i n : Nat} {f : Nat → Int32} {j x : Int32} (hd : decode K.2.1 pc = .ok (.castore, 1)) (hp : pc + 1 = pc') (hi : i < N) (he : h i = kCh n f) (hin : vp_in j n)
    (kk : kEv K R F false pc' ls st (kU h i (kCh n (upd f j.toNatClampNeg (vp_nar .char x)))) N cs ss) : kEv K R F false pc ls (.int x :: .int j :: .ref i :: st) h N cs ss := by
  subst hp
  intro p l e s m args below meth c g A C H locs lsA hW hS hl hz
  obtain ⟨hx, hb, hml, hr, hts, hown, hlk, hst, hnm, htb, hK, hSt, hA⟩ := id C
  have hg : (kW g h N)[i]? = some (g.2.2 i, .inl (g.2.1 1, n, .inl f)) := by rw [kW_get hi, he]; rfl
  refine va_cast hx hb hK hW.1 hW.2 hS i 1 hg rfl hin hd (fun H1 locs1 hP1 hD1 hS1 => ?_)
  refine kk p l e s m args below meth c g A C H1 locs1 lsA ⟨?_, ?_⟩ hS1 hl (fun q => by cases q)
  · rw [← kW_set hi]; exact hP1
  · rw [← kW_set hi]; exact hD1
theorem k_last {i n : Nat} {f : Nat → Int64} {j : Int32} {x : Int64} (hd : decode K.2.1 pc = .ok (.lastore, 1)) (hp : pc + 1 = pc') (hi : i < N) (he : h i = kJ n f) (hin : vp_in j n)
    (kk : kEv K R F false pc' ls st (kU h i (kJ n (vp_updL f j.toNatClampNeg x))) N cs ss) : kEv K R F false pc ls (.long x :: .int j :: .ref i :: st) h N cs ss := by
  subst hp
  intro p l e s m args below meth c g A C H locs lsA hW hS hl hz
  obtain ⟨hx, hb, hml, hr, hts, hown, hlk, hst, hnm, htb, hK, hSt, hA⟩ := id C
  have hg : (kW g h N)[i]? = some (g.2.2 i, .inl (g.2.1 2, n, .inr (.inl f))) := by rw [kW_get hi, he]; rfl
  refine va_last hx hb hK hW.1 hW.2 hS i 2 hg rfl hin hd (fun H1 locs1 hP1 hD1 hS1 => ?_)
  refine kk p l e s m args below meth c g A C H1 locs1 lsA ⟨?_, ?_⟩ hS1 hl (fun q => by cases q)
  · rw [← kW_set hi]; exact hP1
  · rw [← kW_set hi]; exact hD1
theorem k_dast {i n : Nat} {f : Nat → UInt64} {j : Int32} {x : UInt64} (hd : decode K.2.1 pc = .ok (.dastore, 1)) (hp : pc + 1 = pc') (hi : i < N) (he : h i = kDb n f) (hin : vp_in j n)
    (kk : kEv K R F false pc' ls st (kU h i (kDb n (vf_upd f j.toNatClampNeg x))) N cs ss) : kEv K R F false pc ls (.double x :: .int j :: .ref i :: st) h N cs ss := by
  subst hp
  intro p l e s m args below meth c g A C H locs lsA hW hS hl hz
  obtain ⟨hx, hb, hml, hr, hts, hown, hlk, hst, hnm, htb, hK, hSt, hA⟩ := id C
  have hg : (kW g h N)[i]? = some (g.2.2 i, .inl (g.2.1 3, n, .inr (.inr (.inr (.inl f))))) := by rw [kW_get hi, he]; rfl
  refine va_dast hx hb hK hW.1 hW.2 hS i 3 hg rfl hin hd (fun H1 locs1 hP1 hD1 hS1 => ?_)
  refine kk p l e s m args below meth c g A C H1 locs1 lsA ⟨?_, ?_⟩ hS1 hl (fun q => by cases q)
  · rw [← kW_set hi]; exact hP1
  · rw [← kW_set hi]; exact hD1
/-- a State into a row of States -/
theorem k_sast {i n v : Nat} {f : Nat → Option Nat} {j : Int32} {vs : List Value} (hd : decode K.2.1 pc = .ok (.aastore, 1)) (hp : pc + 1 = pc') (hi : i < N) (he : h i = kRf 4 n f) (hin : vp_in j n) (hv : v < N) (hev : h v = .inr (9, vs))
    (kk : kEv K R F mu pc' ls st (kU h i (kRf 4 n (va_up f j.toNatClampNeg (some v)))) N cs ss) : kEv K R F mu pc ls (.ref v :: .int j :: .ref i :: st) h N cs ss := by
  subst hp
  intro p l e s m args below meth c g A C H locs lsA hW hS hl hz
  obtain ⟨hx, hb, hml, hr, hts, hown, hlk, hst, hnm, htb, hK, hSt, hA⟩ := id C
  have hg : (kW g h N)[i]? = some (g.2.2 i, .inl (g.2.1 4, n, .inr (.inr (.inr (.inr (fun j => (f j).map g.2.2)))))) := by rw [kW_get hi, he]; rfl
  have hgv : (kW g h N)[v]? = some (g.2.2 v, .inr (9, vs.map (kV g))) := by rw [kW_get hv, hev]; rfl
  have hlt : j.toNatClampNeg < n := Nat.not_le.mp fun q => hin (Or.inr q)
  have h0 : ¬ j < 0 := fun q => hin (Or.inl q)
  obtain ⟨r', hr', cellV, g1, g2, g3, -⟩ := hW.1 v _ hgv
  have hcls := (hK.1 9 (RX9, TX9, 3) rfl).2
  obtain ⟨kA9, comp, k1, k2, k3, -⟩ := (hK.2 4 _ rfl).2
  have hcomp : comp = g.1.1 9 := Option.some.inj (k3.symm.trans hcls.1)
  subst hcomp
  obtain ⟨kC0, hkC, -⟩ := hcls.2
  refine W.aast hx hb (hW.1 i _ hg) (fun q h => by cases h) (fun h => by cases h) k1 k2 rfl hkC ⟨h0, by show _ < (arrV _ _ _).slots.size; rw [arrV_size]; exact hlt⟩ g1 (fun q h => by rw [g3] at h; cases h) (by rw [g2]; exact hkC) (by rw [g2]; exact va_assign hcls) rfl rfl hd fun H1 e1 z oq => ?_
  have he' : va_at g.1 vwCl (g.2.2 i, kC g (kRf 4 n (va_up f j.toNatClampNeg (some v)))) H1 := by
    show H1[g.2.2 i]? = some (vp_cell (g.2.1 4) (n, .inr (.inr (.inr (.inr (fun q => (va_up f j.toNatClampNeg (some v) q).map g.2.2))))))
    rw [e1]
    rw [vp_cell_q, vp_cell_q, arrV_store]
    congr 2
    funext q
    by_cases hq : q = j.toNatClampNeg
    · subst hq; simp [updV, va_up, va_rf]
    · simp [updV, va_up, hq]
  obtain ⟨w1, w2⟩ := kW_put (k := j.toNatClampNeg) hW hS hi z oq he'
  exact kk p l e s m args below meth c g A C H1 _ lsA w1 w2 hl (fun q => by rw [z]; exact hz q)
/-- a constant of the enum into a row of them -/
theorem k_east {i n a : Nat} {f : Nat → Option Nat} {j : Int32} (hd : decode K.2.1 pc = .ok (.aastore, 1)) (hp : pc + 1 = pc') (hi : i < N) (he : h i = kRf 5 n f) (hin : vp_in j n) (ha : a < 10)
    (kk : kEv K R F false pc' ls st (kU h i (kRf 5 n (va_up f j.toNatClampNeg (some (1010 + a))))) N cs ss) : kEv K R F false pc ls (.ref (1010 + a) :: .int j :: .ref i :: st) h N cs ss := by
  subst hp
  intro p l e s m args below meth c g A C H locs lsA hW hS hl hz
  obtain ⟨hx, hb, hml, hr, hts, hown, hlk, hst, hnm, htb, hK, hSt, hA⟩ := id C
  have hg : (kW g h N)[i]? = some (g.2.2 i, .inl (g.2.1 5, n, .inr (.inr (.inr (.inr (fun j => (f j).map g.2.2)))))) := by rw [kW_get hi, he]; rfl
  have hO := (hSt.2.2.2.2.2.2.1 a ha).1.kept hS.2.1
  have hAny : va_Any "BoomerangCourt$Command" s H (g.2.2 (1010 + a)) := by
    obtain ⟨cell, o1, o2, o3, -⟩ := hO
    obtain ⟨kA9, comp, k1, k2, k3, -⟩ := (hK.2 5 _ rfl).2
    have hcell : comp = cell.cls := Option.some.inj (k3.symm.trans o3)
    obtain ⟨kE0, hkE, -⟩ := Vm.findClass_spec o3
    refine ⟨cell, o1, o2, ⟨_, hkE⟩, fun comp' hc' => ?_⟩
    have : comp' = cell.cls := Option.some.inj (hc'.symm.trans o3)
    subst this
    show Vm.assignableAux s.vm (255 + 1) cell.cls cell.cls = true
    rw [Vm.assignableAux]
    simp
  refine va_astqM hx hb hK hW.1 hW.2 hS i 5 hg rfl hAny hin hd (fun H1 locs1 hP1 hD1 hS1 => ?_)
  have ee : (fun q => (va_up f j.toNatClampNeg (some (1010 + a)) q).map g.2.2) = va_up (fun q => (f q).map g.2.2) j.toNatClampNeg (some (g.2.2 (1010 + a))) := by
    funext q
    by_cases hq : q = j.toNatClampNeg
    · subst hq; simp [va_up]
    · simp [va_up, hq]
  have e3 : kC g (kRf 5 n (va_up f j.toNatClampNeg (some (1010 + a)))) = .inl (g.2.1 5, n, .inr (.inr (.inr (.inr (va_up (fun q => (f q).map g.2.2) j.toNatClampNeg (some (g.2.2 (1010 + a)))))))) := by
    rw [← ee]; rfl
  refine kk p l e s m args below meth c g A C H1 locs1 lsA ⟨?_, ?_⟩ hS1 hl (fun q => by cases q)
  · rw [← kW_set hi, e3]; exact hP1
  · rw [← kW_set hi, e3]; exact hD1
end KH
