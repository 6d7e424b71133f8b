/-! THE CALLS' ROWS, what throws, what is caught, what is made, what is static -/
section KD
variable {K J : kM} {R : Room} {F : kFn} {mu : Bool} {pc pc' : Nat} {ls st : List Value} {h : kH} {N cs ss mc ms : Nat}
theorem kV_app {g : kG} {v : Option Value} {st : List Value} : (v.map (kV g)).toList ++ st.map (kV g) = (v.toList ++ st).map (kV g) := by cases v <;> rfl
theorem kV_rev {g : kG} {as st : List Value} : (as.reverse ++ st).map (kV g) = (as.map (kV g)).reverse ++ st.map (kV g) := by rw [List.map_append, List.map_reverse]
theorem kV_room {g : kG} {m : MethodId} {lsA : Array Slot} {st0 : List Value} (hw : Nat.ble (st.map fun v => v.category).sum 8 = true) : 2 * (F0 m pc lsA st0).monitorRoom + ((st.map (kV g)).map fun v => v.category).sum ≤ 8 :=
  lv_room (by rw [kV_cats]; exact Nat.le_of_ble_eq_true hw)

theorem k_callV {Q : kQ} {idx r ci n0 : Nat} {fs : List Value} {T : u_T} (as : List Value) (cw : kCv K.1.cls idx J as.length) (hR : kRoom R J) (m : kMet J mu mc ms (.ref r :: as) h N Q) (hd : decode K.2.1 pc = .ok (.invokevirtual idx, 3)) (hp : pc + 3 = pc') (hi : r < N) (he : h r = .inr (ci, fs)) (hci : vwCl[ci]? = some (J.1.cls, T, n0)) (hw : Nat.ble (st.map fun v => v.category).sum 8 = true) (hcs : cs + mc ≤ R.cells ∧ ss + ms ≤ R.slots)
    (kk : ∀ (v : Option Value) (h' : kH) (N' : Nat), Q (.inl v) h' N' → kEv K R F mu pc' ls (v.toList ++ st) h' N' (cs + mc) (ss + ms))
    (kx : ∀ (E : String) (h' : kH) (N' : Nat), ¬ Q (.inr E) h' N') : kEv K R F mu pc ls (as.reverse ++ .ref r :: st) h N cs ss := by
  subst hp
  intro p l e s mi args below meth c g A C H locs lsA hW hS hl hz
  obtain ⟨hx, hb, hml, hr, hts, hown, hlk, hst, hnm, htb, hK, hSt, hA⟩ := id C
  have hg : (kW g h N)[r]? = some (g.2.2 r, .inr (ci, fs.map (kV g))) := by rw [kW_get hi, he]; rfl
  refine k_back (vx_runV (As := as.map (kV g)) (rest := st.map (kV g)) (b := g.2.2 r) ⟨hx, hb, hml, hown, hts⟩ (m l g H.size hst) ⟨kB_of hts cw.1 cw.2.1 cw.2.2.1 hR, hts _ cw.2.2.2.1, hts _ cw.2.2.2.2⟩ ⟨kPc_blind, va_recv hK hW.1 hci hg, fun U hU hw9 => kPc_of (av := .ref r :: as) hK hSt hA hW hS hz hU hw9⟩ rfl (by simp) hl.1 kV_rev (kV_room hw) hd hcs) hA hW hS (fun v h' N' H1 locs1 hq hW1 hS1 hz1 => ?_) (fun E h' N' _ _ _ _ hq _ _ _ _ _ _ => absurd hq (kx E h' N'))
  rw [kV_app]
  exact kk v h' N' hq p l e s mi args below meth c g A C H1 locs1 lsA hW1 hS1 hl hz1
theorem k_callI {Q : kQ} {idx r : Nat} (as : List Value) (cw : kCi K.1.cls idx J as.length) (hR : kRoom R J) (m : kMet J mu mc ms (.ref r :: as) h N Q) (hd : decode K.2.1 pc = .ok (.invokespecial idx, 3)) (hp : pc + 3 = pc') (hw : Nat.ble (st.map fun v => v.category).sum 8 = true) (hcs : cs + mc ≤ R.cells ∧ ss + ms ≤ R.slots)
    (kk : ∀ (v : Option Value) (h' : kH) (N' : Nat), Q (.inl v) h' N' → kEv K R F mu pc' ls (v.toList ++ st) h' N' (cs + mc) (ss + ms))
    (kx : ∀ (E : String) (h' : kH) (N' : Nat), ¬ Q (.inr E) h' N') : kEv K R F mu pc ls (as.reverse ++ .ref r :: st) h N cs ss := by
  subst hp
  intro p l e s mi args below meth c g A C H locs lsA hW hS hl hz
  obtain ⟨hx, hb, hml, hr, hts, hown, hlk, hst, hnm, htb, hK, hSt, hA⟩ := id C
  have hB := kB_of (mc := mc) (ms := ms) hts cw.1 cw.2.1 cw.2.2.2.2.1 hR
  rw [cw.2.2.1] at hB
  refine k_back (vx_runI (As := as.map (kV g)) (rest := st.map (kV g)) (b := g.2.2 r) ⟨hx, hb, hml, hown, hts⟩ (m l g H.size hst) ⟨hB, cw.2.2.2.1, hts _ cw.2.2.2.2.2⟩ ⟨kPc_blind, fun U hU hw9 => kPc_of (av := .ref r :: as) hK hSt hA hW hS hz hU hw9⟩ rfl (by simp) hl.1 kV_rev (kV_room hw) hd hcs) hA hW hS (fun v h' N' H1 locs1 hq hW1 hS1 hz1 => ?_) (fun E h' N' _ _ _ _ hq _ _ _ _ _ _ => absurd hq (kx E h' N'))
  rw [kV_app]
  exact kk v h' N' hq p l e s mi args below meth c g A C H1 locs1 lsA hW1 hS1 hl hz1
theorem k_callIN {Q : kQ} {idx r : Nat} {host : String} (as : List Value) (cw : kCiN K.1.cls idx J host as.length) (hR : kRoom R J) (m : kMet J mu mc ms (.ref r :: as) h N Q) (hd : decode K.2.1 pc = .ok (.invokespecial idx, 3)) (hp : pc + 3 = pc') (hw : Nat.ble (st.map fun v => v.category).sum 8 = true) (hcs : cs + mc ≤ R.cells ∧ ss + ms ≤ R.slots)
    (kk : ∀ (v : Option Value) (h' : kH) (N' : Nat), Q (.inl v) h' N' → kEv K R F mu pc' ls (v.toList ++ st) h' N' (cs + mc) (ss + ms))
    (kx : ∀ (E : String) (h' : kH) (N' : Nat), ¬ Q (.inr E) h' N') : kEv K R F mu pc ls (as.reverse ++ .ref r :: st) h N cs ss := by
  subst hp
  intro p l e s mi args below meth c g A C H locs lsA hW hS hl hz
  obtain ⟨hx, hb, hml, hr, hts, hown, hlk, hst, hnm, htb, hK, hSt, hA⟩ := id C
  have hB := kN_of (mc := mc) (ms := ms) hts hSt.1 cw.1 cw.2.1 cw.2.2.2.2.1 hR
  rw [cw.2.2.1] at hB
  refine k_back (vx_runIN (As := as.map (kV g)) (rest := st.map (kV g)) (b := g.2.2 r) ⟨hx, hb, hml, hown, hts⟩ (m l g H.size hst) ⟨hB, cw.2.2.2.1, hts _ cw.2.2.2.2.2⟩ ⟨kPc_blind, fun U hU hw9 => kPc_of (av := .ref r :: as) hK hSt hA hW hS hz hU hw9⟩ rfl (by simp) hl.1 kV_rev (kV_room hw) hd hcs) hA hW hS (fun v h' N' H1 locs1 hq hW1 hS1 hz1 => ?_) (fun E h' N' _ _ _ _ hq _ _ _ _ _ _ => absurd hq (kx E h' N'))
  rw [kV_app]
  exact kk v h' N' hq p l e s mi args below meth c g A C H1 locs1 lsA hW1 hS1 hl hz1
theorem k_callS {Q : kQ} {idx : Nat} (as : List Value) (cw : kCs K.1.cls idx J as.length) (hR : kRoom R J) (m : kMet J mu mc ms as h N Q) (hd : decode K.2.1 pc = .ok (.invokestatic idx, 3)) (hp : pc + 3 = pc') (hw : Nat.ble (st.map fun v => v.category).sum 8 = true) (hcs : cs + mc ≤ R.cells ∧ ss + ms ≤ R.slots)
    (kk : ∀ (v : Option Value) (h' : kH) (N' : Nat), Q (.inl v) h' N' → kEv K R F mu pc' ls (v.toList ++ st) h' N' (cs + mc) (ss + ms))
    (kx : ∀ (E : String) (h' : kH) (N' : Nat), ¬ Q (.inr E) h' N') : kEv K R F mu pc ls (as.reverse ++ st) h N cs ss := by
  subst hp
  intro p l e s mi args below meth c g A C H locs lsA hW hS hl hz
  obtain ⟨hx, hb, hml, hr, hts, hown, hlk, hst, hnm, htb, hK, hSt, hA⟩ := id C
  refine k_back (vx_runS (As := as.map (kV g)) (rest := st.map (kV g)) ⟨hx, hb, hml, hown, hts⟩ (m l g H.size hst) ⟨kB_of hts cw.1 cw.2.1 cw.2.2.1 hR, hts _ cw.2.2.2⟩ ⟨kPc_blind, fun U hU hw9 => kPc_of (av := as) hK hSt hA hW hS hz hU hw9⟩ rfl (by simp) hl.1 kV_rev (kV_room hw) hd hcs) hA hW hS (fun v h' N' H1 locs1 hq hW1 hS1 hz1 => ?_) (fun E h' N' _ _ _ _ hq _ _ _ _ _ _ => absurd hq (kx E h' N'))
  rw [kV_app]
  exact kk v h' N' hq p l e s mi args below meth c g A C H1 locs1 lsA hW1 hS1 hl hz1
theorem k_callSN {Q : kQ} {idx : Nat} {host : String} (as : List Value) (cw : kCsN K.1.cls idx J host as.length) (hR : kRoom R J) (m : kMet J mu mc ms as h N Q) (hd : decode K.2.1 pc = .ok (.invokestatic idx, 3)) (hp : pc + 3 = pc') (hw : Nat.ble (st.map fun v => v.category).sum 8 = true) (hcs : cs + mc ≤ R.cells ∧ ss + ms ≤ R.slots)
    (kk : ∀ (v : Option Value) (h' : kH) (N' : Nat), Q (.inl v) h' N' → kEv K R F mu pc' ls (v.toList ++ st) h' N' (cs + mc) (ss + ms))
    (kx : ∀ (E : String) (h' : kH) (N' : Nat), ¬ Q (.inr E) h' N') : kEv K R F mu pc ls (as.reverse ++ st) h N cs ss := by
  subst hp
  intro p l e s mi args below meth c g A C H locs lsA hW hS hl hz
  obtain ⟨hx, hb, hml, hr, hts, hown, hlk, hst, hnm, htb, hK, hSt, hA⟩ := id C
  refine k_back (vx_runSN (As := as.map (kV g)) (rest := st.map (kV g)) ⟨hx, hb, hml, hown, hts⟩ (m l g H.size hst) ⟨kN_of hts hSt.1 cw.1 cw.2.1 cw.2.2.1 hR, hts _ cw.2.2.2, trivial⟩ ⟨kPc_blind, fun U hU hw9 => kPc_of (av := as) hK hSt hA hW hS hz hU hw9⟩ rfl (by simp) hl.1 kV_rev (kV_room hw) hd hcs) hA hW hS (fun v h' N' H1 locs1 hq hW1 hS1 hz1 => ?_) (fun E h' N' _ _ _ _ hq _ _ _ _ _ _ => absurd hq (kx E h' N'))
  rw [kV_app]
  exact kk v h' N' hq p l e s mi args below meth c g A C H1 locs1 lsA hW1 hS1 hl hz1
theorem k_callST {Q : kQ} {idx : Nat} (as : List Value) (cw : kCsT K.1.cls idx J as.length) (hR : kRoom R J) (m : kMet J mu mc ms as h N Q) (hd : decode K.2.1 pc = .ok (.invokestatic idx, 3)) (hp : pc + 3 = pc') (hw : Nat.ble (st.map fun v => v.category).sum 8 = true) (hcs : cs + mc ≤ R.cells ∧ ss + ms ≤ R.slots)
    (kk : ∀ (v : Option Value) (h' : kH) (N' : Nat), Q (.inl v) h' N' → kEv K R F mu pc' ls (v.toList ++ st) h' N' (cs + mc) (ss + ms))
    (kx : ∀ (E : String) (h' : kH) (N' : Nat), ¬ Q (.inr E) h' N') (hht : kCode J = Cond.codeWith J.1 J.2.1 J.2.2.1 J.2.2.2.1 J.2.2.2.2.1) : kEv K R F mu pc ls (as.reverse ++ st) h N cs ss := by
  subst hp
  intro p l e s mi args below meth c g A C H locs lsA hW hS hl hz
  obtain ⟨hx, hb, hml, hr, hts, hown, hlk, hst, hnm, htb, hK, hSt, hA⟩ := id C
  have hC : vx_CSW R s args K.1.cls idx J.1 J.2.1 J.2.2.1 J.2.2.2.1 J.2.2.2.2.1 (kWs J) (kRm J mc ms) mc ms as.length := by
    refine ⟨⟨rfl, rfl, hR.1, hR.2, kWs_warm hts cw.1, by rw [← hht]; exact List.mem_cons_self⟩, by rw [← hht]; exact hts _ cw.1.2.2.2, hts _ cw.1.1, cw.1.2.1, fun sig h => ?_, hts _ cw.2.1, hts _ cw.2.2⟩
    have h2 := cw.1.2.2.1
    rw [h] at h2
    exact (Option.some.inj h2).symm
  refine k_back (vx_runSX (As := as.map (kV g)) (rest := st.map (kV g)) ⟨hx, hb, hml, hown, hts⟩ (m l g H.size hst) hC ⟨kPc_blind, fun U hU hw9 => kPc_of (av := as) hK hSt hA hW hS hz hU hw9⟩ rfl (by simp) hl.1 kV_rev (kV_room hw) hd hcs) hA hW hS (fun v h' N' H1 locs1 hq hW1 hS1 hz1 => ?_) (fun E h' N' _ _ _ _ hq _ _ _ _ _ _ => absurd hq (kx E h' N'))
  rw [kV_app]
  exact kk v h' N' hq p l e s mi args below meth c g A C H1 locs1 lsA hW1 hS1 hl hz1
theorem k_callV0 {Q : kQ} {idx r ci n0 : Nat} {fs : List Value} {T : u_T} (cw : kCv K.1.cls idx J 0) (hR : kRoom R J) (m : kMet J mu mc ms (.ref r :: []) h N Q) (hd : decode K.2.1 pc = .ok (.invokevirtual idx, 3)) (hp : pc + 3 = pc') (hi : r < N) (he : h r = .inr (ci, fs)) (hci : vwCl[ci]? = some (J.1.cls, T, n0)) (hw : Nat.ble (st.map fun v => v.category).sum 8 = true) (hcs : cs + mc ≤ R.cells ∧ ss + ms ≤ R.slots)
    (kk : ∀ (v : Option Value) (h' : kH) (N' : Nat), Q (.inl v) h' N' → kEv K R F mu pc' ls (v.toList ++ st) h' N' (cs + mc) (ss + ms))
    (kx : ∀ (E : String) (h' : kH) (N' : Nat), ¬ Q (.inr E) h' N') : kEv K R F mu pc ls (.ref r :: st) h N cs ss := k_callV [] cw hR m hd hp hi he hci hw hcs kk kx
theorem k_callV1 {Q : kQ} {idx r ci n0 : Nat} {fs : List Value} {T : u_T} {x1 : Value} (cw : kCv K.1.cls idx J 1) (hR : kRoom R J) (m : kMet J mu mc ms (.ref r :: [x1]) h N Q) (hd : decode K.2.1 pc = .ok (.invokevirtual idx, 3)) (hp : pc + 3 = pc') (hi : r < N) (he : h r = .inr (ci, fs)) (hci : vwCl[ci]? = some (J.1.cls, T, n0)) (hw : Nat.ble (st.map fun v => v.category).sum 8 = true) (hcs : cs + mc ≤ R.cells ∧ ss + ms ≤ R.slots)
    (kk : ∀ (v : Option Value) (h' : kH) (N' : Nat), Q (.inl v) h' N' → kEv K R F mu pc' ls (v.toList ++ st) h' N' (cs + mc) (ss + ms))
    (kx : ∀ (E : String) (h' : kH) (N' : Nat), ¬ Q (.inr E) h' N') : kEv K R F mu pc ls (x1 :: .ref r :: st) h N cs ss := k_callV [x1] cw hR m hd hp hi he hci hw hcs kk kx
theorem k_callV2 {Q : kQ} {idx r ci n0 : Nat} {fs : List Value} {T : u_T} {x1 x2 : Value} (cw : kCv K.1.cls idx J 2) (hR : kRoom R J) (m : kMet J mu mc ms (.ref r :: [x1, x2]) h N Q) (hd : decode K.2.1 pc = .ok (.invokevirtual idx, 3)) (hp : pc + 3 = pc') (hi : r < N) (he : h r = .inr (ci, fs)) (hci : vwCl[ci]? = some (J.1.cls, T, n0)) (hw : Nat.ble (st.map fun v => v.category).sum 8 = true) (hcs : cs + mc ≤ R.cells ∧ ss + ms ≤ R.slots)
    (kk : ∀ (v : Option Value) (h' : kH) (N' : Nat), Q (.inl v) h' N' → kEv K R F mu pc' ls (v.toList ++ st) h' N' (cs + mc) (ss + ms))
    (kx : ∀ (E : String) (h' : kH) (N' : Nat), ¬ Q (.inr E) h' N') : kEv K R F mu pc ls (x2 :: x1 :: .ref r :: st) h N cs ss := k_callV [x1, x2] cw hR m hd hp hi he hci hw hcs kk kx
theorem k_callV3 {Q : kQ} {idx r ci n0 : Nat} {fs : List Value} {T : u_T} {x1 x2 x3 : Value} (cw : kCv K.1.cls idx J 3) (hR : kRoom R J) (m : kMet J mu mc ms (.ref r :: [x1, x2, x3]) h N Q) (hd : decode K.2.1 pc = .ok (.invokevirtual idx, 3)) (hp : pc + 3 = pc') (hi : r < N) (he : h r = .inr (ci, fs)) (hci : vwCl[ci]? = some (J.1.cls, T, n0)) (hw : Nat.ble (st.map fun v => v.category).sum 8 = true) (hcs : cs + mc ≤ R.cells ∧ ss + ms ≤ R.slots)
    (kk : ∀ (v : Option Value) (h' : kH) (N' : Nat), Q (.inl v) h' N' → kEv K R F mu pc' ls (v.toList ++ st) h' N' (cs + mc) (ss + ms))
    (kx : ∀ (E : String) (h' : kH) (N' : Nat), ¬ Q (.inr E) h' N') : kEv K R F mu pc ls (x3 :: x2 :: x1 :: .ref r :: st) h N cs ss := k_callV [x1, x2, x3] cw hR m hd hp hi he hci hw hcs kk kx
theorem k_callV4 {Q : kQ} {idx r ci n0 : Nat} {fs : List Value} {T : u_T} {x1 x2 x3 x4 : Value} (cw : kCv K.1.cls idx J 4) (hR : kRoom R J) (m : kMet J mu mc ms (.ref r :: [x1, x2, x3, x4]) h N Q) (hd : decode K.2.1 pc = .ok (.invokevirtual idx, 3)) (hp : pc + 3 = pc') (hi : r < N) (he : h r = .inr (ci, fs)) (hci : vwCl[ci]? = some (J.1.cls, T, n0)) (hw : Nat.ble (st.map fun v => v.category).sum 8 = true) (hcs : cs + mc ≤ R.cells ∧ ss + ms ≤ R.slots)
    (kk : ∀ (v : Option Value) (h' : kH) (N' : Nat), Q (.inl v) h' N' → kEv K R F mu pc' ls (v.toList ++ st) h' N' (cs + mc) (ss + ms))
    (kx : ∀ (E : String) (h' : kH) (N' : Nat), ¬ Q (.inr E) h' N') : kEv K R F mu pc ls (x4 :: x3 :: x2 :: x1 :: .ref r :: st) h N cs ss := k_callV [x1, x2, x3, x4] cw hR m hd hp hi he hci hw hcs kk kx
theorem k_callV5 {Q : kQ} {idx r ci n0 : Nat} {fs : List Value} {T : u_T} {x1 x2 x3 x4 x5 : Value} (cw : kCv K.1.cls idx J 5) (hR : kRoom R J) (m : kMet J mu mc ms (.ref r :: [x1, x2, x3, x4, x5]) h N Q) (hd : decode K.2.1 pc = .ok (.invokevirtual idx, 3)) (hp : pc + 3 = pc') (hi : r < N) (he : h r = .inr (ci, fs)) (hci : vwCl[ci]? = some (J.1.cls, T, n0)) (hw : Nat.ble (st.map fun v => v.category).sum 8 = true) (hcs : cs + mc ≤ R.cells ∧ ss + ms ≤ R.slots)
    (kk : ∀ (v : Option Value) (h' : kH) (N' : Nat), Q (.inl v) h' N' → kEv K R F mu pc' ls (v.toList ++ st) h' N' (cs + mc) (ss + ms))
    (kx : ∀ (E : String) (h' : kH) (N' : Nat), ¬ Q (.inr E) h' N') : kEv K R F mu pc ls (x5 :: x4 :: x3 :: x2 :: x1 :: .ref r :: st) h N cs ss := k_callV [x1, x2, x3, x4, x5] cw hR m hd hp hi he hci hw hcs kk kx
theorem k_callI0 {Q : kQ} {idx r : Nat} (cw : kCi K.1.cls idx J 0) (hR : kRoom R J) (m : kMet J mu mc ms (.ref r :: []) h N Q) (hd : decode K.2.1 pc = .ok (.invokespecial idx, 3)) (hp : pc + 3 = pc') (hw : Nat.ble (st.map fun v => v.category).sum 8 = true) (hcs : cs + mc ≤ R.cells ∧ ss + ms ≤ R.slots)
    (kk : ∀ (v : Option Value) (h' : kH) (N' : Nat), Q (.inl v) h' N' → kEv K R F mu pc' ls (v.toList ++ st) h' N' (cs + mc) (ss + ms))
    (kx : ∀ (E : String) (h' : kH) (N' : Nat), ¬ Q (.inr E) h' N') : kEv K R F mu pc ls (.ref r :: st) h N cs ss := k_callI [] cw hR m hd hp hw hcs kk kx
theorem k_callI1 {Q : kQ} {idx r : Nat} {x1 : Value} (cw : kCi K.1.cls idx J 1) (hR : kRoom R J) (m : kMet J mu mc ms (.ref r :: [x1]) h N Q) (hd : decode K.2.1 pc = .ok (.invokespecial idx, 3)) (hp : pc + 3 = pc') (hw : Nat.ble (st.map fun v => v.category).sum 8 = true) (hcs : cs + mc ≤ R.cells ∧ ss + ms ≤ R.slots)
    (kk : ∀ (v : Option Value) (h' : kH) (N' : Nat), Q (.inl v) h' N' → kEv K R F mu pc' ls (v.toList ++ st) h' N' (cs + mc) (ss + ms))
    (kx : ∀ (E : String) (h' : kH) (N' : Nat), ¬ Q (.inr E) h' N') : kEv K R F mu pc ls (x1 :: .ref r :: st) h N cs ss := k_callI [x1] cw hR m hd hp hw hcs kk kx
theorem k_callIN0 {Q : kQ} {idx r : Nat} {host : String} (cw : kCiN K.1.cls idx J host 0) (hR : kRoom R J) (m : kMet J mu mc ms (.ref r :: []) h N Q) (hd : decode K.2.1 pc = .ok (.invokespecial idx, 3)) (hp : pc + 3 = pc') (hw : Nat.ble (st.map fun v => v.category).sum 8 = true) (hcs : cs + mc ≤ R.cells ∧ ss + ms ≤ R.slots)
    (kk : ∀ (v : Option Value) (h' : kH) (N' : Nat), Q (.inl v) h' N' → kEv K R F mu pc' ls (v.toList ++ st) h' N' (cs + mc) (ss + ms))
    (kx : ∀ (E : String) (h' : kH) (N' : Nat), ¬ Q (.inr E) h' N') : kEv K R F mu pc ls (.ref r :: st) h N cs ss := k_callIN [] cw hR m hd hp hw hcs kk kx
theorem k_callS1 {Q : kQ} {idx : Nat} {x1 : Value} (cw : kCs K.1.cls idx J 1) (hR : kRoom R J) (m : kMet J mu mc ms [x1] h N Q) (hd : decode K.2.1 pc = .ok (.invokestatic idx, 3)) (hp : pc + 3 = pc') (hw : Nat.ble (st.map fun v => v.category).sum 8 = true) (hcs : cs + mc ≤ R.cells ∧ ss + ms ≤ R.slots)
    (kk : ∀ (v : Option Value) (h' : kH) (N' : Nat), Q (.inl v) h' N' → kEv K R F mu pc' ls (v.toList ++ st) h' N' (cs + mc) (ss + ms))
    (kx : ∀ (E : String) (h' : kH) (N' : Nat), ¬ Q (.inr E) h' N') : kEv K R F mu pc ls (x1 :: st) h N cs ss := k_callS [x1] cw hR m hd hp hw hcs kk kx
theorem k_callS2 {Q : kQ} {idx : Nat} {x1 x2 : Value} (cw : kCs K.1.cls idx J 2) (hR : kRoom R J) (m : kMet J mu mc ms [x1, x2] h N Q) (hd : decode K.2.1 pc = .ok (.invokestatic idx, 3)) (hp : pc + 3 = pc') (hw : Nat.ble (st.map fun v => v.category).sum 8 = true) (hcs : cs + mc ≤ R.cells ∧ ss + ms ≤ R.slots)
    (kk : ∀ (v : Option Value) (h' : kH) (N' : Nat), Q (.inl v) h' N' → kEv K R F mu pc' ls (v.toList ++ st) h' N' (cs + mc) (ss + ms))
    (kx : ∀ (E : String) (h' : kH) (N' : Nat), ¬ Q (.inr E) h' N') : kEv K R F mu pc ls (x2 :: x1 :: st) h N cs ss := k_callS [x1, x2] cw hR m hd hp hw hcs kk kx
theorem k_callS3 {Q : kQ} {idx : Nat} {x1 x2 x3 : Value} (cw : kCs K.1.cls idx J 3) (hR : kRoom R J) (m : kMet J mu mc ms [x1, x2, x3] h N Q) (hd : decode K.2.1 pc = .ok (.invokestatic idx, 3)) (hp : pc + 3 = pc') (hw : Nat.ble (st.map fun v => v.category).sum 8 = true) (hcs : cs + mc ≤ R.cells ∧ ss + ms ≤ R.slots)
    (kk : ∀ (v : Option Value) (h' : kH) (N' : Nat), Q (.inl v) h' N' → kEv K R F mu pc' ls (v.toList ++ st) h' N' (cs + mc) (ss + ms))
    (kx : ∀ (E : String) (h' : kH) (N' : Nat), ¬ Q (.inr E) h' N') : kEv K R F mu pc ls (x3 :: x2 :: x1 :: st) h N cs ss := k_callS [x1, x2, x3] cw hR m hd hp hw hcs kk kx
theorem k_callSN1 {Q : kQ} {idx : Nat} {host : String} {x1 : Value} (cw : kCsN K.1.cls idx J host 1) (hR : kRoom R J) (m : kMet J mu mc ms [x1] h N Q) (hd : decode K.2.1 pc = .ok (.invokestatic idx, 3)) (hp : pc + 3 = pc') (hw : Nat.ble (st.map fun v => v.category).sum 8 = true) (hcs : cs + mc ≤ R.cells ∧ ss + ms ≤ R.slots)
    (kk : ∀ (v : Option Value) (h' : kH) (N' : Nat), Q (.inl v) h' N' → kEv K R F mu pc' ls (v.toList ++ st) h' N' (cs + mc) (ss + ms))
    (kx : ∀ (E : String) (h' : kH) (N' : Nat), ¬ Q (.inr E) h' N') : kEv K R F mu pc ls (x1 :: st) h N cs ss := k_callSN [x1] cw hR m hd hp hw hcs kk kx
theorem k_callSN2 {Q : kQ} {idx : Nat} {host : String} {x1 x2 : Value} (cw : kCsN K.1.cls idx J host 2) (hR : kRoom R J) (m : kMet J mu mc ms [x1, x2] h N Q) (hd : decode K.2.1 pc = .ok (.invokestatic idx, 3)) (hp : pc + 3 = pc') (hw : Nat.ble (st.map fun v => v.category).sum 8 = true) (hcs : cs + mc ≤ R.cells ∧ ss + ms ≤ R.slots)
    (kk : ∀ (v : Option Value) (h' : kH) (N' : Nat), Q (.inl v) h' N' → kEv K R F mu pc' ls (v.toList ++ st) h' N' (cs + mc) (ss + ms))
    (kx : ∀ (E : String) (h' : kH) (N' : Nat), ¬ Q (.inr E) h' N') : kEv K R F mu pc ls (x2 :: x1 :: st) h N cs ss := k_callSN [x1, x2] cw hR m hd hp hw hcs kk kx
theorem k_callST0 {Q : kQ} {idx : Nat} (cw : kCsT K.1.cls idx J 0) (hR : kRoom R J) (m : kMet J mu mc ms [] h N Q) (hd : decode K.2.1 pc = .ok (.invokestatic idx, 3)) (hp : pc + 3 = pc') (hw : Nat.ble (st.map fun v => v.category).sum 8 = true) (hcs : cs + mc ≤ R.cells ∧ ss + ms ≤ R.slots)
    (kk : ∀ (v : Option Value) (h' : kH) (N' : Nat), Q (.inl v) h' N' → kEv K R F mu pc' ls (v.toList ++ st) h' N' (cs + mc) (ss + ms))
    (kx : ∀ (E : String) (h' : kH) (N' : Nat), ¬ Q (.inr E) h' N') (hht : kCode J = Cond.codeWith J.1 J.2.1 J.2.2.1 J.2.2.2.1 J.2.2.2.2.1) : kEv K R F mu pc ls (st) h N cs ss := k_callST [] cw hR m hd hp hw hcs kk kx hht
theorem k_callST1 {Q : kQ} {idx : Nat} {x1 : Value} (cw : kCsT K.1.cls idx J 1) (hR : kRoom R J) (m : kMet J mu mc ms [x1] h N Q) (hd : decode K.2.1 pc = .ok (.invokestatic idx, 3)) (hp : pc + 3 = pc') (hw : Nat.ble (st.map fun v => v.category).sum 8 = true) (hcs : cs + mc ≤ R.cells ∧ ss + ms ≤ R.slots)
    (kk : ∀ (v : Option Value) (h' : kH) (N' : Nat), Q (.inl v) h' N' → kEv K R F mu pc' ls (v.toList ++ st) h' N' (cs + mc) (ss + ms))
    (kx : ∀ (E : String) (h' : kH) (N' : Nat), ¬ Q (.inr E) h' N') (hht : kCode J = Cond.codeWith J.1 J.2.1 J.2.2.1 J.2.2.2.1 J.2.2.2.2.1) : kEv K R F mu pc ls (x1 :: st) h N cs ss := k_callST [x1] cw hR m hd hp hw hcs kk kx hht
theorem k_callST2 {Q : kQ} {idx : Nat} {x1 x2 : Value} (cw : kCsT K.1.cls idx J 2) (hR : kRoom R J) (m : kMet J mu mc ms [x1, x2] h N Q) (hd : decode K.2.1 pc = .ok (.invokestatic idx, 3)) (hp : pc + 3 = pc') (hw : Nat.ble (st.map fun v => v.category).sum 8 = true) (hcs : cs + mc ≤ R.cells ∧ ss + ms ≤ R.slots)
    (kk : ∀ (v : Option Value) (h' : kH) (N' : Nat), Q (.inl v) h' N' → kEv K R F mu pc' ls (v.toList ++ st) h' N' (cs + mc) (ss + ms))
    (kx : ∀ (E : String) (h' : kH) (N' : Nat), ¬ Q (.inr E) h' N') (hht : kCode J = Cond.codeWith J.1 J.2.1 J.2.2.1 J.2.2.2.1 J.2.2.2.2.1) : kEv K R F mu pc ls (x2 :: x1 :: st) h N cs ss := k_callST [x1, x2] cw hR m hd hp hw hcs kk kx hht
theorem k_callST3 {Q : kQ} {idx : Nat} {x1 x2 x3 : Value} (cw : kCsT K.1.cls idx J 3) (hR : kRoom R J) (m : kMet J mu mc ms [x1, x2, x3] h N Q) (hd : decode K.2.1 pc = .ok (.invokestatic idx, 3)) (hp : pc + 3 = pc') (hw : Nat.ble (st.map fun v => v.category).sum 8 = true) (hcs : cs + mc ≤ R.cells ∧ ss + ms ≤ R.slots)
    (kk : ∀ (v : Option Value) (h' : kH) (N' : Nat), Q (.inl v) h' N' → kEv K R F mu pc' ls (v.toList ++ st) h' N' (cs + mc) (ss + ms))
    (kx : ∀ (E : String) (h' : kH) (N' : Nat), ¬ Q (.inr E) h' N') (hht : kCode J = Cond.codeWith J.1 J.2.1 J.2.2.1 J.2.2.2.1 J.2.2.2.2.1) : kEv K R F mu pc ls (x3 :: x2 :: x1 :: st) h N cs ss := k_callST [x1, x2, x3] cw hR m hd hp hw hcs kk kx hht
theorem k_callST4 {Q : kQ} {idx : Nat} {x1 x2 x3 x4 : Value} (cw : kCsT K.1.cls idx J 4) (hR : kRoom R J) (m : kMet J mu mc ms [x1, x2, x3, x4] h N Q) (hd : decode K.2.1 pc = .ok (.invokestatic idx, 3)) (hp : pc + 3 = pc') (hw : Nat.ble (st.map fun v => v.category).sum 8 = true) (hcs : cs + mc ≤ R.cells ∧ ss + ms ≤ R.slots)
    (kk : ∀ (v : Option Value) (h' : kH) (N' : Nat), Q (.inl v) h' N' → kEv K R F mu pc' ls (v.toList ++ st) h' N' (cs + mc) (ss + ms))
    (kx : ∀ (E : String) (h' : kH) (N' : Nat), ¬ Q (.inr E) h' N') (hht : kCode J = Cond.codeWith J.1 J.2.1 J.2.2.1 J.2.2.2.1 J.2.2.2.2.1) : kEv K R F mu pc ls (x4 :: x3 :: x2 :: x1 :: st) h N cs ss := k_callST [x1, x2, x3, x4] cw hR m hd hp hw hcs kk kx hht
theorem k_callST5 {Q : kQ} {idx : Nat} {x1 x2 x3 x4 x5 : Value} (cw : kCsT K.1.cls idx J 5) (hR : kRoom R J) (m : kMet J mu mc ms [x1, x2, x3, x4, x5] h N Q) (hd : decode K.2.1 pc = .ok (.invokestatic idx, 3)) (hp : pc + 3 = pc') (hw : Nat.ble (st.map fun v => v.category).sum 8 = true) (hcs : cs + mc ≤ R.cells ∧ ss + ms ≤ R.slots)
    (kk : ∀ (v : Option Value) (h' : kH) (N' : Nat), Q (.inl v) h' N' → kEv K R F mu pc' ls (v.toList ++ st) h' N' (cs + mc) (ss + ms))
    (kx : ∀ (E : String) (h' : kH) (N' : Nat), ¬ Q (.inr E) h' N') (hht : kCode J = Cond.codeWith J.1 J.2.1 J.2.2.1 J.2.2.2.1 J.2.2.2.2.1) : kEv K R F mu pc ls (x5 :: x4 :: x3 :: x2 :: x1 :: st) h N cs ss := k_callST [x1, x2, x3, x4, x5] cw hR m hd hp hw hcs kk kx hht
/-! throws -/
def kThr (own : String) (ik ic : Nat) (E : String) (names : List String) : Prop :=
  Bundle.fit E = true ∧ (∀ n ∈ names, Bundle.fit n = true) ∧ Cond.classLink own ik E ∈ gT ∧ Cond.initialized E ∈ gT ∧ (∀ w ∈ vx_atS own ic E names, w ∈ gT ∨ w ∈ gT2) ∧ (∀ w ∈ Cond.classLink own ik E :: Cond.initialized E :: vx_atS own ic E names, vx_ot w = true)
theorem k_throw {Q : kQ} {ik is ic : Nat} {E text : String} {names : List String} (th : kThr K.1.cls ik ic E names) (tx : (K.1.cls, is, text) ∈ kMs) (hh : K.2.2.2.2.1 = []) (d0 : decode K.2.1 pc = .ok (.new ik, 3)) (d3 : decode K.2.1 (pc + 3) = .ok (.dup, 1)) (d4 : decode K.2.1 (pc + 4) = .ok (.ldc is, 2)) (d6 : decode K.2.1 (pc + 6) = .ok (.invokespecial ic, 3)) (d9 : decode K.2.1 (pc + 9) = .ok (.athrow, 1))
    (hRf : names.length + 3 < R.frames) (hRl : (st.map fun v => v.category).sum + (13 * (names.length + 1) + 43) ≤ R.locals) (hRc : cs + 1 ≤ R.cells ∧ ss + 6 ≤ R.slots) (hc : cs + 1 ≤ mc) (hs : ss + 6 ≤ ms) (hQ : Q (.inr E) h N) : kEv K R (kFm false mc ms Q) false pc ls st h N cs ss := by
  intro p l e s m args below meth c g A C H locs lsA hW hS hl hz
  obtain ⟨hx, hb, hml, hr, hts, hown, hlk, hst, hnm, htb, hK, hSt, hA⟩ := id C
  obtain ⟨t1, t2, t3, t4, t5, t6⟩ := th
  obtain ⟨sa, hsa⟩ := hSt.2.2.1 _ tx
  refine vx_throwS hx hb hst hown t1 t2 (hts _ t3) (hts _ t4) hsa (fun w hw => ?_) t6 hSt.2.1.1 hSt.2.1.2 hS (by rw [hl.1, hml]) d0 d3 d4 d6 d9 ?_ hRf (by rw [kV_cats]; exact hRl) hRc.1 hRc.2 hlk (fun t hal hz1 ho => ?_) hS.2.2 hc hs
  · rcases t5 w hw with hw2 | hw2
    · exact hts _ hw2
    · have h3 := hSt.1 w hw2
      have hg : gN w = true := (List.mem_filter.mp hw2).2
      cases w <;> first
        | exact va_Nw.use rfl h3
        | (rename_i t9; cases t9 <;> first | exact va_AO.use h3 | cases hg)
        | cases hg
  · rw [htb, hh]
    intro x hx9
    cases hx9
  · refine ⟨h, N, hQ, ⟨hW.1.kept (fun k x hx9 => ho x.1 ((hW.1 k x hx9).lt)), hW.2⟩, (fun q => by cases q), Nat.le_trans hS.1 hz1, fun q h1 h2 => ?_⟩
    rw [ho q (Nat.lt_of_lt_of_le h1 hS.1)]
    exact hS.2.1 q h1 h2
/-! caught: the handler stores what was thrown and answers n -/
theorem k_callVx {Q Q' : kQ} {idx r ci n0 : Nat} {fs : List Value} {T : u_T} (as : List Value) (cw : kCv K.1.cls idx J as.length) (hR : kRoom R J) (m : kMet J false mc ms (.ref r :: as) h N Q) (hd : decode K.2.1 pc = .ok (.invokevirtual idx, 3)) (hi : r < N) (he : h r = .inr (ci, fs)) (hci : vwCl[ci]? = some (J.1.cls, T, n0)) (hw : Nat.ble (st.map fun v => v.category).sum 8 = true) (hcs : cs + mc ≤ R.cells ∧ ss + ms ≤ R.slots)
    (E : String) (kx : ∀ (o : kOut) (h' : kH) (N' : Nat), Q o h' N' → o = .inr E) (pre suf : List (Nat × Nat × Nat × Nat)) (x : Nat × Nat × Nat × Nat) (htab : K.2.2.2.2.1 = pre ++ x :: suf)
    (hpass : ∀ z ∈ pre, z.2.2.2 ≠ 0 ∧ ∃ nm : String, Cond.classLink K.1.cls z.2.2.2 nm ∈ gT ∧ (E, nm) ∈ kNc) (hcov : x.1 ≤ pc ∧ pc < x.2.1) (h0 : x.2.2.2 ≠ 0) (hlink : Cond.classLink K.1.cls x.2.2.2 E ∈ gT) (hcast : Cond.castable E E ∈ gT2)
    (q4 : Fin 4) (i : Nat) (hqi : (q4 : Nat) = i) (hda : decode K.2.1 x.2.2.1 = .ok (.astore_n q4, 1) ∨ decode K.2.1 x.2.2.1 = .ok (.astore i, 2)) (hin : i < K.2.2.1) (v : Int32) (n : Int) (hnv : Int32.ofInt n = v) (la : Nat) (hla : (decode K.2.1 x.2.2.1 = .ok (.astore_n q4, 1) → la = 1) ∧ (decode K.2.1 x.2.2.1 = .ok (.astore i, 2) → la = 2)) (hdc : decode K.2.1 (x.2.2.1 + la) = .ok (.iconst n, 1)) (hdr : decode K.2.1 (x.2.2.1 + la + 1) = .ok (.ireturn, 1)) (hret : K.2.2.2.1 = some .int)
    {mc2 ms2 : Nat} (hc : cs + mc ≤ mc2) (hs : ss + ms ≤ ms2) (hQ : ∀ (h' : kH) (N' : Nat), Q (.inr E) h' N' → Q' (.inl (some (.int v))) h' N') : kEv K R (kFm false mc2 ms2 Q') false pc ls (as.reverse ++ .ref r :: st) h N cs ss := by
  intro p l e s mi args below meth c g A C H locs lsA hW hS hl hz
  obtain ⟨hx, hb, hml, hr, hts, hown, hlk, hst, hnm, htb, hK, hSt, hA⟩ := id C
  have hg : (kW g h N)[r]? = some (g.2.2 r, .inr (ci, fs.map (kV g))) := by rw [kW_get hi, he]; rfl
  refine k_back (vx_runV (As := as.map (kV g)) (rest := st.map (kV g)) (b := g.2.2 r) ⟨hx, hb, hml, hown, hts⟩ (m l g H.size hst) ⟨kB_of hts cw.1 cw.2.1 cw.2.2.1 hR, hts _ cw.2.2.2.1, hts _ cw.2.2.2.2⟩ ⟨kPc_blind, va_recv hK hW.1 hci hg, fun U hU hw9 => kPc_of (av := .ref r :: as) hK hSt hA hW hS hz hU hw9⟩ rfl (by simp) hl.1 kV_rev (kV_room hw) hd hcs) hA hW hS (fun v9 h' N' H1 locs1 hq hW1 hS1 hz1 => by cases kx _ _ _ hq) (fun E9 h' N' H1 locs1 q ce hq hW1 hS1 _ hce hcv hcl => ?_)
  cases kx _ _ _ hq
  have htab2 : c.exceptionTable.toList = tableOf pre ++ (⟨x.1, x.2.1, x.2.2.1, x.2.2.2⟩ : ExceptionTableEntry) :: tableOf suf := by
    rw [htb, htab]
    simp [tableOf]
  refine vx_catch (name := E) hown (tableOf pre) ⟨x.1, x.2.1, x.2.2.1, x.2.2.2⟩ (tableOf suf) htab2 (fun z hz9 => ?_) ?_ h0 (hts _ hlink) (va_Nw.use rfl (hSt.1 _ hcast)) hce hcv hcl ?_
  · obtain ⟨z0, hz0, rfl⟩ := List.mem_map.mp hz9
    obtain ⟨g1, nm, g2, g3⟩ := hpass z0 hz0
    exact Or.inr ⟨g1, nm, hts _ g2, hSt.2.2.2.2.2.2.2.2.2.1 _ g3⟩
  · simp [covers, hcov.1, hcov.2]
  · have fin : ∀ lsB : Array Slot, W p l e R s mi args below meth c H1 locs1 (cs + mc) (ss + ms) (kFm false mc2 ms2 Q' p l e s mi args below meth c g A) (F0 mi (x.2.2.1 + la) lsB []) := by
      intro lsB
      refine lv_iconst hx hb hdc hnv ?_
      exact k_end (mu := false) hc hs hS1 hW1 (fun q => by cases q) (hQ _ _ hq) (fun Qc hq hf => W.zret hx hb (hr.trans hret) rfl hq hf hdr hlk)
    rcases hda with hda | hda
    · have e1 := hla.1 hda
      subst e1
      exact lv_astore_n hx hb hda hqi hl hin rfl (fun lsB _ => fin lsB)
    · have e1 := hla.2 hda
      subst e1
      exact lv_astore hx hb hda hl hin rfl (fun lsB _ => fin lsB)
/-! what is made -/
def kNw (own : String) (idx ci n : Nat) (fs : List Value) : Prop := ∃ (C : String) (T : u_T) (ty : Nat → FieldType), vwCl[ci]? = some (C, T, n) ∧ (∀ w ∈ u_ws C T n, w ∈ gT) ∧ (∀ k, k < n → parseFieldDescriptor (T k).2.2.1 = some (ty k)) ∧ Cond.classLink own idx C ∈ gT ∧ Cond.instantiable C n ∈ gT ∧ Cond.initialized C ∈ gT ∧ (∀ j, j < n → defaultValue (ty j) = vp_V fs j) ∧ (∀ g : kG, fs.map (kV g) = fs)
theorem k_new {idx ci n : Nat} {fs : List Value} (nw : kNw K.1.cls idx ci n fs) (hd : decode K.2.1 pc = .ok (.new idx, 3)) (hp : pc + 3 = pc') (hN : N < 500) (hcs : cs + 1 ≤ R.cells ∧ ss + n ≤ R.slots)
    (kk : kEv K R F true pc' ls (.ref N :: st) (kU h N (.inr (ci, fs))) (N + 1) (cs + 1) (ss + n)) : kEv K R F true pc ls st h N cs ss := by
  subst hp
  obtain ⟨Cn, T, ty, f1, f2, f3, f4, f5, f6, f7, f8⟩ := nw
  intro p l e s m args below meth c g A C H locs lsA hW hS hl hz
  obtain ⟨hx, hb, hml, hr, hts, hown, hlk, hst, hnm, htb, hK, hSt, hA⟩ := id C
  have hKn := hK.1 ci _ f1
  have hzz := hz rfl
  refine W.newcK hx hb hown (hts _ f4) (hts _ f5) (hts _ f6) rfl hd hcs.1 hcs.2 hKn.2.1 rfl fun H1 kC9 hkC e1 z1 o1 => ?_
  have he : va_at g.1 vwCl (g.2.2 N, kC g (.inr (ci, fs))) H1 := by
    show va_at g.1 vwCl (g.2.2 N, .inr (ci, fs.map (kV g))) H1
    rw [f8 g, ← hzz]
    exact ⟨_, f1, (u_born ty hts f2 hKn hkC e1 f3).to f7⟩
  obtain ⟨w1, w2⟩ := kW_new hW hS hA hzz z1 o1 he
  have k2 := kk p l e s m args below meth c g A C H1 locs lsA w1 w2 hl (fun _ => by rw [z1, hzz, hSt.2.2.2.2.2.2.2.2.1 N hN])
  rw [show (List.map (kV g) (Value.ref N :: st)) = .ref H.size :: st.map (kV g) by rw [hzz]; rfl] at k2
  exact k2
/-- a row of numbers -/
theorem k_newa {at0 : ArrayType} {ty : FieldType} {t : Nat} {n : Int32} {N' : Nat} {a0 : vp_A} (hty : newarray.typeOf at0 = ty) (ht : kTy[t]? = some ty) (hobj : ∀ C : String, ty ≠ .object C) (hac : Cond.arrayClass ty ∈ gT) (ha : ∀ cA : ClassId, vp_cell cA a0 = arrV cA N' (fun _ => defaultValue ty)) (hg0 : ∀ g : kG, kA g a0 = a0) (hd : decode K.2.1 pc = .ok (.newarray at0, 2)) (hp : pc + 2 = pc') (hN : N < 500) (hn : ¬ n < 0) (hN' : n.toNatClampNeg = N') (hbytes : N' * componentBytes ty ≤ 536870912) (hcs : cs + 1 ≤ R.cells ∧ ss + N' ≤ R.slots)
    (kk : kEv K R F true pc' ls (.ref N :: st) (kU h N (.inl (t, a0))) (N + 1) (cs + 1) (ss + N')) : kEv K R F true pc ls (.int n :: st) h N cs ss := by
  subst hp
  subst hty
  intro p l e s m args below meth c g A C H locs lsA hW hS hl hz
  obtain ⟨hx, hb, hml, hr, hts, hown, hlk, hst, hnm, htb, hK, hSt, hA⟩ := id C
  have hzz := hz rfl
  refine va_newaK hx hb (hts _ hac) rfl hd rfl hn hN' hbytes hcs.1 hcs.2 rfl fun H1 cA e1 z1 o1 hAr hNm => ?_
  have hcA : cA = g.2.1 t := by
    have h2 := (hK.2 t _ (kTs_get ht)).2
    simp only at h2
    have h3 : s.vm.findClass ("[" ++ (newarray.typeOf at0).toString) = some (g.2.1 t) := by
      revert h2 hobj
      cases newarray.typeOf at0 <;> intro hobj h2 <;> first | exact h2 | exact absurd rfl (hobj _)
    exact Option.some.inj (hNm.symm.trans h3)
  subst hcA
  have he : va_at g.1 vwCl (g.2.2 N, kC g (.inl (t, a0))) H1 := by
    show H1[g.2.2 N]? = some (vp_cell (g.2.1 t) (kA g a0))
    rw [hg0 g, ha, ← hzz]
    exact e1
  obtain ⟨w1, w2⟩ := kW_new hW hS hA hzz z1 o1 he
  have k2 := kk p l e s m args below meth c g A C H1 locs lsA w1 w2 hl (fun _ => by rw [z1, hzz, hSt.2.2.2.2.2.2.2.2.1 N hN])
  rw [show (List.map (kV g) (Value.ref N :: st)) = .ref H.size :: st.map (kV g) by rw [hzz]; rfl] at k2
  exact k2
/-- a row of references -/
theorem k_newq {idx t : Nat} {Cn : String} {n : Int32} {N' : Nat} (ht : kTy[t]? = some (.object Cn)) (hcl : Cond.classLink K.1.cls idx Cn ∈ gT) (hao : Cond.arrayOver (.object Cn) ∈ gT2) (hd : decode K.2.1 pc = .ok (.anewarray idx, 3)) (hp : pc + 3 = pc') (hN : N < 500) (hn : ¬ n < 0) (hN' : n.toNatClampNeg = N') (hbytes : N' * 4 ≤ 536870912) (hcs : cs + 1 ≤ R.cells ∧ ss + N' ≤ R.slots)
    (kk : kEv K R F true pc' ls (.ref N :: st) (kU h N (kRf t N' (fun _ => none))) (N + 1) (cs + 1) (ss + N')) : kEv K R F true pc ls (.int n :: st) h N cs ss := by
  subst hp
  subst hN'
  intro p l e s m args below meth c g A C H locs lsA hW hS hl hz
  obtain ⟨hx, hb, hml, hr, hts, hown, hlk, hst, hnm, htb, hK, hSt, hA⟩ := id C
  have hzz := hz rfl
  refine W.anew hx hb hown (hts _ hcl) (va_AO.use (hSt.1 _ hao)) rfl hd rfl hn hbytes hcs.1 hcs.2 fun cA kA9 comp f1 f2 f3 f4 => ?_
  generalize hH1 : H.push ({ cls := cA, slots := Array.replicate n.toNatClampNeg .null, vm := .none } : Cell) = H1
  have z1 : H1.size = H.size + 1 := by rw [← hH1, Array.size_push]
  have e1 : H1[H.size]? = some (arrV cA n.toNatClampNeg (fun _ => .null)) := by rw [← hH1, Array.getElem?_push_size, ← arrV_new]
  have o1 : ∀ q : Nat, q < H.size → H1[q]? = H[q]? := fun q hq => by rw [← hH1, Array.getElem?_push, if_neg (Nat.ne_of_lt hq)]
  have hcA : cA = g.2.1 t := by
    obtain ⟨kA8, comp8, -, -, -, h4⟩ := (hK.2 t _ (kTs_get ht)).2
    exact Option.some.inj (f1.symm.trans h4)
  subst hcA
  have he : va_at g.1 vwCl (g.2.2 N, kC g (kRf t n.toNatClampNeg (fun _ => none))) H1 := by
    show H1[g.2.2 N]? = some (vp_cell (g.2.1 t) (n.toNatClampNeg, .inr (.inr (.inr (.inr (fun _ => none))))))
    rw [← hzz, e1]
    rfl
  obtain ⟨w1, w2⟩ := kW_new hW hS hA hzz z1 o1 he
  have k2 := kk p l e s m args below meth c g A C H1 locs lsA w1 w2 hl (fun _ => by rw [z1, hzz, hSt.2.2.2.2.2.2.2.2.1 N hN])
  rw [show (List.map (kV g) (Value.ref N :: st)) = .ref H.size :: st.map (kV g) by rw [hzz]; rfl] at k2
  exact k2
theorem k_oinit {idx r : Nat} (hl0 : Cond.methodLink K.1.cls idx objectInit ∈ gT) (hi0 : Cond.instanceMethod objectInit ∈ gT) (hc0 : Cond.code objectInit ⟨#[0xb1]⟩ 1 none ∈ gT) (hd : decode K.2.1 pc = .ok (.invokespecial idx, 3)) (hp : pc + 3 = pc') (hRf : 1 ≤ R.frames) (hRl : (st.map fun v => v.category).sum + 12 ≤ R.locals)
    (kk : kEv K R F mu pc' ls st h N cs ss) : kEv K R F mu pc ls (.ref r :: st) h N cs ss := by
  subst hp
  intro p l e s m args below meth c g A C H locs lsA hW hS hl hz
  obtain ⟨hx, hb, hml, hr, hts, hown, hlk, hst, hnm, htb, hK, hSt, hA⟩ := id C
  refine W.objInit hx hb hown (hts _ hl0) (hts _ hi0) (hts _ hc0) rfl (by rw [hml]; exact hl.1) rfl hd hRf ?_ (kk p l e s m args below meth c g A C H locs lsA hW hS hl hz)
  show 2 * 0 + ((st.map (kV g)).map fun v => v.category).sum + 12 ≤ R.locals
  rw [kV_cats]
  omega
/-! statics -/
theorem k_gets {Cn n d : String} {idx id9 : Nat} (hm : (Cn, n, d, id9) ∈ kZs) (hl0 : Cond.fieldLink K.1.cls idx Cn n d ∈ gT) (hd : decode K.2.1 pc = .ok (.getstatic idx, 3)) (hp : pc + 3 = pc')
    (kk : kEv K R F mu pc' ls (.ref id9 :: st) h N cs ss) : kEv K R F mu pc ls st h N cs ss := by
  subst hp
  intro p l e s m args below meth c g A C H locs lsA hW hS hl hz
  obtain ⟨hx, hb, hml, hr, hts, hown, hlk, hst, hnm, htb, hK, hSt, hA⟩ := id C
  exact va_gets hx hb (hSt.2.2.2.1 _ hm) hS hown (hts _ hl0) (fun _ h => h) hd (kk p l e s m args below meth c g A C H locs lsA hW hS hl hz)
theorem k_getsN {Cn n d host : String} {idx id9 : Nat} (hm : (Cn, n, d, id9) ∈ kZs) (hl0 : Cond.fieldLinkNest K.1.cls idx Cn n d host ∈ gT2) (hd : decode K.2.1 pc = .ok (.getstatic idx, 3)) (hp : pc + 3 = pc')
    (kk : kEv K R F mu pc' ls (.ref id9 :: st) h N cs ss) : kEv K R F mu pc ls st h N cs ss := by
  subst hp
  intro p l e s m args below meth c g A C H locs lsA hW hS hl hz
  obtain ⟨hx, hb, hml, hr, hts, hown, hlk, hst, hnm, htb, hK, hSt, hA⟩ := id C
  exact va_getsN hx hb (hSt.2.2.2.1 _ hm) hS hown (va_Nw.use rfl (hSt.1 _ hl0)) (fun _ h => h) hd (kk p l e s m args below meth c g A C H locs lsA hW hS hl hz)
/-- an int out of a static row -/
theorem k_sald {id9 : Nat} {vs : List Int32} {j : Int32} (hm : (id9, vs) ∈ kIs) (hd : decode K.2.1 pc = .ok (.iaload, 1)) (hp : pc + 1 = pc') (hin : vp_in j vs.length)
    (kk : kEv K R F mu pc' ls (.int (vs.getD j.toNatClampNeg 0) :: st) h N cs ss) : kEv K R F mu pc ls (.int j :: .ref id9 :: st) h N cs ss := by
  subst hp
  intro p l e s m args below meth c g A C H locs lsA hW hS hl hz
  obtain ⟨hx, hb, hml, hr, hts, hown, hlk, hst, hnm, htb, hK, hSt, hA⟩ := id C
  exact va_ti hx hb (hSt.2.2.2.2.1 _ hm) hS hin rfl hd (kk p l e s m args below meth c g A C H locs lsA hW hS hl hz)
/-- the rows of all constants -/
theorem k_alen1003 (hd : decode K.2.1 pc = .ok (.arraylength, 1)) (hp : pc + 1 = pc')
    (kk : kEv K R F mu pc' ls (.int 10 :: st) h N cs ss) : kEv K R F mu pc ls (.ref 1003 :: st) h N cs ss := by
  subst hp
  intro p l e s m args below meth c g A C H locs lsA hW hS hl hz
  obtain ⟨hx, hb, hml, hr, hts, hown, hlk, hst, hnm, htb, hK, hSt, hA⟩ := id C
  exact va_tlen hx hb hSt.2.2.2.2.2.1 hS rfl hd (kk p l e s m args below meth c g A C H locs lsA hW hS hl hz)
theorem k_eald {j : Int32} {k9 : Nat} (hk : k9 < 10) (hj : j = nI k9) (hd : decode K.2.1 pc = .ok (.aaload, 1)) (hp : pc + 1 = pc')
    (kk : kEv K R F mu pc' ls (.ref (1010 + k9) :: st) h N cs ss) : kEv K R F mu pc ls (.int j :: .ref 1003 :: st) h N cs ss := by
  subst hp
  subst hj
  intro p l e s m args below meth c g A C H locs lsA hW hS hl hz
  obtain ⟨hx, hb, hml, hr, hts, hown, hlk, hst, hnm, htb, hK, hSt, hA⟩ := id C
  have hin := nI_in hk (show 10 < 2 ^ 31 by decide)
  have hcl := nI_clamp (show k9 < 2 ^ 31 by omega)
  obtain ⟨cell, h1, h2, h3, h4, h5, h6, h7⟩ := hSt.2.2.2.2.2.1.kept hS.2.1
  refine W.aald (v := .ref (g.2.2 (1010 + k9))) (ty := .object "BoomerangCourt$Command") hx hb h1 h2 rfl h3 ?_ ?_ rfl rfl hd (kk p l e s m args below meth c g A C H locs lsA hW hS hl hz)
  · intro q
    rcases q with q | q
    · exact hin (Or.inl q)
    · exact hin (Or.inr (Nat.le_trans h4 q))
  · rw [hcl]
    exact h6 k9 hk
/-- a text of a constant -/
theorem k_ekey {idx k9 : Nat} (hk : k9 < 10) (hl0 : Cond.fieldLink K.1.cls idx "BoomerangCourt$Command" "keyword" "Ljava/lang/String;" ∈ gT) (hd : decode K.2.1 pc = .ok (.getfield idx, 3)) (hp : pc + 3 = pc')
    (kk : kEv K R F mu pc' ls (.ref (1020 + k9) :: st) h N cs ss) : kEv K R F mu pc ls (.ref (1010 + k9) :: st) h N cs ss := by
  subst hp
  intro p l e s m args below meth c g A C H locs lsA hW hS hl hz
  obtain ⟨hx, hb, hml, hr, hts, hown, hlk, hst, hnm, htb, hK, hSt, hA⟩ := id C
  exact vk_getf hx hb (hSt.2.2.2.2.2.2.1 k9 hk).2.2.1 hS hown (hts _ hl0) (fun _ h => h) hd (kk p l e s m args below meth c g A C H locs lsA hW hS hl hz)
theorem k_eform {idx k9 : Nat} (hk : k9 < 10) (hl0 : Cond.fieldLink K.1.cls idx "BoomerangCourt$Command" "form" "Ljava/lang/String;" ∈ gT) (hd : decode K.2.1 pc = .ok (.getfield idx, 3)) (hp : pc + 3 = pc')
    (kk : kEv K R F mu pc' ls (.ref (1030 + kFormOf.getD k9 0) :: st) h N cs ss) : kEv K R F mu pc ls (.ref (1010 + k9) :: st) h N cs ss := by
  subst hp
  intro p l e s m args below meth c g A C H locs lsA hW hS hl hz
  obtain ⟨hx, hb, hml, hr, hts, hown, hlk, hst, hnm, htb, hK, hSt, hA⟩ := id C
  exact vk_getf hx hb (hSt.2.2.2.2.2.2.1 k9 hk).2.2.2 hS hown (hts _ hl0) (fun _ h => h) hd (kk p l e s m args below meth c g A C H locs lsA hW hS hl hz)
theorem k_eord {idx k9 : Nat} (hk : k9 < 10) (hl0 : Cond.fieldLink K.1.cls idx "java/lang/Enum" "ordinal" "I" ∈ gT) (hd : decode K.2.1 pc = .ok (.getfield idx, 3)) (hp : pc + 3 = pc')
    (kk : kEv K R F mu pc' ls (.int (Int32.ofNat k9) :: st) h N cs ss) : kEv K R F mu pc ls (.ref (1010 + k9) :: st) h N cs ss := by
  subst hp
  intro p l e s m args below meth c g A C H locs lsA hW hS hl hz
  obtain ⟨hx, hb, hml, hr, hts, hown, hlk, hst, hnm, htb, hK, hSt, hA⟩ := id C
  exact vk_getf hx hb (hSt.2.2.2.2.2.2.1 k9 hk).2.1 hS hown (hts _ hl0) (fun _ h => h) hd (kk p l e s m args below meth c g A C H locs lsA hW hS hl hz)
/-! System.arraycopy of ints from place 0 to place 0; Math -/
theorem k_copy {idx i0 i1 n0 n1 : Nat} {f f1 : Nat → Int32} {n : Int32} (hl0 : Cond.methodLink K.1.cls idx arraycopyName ∈ gT) (hn0 : Cond.native arraycopyName ∈ gT) (hs0 : Cond.static arraycopyName ∈ gT) (hi0 : Cond.initialized "java/lang/System" ∈ gT) (hd : decode K.2.1 pc = .ok (.invokestatic idx, 3)) (hp : pc + 3 = pc') (hi : i0 < N) (he : h i0 = kI n0 f) (hi1 : i1 < N) (he1 : h i1 = kI n1 f1) (h3 : ¬ n < 0) (h4 : n.toNatClampNeg ≤ n0) (h5 : n.toNatClampNeg ≤ n1) (hRf : 1 ≤ R.frames) (hRl : (st.map fun v => v.category).sum + (nativeFrameWords "java/lang/System" "arraycopy" 5 + 11) ≤ R.locals)
    (kk : kEv K R F false pc' ls st (kU h i1 (kI n1 (va_cpy f f1 0 0 n.toNatClampNeg))) N cs ss) : kEv K R F false pc ls (.int n :: .int 0 :: .ref i1 :: .int 0 :: .ref i0 :: st) h N cs ss := by
  subst hp
  intro p l e s m args below meth c g A C H locs lsA hW hS hl hz
  obtain ⟨hx, hb, hml, hr, hts, hown, hlk, hst, hnm, htb, hK, hSt, hA⟩ := id C
  have hg0 : (kW g h N)[i0]? = some (g.2.2 i0, .inl (g.2.1 0, n0, .inl f)) := by rw [kW_get hi, he]; rfl
  have hg1 : (kW g h N)[i1]? = some (g.2.2 i1, .inl (g.2.1 0, n1, .inl f1)) := by rw [kW_get hi1, he1]; rfl
  have hc0 : (0 : Int32).toNatClampNeg = 0 := by decide
  refine va_copyi hx hb (by rw [hml, hl.1]) hown (hts _ hl0) (hts _ hn0) (hts _ hs0) (hts _ hi0) hK hW.1 hW.2 hS i0 i1 0 0 hg0 hg1 rfl rfl rfl (by decide) (by decide) h3 (by rw [hc0]; omega) (by rw [hc0]; omega) (fun _ _ => rfl) hRf (by rw [kV_cats]; exact hRl) hd (fun H1 locs1 hP1 hD1 hS1 => ?_)
  rw [hc0] at hP1 hD1
  refine kk p l e s m args below meth c g A C H1 locs1 lsA ⟨?_, ?_⟩ hS1 hl (fun q => by cases q)
  · rw [← kW_set hi1]; exact hP1
  · rw [← kW_set hi1]; exact hD1
theorem k_mmin {idx : Nat} {x y : Int32} (hl0 : Cond.methodLink K.1.cls idx Lib.Math.min.name ∈ gT) (hs0 : Cond.static Lib.Math.min.name ∈ gT) (hi0 : Cond.initialized "java/lang/Math" ∈ gT) (hc0 : Cond.code Lib.Math.min.name Lib.Math.min.code 2 (some .int) ∈ gT) (hd : decode K.2.1 pc = .ok (.invokestatic idx, 3)) (hp : pc + 3 = pc') (hRf : 1 ≤ R.frames) (hRl : (st.map fun v => v.category).sum + 13 ≤ R.locals) (hc : cs ≤ R.cells) (hs : ss ≤ R.slots)
    (kk : kEv K R F mu pc' ls (.int (if y < x then y else x) :: st) h N cs ss) : kEv K R F mu pc ls (.int y :: .int x :: st) h N cs ss := by
  subst hp
  intro p l e s m args below meth c g A C H locs lsA hW hS hl hz
  obtain ⟨hx, hb, hml, hr, hts, hown, hlk, hst, hnm, htb, hK, hSt, hA⟩ := id C
  exact va_mmin hx hb (by rw [hml, hl.1]) hown (hts _ hl0) (hts _ hs0) (hts _ hi0) (hts _ hc0) hRf (by rw [kV_cats]; exact hRl) hc hs hd (kk p l e s m args below meth c g A C H locs lsA hW hS hl hz)
theorem k_mmax {idx : Nat} {x y : Int32} (hl0 : Cond.methodLink K.1.cls idx Lib.Math.max.name ∈ gT) (hs0 : Cond.static Lib.Math.max.name ∈ gT) (hi0 : Cond.initialized "java/lang/Math" ∈ gT) (hc0 : Cond.code Lib.Math.max.name Lib.Math.max.code 2 (some .int) ∈ gT) (hd : decode K.2.1 pc = .ok (.invokestatic idx, 3)) (hp : pc + 3 = pc') (hRf : 1 ≤ R.frames) (hRl : (st.map fun v => v.category).sum + 13 ≤ R.locals) (hc : cs ≤ R.cells) (hs : ss ≤ R.slots)
    (kk : kEv K R F mu pc' ls (.int (if x < y then y else x) :: st) h N cs ss) : kEv K R F mu pc ls (.int y :: .int x :: st) h N cs ss := by
  subst hp
  intro p l e s m args below meth c g A C H locs lsA hW hS hl hz
  obtain ⟨hx, hb, hml, hr, hts, hown, hlk, hst, hnm, htb, hK, hSt, hA⟩ := id C
  exact va_mmax hx hb (by rw [hml, hl.1]) hown (hts _ hl0) (hts _ hs0) (hts _ hi0) (hts _ hc0) hRf (by rw [kV_cats]; exact hRl) hc hs hd (kk p l e s m args below meth c g A C H locs lsA hW hS hl hz)
end KD

