section KD3
variable {K J : kM} {R : Room} {F : kFn} {mu : Bool} {pc pc' : Nat} {ls st : List Value} {h : kH} {N cs ss mc ms : Nat}
theorem k_astore_nN {q : Fin 4} {i : Nat} (hd : decode K.2.1 pc = .ok (.astore_n q, 1)) (hp : pc + 1 = pc') (hi : (q : Nat) = i) (hn : i < K.2.2.1)
    (k : kEv K R F mu pc' (kS1 ls i .null) st h N cs ss) : kEv K R F mu pc ls (.null :: st) h N cs ss := by
  subst hp
  intro p l e s m args below meth c g A C H locs lsA hW hS hl hz
  exact lv_astore_nN C.1 C.2.1 hd hi hl hn rfl (fun ls' hl' => k p l e s m args below meth c g A C H locs ls' hW hS (kLs_sub hl' kS1_sub) hz)
/-- texts: all Latin-1 -/
theorem k_getsC {idx : Nat} (hl0 : Cond.fieldLink K.1.cls idx "java/lang/String" "COMPACT_STRINGS" "Z" ∈ gT) (hd : decode K.2.1 pc = .ok (.getstatic idx, 3)) (hp : pc + 3 = pc')
    (kk : kEv K R F mu pc' ls (.int 1 :: st) h N cs ss) : kEv K R F mu pc ls st h N cs ss := by
  subst hp
  intro p l e s m args below meth c g A C H locs lsA hW hS hl hz
  obtain ⟨hx, hb, hml, hr, hts, hown, hlk, hst, hnm, htb, hK, hSt, hA⟩ := id C
  exact va_gets hx hb hSt.2.2.2.2.2.2.2.2.2.2.1 hS hown (hts _ hl0) (fun _ h => h) hd (kk p l e s m args below meth c g A C H locs lsA hW hS hl hz)
theorem k_getsF {idx : Nat} (hl0 : Cond.fieldLink K.1.cls idx "jdk/internal/util/Preconditions" "SIOOBE_FORMATTER" "Ljava/util/function/BiFunction;" ∈ gT) (hd : decode K.2.1 pc = .ok (.getstatic idx, 3)) (hp : pc + 3 = pc')
    (kk : ∀ v : Value, v = .null ∨ v = .ref 1004 → kEv K R F mu pc' ls (v :: st) h N cs ss) : kEv K R F mu pc ls st h N cs ss := by
  subst hp
  intro p l e s m args below meth c g A C H locs lsA hW hS hl hz
  obtain ⟨hx, hb, hml, hr, hts, hown, hlk, hst, hnm, htb, hK, hSt, hA⟩ := id C
  rcases hSt.2.2.2.2.2.2.2.2.2.2.2 with hZ | hZ
  · exact va_gets hx hb hZ hS hown (hts _ hl0) (fun _ h => h) hd (kk _ (Or.inl rfl) p l e s m args below meth c g A C H locs lsA hW hS hl hz)
  · exact va_gets hx hb hZ hS hown (hts _ hl0) (fun _ h => h) hd (kk _ (Or.inr rfl) p l e s m args below meth c g A C H locs lsA hW hS hl hz)
theorem k_sval {i idx : Nat} {L : List Int32} (hm : (i, L) ∈ kTx) (hl0 : Cond.fieldLink K.1.cls idx "java/lang/String" "value" "[B" ∈ gT) (hd : decode K.2.1 pc = .ok (.getfield idx, 3)) (hp : pc + 3 = pc')
    (kk : kEv K R F mu pc' ls (.ref (i + 100) :: st) h N cs ss) : kEv K R F mu pc ls (.ref i :: st) h N cs ss := by
  subst hp
  intro p l e s m args below meth c g A C H locs lsA hW hS hl hz
  obtain ⟨hx, hb, hml, hr, hts, hown, hlk, hst, hnm, htb, hK, hSt, hA⟩ := id C
  exact vk_getf hx hb (hSt.2.2.2.2.2.2.2.1 _ hm).2.2.1 hS hown (hts _ hl0) (fun _ h => h) hd (kk p l e s m args below meth c g A C H locs lsA hW hS hl hz)
theorem k_scod {i idx : Nat} {L : List Int32} (hm : (i, L) ∈ kTx) (hl0 : Cond.fieldLink K.1.cls idx "java/lang/String" "coder" "B" ∈ gT) (hd : decode K.2.1 pc = .ok (.getfield idx, 3)) (hp : pc + 3 = pc')
    (kk : kEv K R F mu pc' ls (.int 0 :: st) h N cs ss) : kEv K R F mu pc ls (.ref i :: st) h N cs ss := by
  subst hp
  intro p l e s m args below meth c g A C H locs lsA hW hS hl hz
  obtain ⟨hx, hb, hml, hr, hts, hown, hlk, hst, hnm, htb, hK, hSt, hA⟩ := id C
  exact vk_getf hx hb (hSt.2.2.2.2.2.2.2.1 _ hm).2.1 hS hown (hts _ hl0) (fun _ h => h) hd (kk p l e s m args below meth c g A C H locs lsA hW hS hl hz)
theorem k_slen {i : Nat} {L : List Int32} (hm : (i, L) ∈ kTx) (hd : decode K.2.1 pc = .ok (.arraylength, 1)) (hp : pc + 1 = pc')
    (kk : kEv K R F mu pc' ls (.int (nI L.length) :: st) h N cs ss) : kEv K R F mu pc ls (.ref (i + 100) :: st) h N cs ss := by
  subst hp
  intro p l e s m args below meth c g A C H locs lsA hW hS hl hz
  obtain ⟨hx, hb, hml, hr, hts, hown, hlk, hst, hnm, htb, hK, hSt, hA⟩ := id C
  exact va_tlen hx hb (hSt.2.2.2.2.2.2.2.1 _ hm).2.2.2 hS rfl hd (kk p l e s m args below meth c g A C H locs lsA hW hS hl hz)
theorem k_sbal {i : Nat} {L : List Int32} {j : Int32} (hm : (i, L) ∈ kTx) (hd : decode K.2.1 pc = .ok (.baload, 1)) (hp : pc + 1 = pc') (hin : vp_in j L.length)
    (kk : kEv K R F mu pc' ls (.int (L.getD j.toNatClampNeg 0) :: st) h N cs ss) : kEv K R F mu pc ls (.int j :: .ref (i + 100) :: st) h N cs ss := by
  subst hp
  intro p l e s m args below meth c g A C H locs lsA hW hS hl hz
  obtain ⟨hx, hb, hml, hr, hts, hown, hlk, hst, hnm, htb, hK, hSt, hA⟩ := id C
  exact va_tb hx hb (hSt.2.2.2.2.2.2.2.1 _ hm).2.2.2 hS hin rfl hd (kk p l e s m args below meth c g A C H locs lsA hW hS hl hz)
/-- a call on a constant -/
theorem k_callVC {Q : kQ} {idx q9 : Nat} (as : List Value) (cw : kCv K.1.cls idx J as.length) (hR : kRoom R J) (m : kMet J mu mc ms (.ref q9 :: as) h N Q) (hd : decode K.2.1 pc = .ok (.invokevirtual idx, 3)) (hp : pc + 3 = pc') (hO : ∀ (g : kG) (A : Nat → Prop) (U : State) (H : Heap), kSt g A U H → va_O J.1.cls (g.2.2 q9) A U H) (hw : Nat.ble (st.map fun v => v.category).sum 8 = true) (hcs : cs + mc ≤ R.cells ∧ ss + ms ≤ R.slots)
    (kk : ∀ (v : Option Value) (h' : kH) (N' : Nat), Q (.inl v) h' N' → kEv K R F mu pc' ls (v.toList ++ st) h' N' (cs + mc) (ss + ms))
    (kx : ∀ (E : String) (h' : kH) (N' : Nat), ¬ Q (.inr E) h' N') : kEv K R F mu pc ls (as.reverse ++ .ref q9 :: st) h N cs ss := by
  subst hp
  intro p l e s mi args below meth c g A C H locs lsA hW hS hl hz
  obtain ⟨hx, hb, hml, hr, hts, hown, hlk, hst, hnm, htb, hK, hSt, hA⟩ := id C
  refine k_back (vx_runV (As := as.map (kV g)) (rest := st.map (kV g)) (b := g.2.2 q9) ⟨hx, hb, hml, hown, hts⟩ (m l g H.size hst) ⟨kB_of hts cw.1 cw.2.1 cw.2.2.1 hR, hts _ cw.2.2.2.1, hts _ cw.2.2.2.2⟩ ⟨kPc_blind, va_Orecv (hO _ _ _ _ hSt) hS, fun U hU hw9 => kPc_of (av := .ref q9 :: as) hK hSt hA hW hS hz hU hw9⟩ rfl (by simp) hl.1 kV_rev (kV_room hw) hd hcs) hA hW hS (fun v h' N' H1 locs1 hq hW1 hS1 hz1 => ?_) (fun E h' N' _ _ _ _ hq _ _ _ _ _ _ => absurd hq (kx E h' N'))
  rw [kV_app]
  exact kk v h' N' hq p l e s mi args below meth c g A C H1 locs1 lsA hW1 hS1 hl hz1
theorem k_callVCd0 {idx q9 : Nat} {v : Value} {h' : kH} {N' : Nat} (cw : kCv K.1.cls idx J 0) (hR : kRoom R J) (m : kMet J mu mc ms [.ref q9] h N (kRt (some v) h' N')) (hd : decode K.2.1 pc = .ok (.invokevirtual idx, 3)) (hp : pc + 3 = pc') (hO : ∀ (g : kG) (A : Nat → Prop) (U : State) (H : Heap), kSt g A U H → va_O J.1.cls (g.2.2 q9) A U H) (hw : Nat.ble (st.map fun v => v.category).sum 8 = true) (hcs : cs + mc ≤ R.cells ∧ ss + ms ≤ R.slots)
    (kk : kEv K R F mu pc' ls (v :: st) h' N' (cs + mc) (ss + ms)) : kEv K R F mu pc ls (.ref q9 :: st) h N cs ss :=
  k_callVC [] cw hR m hd hp hO hw hcs (fun v1 h1 N1 hq => by obtain ⟨h1, rfl, rfl⟩ := hq; cases h1; exact kk) (fun E h1 N1 hq => by obtain ⟨hq, -⟩ := hq; cases hq)
theorem k_callVCd1 {idx q9 : Nat} {x1 v : Value} {h' : kH} {N' : Nat} (cw : kCv K.1.cls idx J 1) (hR : kRoom R J) (m : kMet J mu mc ms [.ref q9, x1] h N (kRt (some v) h' N')) (hd : decode K.2.1 pc = .ok (.invokevirtual idx, 3)) (hp : pc + 3 = pc') (hO : ∀ (g : kG) (A : Nat → Prop) (U : State) (H : Heap), kSt g A U H → va_O J.1.cls (g.2.2 q9) A U H) (hw : Nat.ble (st.map fun v => v.category).sum 8 = true) (hcs : cs + mc ≤ R.cells ∧ ss + ms ≤ R.slots)
    (kk : kEv K R F mu pc' ls (v :: st) h' N' (cs + mc) (ss + ms)) : kEv K R F mu pc ls (x1 :: .ref q9 :: st) h N cs ss :=
  k_callVC [x1] cw hR m hd hp hO hw hcs (fun v1 h1 N1 hq => by obtain ⟨h1, rfl, rfl⟩ := hq; cases h1; exact kk) (fun E h1 N1 hq => by obtain ⟨hq, -⟩ := hq; cases hq)
theorem k_callUd0 {idx q9 : Nat} {Cx : String} {v : Value} {h' : kH} {N' : Nat} (hn : kNamed J 0) (hh : J.2.2.2.2.1 = []) (hl0 : Cond.methodLink K.1.cls idx ⟨Cx, J.1.name, J.1.desc⟩ ∈ gT) (hs0 : Cond.sameMethod Cx J.1.cls J.1.name J.1.desc ∈ gT) (hse : Cond.selects Cx ⟨Cx, J.1.name, J.1.desc⟩ J.1 ∈ gT) (hin : Cond.instanceMethod J.1 ∈ gT) (hR : kRoom R J) (m : kMet J mu mc ms [.ref q9] h N (kRt (some v) h' N')) (hd : decode K.2.1 pc = .ok (.invokevirtual idx, 3)) (hp : pc + 3 = pc') (hO : ∀ (g : kG) (A : Nat → Prop) (U : State) (H : Heap), kSt g A U H → va_O Cx (g.2.2 q9) A U H) (hw : Nat.ble (st.map fun v => v.category).sum 8 = true) (hcs : cs + mc ≤ R.cells ∧ ss + ms ≤ R.slots)
    (kk : kEv K R F mu pc' ls (v :: st) h' N' (cs + mc) (ss + ms)) : kEv K R F mu pc ls (.ref q9 :: st) h N cs ss := by
  subst hp
  intro p l e s mi args below meth c g A C H locs lsA hW hS hl hz
  obtain ⟨hx, hb, hml, hr, hts, hown, hlk, hst, hnm, htb, hK, hSt, hA⟩ := id C
  have hc : kCode J = Cond.code J.1 J.2.1 J.2.2.1 J.2.2.2.1 := by unfold kCode; rw [hh]
  have hcd : (Cond.code J.1 J.2.1 J.2.2.1 J.2.2.2.1).before args s = true := by rw [← hc]; exact hts _ hn.2.2.2
  refine k_back (vx_runU (x := ⟨Cx, J.1.name, J.1.desc⟩) (C := Cx) (owner := J.1.cls) (bytes := J.2.1) (maxL := J.2.2.1) (ret := J.2.2.2.1) (n := 0) (As := []) (rest := st.map (kV g)) (b := g.2.2 q9) ⟨hx, hb, hml, hown, hts⟩ (m l g H.size hst) ⟨⟨rfl, rfl, hR.1, hR.2, kWs_warm hts hn, by rw [← hc]; exact List.mem_cons_self⟩, hcd, hts _ hn.1, hn.2.1, fun sig h9 => ?_, hts _ hl0, hts _ hs0, va_Decl.of (hts _ hin) hcd, hts _ hse, hts _ hin⟩ ⟨kPc_blind, va_Orecv (hO _ _ _ _ hSt) hS, fun U hU hw9 => kPc_of (av := [.ref q9]) hK hSt hA hW hS hz hU hw9⟩ rfl rfl hl.1 rfl (kV_room hw) hd hcs) hA hW hS (fun v1 h1 N1 H1 locs1 hq hW1 hS1 hz1 => ?_) (fun E h1 N1 _ _ _ _ hq _ _ _ _ _ _ => by obtain ⟨hq, -⟩ := hq; cases hq)
  · have h2 := hn.2.2.1
    rw [show parseMethodDescriptor J.1.desc = some sig from h9] at h2
    exact (Option.some.inj h2).symm
  · obtain ⟨e1, rfl, rfl⟩ := hq
    cases e1
    exact kk p l e s mi args below meth c g A C H1 locs1 lsA hW1 hS1 hl hz1
theorem kTx_O {i : Nat} {L : List Int32} (hm : (i, L) ∈ kTx) (g : kG) (A : Nat → Prop) (U : State) (H : Heap) (h : kSt g A U H) : va_O "java/lang/String" (g.2.2 i) A U H := (h.2.2.2.2.2.2.2.1 _ hm).1
theorem kEn_O {k9 : Nat} (hk : k9 < 10) (g : kG) (A : Nat → Prop) (U : State) (H : Heap) (h : kSt g A U H) : va_O "BoomerangCourt$Command" (g.2.2 (1010 + k9)) A U H := (h.2.2.2.2.2.2.1 k9 hk).1
end KD3
theorem kTx_k {j : Nat} (h : j < 10) : (1020 + j, kKeyB.getD j []) ∈ kTx := by
  have : ∀ j, j < 10 → (1020 + j, kKeyB.getD j []) ∈ kTx := by decide +kernel
  exact this j h
theorem kTx_f {j : Nat} (h : j < 10) : (1030 + kFormOf.getD j 0, kFormB.getD (kFormOf.getD j 0) []) ∈ kTx := by
  have : ∀ j, j < 10 → (1030 + kFormOf.getD j 0, kFormB.getD (kFormOf.getD j 0) []) ∈ kTx := by decide +kernel
  exact this j h
theorem kTx_ch {i : Nat} {L : List Int32} (hm : (i, L) ∈ kTx) {j : Int32} (hj : vp_in j L.length) : ((L.getD j.toNatClampNeg 0 &&& 255).toUInt32 % 65536).toInt32 = L.getD j.toNatClampNeg 0 ∧ narrow .char (.int (L.getD j.toNatClampNeg 0)) = .int (L.getD j.toNatClampNeg 0) ∧ L.length < 8 := by
  have h : ∀ q ∈ kTx, q.2.length < 8 ∧ ∀ b ∈ q.2, ((b &&& 255).toUInt32 % 65536).toInt32 = b ∧ narrow .char (.int b) = .int b := by decide +kernel
  have h1 := h _ hm
  have h2 : j.toNatClampNeg < L.length := by
    have := vp_in_iff.mp hj
    show j.toInt.toNat < L.length
    omega
  have h3 : L.getD j.toNatClampNeg 0 ∈ L := by
    rw [List.getD_eq_getElem?_getD, List.getElem?_eq_getElem h2]
    exact List.getElem_mem h2
  exact ⟨(h1.2 _ h3).1, (h1.2 _ h3).2, h1.1⟩
theorem kTx_len {i : Nat} {L : List Int32} (hm : (i, L) ∈ kTx) : L.length < 8 := by
  have h : ∀ q ∈ kTx, q.2.length < 8 := by decide +kernel
  exact h _ hm
set_option maxRecDepth 100000 in
set_option maxHeartbeats 4000000 in
theorem m_J0_coder {h : kH} {N i : Nat} {L : List Int32} (hm : (i, L) ∈ kTx) : kMet kJ0_coder_7d493 false 0 0 [.ref i] h N (kRt (some (.int 0)) h N) := by
  refine kMet.in (by decide) rfl rfl _ rfl ?_
  refine k_getsC (gm 1239 (by decide +kernel) (by decide +kernel)) dJ0_coder_7d493_0 (rfl : 0 + 3 = 3) ?_
  refine k_if_eq (tgt := 13) dJ0_coder_7d493_3 (rfl : 3 + 3 = 6) (by decide) (fun b3 => by exact absurd b3 (by decide)) (fun b3 => ?_)
  refine k_aload_n (i := 0) dJ0_coder_7d493_6 (rfl : 6 + 1 = 7) rfl rfl ?_
  refine k_scod hm (gm 1953 (by decide +kernel) (by decide +kernel)) dJ0_coder_7d493_7 (rfl : 7 + 3 = 10) ?_
  refine k_goto (tgt := 14) dJ0_coder_7d493_10 (by decide) ?_
  exact k_iret rfl rfl dJ0_coder_7d493_14 (Nat.le_of_ble_eq_true rfl) (Nat.le_of_ble_eq_true rfl) kRt_rfl
set_option maxRecDepth 100000 in
set_option maxHeartbeats 4000000 in
theorem m_J0_isLatin1 {h : kH} {N i : Nat} {L : List Int32} (hm : (i, L) ∈ kTx) : kMet kJ0_isLatin1_aae02 false 0 0 [.ref i] h N (kRt (some (.int 1)) h N) := by
  refine kMet.in (by decide) rfl rfl _ rfl ?_
  refine k_getsC (gm 1239 (by decide +kernel) (by decide +kernel)) dJ0_isLatin1_aae02_0 (rfl : 0 + 3 = 3) ?_
  refine k_if_eq (tgt := 17) dJ0_isLatin1_aae02_3 (rfl : 3 + 3 = 6) (by decide) (fun b3 => by exact absurd b3 (by decide)) (fun b3 => ?_)
  refine k_aload_n (i := 0) dJ0_isLatin1_aae02_6 (rfl : 6 + 1 = 7) rfl rfl ?_
  refine k_scod hm (gm 1953 (by decide +kernel) (by decide +kernel)) dJ0_isLatin1_aae02_7 (rfl : 7 + 3 = 10) ?_
  refine k_if_ne (tgt := 17) dJ0_isLatin1_aae02_10 (rfl : 10 + 3 = 13) (by decide) (fun b3 => by exact absurd b3 (by decide)) (fun b3 => ?_)
  refine k_iconst (v := 1) dJ0_isLatin1_aae02_13 (rfl : 13 + 1 = 14) (by decide) ?_
  refine k_goto (tgt := 18) dJ0_isLatin1_aae02_14 (by decide) ?_
  exact k_iret rfl rfl dJ0_isLatin1_aae02_18 (Nat.le_of_ble_eq_true rfl) (Nat.le_of_ble_eq_true rfl) kRt_rfl
set_option maxRecDepth 100000 in
set_option maxHeartbeats 4000000 in
theorem m_J0_length {h : kH} {N i : Nat} {L : List Int32} (hm : (i, L) ∈ kTx) : kMet kJ0_length_8abf5 false 0 0 [.ref i] h N (kRt (some (.int (nI L.length))) h N) := by
  refine kMet.in (by decide) rfl rfl _ rfl ?_
  refine k_aload_n (i := 0) dJ0_length_8abf5_0 (rfl : 0 + 1 = 1) rfl rfl ?_
  refine k_sval hm (gm 1952 (by decide +kernel) (by decide +kernel)) dJ0_length_8abf5_1 (rfl : 1 + 3 = 4) ?_
  refine k_slen hm dJ0_length_8abf5_4 (rfl : 4 + 1 = 5) ?_
  refine k_aload_n (i := 0) dJ0_length_8abf5_5 (rfl : 5 + 1 = 6) rfl rfl ?_
  refine k_callVCd0 cv_J0_335 ⟨(Nat.le_of_ble_eq_true rfl), (Nat.le_of_ble_eq_true rfl)⟩ (m_J0_coder hm) dJ0_length_8abf5_6 (rfl : 6 + 3 = 9) (kTx_O hm) rfl ⟨(Nat.le_of_ble_eq_true rfl), (Nat.le_of_ble_eq_true rfl)⟩ ?_
  refine k_ishr dJ0_length_8abf5_9 (rfl : 9 + 1 = 10) ?_
  refine k_iret rfl rfl dJ0_length_8abf5_10 (Nat.le_of_ble_eq_true rfl) (Nat.le_of_ble_eq_true rfl) ?_
  refine kRt_of ?_ rfl
  rw [show (0 : Int32) &&& 31 = 0 by decide, Int32.shiftRight_zero]
set_option maxRecDepth 100000 in
set_option maxHeartbeats 4000000 in
theorem m_J3_checkIndex {h : kH} {N : Nat} {a b : Int32} {v : Value} (hv : v = .null ∨ v = .ref 1004) (ha : ¬ a < 0) (hb : a < b) : kMet kJ3_checkIndex_8e157 false 0 0 [.int a, .int b, v] h N (kRt (some (.int a)) h N) := by
  have key : ∀ cs ss, kEv kJ3_checkIndex_8e157 (kRm kJ3_checkIndex_8e157 0 0) (kFm false 0 0 (kRt (some (.int a)) h N)) false 0 [.int a, .int b, v] [] h N cs ss → True := fun _ _ _ => trivial
  rcases hv with rfl | rfl
  · refine kMet.in (by decide) rfl rfl _ rfl ?_
    refine k_iload_n (i := 0) dJ3_checkIndex_8e157_0 (rfl : 0 + 1 = 1) rfl rfl ?_
    refine k_if_lt (tgt := 9) dJ3_checkIndex_8e157_1 (rfl : 1 + 3 = 4) (by decide) (fun b3 => by exact absurd b3 ha) (fun b3 => ?_)
    refine k_iload_n (i := 0) dJ3_checkIndex_8e157_4 (rfl : 4 + 1 = 5) rfl rfl ?_
    refine k_iload_n (i := 1) dJ3_checkIndex_8e157_5 (rfl : 5 + 1 = 6) rfl rfl ?_
    refine k_icmp_lt (tgt := 16) dJ3_checkIndex_8e157_6 (rfl : 6 + 3 = 9) (by decide) (fun b3 => ?_) (fun b3 => by exact absurd hb b3)
    refine k_iload_n (i := 0) dJ3_checkIndex_8e157_16 (rfl : 16 + 1 = 17) rfl rfl ?_
    exact k_iret rfl rfl dJ3_checkIndex_8e157_17 (Nat.le_of_ble_eq_true rfl) (Nat.le_of_ble_eq_true rfl) kRt_rfl
  · refine kMet.in (by decide) rfl rfl _ rfl ?_
    refine k_iload_n (i := 0) dJ3_checkIndex_8e157_0 (rfl : 0 + 1 = 1) rfl rfl ?_
    refine k_if_lt (tgt := 9) dJ3_checkIndex_8e157_1 (rfl : 1 + 3 = 4) (by decide) (fun b3 => by exact absurd b3 ha) (fun b3 => ?_)
    refine k_iload_n (i := 0) dJ3_checkIndex_8e157_4 (rfl : 4 + 1 = 5) rfl rfl ?_
    refine k_iload_n (i := 1) dJ3_checkIndex_8e157_5 (rfl : 5 + 1 = 6) rfl rfl ?_
    refine k_icmp_lt (tgt := 16) dJ3_checkIndex_8e157_6 (rfl : 6 + 3 = 9) (by decide) (fun b3 => ?_) (fun b3 => by exact absurd hb b3)
    refine k_iload_n (i := 0) dJ3_checkIndex_8e157_16 (rfl : 16 + 1 = 17) rfl rfl ?_
    exact k_iret rfl rfl dJ3_checkIndex_8e157_17 (Nat.le_of_ble_eq_true rfl) (Nat.le_of_ble_eq_true rfl) kRt_rfl
set_option maxRecDepth 100000 in
set_option maxHeartbeats 4000000 in
theorem m_J0_checkIndex {h : kH} {N : Nat} {a b : Int32} (ha : ¬ a < 0) (hb : a < b) : kMet kJ0_checkIndex_df160 false 0 0 [.int a, .int b] h N (kRt none h N) := by
  refine kMet.in (by decide) rfl rfl _ rfl ?_
  refine k_iload_n (i := 0) dJ0_checkIndex_df160_0 (rfl : 0 + 1 = 1) rfl rfl ?_
  refine k_iload_n (i := 1) dJ0_checkIndex_df160_1 (rfl : 1 + 1 = 2) rfl rfl ?_
  refine k_getsF (gm 1255 (by decide +kernel) (by decide +kernel)) dJ0_checkIndex_df160_2 (rfl : 2 + 3 = 5) (fun v hv => ?_)
  refine k_callSd3 cv_J0_1059 ⟨(Nat.le_of_ble_eq_true rfl), (Nat.le_of_ble_eq_true rfl)⟩ (m_J3_checkIndex hv ha hb) dJ0_checkIndex_df160_5 (rfl : 5 + 3 = 8) rfl ⟨(Nat.le_of_ble_eq_true rfl), (Nat.le_of_ble_eq_true rfl)⟩ ?_
  refine k_pop dJ0_checkIndex_df160_8 (rfl : 8 + 1 = 9) rfl ?_
  exact k_vret rfl dJ0_checkIndex_df160_9 (Nat.le_of_ble_eq_true rfl) (Nat.le_of_ble_eq_true rfl) kRt_rfl
set_option maxRecDepth 100000 in
set_option maxHeartbeats 4000000 in
theorem m_J1_charAt {h : kH} {N i : Nat} {L : List Int32} {j : Int32} (hm : (i, L) ∈ kTx) (hj : vp_in j L.length) : kMet kJ1_charAt_3b067 false 0 0 [.ref (i + 100), .int j] h N (kRt (some (.int (L.getD j.toNatClampNeg 0))) h N) := by
  obtain ⟨e1, e2, e3⟩ := kTx_ch hm hj
  have hj2 := vp_in_iff.mp hj
  have hL : (nI L.length).toInt = L.length := nI_toInt (by omega)
  refine kMet.in (by decide) rfl rfl _ rfl ?_
  refine k_iload_n (i := 1) dJ1_charAt_3b067_0 (rfl : 0 + 1 = 1) rfl rfl ?_
  refine k_aload_n (i := 0) dJ1_charAt_3b067_1 (rfl : 1 + 1 = 2) rfl rfl ?_
  refine k_slen hm dJ1_charAt_3b067_2 (rfl : 2 + 1 = 3) ?_
  refine k_callSv2 cv_J1_9 ⟨(Nat.le_of_ble_eq_true rfl), (Nat.le_of_ble_eq_true rfl)⟩ (m_J0_checkIndex (a := j) (b := nI L.length) (by rw [Int32.lt_iff_toInt_lt]; show ¬ j.toInt < 0; omega) (by rw [Int32.lt_iff_toInt_lt, hL]; omega)) dJ1_charAt_3b067_3 (rfl : 3 + 3 = 6) rfl ⟨(Nat.le_of_ble_eq_true rfl), (Nat.le_of_ble_eq_true rfl)⟩ ?_
  refine k_aload_n (i := 0) dJ1_charAt_3b067_6 (rfl : 6 + 1 = 7) rfl rfl ?_
  refine k_iload_n (i := 1) dJ1_charAt_3b067_7 (rfl : 7 + 1 = 8) rfl rfl ?_
  refine k_sbal hm dJ1_charAt_3b067_8 (rfl : 8 + 1 = 9) hj ?_
  refine k_sipush (v := 255) dJ1_charAt_3b067_9 (rfl : 9 + 3 = 12) (by decide) ?_
  refine k_iand dJ1_charAt_3b067_12 (rfl : 12 + 1 = 13) ?_
  refine k_i2c dJ1_charAt_3b067_13 (rfl : 13 + 1 = 14) ?_
  rw [e1]
  exact k_iret rfl e2 dJ1_charAt_3b067_14 (Nat.le_of_ble_eq_true rfl) (Nat.le_of_ble_eq_true rfl) kRt_rfl
set_option maxRecDepth 100000 in
set_option maxHeartbeats 4000000 in
theorem m_J0_charAt {h : kH} {N i : Nat} {L : List Int32} {j : Int32} (hm : (i, L) ∈ kTx) (hj : vp_in j L.length) : kMet kJ0_charAt_5068e false 0 0 [.ref i, .int j] h N (kRt (some (.int (L.getD j.toNatClampNeg 0))) h N) := by
  obtain ⟨e1, e2, e3⟩ := kTx_ch hm hj
  refine kMet.in (by decide) rfl rfl _ rfl ?_
  refine k_aload_n (i := 0) dJ0_charAt_5068e_0 (rfl : 0 + 1 = 1) rfl rfl ?_
  refine k_callVCd0 cv_J0_492 ⟨(Nat.le_of_ble_eq_true rfl), (Nat.le_of_ble_eq_true rfl)⟩ (m_J0_isLatin1 hm) dJ0_charAt_5068e_1 (rfl : 1 + 3 = 4) (kTx_O hm) rfl ⟨(Nat.le_of_ble_eq_true rfl), (Nat.le_of_ble_eq_true rfl)⟩ ?_
  refine k_if_eq (tgt := 16) dJ0_charAt_5068e_4 (rfl : 4 + 3 = 7) (by decide) (fun b3 => by exact absurd b3 (by decide)) (fun b3 => ?_)
  refine k_aload_n (i := 0) dJ0_charAt_5068e_7 (rfl : 7 + 1 = 8) rfl rfl ?_
  refine k_sval hm (gm 1952 (by decide +kernel) (by decide +kernel)) dJ0_charAt_5068e_8 (rfl : 8 + 3 = 11) ?_
  refine k_iload_n (i := 1) dJ0_charAt_5068e_11 (rfl : 11 + 1 = 12) rfl rfl ?_
  refine k_callSd2 cv_J0_495 ⟨(Nat.le_of_ble_eq_true rfl), (Nat.le_of_ble_eq_true rfl)⟩ (m_J1_charAt hm hj) dJ0_charAt_5068e_12 (rfl : 12 + 3 = 15) rfl ⟨(Nat.le_of_ble_eq_true rfl), (Nat.le_of_ble_eq_true rfl)⟩ ?_
  exact k_iret rfl e2 dJ0_charAt_5068e_15 (Nat.le_of_ble_eq_true rfl) (Nat.le_of_ble_eq_true rfl) kRt_rfl
set_option maxRecDepth 100000 in
set_option maxHeartbeats 4000000 in
theorem m_Jx29ce0_ordinal {h : kH} {N k9 : Nat} (hk : k9 < 10) : kMet kJx29ce0_ordinal_8abf5 false 0 0 [.ref (1010 + k9)] h N (kRt (some (.int (Int32.ofNat k9))) h N) := by
  refine kMet.in (by decide) rfl rfl _ rfl ?_
  refine k_aload_n (i := 0) dJx29ce0_ordinal_8abf5_0 (rfl : 0 + 1 = 1) rfl rfl ?_
  refine k_eord hk (gm 1955 (by decide +kernel) (by decide +kernel)) dJx29ce0_ordinal_8abf5_1 (rfl : 1 + 3 = 4) ?_
  exact k_iret rfl rfl dJx29ce0_ordinal_8abf5_4 (Nat.le_of_ble_eq_true rfl) (Nat.le_of_ble_eq_true rfl) kRt_rfl
