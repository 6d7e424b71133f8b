/-! THE LAW'S HELPERS: a call, and what it throws caught. -/
section KCA
variable {K J : kM} {R : Room} {F : kFn} {mu : Bool} {pc pc' : Nat} {ls st : List Value} {h : kH} {N cs ss mc ms : Nat}
theorem k_callVxA {Q Q' : kQ} {idx r ci n0 : Nat} {fs : List Value} {T : u_T} (as : List Value) (cw : kCv K.1.cls idx J as.length) (hR : kRoom R J) (m : kMet J false mc ms (.ref r :: as) h N Q) (hd : decode K.2.1 pc = .ok (.invokevirtual idx, 3)) (hi : r < N) (he : h r = .inr (ci, fs)) (hci : vwCl[ci]? = some (J.1.cls, T, n0)) (hw : Nat.ble (st.map fun v => v.category).sum 8 = true) (hcs : cs + mc ≤ R.cells ∧ ss + ms ≤ R.slots)
    (E : String) (kx : ∀ (o : kOut) (h' : kH) (N' : Nat), Q o h' N' → o = .inr E) (pre suf : List (Nat × Nat × Nat × Nat)) (x : Nat × Nat × Nat × Nat) (htab : K.2.2.2.2.1 = pre ++ x :: suf)
    (hpass : ∀ z ∈ pre, z.2.2.2 ≠ 0 ∧ ∃ nm : String, Cond.classLink K.1.cls z.2.2.2 nm ∈ gT ∧ (E, nm) ∈ kNc) (hcov : x.1 ≤ pc ∧ pc < x.2.1) (h0 : x.2.2.2 ≠ 0) (hlink : Cond.classLink K.1.cls x.2.2.2 E ∈ gT) (hcast : Cond.castable E E ∈ gT2)
    (i : Nat) (t1 t2 t3 : Nat) (ht : x.2.2.1 = t1) (ht2 : t1 + 2 = t2) (ht3 : t2 + 1 = t3) (hda : decode K.2.1 t1 = .ok (.astore i, 2)) (hin : i < K.2.2.1) (v : Int32) (n : Int) (hnv : Int32.ofInt n = v) (hdc : decode K.2.1 t2 = .ok (.iconst n, 1)) (hdr : decode K.2.1 t3 = .ok (.ireturn, 1)) (hret : K.2.2.2.1 = some .int)
    {mc2 ms2 : Nat} (hc : cs + mc ≤ mc2) (hs : ss + ms ≤ ms2) (hQ : ∀ (h' : kH) (N' : Nat), Q (.inr E) h' N' → Q' (.inl (some (.int v))) h' N') : kEv K R (kFm false mc2 ms2 Q') false pc ls (as.reverse ++ .ref r :: st) h N cs ss := by
  subst ht ht2 ht3
  intro p l e s mi args below meth c g A C H locs lsA hW hS hl hz
  obtain ⟨hx, hb, hml, hr, hts, hown, hlk, hst, hnm, htb, hK, hSt, hA⟩ := id C
  have hg : (kW g h N)[r]? = some (g.2.2 r, .inr (ci, fs.map (kV g))) := by rw [kW_get hi, he]; rfl
  refine k_back (vx_runV (As := as.map (kV g)) (rest := st.map (kV g)) (b := g.2.2 r) ⟨hx, hb, hml, hown, hts⟩ (m l g H.size hst) ⟨kB_of hts cw.1 cw.2.1 cw.2.2.1 hR, hts _ cw.2.2.2.1, hts _ cw.2.2.2.2⟩ ⟨kPc_blind, va_recv hK hW.1 hci hg, fun U hU hw9 => kPc_of (av := .ref r :: as) hK hSt hA hW hS hz hU hw9⟩ rfl (by simp) hl.1 kV_rev (kV_room hw) hd hcs) hA hW hS (fun v9 h' N' H1 locs1 hq hW1 hS1 hz1 => by cases kx _ _ _ hq) (fun E9 h' N' H1 locs1 q ce hq hW1 hS1 _ hce hcv hcl => ?_)
  cases kx _ _ _ hq
  have htab2 : c.exceptionTable.toList = tableOf pre ++ (⟨x.1, x.2.1, x.2.2.1, x.2.2.2⟩ : ExceptionTableEntry) :: tableOf suf := by
    rw [htb, htab]
    simp [tableOf]
  refine vx_catch (name := E) hown (tableOf pre) ⟨x.1, x.2.1, x.2.2.1, x.2.2.2⟩ (tableOf suf) htab2 (fun z hz9 => ?_) ?_ h0 (hts _ hlink) (va_Nw.use rfl (hSt.1 _ hcast)) hce hcv hcl ?_
  · obtain ⟨z0, hz0, rfl⟩ := List.mem_map.mp hz9
    obtain ⟨g1, nm, g2, g3⟩ := hpass z0 hz0
    exact Or.inr ⟨g1, nm, hts _ g2, hSt.2.2.2.2.2.2.2.2.2.1 _ g3⟩
  · simp [covers, hcov.1, hcov.2]
  · have fin : ∀ lsB : Array Slot, W p l e R s mi args below meth c H1 locs1 (cs + mc) (ss + ms) (kFm false mc2 ms2 Q' p l e s mi args below meth c g A) (F0 mi (x.2.2.1 + 2) lsB []) := by
      intro lsB
      refine lv_iconst hx hb hdc hnv ?_
      exact k_end (mu := false) hc hs hS1 hW1 (fun q => by cases q) (hQ _ _ hq) (fun Qc hq hf => W.zret hx hb (hr.trans hret) rfl hq hf hdr hlk)
    exact lv_astore hx hb hda hl hin rfl (fun lsB _ => fin lsB)
theorem k_callVxN {Q Q' : kQ} {idx r ci n0 : Nat} {fs : List Value} {T : u_T} (as : List Value) (cw : kCv K.1.cls idx J as.length) (hR : kRoom R J) (m : kMet J false mc ms (.ref r :: as) h N Q) (hd : decode K.2.1 pc = .ok (.invokevirtual idx, 3)) (hi : r < N) (he : h r = .inr (ci, fs)) (hci : vwCl[ci]? = some (J.1.cls, T, n0)) (hw : Nat.ble (st.map fun v => v.category).sum 8 = true) (hcs : cs + mc ≤ R.cells ∧ ss + ms ≤ R.slots)
    (E : String) (kx : ∀ (o : kOut) (h' : kH) (N' : Nat), Q o h' N' → o = .inr E) (pre suf : List (Nat × Nat × Nat × Nat)) (x : Nat × Nat × Nat × Nat) (htab : K.2.2.2.2.1 = pre ++ x :: suf)
    (hpass : ∀ z ∈ pre, z.2.2.2 ≠ 0 ∧ ∃ nm : String, Cond.classLink K.1.cls z.2.2.2 nm ∈ gT ∧ (E, nm) ∈ kNc) (hcov : x.1 ≤ pc ∧ pc < x.2.1) (h0 : x.2.2.2 ≠ 0) (hlink : Cond.classLink K.1.cls x.2.2.2 E ∈ gT) (hcast : Cond.castable E E ∈ gT2)
    (q4 : Fin 4) (i : Nat) (hqi : (q4 : Nat) = i) (t1 t2 t3 : Nat) (ht : x.2.2.1 = t1) (ht2 : t1 + 1 = t2) (ht3 : t2 + 1 = t3) (hda : decode K.2.1 t1 = .ok (.astore_n q4, 1)) (hin : i < K.2.2.1) (v : Int32) (n : Int) (hnv : Int32.ofInt n = v) (hdc : decode K.2.1 t2 = .ok (.iconst n, 1)) (hdr : decode K.2.1 t3 = .ok (.ireturn, 1)) (hret : K.2.2.2.1 = some .int)
    {mc2 ms2 : Nat} (hc : cs + mc ≤ mc2) (hs : ss + ms ≤ ms2) (hQ : ∀ (h' : kH) (N' : Nat), Q (.inr E) h' N' → Q' (.inl (some (.int v))) h' N') : kEv K R (kFm false mc2 ms2 Q') false pc ls (as.reverse ++ .ref r :: st) h N cs ss := by
  subst ht ht2 ht3
  intro p l e s mi args below meth c g A C H locs lsA hW hS hl hz
  obtain ⟨hx, hb, hml, hr, hts, hown, hlk, hst, hnm, htb, hK, hSt, hA⟩ := id C
  have hg : (kW g h N)[r]? = some (g.2.2 r, .inr (ci, fs.map (kV g))) := by rw [kW_get hi, he]; rfl
  refine k_back (vx_runV (As := as.map (kV g)) (rest := st.map (kV g)) (b := g.2.2 r) ⟨hx, hb, hml, hown, hts⟩ (m l g H.size hst) ⟨kB_of hts cw.1 cw.2.1 cw.2.2.1 hR, hts _ cw.2.2.2.1, hts _ cw.2.2.2.2⟩ ⟨kPc_blind, va_recv hK hW.1 hci hg, fun U hU hw9 => kPc_of (av := .ref r :: as) hK hSt hA hW hS hz hU hw9⟩ rfl (by simp) hl.1 kV_rev (kV_room hw) hd hcs) hA hW hS (fun v9 h' N' H1 locs1 hq hW1 hS1 hz1 => by cases kx _ _ _ hq) (fun E9 h' N' H1 locs1 q ce hq hW1 hS1 _ hce hcv hcl => ?_)
  cases kx _ _ _ hq
  have htab2 : c.exceptionTable.toList = tableOf pre ++ (⟨x.1, x.2.1, x.2.2.1, x.2.2.2⟩ : ExceptionTableEntry) :: tableOf suf := by
    rw [htb, htab]
    simp [tableOf]
  refine vx_catch (name := E) hown (tableOf pre) ⟨x.1, x.2.1, x.2.2.1, x.2.2.2⟩ (tableOf suf) htab2 (fun z hz9 => ?_) ?_ h0 (hts _ hlink) (va_Nw.use rfl (hSt.1 _ hcast)) hce hcv hcl ?_
  · obtain ⟨z0, hz0, rfl⟩ := List.mem_map.mp hz9
    obtain ⟨g1, nm, g2, g3⟩ := hpass z0 hz0
    exact Or.inr ⟨g1, nm, hts _ g2, hSt.2.2.2.2.2.2.2.2.2.1 _ g3⟩
  · simp [covers, hcov.1, hcov.2]
  · have fin : ∀ lsB : Array Slot, W p l e R s mi args below meth c H1 locs1 (cs + mc) (ss + ms) (kFm false mc2 ms2 Q' p l e s mi args below meth c g A) (F0 mi (x.2.2.1 + 1) lsB []) := by
      intro lsB
      refine lv_iconst hx hb hdc hnv ?_
      exact k_end (mu := false) hc hs hS1 hW1 (fun q => by cases q) (hQ _ _ hq) (fun Qc hq hf => W.zret hx hb (hr.trans hret) rfl hq hf hdr hlk)
    exact lv_astore_n hx hb hda hqi hl hin rfl (fun lsB _ => fin lsB)
end KCA
theorem vp_00 : vp_in (0 : Int32) 1 := vp_in_iff.mpr (by decide)
theorem lk_13 : Cond.classLink RL 13 "java/lang/IndexOutOfBoundsException" ∈ gT := gm 739 (by decide +kernel) (by decide +kernel)
theorem lc_13 : Cond.castable "java/lang/IndexOutOfBoundsException" "java/lang/IndexOutOfBoundsException" ∈ gT2 := gm2 547 (by decide +kernel) (by decide +kernel)
theorem lk_15 : Cond.classLink RL 15 "java/lang/UnsupportedOperationException" ∈ gT := gm 760 (by decide +kernel) (by decide +kernel)
theorem lc_15 : Cond.castable "java/lang/UnsupportedOperationException" "java/lang/UnsupportedOperationException" ∈ gT2 := gm2 787 (by decide +kernel) (by decide +kernel)
theorem lk_31 : Cond.classLink RL 31 "java/lang/IllegalArgumentException" ∈ gT := gm 851 (by decide +kernel) (by decide +kernel)
theorem lc_31 : Cond.castable "java/lang/IllegalArgumentException" "java/lang/IllegalArgumentException" ∈ gT2 := gm2 689 (by decide +kernel) (by decide +kernel)
theorem lk_36 : Cond.classLink RL 36 "java/lang/IllegalStateException" ∈ gT := gm 868 (by decide +kernel) (by decide +kernel)
theorem lc_36 : Cond.castable "java/lang/IllegalStateException" "java/lang/IllegalStateException" ∈ gT2 := gm2 883 (by decide +kernel) (by decide +kernel)
theorem lk_49 : Cond.classLink RL 49 "java/util/NoSuchElementException" ∈ gT := gm 929 (by decide +kernel) (by decide +kernel)
theorem lc_49 : Cond.castable "java/util/NoSuchElementException" "java/util/NoSuchElementException" ∈ gT2 := gm2 936 (by decide +kernel) (by decide +kernel)
theorem lk_114 : Cond.classLink RL 114 "java/lang/ArithmeticException" ∈ gT := gm 1150 (by decide +kernel) (by decide +kernel)
theorem lc_114 : Cond.castable "java/lang/ArithmeticException" "java/lang/ArithmeticException" ∈ gT2 := gm2 1162 (by decide +kernel) (by decide +kernel)
set_option maxRecDepth 100000 in
set_option maxHeartbeats 4000000 in
theorem v_L_addParty {h h2 : kH} {fs : List Value} {f : Nat → Int64} {w : Int32} {a1 : Int32} {a2 : Int32} (m : kMet kX11_addParty false 1 6 [.ref 0, .int a1, .int a2] h 130 (kRt (some (.int w)) h2 130)) (hX : h 0 = kO 11 fs) (hO : h2 128 = kJ 1 f) : kMet kL_addParty false 1 6 [.ref 0, .int a1, .int a2, .ref 128] h 130 (kRt (some (.int 0)) (kU h2 128 (kJ 1 (vp_updL f 0 (Int32.toInt64 w)))) 130) := by
  refine kMet.inT (by decide) (0, 10, 13, 13) [(0, 10, 17, 36), (0, 10, 21, 15)] rfl rfl _ rfl ?_
  refine k_aload_n (i := 3) dL_addParty_0 (rfl : 0 + 1 = 1) rfl rfl ?_
  refine k_iconst (v := 0) dL_addParty_1 (rfl : 1 + 1 = 2) (by decide) ?_
  refine k_aload_n (i := 0) dL_addParty_2 (rfl : 2 + 1 = 3) rfl rfl ?_
  refine k_iload_n (i := 1) dL_addParty_3 (rfl : 3 + 1 = 4) rfl rfl ?_
  refine k_iload_n (i := 2) dL_addParty_4 (rfl : 4 + 1 = 5) rfl rfl ?_
  refine k_callVd2 cv_L_33 ⟨Nat.le_of_ble_eq_true rfl, Nat.le_of_ble_eq_true rfl⟩ m dL_addParty_5 (rfl : 5 + 3 = 8) (Nat.le_of_ble_eq_true rfl) hX rfl rfl ⟨Nat.le_of_ble_eq_true rfl, Nat.le_of_ble_eq_true rfl⟩ ?_
  refine k_i2l dL_addParty_8 (rfl : 8 + 1 = 9) ?_
  refine k_last dL_addParty_9 (rfl : 9 + 1 = 10) (Nat.le_of_ble_eq_true rfl) hO vp_00 ?_
  refine k_goto (tgt := 25) dL_addParty_10 (by decide) ?_
  refine k_iconst (v := 0) dL_addParty_25 (rfl : 25 + 1 = 26) (by decide) ?_
  refine k_iret rfl rfl dL_addParty_26 (Nat.le_of_ble_eq_true rfl) (Nat.le_of_ble_eq_true rfl) kRt_rfl
set_option maxRecDepth 100000 in
set_option maxHeartbeats 4000000 in
theorem x1_L_addParty {h h2 : kH} {fs : List Value} {a1 : Int32} {a2 : Int32} (m : kMet kX11_addParty false 1 6 [.ref 0, .int a1, .int a2] h 130 (kRo (.inr "java/lang/IndexOutOfBoundsException") h2 130)) (hX : h 0 = kO 11 fs) : kMet kL_addParty false 1 6 [.ref 0, .int a1, .int a2, .ref 128] h 130 (kRt (some (.int 1)) h2 130) := by
  refine kMet.inT (by decide) (0, 10, 13, 13) [(0, 10, 17, 36), (0, 10, 21, 15)] rfl rfl _ rfl ?_
  refine k_aload_n (i := 3) dL_addParty_0 (rfl : 0 + 1 = 1) rfl rfl ?_
  refine k_iconst (v := 0) dL_addParty_1 (rfl : 1 + 1 = 2) (by decide) ?_
  refine k_aload_n (i := 0) dL_addParty_2 (rfl : 2 + 1 = 3) rfl rfl ?_
  refine k_iload_n (i := 1) dL_addParty_3 (rfl : 3 + 1 = 4) rfl rfl ?_
  refine k_iload_n (i := 2) dL_addParty_4 (rfl : 4 + 1 = 5) rfl rfl ?_
  exact k_callVxA (K := kL_addParty) (J := kX11_addParty) (Q := kRo (.inr "java/lang/IndexOutOfBoundsException") h2 130) (h := h) (r := 0) (st := [.int 0, .ref 128]) [.int a1, .int a2] cv_L_33 ⟨Nat.le_of_ble_eq_true rfl, Nat.le_of_ble_eq_true rfl⟩ m dL_addParty_5 (Nat.le_of_ble_eq_true rfl) hX rfl rfl ⟨Nat.le_of_ble_eq_true rfl, Nat.le_of_ble_eq_true rfl⟩ "java/lang/IndexOutOfBoundsException" (fun _ _ _ q => q.1) [] [(0, 10, 17, 36), (0, 10, 21, 15)] (0, 10, 13, 13) rfl (fun z hz => by cases hz) ⟨Nat.le_of_ble_eq_true rfl, Nat.le_of_ble_eq_true rfl⟩ (by decide) lk_13 lc_13 4 13 15 16 rfl rfl rfl dL_addParty_13 (Nat.le_of_ble_eq_true rfl) 1 1 (by decide) dL_addParty_15 dL_addParty_16 rfl (Nat.le_of_ble_eq_true rfl) (Nat.le_of_ble_eq_true rfl) (fun _ _ q => ⟨rfl, q.2⟩)
set_option maxRecDepth 100000 in
set_option maxHeartbeats 4000000 in
theorem x2_L_addParty {h h2 : kH} {fs : List Value} {a1 : Int32} {a2 : Int32} (m : kMet kX11_addParty false 1 6 [.ref 0, .int a1, .int a2] h 130 (kRo (.inr "java/lang/IllegalStateException") h2 130)) (hX : h 0 = kO 11 fs) : kMet kL_addParty false 1 6 [.ref 0, .int a1, .int a2, .ref 128] h 130 (kRt (some (.int 2)) h2 130) := by
  refine kMet.inT (by decide) (0, 10, 13, 13) [(0, 10, 17, 36), (0, 10, 21, 15)] rfl rfl _ rfl ?_
  refine k_aload_n (i := 3) dL_addParty_0 (rfl : 0 + 1 = 1) rfl rfl ?_
  refine k_iconst (v := 0) dL_addParty_1 (rfl : 1 + 1 = 2) (by decide) ?_
  refine k_aload_n (i := 0) dL_addParty_2 (rfl : 2 + 1 = 3) rfl rfl ?_
  refine k_iload_n (i := 1) dL_addParty_3 (rfl : 3 + 1 = 4) rfl rfl ?_
  refine k_iload_n (i := 2) dL_addParty_4 (rfl : 4 + 1 = 5) rfl rfl ?_
  exact k_callVxA (K := kL_addParty) (J := kX11_addParty) (Q := kRo (.inr "java/lang/IllegalStateException") h2 130) (h := h) (r := 0) (st := [.int 0, .ref 128]) [.int a1, .int a2] cv_L_33 ⟨Nat.le_of_ble_eq_true rfl, Nat.le_of_ble_eq_true rfl⟩ m dL_addParty_5 (Nat.le_of_ble_eq_true rfl) hX rfl rfl ⟨Nat.le_of_ble_eq_true rfl, Nat.le_of_ble_eq_true rfl⟩ "java/lang/IllegalStateException" (fun _ _ _ q => q.1) [(0, 10, 13, 13)] [(0, 10, 21, 15)] (0, 10, 17, 36) rfl (fun z hz => by
    rcases List.mem_cons.1 hz with rfl | hz
    · exact ⟨by decide, "java/lang/IndexOutOfBoundsException", lk_13, by decide⟩
    cases hz) ⟨Nat.le_of_ble_eq_true rfl, Nat.le_of_ble_eq_true rfl⟩ (by decide) lk_36 lc_36 4 17 19 20 rfl rfl rfl dL_addParty_17 (Nat.le_of_ble_eq_true rfl) 2 2 (by decide) dL_addParty_19 dL_addParty_20 rfl (Nat.le_of_ble_eq_true rfl) (Nat.le_of_ble_eq_true rfl) (fun _ _ q => ⟨rfl, q.2⟩)
set_option maxRecDepth 100000 in
set_option maxHeartbeats 4000000 in
theorem x3_L_addParty {h h2 : kH} {fs : List Value} {a1 : Int32} {a2 : Int32} (m : kMet kX11_addParty false 1 6 [.ref 0, .int a1, .int a2] h 130 (kRo (.inr "java/lang/UnsupportedOperationException") h2 130)) (hX : h 0 = kO 11 fs) : kMet kL_addParty false 1 6 [.ref 0, .int a1, .int a2, .ref 128] h 130 (kRt (some (.int 3)) h2 130) := by
  refine kMet.inT (by decide) (0, 10, 13, 13) [(0, 10, 17, 36), (0, 10, 21, 15)] rfl rfl _ rfl ?_
  refine k_aload_n (i := 3) dL_addParty_0 (rfl : 0 + 1 = 1) rfl rfl ?_
  refine k_iconst (v := 0) dL_addParty_1 (rfl : 1 + 1 = 2) (by decide) ?_
  refine k_aload_n (i := 0) dL_addParty_2 (rfl : 2 + 1 = 3) rfl rfl ?_
  refine k_iload_n (i := 1) dL_addParty_3 (rfl : 3 + 1 = 4) rfl rfl ?_
  refine k_iload_n (i := 2) dL_addParty_4 (rfl : 4 + 1 = 5) rfl rfl ?_
  exact k_callVxA (K := kL_addParty) (J := kX11_addParty) (Q := kRo (.inr "java/lang/UnsupportedOperationException") h2 130) (h := h) (r := 0) (st := [.int 0, .ref 128]) [.int a1, .int a2] cv_L_33 ⟨Nat.le_of_ble_eq_true rfl, Nat.le_of_ble_eq_true rfl⟩ m dL_addParty_5 (Nat.le_of_ble_eq_true rfl) hX rfl rfl ⟨Nat.le_of_ble_eq_true rfl, Nat.le_of_ble_eq_true rfl⟩ "java/lang/UnsupportedOperationException" (fun _ _ _ q => q.1) [(0, 10, 13, 13), (0, 10, 17, 36)] [] (0, 10, 21, 15) rfl (fun z hz => by
    rcases List.mem_cons.1 hz with rfl | hz
    · exact ⟨by decide, "java/lang/IndexOutOfBoundsException", lk_13, by decide⟩
    rcases List.mem_cons.1 hz with rfl | hz
    · exact ⟨by decide, "java/lang/IllegalStateException", lk_36, by decide⟩
    cases hz) ⟨Nat.le_of_ble_eq_true rfl, Nat.le_of_ble_eq_true rfl⟩ (by decide) lk_15 lc_15 4 21 23 24 rfl rfl rfl dL_addParty_21 (Nat.le_of_ble_eq_true rfl) 3 3 (by decide) dL_addParty_23 dL_addParty_24 rfl (Nat.le_of_ble_eq_true rfl) (Nat.le_of_ble_eq_true rfl) (fun _ _ q => ⟨rfl, q.2⟩)
set_option maxRecDepth 100000 in
set_option maxHeartbeats 4000000 in
theorem v_L_append {h h2 : kH} {fs : List Value} {f : Nat → Int64} {w : Int32} {a1 : Int32} (m : kMet kX11_append false 1 6 [.ref 0, .int a1] h 130 (kRt (some (.int w)) h2 130)) (hX : h 0 = kO 11 fs) (hO : h2 128 = kJ 1 f) : kMet kL_append false 1 6 [.ref 0, .int a1, .ref 128] h 130 (kRt (some (.int 0)) (kU h2 128 (kJ 1 (vp_updL f 0 (Int32.toInt64 w)))) 130) := by
  refine kMet.inT (by decide) (0, 9, 12, 31) [(0, 9, 15, 36)] rfl rfl _ rfl ?_
  refine k_aload_n (i := 2) dL_append_0 (rfl : 0 + 1 = 1) rfl rfl ?_
  refine k_iconst (v := 0) dL_append_1 (rfl : 1 + 1 = 2) (by decide) ?_
  refine k_aload_n (i := 0) dL_append_2 (rfl : 2 + 1 = 3) rfl rfl ?_
  refine k_iload_n (i := 1) dL_append_3 (rfl : 3 + 1 = 4) rfl rfl ?_
  refine k_callVd1 cv_L_123 ⟨Nat.le_of_ble_eq_true rfl, Nat.le_of_ble_eq_true rfl⟩ m dL_append_4 (rfl : 4 + 3 = 7) (Nat.le_of_ble_eq_true rfl) hX rfl rfl ⟨Nat.le_of_ble_eq_true rfl, Nat.le_of_ble_eq_true rfl⟩ ?_
  refine k_i2l dL_append_7 (rfl : 7 + 1 = 8) ?_
  refine k_last dL_append_8 (rfl : 8 + 1 = 9) (Nat.le_of_ble_eq_true rfl) hO vp_00 ?_
  refine k_goto (tgt := 18) dL_append_9 (by decide) ?_
  refine k_iconst (v := 0) dL_append_18 (rfl : 18 + 1 = 19) (by decide) ?_
  refine k_iret rfl rfl dL_append_19 (Nat.le_of_ble_eq_true rfl) (Nat.le_of_ble_eq_true rfl) kRt_rfl
set_option maxRecDepth 100000 in
set_option maxHeartbeats 4000000 in
theorem x1_L_append {h h2 : kH} {fs : List Value} {a1 : Int32} (m : kMet kX11_append false 1 6 [.ref 0, .int a1] h 130 (kRo (.inr "java/lang/IllegalArgumentException") h2 130)) (hX : h 0 = kO 11 fs) : kMet kL_append false 1 6 [.ref 0, .int a1, .ref 128] h 130 (kRt (some (.int 1)) h2 130) := by
  refine kMet.inT (by decide) (0, 9, 12, 31) [(0, 9, 15, 36)] rfl rfl _ rfl ?_
  refine k_aload_n (i := 2) dL_append_0 (rfl : 0 + 1 = 1) rfl rfl ?_
  refine k_iconst (v := 0) dL_append_1 (rfl : 1 + 1 = 2) (by decide) ?_
  refine k_aload_n (i := 0) dL_append_2 (rfl : 2 + 1 = 3) rfl rfl ?_
  refine k_iload_n (i := 1) dL_append_3 (rfl : 3 + 1 = 4) rfl rfl ?_
  exact k_callVxN (K := kL_append) (J := kX11_append) (Q := kRo (.inr "java/lang/IllegalArgumentException") h2 130) (h := h) (r := 0) (st := [.int 0, .ref 128]) [.int a1] cv_L_123 ⟨Nat.le_of_ble_eq_true rfl, Nat.le_of_ble_eq_true rfl⟩ m dL_append_4 (Nat.le_of_ble_eq_true rfl) hX rfl rfl ⟨Nat.le_of_ble_eq_true rfl, Nat.le_of_ble_eq_true rfl⟩ "java/lang/IllegalArgumentException" (fun _ _ _ q => q.1) [] [(0, 9, 15, 36)] (0, 9, 12, 31) rfl (fun z hz => by cases hz) ⟨Nat.le_of_ble_eq_true rfl, Nat.le_of_ble_eq_true rfl⟩ (by decide) lk_31 lc_31 3 3 rfl 12 13 14 rfl rfl rfl dL_append_12 (Nat.le_of_ble_eq_true rfl) 1 1 (by decide) dL_append_13 dL_append_14 rfl (Nat.le_of_ble_eq_true rfl) (Nat.le_of_ble_eq_true rfl) (fun _ _ q => ⟨rfl, q.2⟩)
set_option maxRecDepth 100000 in
set_option maxHeartbeats 4000000 in
theorem x2_L_append {h h2 : kH} {fs : List Value} {a1 : Int32} (m : kMet kX11_append false 1 6 [.ref 0, .int a1] h 130 (kRo (.inr "java/lang/IllegalStateException") h2 130)) (hX : h 0 = kO 11 fs) : kMet kL_append false 1 6 [.ref 0, .int a1, .ref 128] h 130 (kRt (some (.int 2)) h2 130) := by
  refine kMet.inT (by decide) (0, 9, 12, 31) [(0, 9, 15, 36)] rfl rfl _ rfl ?_
  refine k_aload_n (i := 2) dL_append_0 (rfl : 0 + 1 = 1) rfl rfl ?_
  refine k_iconst (v := 0) dL_append_1 (rfl : 1 + 1 = 2) (by decide) ?_
  refine k_aload_n (i := 0) dL_append_2 (rfl : 2 + 1 = 3) rfl rfl ?_
  refine k_iload_n (i := 1) dL_append_3 (rfl : 3 + 1 = 4) rfl rfl ?_
  exact k_callVxN (K := kL_append) (J := kX11_append) (Q := kRo (.inr "java/lang/IllegalStateException") h2 130) (h := h) (r := 0) (st := [.int 0, .ref 128]) [.int a1] cv_L_123 ⟨Nat.le_of_ble_eq_true rfl, Nat.le_of_ble_eq_true rfl⟩ m dL_append_4 (Nat.le_of_ble_eq_true rfl) hX rfl rfl ⟨Nat.le_of_ble_eq_true rfl, Nat.le_of_ble_eq_true rfl⟩ "java/lang/IllegalStateException" (fun _ _ _ q => q.1) [(0, 9, 12, 31)] [] (0, 9, 15, 36) rfl (fun z hz => by
    rcases List.mem_cons.1 hz with rfl | hz
    · exact ⟨by decide, "java/lang/IllegalArgumentException", lk_31, by decide⟩
    cases hz) ⟨Nat.le_of_ble_eq_true rfl, Nat.le_of_ble_eq_true rfl⟩ (by decide) lk_36 lc_36 3 3 rfl 15 16 17 rfl rfl rfl dL_append_15 (Nat.le_of_ble_eq_true rfl) 2 2 (by decide) dL_append_16 dL_append_17 rfl (Nat.le_of_ble_eq_true rfl) (Nat.le_of_ble_eq_true rfl) (fun _ _ q => ⟨rfl, q.2⟩)
set_option maxRecDepth 100000 in
set_option maxHeartbeats 4000000 in
theorem v_L_bestThrow {h h2 : kH} {fs : List Value} {f : Nat → Int64} {w : Int32} {a1 : Int32} (m : kMet kX11_bestThrow false 1 6 [.ref 0, .int a1] h 130 (kRt (some (.int w)) h2 130)) (hX : h 0 = kO 11 fs) (hO : h2 128 = kJ 1 f) : kMet kL_bestThrow false 1 6 [.ref 0, .int a1, .ref 128] h 130 (kRt (some (.int 0)) (kU h2 128 (kJ 1 (vp_updL f 0 (Int32.toInt64 w)))) 130) := by
  refine kMet.inT (by decide) (0, 9, 12, 13) [(0, 9, 15, 49)] rfl rfl _ rfl ?_
  refine k_aload_n (i := 2) dL_bestThrow_0 (rfl : 0 + 1 = 1) rfl rfl ?_
  refine k_iconst (v := 0) dL_bestThrow_1 (rfl : 1 + 1 = 2) (by decide) ?_
  refine k_aload_n (i := 0) dL_bestThrow_2 (rfl : 2 + 1 = 3) rfl rfl ?_
  refine k_iload_n (i := 1) dL_bestThrow_3 (rfl : 3 + 1 = 4) rfl rfl ?_
  refine k_callVd1 cv_L_74 ⟨Nat.le_of_ble_eq_true rfl, Nat.le_of_ble_eq_true rfl⟩ m dL_bestThrow_4 (rfl : 4 + 3 = 7) (Nat.le_of_ble_eq_true rfl) hX rfl rfl ⟨Nat.le_of_ble_eq_true rfl, Nat.le_of_ble_eq_true rfl⟩ ?_
  refine k_i2l dL_bestThrow_7 (rfl : 7 + 1 = 8) ?_
  refine k_last dL_bestThrow_8 (rfl : 8 + 1 = 9) (Nat.le_of_ble_eq_true rfl) hO vp_00 ?_
  refine k_goto (tgt := 18) dL_bestThrow_9 (by decide) ?_
  refine k_iconst (v := 0) dL_bestThrow_18 (rfl : 18 + 1 = 19) (by decide) ?_
  refine k_iret rfl rfl dL_bestThrow_19 (Nat.le_of_ble_eq_true rfl) (Nat.le_of_ble_eq_true rfl) kRt_rfl
set_option maxRecDepth 100000 in
set_option maxHeartbeats 4000000 in
theorem x1_L_bestThrow {h h2 : kH} {fs : List Value} {a1 : Int32} (m : kMet kX11_bestThrow false 1 6 [.ref 0, .int a1] h 130 (kRo (.inr "java/lang/IndexOutOfBoundsException") h2 130)) (hX : h 0 = kO 11 fs) : kMet kL_bestThrow false 1 6 [.ref 0, .int a1, .ref 128] h 130 (kRt (some (.int 1)) h2 130) := by
  refine kMet.inT (by decide) (0, 9, 12, 13) [(0, 9, 15, 49)] rfl rfl _ rfl ?_
  refine k_aload_n (i := 2) dL_bestThrow_0 (rfl : 0 + 1 = 1) rfl rfl ?_
  refine k_iconst (v := 0) dL_bestThrow_1 (rfl : 1 + 1 = 2) (by decide) ?_
  refine k_aload_n (i := 0) dL_bestThrow_2 (rfl : 2 + 1 = 3) rfl rfl ?_
  refine k_iload_n (i := 1) dL_bestThrow_3 (rfl : 3 + 1 = 4) rfl rfl ?_
  exact k_callVxN (K := kL_bestThrow) (J := kX11_bestThrow) (Q := kRo (.inr "java/lang/IndexOutOfBoundsException") h2 130) (h := h) (r := 0) (st := [.int 0, .ref 128]) [.int a1] cv_L_74 ⟨Nat.le_of_ble_eq_true rfl, Nat.le_of_ble_eq_true rfl⟩ m dL_bestThrow_4 (Nat.le_of_ble_eq_true rfl) hX rfl rfl ⟨Nat.le_of_ble_eq_true rfl, Nat.le_of_ble_eq_true rfl⟩ "java/lang/IndexOutOfBoundsException" (fun _ _ _ q => q.1) [] [(0, 9, 15, 49)] (0, 9, 12, 13) rfl (fun z hz => by cases hz) ⟨Nat.le_of_ble_eq_true rfl, Nat.le_of_ble_eq_true rfl⟩ (by decide) lk_13 lc_13 3 3 rfl 12 13 14 rfl rfl rfl dL_bestThrow_12 (Nat.le_of_ble_eq_true rfl) 1 1 (by decide) dL_bestThrow_13 dL_bestThrow_14 rfl (Nat.le_of_ble_eq_true rfl) (Nat.le_of_ble_eq_true rfl) (fun _ _ q => ⟨rfl, q.2⟩)
set_option maxRecDepth 100000 in
set_option maxHeartbeats 4000000 in
theorem x2_L_bestThrow {h h2 : kH} {fs : List Value} {a1 : Int32} (m : kMet kX11_bestThrow false 1 6 [.ref 0, .int a1] h 130 (kRo (.inr "java/util/NoSuchElementException") h2 130)) (hX : h 0 = kO 11 fs) : kMet kL_bestThrow false 1 6 [.ref 0, .int a1, .ref 128] h 130 (kRt (some (.int 2)) h2 130) := by
  refine kMet.inT (by decide) (0, 9, 12, 13) [(0, 9, 15, 49)] rfl rfl _ rfl ?_
  refine k_aload_n (i := 2) dL_bestThrow_0 (rfl : 0 + 1 = 1) rfl rfl ?_
  refine k_iconst (v := 0) dL_bestThrow_1 (rfl : 1 + 1 = 2) (by decide) ?_
  refine k_aload_n (i := 0) dL_bestThrow_2 (rfl : 2 + 1 = 3) rfl rfl ?_
  refine k_iload_n (i := 1) dL_bestThrow_3 (rfl : 3 + 1 = 4) rfl rfl ?_
  exact k_callVxN (K := kL_bestThrow) (J := kX11_bestThrow) (Q := kRo (.inr "java/util/NoSuchElementException") h2 130) (h := h) (r := 0) (st := [.int 0, .ref 128]) [.int a1] cv_L_74 ⟨Nat.le_of_ble_eq_true rfl, Nat.le_of_ble_eq_true rfl⟩ m dL_bestThrow_4 (Nat.le_of_ble_eq_true rfl) hX rfl rfl ⟨Nat.le_of_ble_eq_true rfl, Nat.le_of_ble_eq_true rfl⟩ "java/util/NoSuchElementException" (fun _ _ _ q => q.1) [(0, 9, 12, 13)] [] (0, 9, 15, 49) rfl (fun z hz => by
    rcases List.mem_cons.1 hz with rfl | hz
    · exact ⟨by decide, "java/lang/IndexOutOfBoundsException", lk_13, by decide⟩
    cases hz) ⟨Nat.le_of_ble_eq_true rfl, Nat.le_of_ble_eq_true rfl⟩ (by decide) lk_49 lc_49 3 3 rfl 15 16 17 rfl rfl rfl dL_bestThrow_15 (Nat.le_of_ble_eq_true rfl) 2 2 (by decide) dL_bestThrow_16 dL_bestThrow_17 rfl (Nat.le_of_ble_eq_true rfl) (Nat.le_of_ble_eq_true rfl) (fun _ _ q => ⟨rfl, q.2⟩)
set_option maxRecDepth 100000 in
set_option maxHeartbeats 4000000 in
theorem v_L_buyBoomerangs {h h2 : kH} {fs : List Value} {f : Nat → Int64} {w : Int32} {a1 : Int32} (m : kMet kX11_buyBoomerangs false 1 6 [.ref 0, .int a1] h 130 (kRt (some (.int w)) h2 130)) (hX : h 0 = kO 11 fs) (hO : h2 128 = kJ 1 f) : kMet kL_buyBoomerangs false 1 6 [.ref 0, .int a1, .ref 128] h 130 (kRt (some (.int 0)) (kU h2 128 (kJ 1 (vp_updL f 0 (Int32.toInt64 w)))) 130) := by
  refine kMet.inT (by decide) (0, 9, 12, 31) [(0, 9, 15, 36)] rfl rfl _ rfl ?_
  refine k_aload_n (i := 2) dL_buyBoomerangs_0 (rfl : 0 + 1 = 1) rfl rfl ?_
  refine k_iconst (v := 0) dL_buyBoomerangs_1 (rfl : 1 + 1 = 2) (by decide) ?_
  refine k_aload_n (i := 0) dL_buyBoomerangs_2 (rfl : 2 + 1 = 3) rfl rfl ?_
  refine k_iload_n (i := 1) dL_buyBoomerangs_3 (rfl : 3 + 1 = 4) rfl rfl ?_
  refine k_callVd1 cv_L_81 ⟨Nat.le_of_ble_eq_true rfl, Nat.le_of_ble_eq_true rfl⟩ m dL_buyBoomerangs_4 (rfl : 4 + 3 = 7) (Nat.le_of_ble_eq_true rfl) hX rfl rfl ⟨Nat.le_of_ble_eq_true rfl, Nat.le_of_ble_eq_true rfl⟩ ?_
  refine k_i2l dL_buyBoomerangs_7 (rfl : 7 + 1 = 8) ?_
  refine k_last dL_buyBoomerangs_8 (rfl : 8 + 1 = 9) (Nat.le_of_ble_eq_true rfl) hO vp_00 ?_
  refine k_goto (tgt := 18) dL_buyBoomerangs_9 (by decide) ?_
  refine k_iconst (v := 0) dL_buyBoomerangs_18 (rfl : 18 + 1 = 19) (by decide) ?_
  refine k_iret rfl rfl dL_buyBoomerangs_19 (Nat.le_of_ble_eq_true rfl) (Nat.le_of_ble_eq_true rfl) kRt_rfl
set_option maxRecDepth 100000 in
set_option maxHeartbeats 4000000 in
theorem x1_L_buyBoomerangs {h h2 : kH} {fs : List Value} {a1 : Int32} (m : kMet kX11_buyBoomerangs false 1 6 [.ref 0, .int a1] h 130 (kRo (.inr "java/lang/IllegalArgumentException") h2 130)) (hX : h 0 = kO 11 fs) : kMet kL_buyBoomerangs false 1 6 [.ref 0, .int a1, .ref 128] h 130 (kRt (some (.int 1)) h2 130) := by
  refine kMet.inT (by decide) (0, 9, 12, 31) [(0, 9, 15, 36)] rfl rfl _ rfl ?_
  refine k_aload_n (i := 2) dL_buyBoomerangs_0 (rfl : 0 + 1 = 1) rfl rfl ?_
  refine k_iconst (v := 0) dL_buyBoomerangs_1 (rfl : 1 + 1 = 2) (by decide) ?_
  refine k_aload_n (i := 0) dL_buyBoomerangs_2 (rfl : 2 + 1 = 3) rfl rfl ?_
  refine k_iload_n (i := 1) dL_buyBoomerangs_3 (rfl : 3 + 1 = 4) rfl rfl ?_
  exact k_callVxN (K := kL_buyBoomerangs) (J := kX11_buyBoomerangs) (Q := kRo (.inr "java/lang/IllegalArgumentException") h2 130) (h := h) (r := 0) (st := [.int 0, .ref 128]) [.int a1] cv_L_81 ⟨Nat.le_of_ble_eq_true rfl, Nat.le_of_ble_eq_true rfl⟩ m dL_buyBoomerangs_4 (Nat.le_of_ble_eq_true rfl) hX rfl rfl ⟨Nat.le_of_ble_eq_true rfl, Nat.le_of_ble_eq_true rfl⟩ "java/lang/IllegalArgumentException" (fun _ _ _ q => q.1) [] [(0, 9, 15, 36)] (0, 9, 12, 31) rfl (fun z hz => by cases hz) ⟨Nat.le_of_ble_eq_true rfl, Nat.le_of_ble_eq_true rfl⟩ (by decide) lk_31 lc_31 3 3 rfl 12 13 14 rfl rfl rfl dL_buyBoomerangs_12 (Nat.le_of_ble_eq_true rfl) 1 1 (by decide) dL_buyBoomerangs_13 dL_buyBoomerangs_14 rfl (Nat.le_of_ble_eq_true rfl) (Nat.le_of_ble_eq_true rfl) (fun _ _ q => ⟨rfl, q.2⟩)
set_option maxRecDepth 100000 in
set_option maxHeartbeats 4000000 in
theorem x2_L_buyBoomerangs {h h2 : kH} {fs : List Value} {a1 : Int32} (m : kMet kX11_buyBoomerangs false 1 6 [.ref 0, .int a1] h 130 (kRo (.inr "java/lang/IllegalStateException") h2 130)) (hX : h 0 = kO 11 fs) : kMet kL_buyBoomerangs false 1 6 [.ref 0, .int a1, .ref 128] h 130 (kRt (some (.int 2)) h2 130) := by
  refine kMet.inT (by decide) (0, 9, 12, 31) [(0, 9, 15, 36)] rfl rfl _ rfl ?_
  refine k_aload_n (i := 2) dL_buyBoomerangs_0 (rfl : 0 + 1 = 1) rfl rfl ?_
  refine k_iconst (v := 0) dL_buyBoomerangs_1 (rfl : 1 + 1 = 2) (by decide) ?_
  refine k_aload_n (i := 0) dL_buyBoomerangs_2 (rfl : 2 + 1 = 3) rfl rfl ?_
  refine k_iload_n (i := 1) dL_buyBoomerangs_3 (rfl : 3 + 1 = 4) rfl rfl ?_
  exact k_callVxN (K := kL_buyBoomerangs) (J := kX11_buyBoomerangs) (Q := kRo (.inr "java/lang/IllegalStateException") h2 130) (h := h) (r := 0) (st := [.int 0, .ref 128]) [.int a1] cv_L_81 ⟨Nat.le_of_ble_eq_true rfl, Nat.le_of_ble_eq_true rfl⟩ m dL_buyBoomerangs_4 (Nat.le_of_ble_eq_true rfl) hX rfl rfl ⟨Nat.le_of_ble_eq_true rfl, Nat.le_of_ble_eq_true rfl⟩ "java/lang/IllegalStateException" (fun _ _ _ q => q.1) [(0, 9, 12, 31)] [] (0, 9, 15, 36) rfl (fun z hz => by
    rcases List.mem_cons.1 hz with rfl | hz
    · exact ⟨by decide, "java/lang/IllegalArgumentException", lk_31, by decide⟩
    cases hz) ⟨Nat.le_of_ble_eq_true rfl, Nat.le_of_ble_eq_true rfl⟩ (by decide) lk_36 lc_36 3 3 rfl 15 16 17 rfl rfl rfl dL_buyBoomerangs_15 (Nat.le_of_ble_eq_true rfl) 2 2 (by decide) dL_buyBoomerangs_16 dL_buyBoomerangs_17 rfl (Nat.le_of_ble_eq_true rfl) (Nat.le_of_ble_eq_true rfl) (fun _ _ q => ⟨rfl, q.2⟩)
set_option maxRecDepth 100000 in
set_option maxHeartbeats 4000000 in
theorem v_L_caughtShare {h h2 : kH} {fs : List Value} {f : Nat → UInt64} {w : UInt32}  (m : kMet kX11_caughtShare false 1 6 [.ref 0] h 130 (kRt (some (.float w)) h2 130)) (hX : h 0 = kO 11 fs) (hO : h2 129 = kDb 1 f) (hne : vf_n64 (FP.f2d w)) : kMet kL_caughtShare false 1 6 [.ref 0, .ref 129] h 130 (kRt (some (.int 0)) (kU h2 129 (kDb 1 (vf_upd f 0 (FP.f2d w)))) 130) := by
  refine kMet.inT (by decide) (0, 8, 11, 114) [] rfl rfl _ rfl ?_
  refine k_aload_n (i := 1) dL_caughtShare_0 (rfl : 0 + 1 = 1) rfl rfl ?_
  refine k_iconst (v := 0) dL_caughtShare_1 (rfl : 1 + 1 = 2) (by decide) ?_
  refine k_aload_n (i := 0) dL_caughtShare_2 (rfl : 2 + 1 = 3) rfl rfl ?_
  refine k_callVd0 cv_L_110 ⟨Nat.le_of_ble_eq_true rfl, Nat.le_of_ble_eq_true rfl⟩ m dL_caughtShare_3 (rfl : 3 + 3 = 6) (Nat.le_of_ble_eq_true rfl) hX rfl rfl ⟨Nat.le_of_ble_eq_true rfl, Nat.le_of_ble_eq_true rfl⟩ ?_
  refine k_f2d dL_caughtShare_6 (rfl : 6 + 1 = 7) hne ?_
  refine k_dast dL_caughtShare_7 (rfl : 7 + 1 = 8) (Nat.le_of_ble_eq_true rfl) hO vp_00 ?_
  refine k_goto (tgt := 14) dL_caughtShare_8 (by decide) ?_
  refine k_iconst (v := 0) dL_caughtShare_14 (rfl : 14 + 1 = 15) (by decide) ?_
  refine k_iret rfl rfl dL_caughtShare_15 (Nat.le_of_ble_eq_true rfl) (Nat.le_of_ble_eq_true rfl) kRt_rfl
set_option maxRecDepth 100000 in
set_option maxHeartbeats 4000000 in
theorem x1_L_caughtShare {h h2 : kH} {fs : List Value}  (m : kMet kX11_caughtShare false 1 6 [.ref 0] h 130 (kRo (.inr "java/lang/ArithmeticException") h2 130)) (hX : h 0 = kO 11 fs) : kMet kL_caughtShare false 1 6 [.ref 0, .ref 129] h 130 (kRt (some (.int 1)) h2 130) := by
  refine kMet.inT (by decide) (0, 8, 11, 114) [] rfl rfl _ rfl ?_
  refine k_aload_n (i := 1) dL_caughtShare_0 (rfl : 0 + 1 = 1) rfl rfl ?_
  refine k_iconst (v := 0) dL_caughtShare_1 (rfl : 1 + 1 = 2) (by decide) ?_
  refine k_aload_n (i := 0) dL_caughtShare_2 (rfl : 2 + 1 = 3) rfl rfl ?_
  exact k_callVxN (K := kL_caughtShare) (J := kX11_caughtShare) (Q := kRo (.inr "java/lang/ArithmeticException") h2 130) (h := h) (r := 0) (st := [.int 0, .ref 129]) [] cv_L_110 ⟨Nat.le_of_ble_eq_true rfl, Nat.le_of_ble_eq_true rfl⟩ m dL_caughtShare_3 (Nat.le_of_ble_eq_true rfl) hX rfl rfl ⟨Nat.le_of_ble_eq_true rfl, Nat.le_of_ble_eq_true rfl⟩ "java/lang/ArithmeticException" (fun _ _ _ q => q.1) [] [] (0, 8, 11, 114) rfl (fun z hz => by cases hz) ⟨Nat.le_of_ble_eq_true rfl, Nat.le_of_ble_eq_true rfl⟩ (by decide) lk_114 lc_114 2 2 rfl 11 12 13 rfl rfl rfl dL_caughtShare_11 (Nat.le_of_ble_eq_true rfl) 1 1 (by decide) dL_caughtShare_12 dL_caughtShare_13 rfl (Nat.le_of_ble_eq_true rfl) (Nat.le_of_ble_eq_true rfl) (fun _ _ q => ⟨rfl, q.2⟩)
set_option maxRecDepth 100000 in
set_option maxHeartbeats 4000000 in
theorem v_L_caughtShareBits {h h2 : kH} {fs : List Value} {f : Nat → Int64} {w : Int32}  (m : kMet kX11_caughtShareBits false 1 6 [.ref 0] h 130 (kRt (some (.int w)) h2 130)) (hX : h 0 = kO 11 fs) (hO : h2 128 = kJ 1 f) : kMet kL_caughtShareBits false 1 6 [.ref 0, .ref 128] h 130 (kRt (some (.int 0)) (kU h2 128 (kJ 1 (vp_updL f 0 (Int32.toInt64 w)))) 130) := by
  refine kMet.inT (by decide) (0, 8, 11, 114) [] rfl rfl _ rfl ?_
  refine k_aload_n (i := 1) dL_caughtShareBits_0 (rfl : 0 + 1 = 1) rfl rfl ?_
  refine k_iconst (v := 0) dL_caughtShareBits_1 (rfl : 1 + 1 = 2) (by decide) ?_
  refine k_aload_n (i := 0) dL_caughtShareBits_2 (rfl : 2 + 1 = 3) rfl rfl ?_
  refine k_callVd0 cv_L_116 ⟨Nat.le_of_ble_eq_true rfl, Nat.le_of_ble_eq_true rfl⟩ m dL_caughtShareBits_3 (rfl : 3 + 3 = 6) (Nat.le_of_ble_eq_true rfl) hX rfl rfl ⟨Nat.le_of_ble_eq_true rfl, Nat.le_of_ble_eq_true rfl⟩ ?_
  refine k_i2l dL_caughtShareBits_6 (rfl : 6 + 1 = 7) ?_
  refine k_last dL_caughtShareBits_7 (rfl : 7 + 1 = 8) (Nat.le_of_ble_eq_true rfl) hO vp_00 ?_
  refine k_goto (tgt := 14) dL_caughtShareBits_8 (by decide) ?_
  refine k_iconst (v := 0) dL_caughtShareBits_14 (rfl : 14 + 1 = 15) (by decide) ?_
  refine k_iret rfl rfl dL_caughtShareBits_15 (Nat.le_of_ble_eq_true rfl) (Nat.le_of_ble_eq_true rfl) kRt_rfl
set_option maxRecDepth 100000 in
set_option maxHeartbeats 4000000 in
theorem x1_L_caughtShareBits {h h2 : kH} {fs : List Value}  (m : kMet kX11_caughtShareBits false 1 6 [.ref 0] h 130 (kRo (.inr "java/lang/ArithmeticException") h2 130)) (hX : h 0 = kO 11 fs) : kMet kL_caughtShareBits false 1 6 [.ref 0, .ref 128] h 130 (kRt (some (.int 1)) h2 130) := by
  refine kMet.inT (by decide) (0, 8, 11, 114) [] rfl rfl _ rfl ?_
  refine k_aload_n (i := 1) dL_caughtShareBits_0 (rfl : 0 + 1 = 1) rfl rfl ?_
  refine k_iconst (v := 0) dL_caughtShareBits_1 (rfl : 1 + 1 = 2) (by decide) ?_
  refine k_aload_n (i := 0) dL_caughtShareBits_2 (rfl : 2 + 1 = 3) rfl rfl ?_
  exact k_callVxN (K := kL_caughtShareBits) (J := kX11_caughtShareBits) (Q := kRo (.inr "java/lang/ArithmeticException") h2 130) (h := h) (r := 0) (st := [.int 0, .ref 128]) [] cv_L_116 ⟨Nat.le_of_ble_eq_true rfl, Nat.le_of_ble_eq_true rfl⟩ m dL_caughtShareBits_3 (Nat.le_of_ble_eq_true rfl) hX rfl rfl ⟨Nat.le_of_ble_eq_true rfl, Nat.le_of_ble_eq_true rfl⟩ "java/lang/ArithmeticException" (fun _ _ _ q => q.1) [] [] (0, 8, 11, 114) rfl (fun z hz => by cases hz) ⟨Nat.le_of_ble_eq_true rfl, Nat.le_of_ble_eq_true rfl⟩ (by decide) lk_114 lc_114 2 2 rfl 11 12 13 rfl rfl rfl dL_caughtShareBits_11 (Nat.le_of_ble_eq_true rfl) 1 1 (by decide) dL_caughtShareBits_12 dL_caughtShareBits_13 rfl (Nat.le_of_ble_eq_true rfl) (Nat.le_of_ble_eq_true rfl) (fun _ _ q => ⟨rfl, q.2⟩)
set_option maxRecDepth 100000 in
set_option maxHeartbeats 4000000 in
theorem v_L_cellOf {h h2 : kH} {fs : List Value} {f : Nat → Int64} {w : Int32} {a1 : Int32} (m : kMet kX11_cellOf false 1 6 [.ref 0, .int a1] h 130 (kRt (some (.int w)) h2 130)) (hX : h 0 = kO 11 fs) (hO : h2 128 = kJ 1 f) : kMet kL_cellOf false 1 6 [.ref 0, .int a1, .ref 128] h 130 (kRt (some (.int 0)) (kU h2 128 (kJ 1 (vp_updL f 0 (Int32.toInt64 w)))) 130) := by
  refine kMet.inT (by decide) (0, 9, 12, 13) [] rfl rfl _ rfl ?_
  refine k_aload_n (i := 2) dL_cellOf_0 (rfl : 0 + 1 = 1) rfl rfl ?_
  refine k_iconst (v := 0) dL_cellOf_1 (rfl : 1 + 1 = 2) (by decide) ?_
  refine k_aload_n (i := 0) dL_cellOf_2 (rfl : 2 + 1 = 3) rfl rfl ?_
  refine k_iload_n (i := 1) dL_cellOf_3 (rfl : 3 + 1 = 4) rfl rfl ?_
  refine k_callVd1 cv_L_42 ⟨Nat.le_of_ble_eq_true rfl, Nat.le_of_ble_eq_true rfl⟩ m dL_cellOf_4 (rfl : 4 + 3 = 7) (Nat.le_of_ble_eq_true rfl) hX rfl rfl ⟨Nat.le_of_ble_eq_true rfl, Nat.le_of_ble_eq_true rfl⟩ ?_
  refine k_i2l dL_cellOf_7 (rfl : 7 + 1 = 8) ?_
  refine k_last dL_cellOf_8 (rfl : 8 + 1 = 9) (Nat.le_of_ble_eq_true rfl) hO vp_00 ?_
  refine k_goto (tgt := 15) dL_cellOf_9 (by decide) ?_
  refine k_iconst (v := 0) dL_cellOf_15 (rfl : 15 + 1 = 16) (by decide) ?_
  refine k_iret rfl rfl dL_cellOf_16 (Nat.le_of_ble_eq_true rfl) (Nat.le_of_ble_eq_true rfl) kRt_rfl
set_option maxRecDepth 100000 in
set_option maxHeartbeats 4000000 in
theorem x1_L_cellOf {h h2 : kH} {fs : List Value} {a1 : Int32} (m : kMet kX11_cellOf false 1 6 [.ref 0, .int a1] h 130 (kRo (.inr "java/lang/IndexOutOfBoundsException") h2 130)) (hX : h 0 = kO 11 fs) : kMet kL_cellOf false 1 6 [.ref 0, .int a1, .ref 128] h 130 (kRt (some (.int 1)) h2 130) := by
  refine kMet.inT (by decide) (0, 9, 12, 13) [] rfl rfl _ rfl ?_
  refine k_aload_n (i := 2) dL_cellOf_0 (rfl : 0 + 1 = 1) rfl rfl ?_
  refine k_iconst (v := 0) dL_cellOf_1 (rfl : 1 + 1 = 2) (by decide) ?_
  refine k_aload_n (i := 0) dL_cellOf_2 (rfl : 2 + 1 = 3) rfl rfl ?_
  refine k_iload_n (i := 1) dL_cellOf_3 (rfl : 3 + 1 = 4) rfl rfl ?_
  exact k_callVxN (K := kL_cellOf) (J := kX11_cellOf) (Q := kRo (.inr "java/lang/IndexOutOfBoundsException") h2 130) (h := h) (r := 0) (st := [.int 0, .ref 128]) [.int a1] cv_L_42 ⟨Nat.le_of_ble_eq_true rfl, Nat.le_of_ble_eq_true rfl⟩ m dL_cellOf_4 (Nat.le_of_ble_eq_true rfl) hX rfl rfl ⟨Nat.le_of_ble_eq_true rfl, Nat.le_of_ble_eq_true rfl⟩ "java/lang/IndexOutOfBoundsException" (fun _ _ _ q => q.1) [] [] (0, 9, 12, 13) rfl (fun z hz => by cases hz) ⟨Nat.le_of_ble_eq_true rfl, Nat.le_of_ble_eq_true rfl⟩ (by decide) lk_13 lc_13 3 3 rfl 12 13 14 rfl rfl rfl dL_cellOf_12 (Nat.le_of_ble_eq_true rfl) 1 1 (by decide) dL_cellOf_13 dL_cellOf_14 rfl (Nat.le_of_ble_eq_true rfl) (Nat.le_of_ble_eq_true rfl) (fun _ _ q => ⟨rfl, q.2⟩)
set_option maxRecDepth 100000 in
set_option maxHeartbeats 4000000 in
theorem v_L_describePlea {h h2 : kH} {fs : List Value} {f : Nat → Int64} {w : Int32} {a1 : Int32} (m : kMet kX11_describePlea false 1 6 [.ref 0, .int a1] h 130 (kRt (some (.int w)) h2 130)) (hX : h 0 = kO 11 fs) (hO : h2 128 = kJ 1 f) : kMet kL_describePlea false 1 6 [.ref 0, .int a1, .ref 128] h 130 (kRt (some (.int 0)) (kU h2 128 (kJ 1 (vp_updL f 0 (Int32.toInt64 w)))) 130) := by
  refine kMet.inT (by decide) (0, 9, 12, 13) [] rfl rfl _ rfl ?_
  refine k_aload_n (i := 2) dL_describePlea_0 (rfl : 0 + 1 = 1) rfl rfl ?_
  refine k_iconst (v := 0) dL_describePlea_1 (rfl : 1 + 1 = 2) (by decide) ?_
  refine k_aload_n (i := 0) dL_describePlea_2 (rfl : 2 + 1 = 3) rfl rfl ?_
  refine k_iload_n (i := 1) dL_describePlea_3 (rfl : 3 + 1 = 4) rfl rfl ?_
  refine k_callVd1 cv_L_139 ⟨Nat.le_of_ble_eq_true rfl, Nat.le_of_ble_eq_true rfl⟩ m dL_describePlea_4 (rfl : 4 + 3 = 7) (Nat.le_of_ble_eq_true rfl) hX rfl rfl ⟨Nat.le_of_ble_eq_true rfl, Nat.le_of_ble_eq_true rfl⟩ ?_
  refine k_i2l dL_describePlea_7 (rfl : 7 + 1 = 8) ?_
  refine k_last dL_describePlea_8 (rfl : 8 + 1 = 9) (Nat.le_of_ble_eq_true rfl) hO vp_00 ?_
  refine k_goto (tgt := 15) dL_describePlea_9 (by decide) ?_
  refine k_iconst (v := 0) dL_describePlea_15 (rfl : 15 + 1 = 16) (by decide) ?_
  refine k_iret rfl rfl dL_describePlea_16 (Nat.le_of_ble_eq_true rfl) (Nat.le_of_ble_eq_true rfl) kRt_rfl
set_option maxRecDepth 100000 in
set_option maxHeartbeats 4000000 in
theorem x1_L_describePlea {h h2 : kH} {fs : List Value} {a1 : Int32} (m : kMet kX11_describePlea false 1 6 [.ref 0, .int a1] h 130 (kRo (.inr "java/lang/IndexOutOfBoundsException") h2 130)) (hX : h 0 = kO 11 fs) : kMet kL_describePlea false 1 6 [.ref 0, .int a1, .ref 128] h 130 (kRt (some (.int 1)) h2 130) := by
  refine kMet.inT (by decide) (0, 9, 12, 13) [] rfl rfl _ rfl ?_
  refine k_aload_n (i := 2) dL_describePlea_0 (rfl : 0 + 1 = 1) rfl rfl ?_
  refine k_iconst (v := 0) dL_describePlea_1 (rfl : 1 + 1 = 2) (by decide) ?_
  refine k_aload_n (i := 0) dL_describePlea_2 (rfl : 2 + 1 = 3) rfl rfl ?_
  refine k_iload_n (i := 1) dL_describePlea_3 (rfl : 3 + 1 = 4) rfl rfl ?_
  exact k_callVxN (K := kL_describePlea) (J := kX11_describePlea) (Q := kRo (.inr "java/lang/IndexOutOfBoundsException") h2 130) (h := h) (r := 0) (st := [.int 0, .ref 128]) [.int a1] cv_L_139 ⟨Nat.le_of_ble_eq_true rfl, Nat.le_of_ble_eq_true rfl⟩ m dL_describePlea_4 (Nat.le_of_ble_eq_true rfl) hX rfl rfl ⟨Nat.le_of_ble_eq_true rfl, Nat.le_of_ble_eq_true rfl⟩ "java/lang/IndexOutOfBoundsException" (fun _ _ _ q => q.1) [] [] (0, 9, 12, 13) rfl (fun z hz => by cases hz) ⟨Nat.le_of_ble_eq_true rfl, Nat.le_of_ble_eq_true rfl⟩ (by decide) lk_13 lc_13 3 3 rfl 12 13 14 rfl rfl rfl dL_describePlea_12 (Nat.le_of_ble_eq_true rfl) 1 1 (by decide) dL_describePlea_13 dL_describePlea_14 rfl (Nat.le_of_ble_eq_true rfl) (Nat.le_of_ble_eq_true rfl) (fun _ _ q => ⟨rfl, q.2⟩)
set_option maxRecDepth 100000 in
set_option maxHeartbeats 4000000 in
theorem v_L_describeRow {h h2 : kH} {fs : List Value} {f : Nat → Int64} {w : Int32} {a1 : Int32} (m : kMet kX11_describeRow false 1 6 [.ref 0, .int a1] h 130 (kRt (some (.int w)) h2 130)) (hX : h 0 = kO 11 fs) (hO : h2 128 = kJ 1 f) : kMet kL_describeRow false 1 6 [.ref 0, .int a1, .ref 128] h 130 (kRt (some (.int 0)) (kU h2 128 (kJ 1 (vp_updL f 0 (Int32.toInt64 w)))) 130) := by
  refine kMet.inT (by decide) (0, 9, 12, 13) [] rfl rfl _ rfl ?_
  refine k_aload_n (i := 2) dL_describeRow_0 (rfl : 0 + 1 = 1) rfl rfl ?_
  refine k_iconst (v := 0) dL_describeRow_1 (rfl : 1 + 1 = 2) (by decide) ?_
  refine k_aload_n (i := 0) dL_describeRow_2 (rfl : 2 + 1 = 3) rfl rfl ?_
  refine k_iload_n (i := 1) dL_describeRow_3 (rfl : 3 + 1 = 4) rfl rfl ?_
  refine k_callVd1 cv_L_136 ⟨Nat.le_of_ble_eq_true rfl, Nat.le_of_ble_eq_true rfl⟩ m dL_describeRow_4 (rfl : 4 + 3 = 7) (Nat.le_of_ble_eq_true rfl) hX rfl rfl ⟨Nat.le_of_ble_eq_true rfl, Nat.le_of_ble_eq_true rfl⟩ ?_
  refine k_i2l dL_describeRow_7 (rfl : 7 + 1 = 8) ?_
  refine k_last dL_describeRow_8 (rfl : 8 + 1 = 9) (Nat.le_of_ble_eq_true rfl) hO vp_00 ?_
  refine k_goto (tgt := 15) dL_describeRow_9 (by decide) ?_
  refine k_iconst (v := 0) dL_describeRow_15 (rfl : 15 + 1 = 16) (by decide) ?_
  refine k_iret rfl rfl dL_describeRow_16 (Nat.le_of_ble_eq_true rfl) (Nat.le_of_ble_eq_true rfl) kRt_rfl
set_option maxRecDepth 100000 in
set_option maxHeartbeats 4000000 in
theorem x1_L_describeRow {h h2 : kH} {fs : List Value} {a1 : Int32} (m : kMet kX11_describeRow false 1 6 [.ref 0, .int a1] h 130 (kRo (.inr "java/lang/IndexOutOfBoundsException") h2 130)) (hX : h 0 = kO 11 fs) : kMet kL_describeRow false 1 6 [.ref 0, .int a1, .ref 128] h 130 (kRt (some (.int 1)) h2 130) := by
  refine kMet.inT (by decide) (0, 9, 12, 13) [] rfl rfl _ rfl ?_
  refine k_aload_n (i := 2) dL_describeRow_0 (rfl : 0 + 1 = 1) rfl rfl ?_
  refine k_iconst (v := 0) dL_describeRow_1 (rfl : 1 + 1 = 2) (by decide) ?_
  refine k_aload_n (i := 0) dL_describeRow_2 (rfl : 2 + 1 = 3) rfl rfl ?_
  refine k_iload_n (i := 1) dL_describeRow_3 (rfl : 3 + 1 = 4) rfl rfl ?_
  exact k_callVxN (K := kL_describeRow) (J := kX11_describeRow) (Q := kRo (.inr "java/lang/IndexOutOfBoundsException") h2 130) (h := h) (r := 0) (st := [.int 0, .ref 128]) [.int a1] cv_L_136 ⟨Nat.le_of_ble_eq_true rfl, Nat.le_of_ble_eq_true rfl⟩ m dL_describeRow_4 (Nat.le_of_ble_eq_true rfl) hX rfl rfl ⟨Nat.le_of_ble_eq_true rfl, Nat.le_of_ble_eq_true rfl⟩ "java/lang/IndexOutOfBoundsException" (fun _ _ _ q => q.1) [] [] (0, 9, 12, 13) rfl (fun z hz => by cases hz) ⟨Nat.le_of_ble_eq_true rfl, Nat.le_of_ble_eq_true rfl⟩ (by decide) lk_13 lc_13 3 3 rfl 12 13 14 rfl rfl rfl dL_describeRow_12 (Nat.le_of_ble_eq_true rfl) 1 1 (by decide) dL_describeRow_13 dL_describeRow_14 rfl (Nat.le_of_ble_eq_true rfl) (Nat.le_of_ble_eq_true rfl) (fun _ _ q => ⟨rfl, q.2⟩)
set_option maxRecDepth 100000 in
set_option maxHeartbeats 4000000 in
theorem v_L_errorPosition {h h2 : kH} {fs : List Value} {f : Nat → Int64} {w : Int32}  (m : kMet kX11_errorPosition false 1 6 [.ref 0] h 130 (kRt (some (.int w)) h2 130)) (hX : h 0 = kO 11 fs) (hO : h2 128 = kJ 1 f) : kMet kL_errorPosition false 1 6 [.ref 0, .ref 128] h 130 (kRt (some (.int 0)) (kU h2 128 (kJ 1 (vp_updL f 0 (Int32.toInt64 w)))) 130) := by
  refine kMet.inT (by decide) (0, 8, 11, 49) [] rfl rfl _ rfl ?_
  refine k_aload_n (i := 1) dL_errorPosition_0 (rfl : 0 + 1 = 1) rfl rfl ?_
  refine k_iconst (v := 0) dL_errorPosition_1 (rfl : 1 + 1 = 2) (by decide) ?_
  refine k_aload_n (i := 0) dL_errorPosition_2 (rfl : 2 + 1 = 3) rfl rfl ?_
  refine k_callVd0 cv_L_130 ⟨Nat.le_of_ble_eq_true rfl, Nat.le_of_ble_eq_true rfl⟩ m dL_errorPosition_3 (rfl : 3 + 3 = 6) (Nat.le_of_ble_eq_true rfl) hX rfl rfl ⟨Nat.le_of_ble_eq_true rfl, Nat.le_of_ble_eq_true rfl⟩ ?_
  refine k_i2l dL_errorPosition_6 (rfl : 6 + 1 = 7) ?_
  refine k_last dL_errorPosition_7 (rfl : 7 + 1 = 8) (Nat.le_of_ble_eq_true rfl) hO vp_00 ?_
  refine k_goto (tgt := 14) dL_errorPosition_8 (by decide) ?_
  refine k_iconst (v := 0) dL_errorPosition_14 (rfl : 14 + 1 = 15) (by decide) ?_
  refine k_iret rfl rfl dL_errorPosition_15 (Nat.le_of_ble_eq_true rfl) (Nat.le_of_ble_eq_true rfl) kRt_rfl
set_option maxRecDepth 100000 in
set_option maxHeartbeats 4000000 in
theorem x1_L_errorPosition {h h2 : kH} {fs : List Value}  (m : kMet kX11_errorPosition false 1 6 [.ref 0] h 130 (kRo (.inr "java/util/NoSuchElementException") h2 130)) (hX : h 0 = kO 11 fs) : kMet kL_errorPosition false 1 6 [.ref 0, .ref 128] h 130 (kRt (some (.int 1)) h2 130) := by
  refine kMet.inT (by decide) (0, 8, 11, 49) [] rfl rfl _ rfl ?_
  refine k_aload_n (i := 1) dL_errorPosition_0 (rfl : 0 + 1 = 1) rfl rfl ?_
  refine k_iconst (v := 0) dL_errorPosition_1 (rfl : 1 + 1 = 2) (by decide) ?_
  refine k_aload_n (i := 0) dL_errorPosition_2 (rfl : 2 + 1 = 3) rfl rfl ?_
  exact k_callVxN (K := kL_errorPosition) (J := kX11_errorPosition) (Q := kRo (.inr "java/util/NoSuchElementException") h2 130) (h := h) (r := 0) (st := [.int 0, .ref 128]) [] cv_L_130 ⟨Nat.le_of_ble_eq_true rfl, Nat.le_of_ble_eq_true rfl⟩ m dL_errorPosition_3 (Nat.le_of_ble_eq_true rfl) hX rfl rfl ⟨Nat.le_of_ble_eq_true rfl, Nat.le_of_ble_eq_true rfl⟩ "java/util/NoSuchElementException" (fun _ _ _ q => q.1) [] [] (0, 8, 11, 49) rfl (fun z hz => by cases hz) ⟨Nat.le_of_ble_eq_true rfl, Nat.le_of_ble_eq_true rfl⟩ (by decide) lk_49 lc_49 2 2 rfl 11 12 13 rfl rfl rfl dL_errorPosition_11 (Nat.le_of_ble_eq_true rfl) 1 1 (by decide) dL_errorPosition_12 dL_errorPosition_13 rfl (Nat.le_of_ble_eq_true rfl) (Nat.le_of_ble_eq_true rfl) (fun _ _ q => ⟨rfl, q.2⟩)
set_option maxRecDepth 100000 in
set_option maxHeartbeats 4000000 in
theorem v_L_failedCommand {h h2 : kH} {fs : List Value} {f : Nat → Int64} {w : Int32}  (m : kMet kX11_failedCommand false 1 6 [.ref 0] h 130 (kRt (some (.int w)) h2 130)) (hX : h 0 = kO 11 fs) (hO : h2 128 = kJ 1 f) : kMet kL_failedCommand false 1 6 [.ref 0, .ref 128] h 130 (kRt (some (.int 0)) (kU h2 128 (kJ 1 (vp_updL f 0 (Int32.toInt64 w)))) 130) := by
  refine kMet.inT (by decide) (0, 8, 11, 49) [] rfl rfl _ rfl ?_
  refine k_aload_n (i := 1) dL_failedCommand_0 (rfl : 0 + 1 = 1) rfl rfl ?_
  refine k_iconst (v := 0) dL_failedCommand_1 (rfl : 1 + 1 = 2) (by decide) ?_
  refine k_aload_n (i := 0) dL_failedCommand_2 (rfl : 2 + 1 = 3) rfl rfl ?_
  refine k_callVd0 cv_L_133 ⟨Nat.le_of_ble_eq_true rfl, Nat.le_of_ble_eq_true rfl⟩ m dL_failedCommand_3 (rfl : 3 + 3 = 6) (Nat.le_of_ble_eq_true rfl) hX rfl rfl ⟨Nat.le_of_ble_eq_true rfl, Nat.le_of_ble_eq_true rfl⟩ ?_
  refine k_i2l dL_failedCommand_6 (rfl : 6 + 1 = 7) ?_
  refine k_last dL_failedCommand_7 (rfl : 7 + 1 = 8) (Nat.le_of_ble_eq_true rfl) hO vp_00 ?_
  refine k_goto (tgt := 14) dL_failedCommand_8 (by decide) ?_
  refine k_iconst (v := 0) dL_failedCommand_14 (rfl : 14 + 1 = 15) (by decide) ?_
  refine k_iret rfl rfl dL_failedCommand_15 (Nat.le_of_ble_eq_true rfl) (Nat.le_of_ble_eq_true rfl) kRt_rfl
set_option maxRecDepth 100000 in
set_option maxHeartbeats 4000000 in
theorem x1_L_failedCommand {h h2 : kH} {fs : List Value}  (m : kMet kX11_failedCommand false 1 6 [.ref 0] h 130 (kRo (.inr "java/util/NoSuchElementException") h2 130)) (hX : h 0 = kO 11 fs) : kMet kL_failedCommand false 1 6 [.ref 0, .ref 128] h 130 (kRt (some (.int 1)) h2 130) := by
  refine kMet.inT (by decide) (0, 8, 11, 49) [] rfl rfl _ rfl ?_
  refine k_aload_n (i := 1) dL_failedCommand_0 (rfl : 0 + 1 = 1) rfl rfl ?_
  refine k_iconst (v := 0) dL_failedCommand_1 (rfl : 1 + 1 = 2) (by decide) ?_
  refine k_aload_n (i := 0) dL_failedCommand_2 (rfl : 2 + 1 = 3) rfl rfl ?_
  exact k_callVxN (K := kL_failedCommand) (J := kX11_failedCommand) (Q := kRo (.inr "java/util/NoSuchElementException") h2 130) (h := h) (r := 0) (st := [.int 0, .ref 128]) [] cv_L_133 ⟨Nat.le_of_ble_eq_true rfl, Nat.le_of_ble_eq_true rfl⟩ m dL_failedCommand_3 (Nat.le_of_ble_eq_true rfl) hX rfl rfl ⟨Nat.le_of_ble_eq_true rfl, Nat.le_of_ble_eq_true rfl⟩ "java/util/NoSuchElementException" (fun _ _ _ q => q.1) [] [] (0, 8, 11, 49) rfl (fun z hz => by cases hz) ⟨Nat.le_of_ble_eq_true rfl, Nat.le_of_ble_eq_true rfl⟩ (by decide) lk_49 lc_49 2 2 rfl 11 12 13 rfl rfl rfl dL_failedCommand_11 (Nat.le_of_ble_eq_true rfl) 1 1 (by decide) dL_failedCommand_12 dL_failedCommand_13 rfl (Nat.le_of_ble_eq_true rfl) (Nat.le_of_ble_eq_true rfl) (fun _ _ q => ⟨rfl, q.2⟩)
set_option maxRecDepth 100000 in
set_option maxHeartbeats 4000000 in
theorem v_L_flightBits {h h2 : kH} {fs : List Value} {f : Nat → Int64} {w : Int64} {a1 : Int32} (m : kMet kX11_flightBits false 1 6 [.ref 0, .int a1] h 130 (kRt (some (.long w)) h2 130)) (hX : h 0 = kO 11 fs) (hO : h2 128 = kJ 1 f) : kMet kL_flightBits false 1 6 [.ref 0, .int a1, .ref 128] h 130 (kRt (some (.int 0)) (kU h2 128 (kJ 1 (vp_updL f 0 w))) 130) := by
  refine kMet.inT (by decide) (0, 8, 11, 31) [] rfl rfl _ rfl ?_
  refine k_aload_n (i := 2) dL_flightBits_0 (rfl : 0 + 1 = 1) rfl rfl ?_
  refine k_iconst (v := 0) dL_flightBits_1 (rfl : 1 + 1 = 2) (by decide) ?_
  refine k_aload_n (i := 0) dL_flightBits_2 (rfl : 2 + 1 = 3) rfl rfl ?_
  refine k_iload_n (i := 1) dL_flightBits_3 (rfl : 3 + 1 = 4) rfl rfl ?_
  refine k_callVd1 cv_L_64 ⟨Nat.le_of_ble_eq_true rfl, Nat.le_of_ble_eq_true rfl⟩ m dL_flightBits_4 (rfl : 4 + 3 = 7) (Nat.le_of_ble_eq_true rfl) hX rfl rfl ⟨Nat.le_of_ble_eq_true rfl, Nat.le_of_ble_eq_true rfl⟩ ?_
  refine k_last dL_flightBits_7 (rfl : 7 + 1 = 8) (Nat.le_of_ble_eq_true rfl) hO vp_00 ?_
  refine k_goto (tgt := 14) dL_flightBits_8 (by decide) ?_
  refine k_iconst (v := 0) dL_flightBits_14 (rfl : 14 + 1 = 15) (by decide) ?_
  refine k_iret rfl rfl dL_flightBits_15 (Nat.le_of_ble_eq_true rfl) (Nat.le_of_ble_eq_true rfl) kRt_rfl
set_option maxRecDepth 100000 in
set_option maxHeartbeats 4000000 in
theorem x1_L_flightBits {h h2 : kH} {fs : List Value} {a1 : Int32} (m : kMet kX11_flightBits false 1 6 [.ref 0, .int a1] h 130 (kRo (.inr "java/lang/IllegalArgumentException") h2 130)) (hX : h 0 = kO 11 fs) : kMet kL_flightBits false 1 6 [.ref 0, .int a1, .ref 128] h 130 (kRt (some (.int 1)) h2 130) := by
  refine kMet.inT (by decide) (0, 8, 11, 31) [] rfl rfl _ rfl ?_
  refine k_aload_n (i := 2) dL_flightBits_0 (rfl : 0 + 1 = 1) rfl rfl ?_
  refine k_iconst (v := 0) dL_flightBits_1 (rfl : 1 + 1 = 2) (by decide) ?_
  refine k_aload_n (i := 0) dL_flightBits_2 (rfl : 2 + 1 = 3) rfl rfl ?_
  refine k_iload_n (i := 1) dL_flightBits_3 (rfl : 3 + 1 = 4) rfl rfl ?_
  exact k_callVxN (K := kL_flightBits) (J := kX11_flightBits) (Q := kRo (.inr "java/lang/IllegalArgumentException") h2 130) (h := h) (r := 0) (st := [.int 0, .ref 128]) [.int a1] cv_L_64 ⟨Nat.le_of_ble_eq_true rfl, Nat.le_of_ble_eq_true rfl⟩ m dL_flightBits_4 (Nat.le_of_ble_eq_true rfl) hX rfl rfl ⟨Nat.le_of_ble_eq_true rfl, Nat.le_of_ble_eq_true rfl⟩ "java/lang/IllegalArgumentException" (fun _ _ _ q => q.1) [] [] (0, 8, 11, 31) rfl (fun z hz => by cases hz) ⟨Nat.le_of_ble_eq_true rfl, Nat.le_of_ble_eq_true rfl⟩ (by decide) lk_31 lc_31 3 3 rfl 11 12 13 rfl rfl rfl dL_flightBits_11 (Nat.le_of_ble_eq_true rfl) 1 1 (by decide) dL_flightBits_12 dL_flightBits_13 rfl (Nat.le_of_ble_eq_true rfl) (Nat.le_of_ble_eq_true rfl) (fun _ _ q => ⟨rfl, q.2⟩)
set_option maxRecDepth 100000 in
set_option maxHeartbeats 4000000 in
theorem v_L_flightCell {h h2 : kH} {fs : List Value} {f : Nat → Int64} {w : Int32} {a1 : Int32} {a2 : Int32} (m : kMet kX11_flightCell false 1 6 [.ref 0, .int a1, .int a2] h 130 (kRt (some (.int w)) h2 130)) (hX : h 0 = kO 11 fs) (hO : h2 128 = kJ 1 f) : kMet kL_flightCell false 1 6 [.ref 0, .int a1, .int a2, .ref 128] h 130 (kRt (some (.int 0)) (kU h2 128 (kJ 1 (vp_updL f 0 (Int32.toInt64 w)))) 130) := by
  refine kMet.inT (by decide) (0, 10, 13, 31) [(0, 10, 17, 49)] rfl rfl _ rfl ?_
  refine k_aload_n (i := 3) dL_flightCell_0 (rfl : 0 + 1 = 1) rfl rfl ?_
  refine k_iconst (v := 0) dL_flightCell_1 (rfl : 1 + 1 = 2) (by decide) ?_
  refine k_aload_n (i := 0) dL_flightCell_2 (rfl : 2 + 1 = 3) rfl rfl ?_
  refine k_iload_n (i := 1) dL_flightCell_3 (rfl : 3 + 1 = 4) rfl rfl ?_
  refine k_iload_n (i := 2) dL_flightCell_4 (rfl : 4 + 1 = 5) rfl rfl ?_
  refine k_callVd2 cv_L_57 ⟨Nat.le_of_ble_eq_true rfl, Nat.le_of_ble_eq_true rfl⟩ m dL_flightCell_5 (rfl : 5 + 3 = 8) (Nat.le_of_ble_eq_true rfl) hX rfl rfl ⟨Nat.le_of_ble_eq_true rfl, Nat.le_of_ble_eq_true rfl⟩ ?_
  refine k_i2l dL_flightCell_8 (rfl : 8 + 1 = 9) ?_
  refine k_last dL_flightCell_9 (rfl : 9 + 1 = 10) (Nat.le_of_ble_eq_true rfl) hO vp_00 ?_
  refine k_goto (tgt := 21) dL_flightCell_10 (by decide) ?_
  refine k_iconst (v := 0) dL_flightCell_21 (rfl : 21 + 1 = 22) (by decide) ?_
  refine k_iret rfl rfl dL_flightCell_22 (Nat.le_of_ble_eq_true rfl) (Nat.le_of_ble_eq_true rfl) kRt_rfl
set_option maxRecDepth 100000 in
set_option maxHeartbeats 4000000 in
theorem x1_L_flightCell {h h2 : kH} {fs : List Value} {a1 : Int32} {a2 : Int32} (m : kMet kX11_flightCell false 1 6 [.ref 0, .int a1, .int a2] h 130 (kRo (.inr "java/lang/IllegalArgumentException") h2 130)) (hX : h 0 = kO 11 fs) : kMet kL_flightCell false 1 6 [.ref 0, .int a1, .int a2, .ref 128] h 130 (kRt (some (.int 1)) h2 130) := by
  refine kMet.inT (by decide) (0, 10, 13, 31) [(0, 10, 17, 49)] rfl rfl _ rfl ?_
  refine k_aload_n (i := 3) dL_flightCell_0 (rfl : 0 + 1 = 1) rfl rfl ?_
  refine k_iconst (v := 0) dL_flightCell_1 (rfl : 1 + 1 = 2) (by decide) ?_
  refine k_aload_n (i := 0) dL_flightCell_2 (rfl : 2 + 1 = 3) rfl rfl ?_
  refine k_iload_n (i := 1) dL_flightCell_3 (rfl : 3 + 1 = 4) rfl rfl ?_
  refine k_iload_n (i := 2) dL_flightCell_4 (rfl : 4 + 1 = 5) rfl rfl ?_
  exact k_callVxA (K := kL_flightCell) (J := kX11_flightCell) (Q := kRo (.inr "java/lang/IllegalArgumentException") h2 130) (h := h) (r := 0) (st := [.int 0, .ref 128]) [.int a1, .int a2] cv_L_57 ⟨Nat.le_of_ble_eq_true rfl, Nat.le_of_ble_eq_true rfl⟩ m dL_flightCell_5 (Nat.le_of_ble_eq_true rfl) hX rfl rfl ⟨Nat.le_of_ble_eq_true rfl, Nat.le_of_ble_eq_true rfl⟩ "java/lang/IllegalArgumentException" (fun _ _ _ q => q.1) [] [(0, 10, 17, 49)] (0, 10, 13, 31) rfl (fun z hz => by cases hz) ⟨Nat.le_of_ble_eq_true rfl, Nat.le_of_ble_eq_true rfl⟩ (by decide) lk_31 lc_31 4 13 15 16 rfl rfl rfl dL_flightCell_13 (Nat.le_of_ble_eq_true rfl) 1 1 (by decide) dL_flightCell_15 dL_flightCell_16 rfl (Nat.le_of_ble_eq_true rfl) (Nat.le_of_ble_eq_true rfl) (fun _ _ q => ⟨rfl, q.2⟩)
set_option maxRecDepth 100000 in
set_option maxHeartbeats 4000000 in
theorem x2_L_flightCell {h h2 : kH} {fs : List Value} {a1 : Int32} {a2 : Int32} (m : kMet kX11_flightCell false 1 6 [.ref 0, .int a1, .int a2] h 130 (kRo (.inr "java/util/NoSuchElementException") h2 130)) (hX : h 0 = kO 11 fs) : kMet kL_flightCell false 1 6 [.ref 0, .int a1, .int a2, .ref 128] h 130 (kRt (some (.int 2)) h2 130) := by
  refine kMet.inT (by decide) (0, 10, 13, 31) [(0, 10, 17, 49)] rfl rfl _ rfl ?_
  refine k_aload_n (i := 3) dL_flightCell_0 (rfl : 0 + 1 = 1) rfl rfl ?_
  refine k_iconst (v := 0) dL_flightCell_1 (rfl : 1 + 1 = 2) (by decide) ?_
  refine k_aload_n (i := 0) dL_flightCell_2 (rfl : 2 + 1 = 3) rfl rfl ?_
  refine k_iload_n (i := 1) dL_flightCell_3 (rfl : 3 + 1 = 4) rfl rfl ?_
  refine k_iload_n (i := 2) dL_flightCell_4 (rfl : 4 + 1 = 5) rfl rfl ?_
  exact k_callVxA (K := kL_flightCell) (J := kX11_flightCell) (Q := kRo (.inr "java/util/NoSuchElementException") h2 130) (h := h) (r := 0) (st := [.int 0, .ref 128]) [.int a1, .int a2] cv_L_57 ⟨Nat.le_of_ble_eq_true rfl, Nat.le_of_ble_eq_true rfl⟩ m dL_flightCell_5 (Nat.le_of_ble_eq_true rfl) hX rfl rfl ⟨Nat.le_of_ble_eq_true rfl, Nat.le_of_ble_eq_true rfl⟩ "java/util/NoSuchElementException" (fun _ _ _ q => q.1) [(0, 10, 13, 31)] [] (0, 10, 17, 49) rfl (fun z hz => by
    rcases List.mem_cons.1 hz with rfl | hz
    · exact ⟨by decide, "java/lang/IllegalArgumentException", lk_31, by decide⟩
    cases hz) ⟨Nat.le_of_ble_eq_true rfl, Nat.le_of_ble_eq_true rfl⟩ (by decide) lk_49 lc_49 4 17 19 20 rfl rfl rfl dL_flightCell_17 (Nat.le_of_ble_eq_true rfl) 2 2 (by decide) dL_flightCell_19 dL_flightCell_20 rfl (Nat.le_of_ble_eq_true rfl) (Nat.le_of_ble_eq_true rfl) (fun _ _ q => ⟨rfl, q.2⟩)
set_option maxRecDepth 100000 in
set_option maxHeartbeats 4000000 in
theorem v_L_flightEnd {h h2 : kH} {fs : List Value} {f : Nat → Int64} {w : Int32} {a1 : Int32} (m : kMet kX11_flightEnd false 1 6 [.ref 0, .int a1] h 130 (kRt (some (.int w)) h2 130)) (hX : h 0 = kO 11 fs) (hO : h2 128 = kJ 1 f) : kMet kL_flightEnd false 1 6 [.ref 0, .int a1, .ref 128] h 130 (kRt (some (.int 0)) (kU h2 128 (kJ 1 (vp_updL f 0 (Int32.toInt64 w)))) 130) := by
  refine kMet.inT (by decide) (0, 9, 12, 31) [] rfl rfl _ rfl ?_
  refine k_aload_n (i := 2) dL_flightEnd_0 (rfl : 0 + 1 = 1) rfl rfl ?_
  refine k_iconst (v := 0) dL_flightEnd_1 (rfl : 1 + 1 = 2) (by decide) ?_
  refine k_aload_n (i := 0) dL_flightEnd_2 (rfl : 2 + 1 = 3) rfl rfl ?_
  refine k_iload_n (i := 1) dL_flightEnd_3 (rfl : 3 + 1 = 4) rfl rfl ?_
  refine k_callVd1 cv_L_60 ⟨Nat.le_of_ble_eq_true rfl, Nat.le_of_ble_eq_true rfl⟩ m dL_flightEnd_4 (rfl : 4 + 3 = 7) (Nat.le_of_ble_eq_true rfl) hX rfl rfl ⟨Nat.le_of_ble_eq_true rfl, Nat.le_of_ble_eq_true rfl⟩ ?_
  refine k_i2l dL_flightEnd_7 (rfl : 7 + 1 = 8) ?_
  refine k_last dL_flightEnd_8 (rfl : 8 + 1 = 9) (Nat.le_of_ble_eq_true rfl) hO vp_00 ?_
  refine k_goto (tgt := 15) dL_flightEnd_9 (by decide) ?_
  refine k_iconst (v := 0) dL_flightEnd_15 (rfl : 15 + 1 = 16) (by decide) ?_
  refine k_iret rfl rfl dL_flightEnd_16 (Nat.le_of_ble_eq_true rfl) (Nat.le_of_ble_eq_true rfl) kRt_rfl
set_option maxRecDepth 100000 in
set_option maxHeartbeats 4000000 in
theorem x1_L_flightEnd {h h2 : kH} {fs : List Value} {a1 : Int32} (m : kMet kX11_flightEnd false 1 6 [.ref 0, .int a1] h 130 (kRo (.inr "java/lang/IllegalArgumentException") h2 130)) (hX : h 0 = kO 11 fs) : kMet kL_flightEnd false 1 6 [.ref 0, .int a1, .ref 128] h 130 (kRt (some (.int 1)) h2 130) := by
  refine kMet.inT (by decide) (0, 9, 12, 31) [] rfl rfl _ rfl ?_
  refine k_aload_n (i := 2) dL_flightEnd_0 (rfl : 0 + 1 = 1) rfl rfl ?_
  refine k_iconst (v := 0) dL_flightEnd_1 (rfl : 1 + 1 = 2) (by decide) ?_
  refine k_aload_n (i := 0) dL_flightEnd_2 (rfl : 2 + 1 = 3) rfl rfl ?_
  refine k_iload_n (i := 1) dL_flightEnd_3 (rfl : 3 + 1 = 4) rfl rfl ?_
  exact k_callVxN (K := kL_flightEnd) (J := kX11_flightEnd) (Q := kRo (.inr "java/lang/IllegalArgumentException") h2 130) (h := h) (r := 0) (st := [.int 0, .ref 128]) [.int a1] cv_L_60 ⟨Nat.le_of_ble_eq_true rfl, Nat.le_of_ble_eq_true rfl⟩ m dL_flightEnd_4 (Nat.le_of_ble_eq_true rfl) hX rfl rfl ⟨Nat.le_of_ble_eq_true rfl, Nat.le_of_ble_eq_true rfl⟩ "java/lang/IllegalArgumentException" (fun _ _ _ q => q.1) [] [] (0, 9, 12, 31) rfl (fun z hz => by cases hz) ⟨Nat.le_of_ble_eq_true rfl, Nat.le_of_ble_eq_true rfl⟩ (by decide) lk_31 lc_31 3 3 rfl 12 13 14 rfl rfl rfl dL_flightEnd_12 (Nat.le_of_ble_eq_true rfl) 1 1 (by decide) dL_flightEnd_13 dL_flightEnd_14 rfl (Nat.le_of_ble_eq_true rfl) (Nat.le_of_ble_eq_true rfl) (fun _ _ q => ⟨rfl, q.2⟩)
set_option maxRecDepth 100000 in
set_option maxHeartbeats 4000000 in
theorem v_L_flightLength {h h2 : kH} {fs : List Value} {f : Nat → Int64} {w : Int32} {a1 : Int32} (m : kMet kX11_flightLength false 1 6 [.ref 0, .int a1] h 130 (kRt (some (.int w)) h2 130)) (hX : h 0 = kO 11 fs) (hO : h2 128 = kJ 1 f) : kMet kL_flightLength false 1 6 [.ref 0, .int a1, .ref 128] h 130 (kRt (some (.int 0)) (kU h2 128 (kJ 1 (vp_updL f 0 (Int32.toInt64 w)))) 130) := by
  refine kMet.inT (by decide) (0, 9, 12, 31) [] rfl rfl _ rfl ?_
  refine k_aload_n (i := 2) dL_flightLength_0 (rfl : 0 + 1 = 1) rfl rfl ?_
  refine k_iconst (v := 0) dL_flightLength_1 (rfl : 1 + 1 = 2) (by decide) ?_
  refine k_aload_n (i := 0) dL_flightLength_2 (rfl : 2 + 1 = 3) rfl rfl ?_
  refine k_iload_n (i := 1) dL_flightLength_3 (rfl : 3 + 1 = 4) rfl rfl ?_
  refine k_callVd1 cv_L_54 ⟨Nat.le_of_ble_eq_true rfl, Nat.le_of_ble_eq_true rfl⟩ m dL_flightLength_4 (rfl : 4 + 3 = 7) (Nat.le_of_ble_eq_true rfl) hX rfl rfl ⟨Nat.le_of_ble_eq_true rfl, Nat.le_of_ble_eq_true rfl⟩ ?_
  refine k_i2l dL_flightLength_7 (rfl : 7 + 1 = 8) ?_
  refine k_last dL_flightLength_8 (rfl : 8 + 1 = 9) (Nat.le_of_ble_eq_true rfl) hO vp_00 ?_
  refine k_goto (tgt := 15) dL_flightLength_9 (by decide) ?_
  refine k_iconst (v := 0) dL_flightLength_15 (rfl : 15 + 1 = 16) (by decide) ?_
  refine k_iret rfl rfl dL_flightLength_16 (Nat.le_of_ble_eq_true rfl) (Nat.le_of_ble_eq_true rfl) kRt_rfl
set_option maxRecDepth 100000 in
set_option maxHeartbeats 4000000 in
theorem x1_L_flightLength {h h2 : kH} {fs : List Value} {a1 : Int32} (m : kMet kX11_flightLength false 1 6 [.ref 0, .int a1] h 130 (kRo (.inr "java/lang/IllegalArgumentException") h2 130)) (hX : h 0 = kO 11 fs) : kMet kL_flightLength false 1 6 [.ref 0, .int a1, .ref 128] h 130 (kRt (some (.int 1)) h2 130) := by
  refine kMet.inT (by decide) (0, 9, 12, 31) [] rfl rfl _ rfl ?_
  refine k_aload_n (i := 2) dL_flightLength_0 (rfl : 0 + 1 = 1) rfl rfl ?_
  refine k_iconst (v := 0) dL_flightLength_1 (rfl : 1 + 1 = 2) (by decide) ?_
  refine k_aload_n (i := 0) dL_flightLength_2 (rfl : 2 + 1 = 3) rfl rfl ?_
  refine k_iload_n (i := 1) dL_flightLength_3 (rfl : 3 + 1 = 4) rfl rfl ?_
  exact k_callVxN (K := kL_flightLength) (J := kX11_flightLength) (Q := kRo (.inr "java/lang/IllegalArgumentException") h2 130) (h := h) (r := 0) (st := [.int 0, .ref 128]) [.int a1] cv_L_54 ⟨Nat.le_of_ble_eq_true rfl, Nat.le_of_ble_eq_true rfl⟩ m dL_flightLength_4 (Nat.le_of_ble_eq_true rfl) hX rfl rfl ⟨Nat.le_of_ble_eq_true rfl, Nat.le_of_ble_eq_true rfl⟩ "java/lang/IllegalArgumentException" (fun _ _ _ q => q.1) [] [] (0, 9, 12, 31) rfl (fun z hz => by cases hz) ⟨Nat.le_of_ble_eq_true rfl, Nat.le_of_ble_eq_true rfl⟩ (by decide) lk_31 lc_31 3 3 rfl 12 13 14 rfl rfl rfl dL_flightLength_12 (Nat.le_of_ble_eq_true rfl) 1 1 (by decide) dL_flightLength_13 dL_flightLength_14 rfl (Nat.le_of_ble_eq_true rfl) (Nat.le_of_ble_eq_true rfl) (fun _ _ q => ⟨rfl, q.2⟩)
set_option maxRecDepth 100000 in
set_option maxHeartbeats 4000000 in
theorem v_L_hear {h h2 : kH} {fs : List Value} {f : Nat → Int64} {w : Int32} {a1 : Int32} (m : kMet kX11_hear false 1 6 [.ref 0, .int a1] h 130 (kRt (some (.int w)) h2 130)) (hX : h 0 = kO 11 fs) (hO : h2 128 = kJ 1 f) : kMet kL_hear false 1 6 [.ref 0, .int a1, .ref 128] h 130 (kRt (some (.int 0)) (kU h2 128 (kJ 1 (vp_updL f 0 (Int32.toInt64 w)))) 130) := by
  refine kMet.inT (by decide) (0, 9, 12, 13) [(0, 9, 15, 15)] rfl rfl _ rfl ?_
  refine k_aload_n (i := 2) dL_hear_0 (rfl : 0 + 1 = 1) rfl rfl ?_
  refine k_iconst (v := 0) dL_hear_1 (rfl : 1 + 1 = 2) (by decide) ?_
  refine k_aload_n (i := 0) dL_hear_2 (rfl : 2 + 1 = 3) rfl rfl ?_
  refine k_iload_n (i := 1) dL_hear_3 (rfl : 3 + 1 = 4) rfl rfl ?_
  refine k_callVd1 cv_L_97 ⟨Nat.le_of_ble_eq_true rfl, Nat.le_of_ble_eq_true rfl⟩ m dL_hear_4 (rfl : 4 + 3 = 7) (Nat.le_of_ble_eq_true rfl) hX rfl rfl ⟨Nat.le_of_ble_eq_true rfl, Nat.le_of_ble_eq_true rfl⟩ ?_
  refine k_i2l dL_hear_7 (rfl : 7 + 1 = 8) ?_
  refine k_last dL_hear_8 (rfl : 8 + 1 = 9) (Nat.le_of_ble_eq_true rfl) hO vp_00 ?_
  refine k_goto (tgt := 18) dL_hear_9 (by decide) ?_
  refine k_iconst (v := 0) dL_hear_18 (rfl : 18 + 1 = 19) (by decide) ?_
  refine k_iret rfl rfl dL_hear_19 (Nat.le_of_ble_eq_true rfl) (Nat.le_of_ble_eq_true rfl) kRt_rfl
set_option maxRecDepth 100000 in
set_option maxHeartbeats 4000000 in
theorem x1_L_hear {h h2 : kH} {fs : List Value} {a1 : Int32} (m : kMet kX11_hear false 1 6 [.ref 0, .int a1] h 130 (kRo (.inr "java/lang/IndexOutOfBoundsException") h2 130)) (hX : h 0 = kO 11 fs) : kMet kL_hear false 1 6 [.ref 0, .int a1, .ref 128] h 130 (kRt (some (.int 1)) h2 130) := by
  refine kMet.inT (by decide) (0, 9, 12, 13) [(0, 9, 15, 15)] rfl rfl _ rfl ?_
  refine k_aload_n (i := 2) dL_hear_0 (rfl : 0 + 1 = 1) rfl rfl ?_
  refine k_iconst (v := 0) dL_hear_1 (rfl : 1 + 1 = 2) (by decide) ?_
  refine k_aload_n (i := 0) dL_hear_2 (rfl : 2 + 1 = 3) rfl rfl ?_
  refine k_iload_n (i := 1) dL_hear_3 (rfl : 3 + 1 = 4) rfl rfl ?_
  exact k_callVxN (K := kL_hear) (J := kX11_hear) (Q := kRo (.inr "java/lang/IndexOutOfBoundsException") h2 130) (h := h) (r := 0) (st := [.int 0, .ref 128]) [.int a1] cv_L_97 ⟨Nat.le_of_ble_eq_true rfl, Nat.le_of_ble_eq_true rfl⟩ m dL_hear_4 (Nat.le_of_ble_eq_true rfl) hX rfl rfl ⟨Nat.le_of_ble_eq_true rfl, Nat.le_of_ble_eq_true rfl⟩ "java/lang/IndexOutOfBoundsException" (fun _ _ _ q => q.1) [] [(0, 9, 15, 15)] (0, 9, 12, 13) rfl (fun z hz => by cases hz) ⟨Nat.le_of_ble_eq_true rfl, Nat.le_of_ble_eq_true rfl⟩ (by decide) lk_13 lc_13 3 3 rfl 12 13 14 rfl rfl rfl dL_hear_12 (Nat.le_of_ble_eq_true rfl) 1 1 (by decide) dL_hear_13 dL_hear_14 rfl (Nat.le_of_ble_eq_true rfl) (Nat.le_of_ble_eq_true rfl) (fun _ _ q => ⟨rfl, q.2⟩)
set_option maxRecDepth 100000 in
set_option maxHeartbeats 4000000 in
theorem x2_L_hear {h h2 : kH} {fs : List Value} {a1 : Int32} (m : kMet kX11_hear false 1 6 [.ref 0, .int a1] h 130 (kRo (.inr "java/lang/UnsupportedOperationException") h2 130)) (hX : h 0 = kO 11 fs) : kMet kL_hear false 1 6 [.ref 0, .int a1, .ref 128] h 130 (kRt (some (.int 2)) h2 130) := by
  refine kMet.inT (by decide) (0, 9, 12, 13) [(0, 9, 15, 15)] rfl rfl _ rfl ?_
  refine k_aload_n (i := 2) dL_hear_0 (rfl : 0 + 1 = 1) rfl rfl ?_
  refine k_iconst (v := 0) dL_hear_1 (rfl : 1 + 1 = 2) (by decide) ?_
  refine k_aload_n (i := 0) dL_hear_2 (rfl : 2 + 1 = 3) rfl rfl ?_
  refine k_iload_n (i := 1) dL_hear_3 (rfl : 3 + 1 = 4) rfl rfl ?_
  exact k_callVxN (K := kL_hear) (J := kX11_hear) (Q := kRo (.inr "java/lang/UnsupportedOperationException") h2 130) (h := h) (r := 0) (st := [.int 0, .ref 128]) [.int a1] cv_L_97 ⟨Nat.le_of_ble_eq_true rfl, Nat.le_of_ble_eq_true rfl⟩ m dL_hear_4 (Nat.le_of_ble_eq_true rfl) hX rfl rfl ⟨Nat.le_of_ble_eq_true rfl, Nat.le_of_ble_eq_true rfl⟩ "java/lang/UnsupportedOperationException" (fun _ _ _ q => q.1) [(0, 9, 12, 13)] [] (0, 9, 15, 15) rfl (fun z hz => by
    rcases List.mem_cons.1 hz with rfl | hz
    · exact ⟨by decide, "java/lang/IndexOutOfBoundsException", lk_13, by decide⟩
    cases hz) ⟨Nat.le_of_ble_eq_true rfl, Nat.le_of_ble_eq_true rfl⟩ (by decide) lk_15 lc_15 3 3 rfl 15 16 17 rfl rfl rfl dL_hear_15 (Nat.le_of_ble_eq_true rfl) 2 2 (by decide) dL_hear_16 dL_hear_17 rfl (Nat.le_of_ble_eq_true rfl) (Nat.le_of_ble_eq_true rfl) (fun _ _ q => ⟨rfl, q.2⟩)
set_option maxRecDepth 100000 in
set_option maxHeartbeats 4000000 in
theorem v_L_lineAt {h h2 : kH} {fs : List Value} {f : Nat → Int64} {w : Int32} {a1 : Int32} (m : kMet kX11_lineAt false 1 6 [.ref 0, .int a1] h 130 (kRt (some (.int w)) h2 130)) (hX : h 0 = kO 11 fs) (hO : h2 128 = kJ 1 f) : kMet kL_lineAt false 1 6 [.ref 0, .int a1, .ref 128] h 130 (kRt (some (.int 0)) (kU h2 128 (kJ 1 (vp_updL f 0 (Int32.toInt64 w)))) 130) := by
  refine kMet.inT (by decide) (0, 9, 12, 13) [] rfl rfl _ rfl ?_
  refine k_aload_n (i := 2) dL_lineAt_0 (rfl : 0 + 1 = 1) rfl rfl ?_
  refine k_iconst (v := 0) dL_lineAt_1 (rfl : 1 + 1 = 2) (by decide) ?_
  refine k_aload_n (i := 0) dL_lineAt_2 (rfl : 2 + 1 = 3) rfl rfl ?_
  refine k_iload_n (i := 1) dL_lineAt_3 (rfl : 3 + 1 = 4) rfl rfl ?_
  refine k_callVd1 cv_L_142 ⟨Nat.le_of_ble_eq_true rfl, Nat.le_of_ble_eq_true rfl⟩ m dL_lineAt_4 (rfl : 4 + 3 = 7) (Nat.le_of_ble_eq_true rfl) hX rfl rfl ⟨Nat.le_of_ble_eq_true rfl, Nat.le_of_ble_eq_true rfl⟩ ?_
  refine k_i2l dL_lineAt_7 (rfl : 7 + 1 = 8) ?_
  refine k_last dL_lineAt_8 (rfl : 8 + 1 = 9) (Nat.le_of_ble_eq_true rfl) hO vp_00 ?_
  refine k_goto (tgt := 15) dL_lineAt_9 (by decide) ?_
  refine k_iconst (v := 0) dL_lineAt_15 (rfl : 15 + 1 = 16) (by decide) ?_
  refine k_iret rfl rfl dL_lineAt_16 (Nat.le_of_ble_eq_true rfl) (Nat.le_of_ble_eq_true rfl) kRt_rfl
set_option maxRecDepth 100000 in
set_option maxHeartbeats 4000000 in
theorem x1_L_lineAt {h h2 : kH} {fs : List Value} {a1 : Int32} (m : kMet kX11_lineAt false 1 6 [.ref 0, .int a1] h 130 (kRo (.inr "java/lang/IndexOutOfBoundsException") h2 130)) (hX : h 0 = kO 11 fs) : kMet kL_lineAt false 1 6 [.ref 0, .int a1, .ref 128] h 130 (kRt (some (.int 1)) h2 130) := by
  refine kMet.inT (by decide) (0, 9, 12, 13) [] rfl rfl _ rfl ?_
  refine k_aload_n (i := 2) dL_lineAt_0 (rfl : 0 + 1 = 1) rfl rfl ?_
  refine k_iconst (v := 0) dL_lineAt_1 (rfl : 1 + 1 = 2) (by decide) ?_
  refine k_aload_n (i := 0) dL_lineAt_2 (rfl : 2 + 1 = 3) rfl rfl ?_
  refine k_iload_n (i := 1) dL_lineAt_3 (rfl : 3 + 1 = 4) rfl rfl ?_
  exact k_callVxN (K := kL_lineAt) (J := kX11_lineAt) (Q := kRo (.inr "java/lang/IndexOutOfBoundsException") h2 130) (h := h) (r := 0) (st := [.int 0, .ref 128]) [.int a1] cv_L_142 ⟨Nat.le_of_ble_eq_true rfl, Nat.le_of_ble_eq_true rfl⟩ m dL_lineAt_4 (Nat.le_of_ble_eq_true rfl) hX rfl rfl ⟨Nat.le_of_ble_eq_true rfl, Nat.le_of_ble_eq_true rfl⟩ "java/lang/IndexOutOfBoundsException" (fun _ _ _ q => q.1) [] [] (0, 9, 12, 13) rfl (fun z hz => by cases hz) ⟨Nat.le_of_ble_eq_true rfl, Nat.le_of_ble_eq_true rfl⟩ (by decide) lk_13 lc_13 3 3 rfl 12 13 14 rfl rfl rfl dL_lineAt_12 (Nat.le_of_ble_eq_true rfl) 1 1 (by decide) dL_lineAt_13 dL_lineAt_14 rfl (Nat.le_of_ble_eq_true rfl) (Nat.le_of_ble_eq_true rfl) (fun _ _ q => ⟨rfl, q.2⟩)
set_option maxRecDepth 100000 in
set_option maxHeartbeats 4000000 in
theorem v_L_meanSteps {h h2 : kH} {fs : List Value} {f : Nat → UInt64} {w : UInt64}  (m : kMet kX11_meanSteps false 1 6 [.ref 0] h 130 (kRt (some (.double w)) h2 130)) (hX : h 0 = kO 11 fs) (hO : h2 129 = kDb 1 f) : kMet kL_meanSteps false 1 6 [.ref 0, .ref 129] h 130 (kRt (some (.int 0)) (kU h2 129 (kDb 1 (vf_upd f 0 w))) 130) := by
  refine kMet.inT (by decide) (0, 7, 10, 114) [] rfl rfl _ rfl ?_
  refine k_aload_n (i := 1) dL_meanSteps_0 (rfl : 0 + 1 = 1) rfl rfl ?_
  refine k_iconst (v := 0) dL_meanSteps_1 (rfl : 1 + 1 = 2) (by decide) ?_
  refine k_aload_n (i := 0) dL_meanSteps_2 (rfl : 2 + 1 = 3) rfl rfl ?_
  refine k_callVd0 cv_L_119 ⟨Nat.le_of_ble_eq_true rfl, Nat.le_of_ble_eq_true rfl⟩ m dL_meanSteps_3 (rfl : 3 + 3 = 6) (Nat.le_of_ble_eq_true rfl) hX rfl rfl ⟨Nat.le_of_ble_eq_true rfl, Nat.le_of_ble_eq_true rfl⟩ ?_
  refine k_dast dL_meanSteps_6 (rfl : 6 + 1 = 7) (Nat.le_of_ble_eq_true rfl) hO vp_00 ?_
  refine k_goto (tgt := 13) dL_meanSteps_7 (by decide) ?_
  refine k_iconst (v := 0) dL_meanSteps_13 (rfl : 13 + 1 = 14) (by decide) ?_
  refine k_iret rfl rfl dL_meanSteps_14 (Nat.le_of_ble_eq_true rfl) (Nat.le_of_ble_eq_true rfl) kRt_rfl
set_option maxRecDepth 100000 in
set_option maxHeartbeats 4000000 in
theorem x1_L_meanSteps {h h2 : kH} {fs : List Value}  (m : kMet kX11_meanSteps false 1 6 [.ref 0] h 130 (kRo (.inr "java/lang/ArithmeticException") h2 130)) (hX : h 0 = kO 11 fs) : kMet kL_meanSteps false 1 6 [.ref 0, .ref 129] h 130 (kRt (some (.int 1)) h2 130) := by
  refine kMet.inT (by decide) (0, 7, 10, 114) [] rfl rfl _ rfl ?_
  refine k_aload_n (i := 1) dL_meanSteps_0 (rfl : 0 + 1 = 1) rfl rfl ?_
  refine k_iconst (v := 0) dL_meanSteps_1 (rfl : 1 + 1 = 2) (by decide) ?_
  refine k_aload_n (i := 0) dL_meanSteps_2 (rfl : 2 + 1 = 3) rfl rfl ?_
  exact k_callVxN (K := kL_meanSteps) (J := kX11_meanSteps) (Q := kRo (.inr "java/lang/ArithmeticException") h2 130) (h := h) (r := 0) (st := [.int 0, .ref 129]) [] cv_L_119 ⟨Nat.le_of_ble_eq_true rfl, Nat.le_of_ble_eq_true rfl⟩ m dL_meanSteps_3 (Nat.le_of_ble_eq_true rfl) hX rfl rfl ⟨Nat.le_of_ble_eq_true rfl, Nat.le_of_ble_eq_true rfl⟩ "java/lang/ArithmeticException" (fun _ _ _ q => q.1) [] [] (0, 7, 10, 114) rfl (fun z hz => by cases hz) ⟨Nat.le_of_ble_eq_true rfl, Nat.le_of_ble_eq_true rfl⟩ (by decide) lk_114 lc_114 2 2 rfl 10 11 12 rfl rfl rfl dL_meanSteps_10 (Nat.le_of_ble_eq_true rfl) 1 1 (by decide) dL_meanSteps_11 dL_meanSteps_12 rfl (Nat.le_of_ble_eq_true rfl) (Nat.le_of_ble_eq_true rfl) (fun _ _ q => ⟨rfl, q.2⟩)
set_option maxRecDepth 100000 in
set_option maxHeartbeats 4000000 in
theorem v_L_moveParty {h h2 : kH} {fs : List Value} {f : Nat → Int64} {w : Int32} {a1 : Int32} {a2 : Int32} {a3 : Int32} (m : kMet kX11_moveParty false 1 6 [.ref 0, .int a1, .int a2, .int a3] h 130 (kRt (some (.int w)) h2 130)) (hX : h 0 = kO 11 fs) (hO : h2 128 = kJ 1 f) : kMet kL_moveParty false 1 6 [.ref 0, .int a1, .int a2, .int a3, .ref 128] h 130 (kRt (some (.int 0)) (kU h2 128 (kJ 1 (vp_updL f 0 (Int32.toInt64 w)))) 130) := by
  refine kMet.inT (by decide) (0, 12, 15, 13) [(0, 12, 19, 15)] rfl rfl _ rfl ?_
  refine k_aload (i := 4) dL_moveParty_0 (rfl : 0 + 2 = 2) rfl ?_
  refine k_iconst (v := 0) dL_moveParty_2 (rfl : 2 + 1 = 3) (by decide) ?_
  refine k_aload_n (i := 0) dL_moveParty_3 (rfl : 3 + 1 = 4) rfl rfl ?_
  refine k_iload_n (i := 1) dL_moveParty_4 (rfl : 4 + 1 = 5) rfl rfl ?_
  refine k_iload_n (i := 2) dL_moveParty_5 (rfl : 5 + 1 = 6) rfl rfl ?_
  refine k_iload_n (i := 3) dL_moveParty_6 (rfl : 6 + 1 = 7) rfl rfl ?_
  refine k_callVd3 cv_L_38 ⟨Nat.le_of_ble_eq_true rfl, Nat.le_of_ble_eq_true rfl⟩ m dL_moveParty_7 (rfl : 7 + 3 = 10) (Nat.le_of_ble_eq_true rfl) hX rfl rfl ⟨Nat.le_of_ble_eq_true rfl, Nat.le_of_ble_eq_true rfl⟩ ?_
  refine k_i2l dL_moveParty_10 (rfl : 10 + 1 = 11) ?_
  refine k_last dL_moveParty_11 (rfl : 11 + 1 = 12) (Nat.le_of_ble_eq_true rfl) hO vp_00 ?_
  refine k_goto (tgt := 23) dL_moveParty_12 (by decide) ?_
  refine k_iconst (v := 0) dL_moveParty_23 (rfl : 23 + 1 = 24) (by decide) ?_
  refine k_iret rfl rfl dL_moveParty_24 (Nat.le_of_ble_eq_true rfl) (Nat.le_of_ble_eq_true rfl) kRt_rfl
set_option maxRecDepth 100000 in
set_option maxHeartbeats 4000000 in
theorem x1_L_moveParty {h h2 : kH} {fs : List Value} {a1 : Int32} {a2 : Int32} {a3 : Int32} (m : kMet kX11_moveParty false 1 6 [.ref 0, .int a1, .int a2, .int a3] h 130 (kRo (.inr "java/lang/IndexOutOfBoundsException") h2 130)) (hX : h 0 = kO 11 fs) : kMet kL_moveParty false 1 6 [.ref 0, .int a1, .int a2, .int a3, .ref 128] h 130 (kRt (some (.int 1)) h2 130) := by
  refine kMet.inT (by decide) (0, 12, 15, 13) [(0, 12, 19, 15)] rfl rfl _ rfl ?_
  refine k_aload (i := 4) dL_moveParty_0 (rfl : 0 + 2 = 2) rfl ?_
  refine k_iconst (v := 0) dL_moveParty_2 (rfl : 2 + 1 = 3) (by decide) ?_
  refine k_aload_n (i := 0) dL_moveParty_3 (rfl : 3 + 1 = 4) rfl rfl ?_
  refine k_iload_n (i := 1) dL_moveParty_4 (rfl : 4 + 1 = 5) rfl rfl ?_
  refine k_iload_n (i := 2) dL_moveParty_5 (rfl : 5 + 1 = 6) rfl rfl ?_
  refine k_iload_n (i := 3) dL_moveParty_6 (rfl : 6 + 1 = 7) rfl rfl ?_
  exact k_callVxA (K := kL_moveParty) (J := kX11_moveParty) (Q := kRo (.inr "java/lang/IndexOutOfBoundsException") h2 130) (h := h) (r := 0) (st := [.int 0, .ref 128]) [.int a1, .int a2, .int a3] cv_L_38 ⟨Nat.le_of_ble_eq_true rfl, Nat.le_of_ble_eq_true rfl⟩ m dL_moveParty_7 (Nat.le_of_ble_eq_true rfl) hX rfl rfl ⟨Nat.le_of_ble_eq_true rfl, Nat.le_of_ble_eq_true rfl⟩ "java/lang/IndexOutOfBoundsException" (fun _ _ _ q => q.1) [] [(0, 12, 19, 15)] (0, 12, 15, 13) rfl (fun z hz => by cases hz) ⟨Nat.le_of_ble_eq_true rfl, Nat.le_of_ble_eq_true rfl⟩ (by decide) lk_13 lc_13 5 15 17 18 rfl rfl rfl dL_moveParty_15 (Nat.le_of_ble_eq_true rfl) 1 1 (by decide) dL_moveParty_17 dL_moveParty_18 rfl (Nat.le_of_ble_eq_true rfl) (Nat.le_of_ble_eq_true rfl) (fun _ _ q => ⟨rfl, q.2⟩)
set_option maxRecDepth 100000 in
set_option maxHeartbeats 4000000 in
theorem x2_L_moveParty {h h2 : kH} {fs : List Value} {a1 : Int32} {a2 : Int32} {a3 : Int32} (m : kMet kX11_moveParty false 1 6 [.ref 0, .int a1, .int a2, .int a3] h 130 (kRo (.inr "java/lang/UnsupportedOperationException") h2 130)) (hX : h 0 = kO 11 fs) : kMet kL_moveParty false 1 6 [.ref 0, .int a1, .int a2, .int a3, .ref 128] h 130 (kRt (some (.int 2)) h2 130) := by
  refine kMet.inT (by decide) (0, 12, 15, 13) [(0, 12, 19, 15)] rfl rfl _ rfl ?_
  refine k_aload (i := 4) dL_moveParty_0 (rfl : 0 + 2 = 2) rfl ?_
  refine k_iconst (v := 0) dL_moveParty_2 (rfl : 2 + 1 = 3) (by decide) ?_
  refine k_aload_n (i := 0) dL_moveParty_3 (rfl : 3 + 1 = 4) rfl rfl ?_
  refine k_iload_n (i := 1) dL_moveParty_4 (rfl : 4 + 1 = 5) rfl rfl ?_
  refine k_iload_n (i := 2) dL_moveParty_5 (rfl : 5 + 1 = 6) rfl rfl ?_
  refine k_iload_n (i := 3) dL_moveParty_6 (rfl : 6 + 1 = 7) rfl rfl ?_
  exact k_callVxA (K := kL_moveParty) (J := kX11_moveParty) (Q := kRo (.inr "java/lang/UnsupportedOperationException") h2 130) (h := h) (r := 0) (st := [.int 0, .ref 128]) [.int a1, .int a2, .int a3] cv_L_38 ⟨Nat.le_of_ble_eq_true rfl, Nat.le_of_ble_eq_true rfl⟩ m dL_moveParty_7 (Nat.le_of_ble_eq_true rfl) hX rfl rfl ⟨Nat.le_of_ble_eq_true rfl, Nat.le_of_ble_eq_true rfl⟩ "java/lang/UnsupportedOperationException" (fun _ _ _ q => q.1) [(0, 12, 15, 13)] [] (0, 12, 19, 15) rfl (fun z hz => by
    rcases List.mem_cons.1 hz with rfl | hz
    · exact ⟨by decide, "java/lang/IndexOutOfBoundsException", lk_13, by decide⟩
    cases hz) ⟨Nat.le_of_ble_eq_true rfl, Nat.le_of_ble_eq_true rfl⟩ (by decide) lk_15 lc_15 5 19 21 22 rfl rfl rfl dL_moveParty_19 (Nat.le_of_ble_eq_true rfl) 2 2 (by decide) dL_moveParty_21 dL_moveParty_22 rfl (Nat.le_of_ble_eq_true rfl) (Nat.le_of_ble_eq_true rfl) (fun _ _ q => ⟨rfl, q.2⟩)
set_option maxRecDepth 100000 in
set_option maxHeartbeats 4000000 in
theorem v_L_partyIn {h h2 : kH} {fs : List Value} {f : Nat → Int64} {w : Int32} {a1 : Int32} {a2 : Int32} (m : kMet kX11_partyIn false 1 6 [.ref 0, .int a1, .int a2] h 130 (kRt (some (.int w)) h2 130)) (hX : h 0 = kO 11 fs) (hO : h2 128 = kJ 1 f) : kMet kL_partyIn false 1 6 [.ref 0, .int a1, .int a2, .ref 128] h 130 (kRt (some (.int 0)) (kU h2 128 (kJ 1 (vp_updL f 0 (Int32.toInt64 w)))) 130) := by
  refine kMet.inT (by decide) (0, 10, 13, 13) [(0, 10, 17, 49)] rfl rfl _ rfl ?_
  refine k_aload_n (i := 3) dL_partyIn_0 (rfl : 0 + 1 = 1) rfl rfl ?_
  refine k_iconst (v := 0) dL_partyIn_1 (rfl : 1 + 1 = 2) (by decide) ?_
  refine k_aload_n (i := 0) dL_partyIn_2 (rfl : 2 + 1 = 3) rfl rfl ?_
  refine k_iload_n (i := 1) dL_partyIn_3 (rfl : 3 + 1 = 4) rfl rfl ?_
  refine k_iload_n (i := 2) dL_partyIn_4 (rfl : 4 + 1 = 5) rfl rfl ?_
  refine k_callVd2 cv_L_46 ⟨Nat.le_of_ble_eq_true rfl, Nat.le_of_ble_eq_true rfl⟩ m dL_partyIn_5 (rfl : 5 + 3 = 8) (Nat.le_of_ble_eq_true rfl) hX rfl rfl ⟨Nat.le_of_ble_eq_true rfl, Nat.le_of_ble_eq_true rfl⟩ ?_
  refine k_i2l dL_partyIn_8 (rfl : 8 + 1 = 9) ?_
  refine k_last dL_partyIn_9 (rfl : 9 + 1 = 10) (Nat.le_of_ble_eq_true rfl) hO vp_00 ?_
  refine k_goto (tgt := 21) dL_partyIn_10 (by decide) ?_
  refine k_iconst (v := 0) dL_partyIn_21 (rfl : 21 + 1 = 22) (by decide) ?_
  refine k_iret rfl rfl dL_partyIn_22 (Nat.le_of_ble_eq_true rfl) (Nat.le_of_ble_eq_true rfl) kRt_rfl
set_option maxRecDepth 100000 in
set_option maxHeartbeats 4000000 in
theorem x1_L_partyIn {h h2 : kH} {fs : List Value} {a1 : Int32} {a2 : Int32} (m : kMet kX11_partyIn false 1 6 [.ref 0, .int a1, .int a2] h 130 (kRo (.inr "java/lang/IndexOutOfBoundsException") h2 130)) (hX : h 0 = kO 11 fs) : kMet kL_partyIn false 1 6 [.ref 0, .int a1, .int a2, .ref 128] h 130 (kRt (some (.int 1)) h2 130) := by
  refine kMet.inT (by decide) (0, 10, 13, 13) [(0, 10, 17, 49)] rfl rfl _ rfl ?_
  refine k_aload_n (i := 3) dL_partyIn_0 (rfl : 0 + 1 = 1) rfl rfl ?_
  refine k_iconst (v := 0) dL_partyIn_1 (rfl : 1 + 1 = 2) (by decide) ?_
  refine k_aload_n (i := 0) dL_partyIn_2 (rfl : 2 + 1 = 3) rfl rfl ?_
  refine k_iload_n (i := 1) dL_partyIn_3 (rfl : 3 + 1 = 4) rfl rfl ?_
  refine k_iload_n (i := 2) dL_partyIn_4 (rfl : 4 + 1 = 5) rfl rfl ?_
  exact k_callVxA (K := kL_partyIn) (J := kX11_partyIn) (Q := kRo (.inr "java/lang/IndexOutOfBoundsException") h2 130) (h := h) (r := 0) (st := [.int 0, .ref 128]) [.int a1, .int a2] cv_L_46 ⟨Nat.le_of_ble_eq_true rfl, Nat.le_of_ble_eq_true rfl⟩ m dL_partyIn_5 (Nat.le_of_ble_eq_true rfl) hX rfl rfl ⟨Nat.le_of_ble_eq_true rfl, Nat.le_of_ble_eq_true rfl⟩ "java/lang/IndexOutOfBoundsException" (fun _ _ _ q => q.1) [] [(0, 10, 17, 49)] (0, 10, 13, 13) rfl (fun z hz => by cases hz) ⟨Nat.le_of_ble_eq_true rfl, Nat.le_of_ble_eq_true rfl⟩ (by decide) lk_13 lc_13 4 13 15 16 rfl rfl rfl dL_partyIn_13 (Nat.le_of_ble_eq_true rfl) 1 1 (by decide) dL_partyIn_15 dL_partyIn_16 rfl (Nat.le_of_ble_eq_true rfl) (Nat.le_of_ble_eq_true rfl) (fun _ _ q => ⟨rfl, q.2⟩)
set_option maxRecDepth 100000 in
set_option maxHeartbeats 4000000 in
theorem x2_L_partyIn {h h2 : kH} {fs : List Value} {a1 : Int32} {a2 : Int32} (m : kMet kX11_partyIn false 1 6 [.ref 0, .int a1, .int a2] h 130 (kRo (.inr "java/util/NoSuchElementException") h2 130)) (hX : h 0 = kO 11 fs) : kMet kL_partyIn false 1 6 [.ref 0, .int a1, .int a2, .ref 128] h 130 (kRt (some (.int 2)) h2 130) := by
  refine kMet.inT (by decide) (0, 10, 13, 13) [(0, 10, 17, 49)] rfl rfl _ rfl ?_
  refine k_aload_n (i := 3) dL_partyIn_0 (rfl : 0 + 1 = 1) rfl rfl ?_
  refine k_iconst (v := 0) dL_partyIn_1 (rfl : 1 + 1 = 2) (by decide) ?_
  refine k_aload_n (i := 0) dL_partyIn_2 (rfl : 2 + 1 = 3) rfl rfl ?_
  refine k_iload_n (i := 1) dL_partyIn_3 (rfl : 3 + 1 = 4) rfl rfl ?_
  refine k_iload_n (i := 2) dL_partyIn_4 (rfl : 4 + 1 = 5) rfl rfl ?_
  exact k_callVxA (K := kL_partyIn) (J := kX11_partyIn) (Q := kRo (.inr "java/util/NoSuchElementException") h2 130) (h := h) (r := 0) (st := [.int 0, .ref 128]) [.int a1, .int a2] cv_L_46 ⟨Nat.le_of_ble_eq_true rfl, Nat.le_of_ble_eq_true rfl⟩ m dL_partyIn_5 (Nat.le_of_ble_eq_true rfl) hX rfl rfl ⟨Nat.le_of_ble_eq_true rfl, Nat.le_of_ble_eq_true rfl⟩ "java/util/NoSuchElementException" (fun _ _ _ q => q.1) [(0, 10, 13, 13)] [] (0, 10, 17, 49) rfl (fun z hz => by
    rcases List.mem_cons.1 hz with rfl | hz
    · exact ⟨by decide, "java/lang/IndexOutOfBoundsException", lk_13, by decide⟩
    cases hz) ⟨Nat.le_of_ble_eq_true rfl, Nat.le_of_ble_eq_true rfl⟩ (by decide) lk_49 lc_49 4 17 19 20 rfl rfl rfl dL_partyIn_17 (Nat.le_of_ble_eq_true rfl) 2 2 (by decide) dL_partyIn_19 dL_partyIn_20 rfl (Nat.le_of_ble_eq_true rfl) (Nat.le_of_ble_eq_true rfl) (fun _ _ q => ⟨rfl, q.2⟩)
set_option maxRecDepth 100000 in
set_option maxHeartbeats 4000000 in
theorem v_L_pass {h h2 : kH} {fs : List Value} {f : Nat → Int64} {w : Int32} {a1 : Int32} (m : kMet kX11_pass false 1 6 [.ref 0, .int a1] h 130 (kRt (some (.int w)) h2 130)) (hX : h 0 = kO 11 fs) (hO : h2 128 = kJ 1 f) : kMet kL_pass false 1 6 [.ref 0, .int a1, .ref 128] h 130 (kRt (some (.int 0)) (kU h2 128 (kJ 1 (vp_updL f 0 (Int32.toInt64 w)))) 130) := by
  refine kMet.inT (by decide) (0, 9, 12, 31) [] rfl rfl _ rfl ?_
  refine k_aload_n (i := 2) dL_pass_0 (rfl : 0 + 1 = 1) rfl rfl ?_
  refine k_iconst (v := 0) dL_pass_1 (rfl : 1 + 1 = 2) (by decide) ?_
  refine k_aload_n (i := 0) dL_pass_2 (rfl : 2 + 1 = 3) rfl rfl ?_
  refine k_iload_n (i := 1) dL_pass_3 (rfl : 3 + 1 = 4) rfl rfl ?_
  refine k_callVd1 cv_L_100 ⟨Nat.le_of_ble_eq_true rfl, Nat.le_of_ble_eq_true rfl⟩ m dL_pass_4 (rfl : 4 + 3 = 7) (Nat.le_of_ble_eq_true rfl) hX rfl rfl ⟨Nat.le_of_ble_eq_true rfl, Nat.le_of_ble_eq_true rfl⟩ ?_
  refine k_i2l dL_pass_7 (rfl : 7 + 1 = 8) ?_
  refine k_last dL_pass_8 (rfl : 8 + 1 = 9) (Nat.le_of_ble_eq_true rfl) hO vp_00 ?_
  refine k_goto (tgt := 15) dL_pass_9 (by decide) ?_
  refine k_iconst (v := 0) dL_pass_15 (rfl : 15 + 1 = 16) (by decide) ?_
  refine k_iret rfl rfl dL_pass_16 (Nat.le_of_ble_eq_true rfl) (Nat.le_of_ble_eq_true rfl) kRt_rfl
set_option maxRecDepth 100000 in
set_option maxHeartbeats 4000000 in
theorem x1_L_pass {h h2 : kH} {fs : List Value} {a1 : Int32} (m : kMet kX11_pass false 1 6 [.ref 0, .int a1] h 130 (kRo (.inr "java/lang/IllegalArgumentException") h2 130)) (hX : h 0 = kO 11 fs) : kMet kL_pass false 1 6 [.ref 0, .int a1, .ref 128] h 130 (kRt (some (.int 1)) h2 130) := by
  refine kMet.inT (by decide) (0, 9, 12, 31) [] rfl rfl _ rfl ?_
  refine k_aload_n (i := 2) dL_pass_0 (rfl : 0 + 1 = 1) rfl rfl ?_
  refine k_iconst (v := 0) dL_pass_1 (rfl : 1 + 1 = 2) (by decide) ?_
  refine k_aload_n (i := 0) dL_pass_2 (rfl : 2 + 1 = 3) rfl rfl ?_
  refine k_iload_n (i := 1) dL_pass_3 (rfl : 3 + 1 = 4) rfl rfl ?_
  exact k_callVxN (K := kL_pass) (J := kX11_pass) (Q := kRo (.inr "java/lang/IllegalArgumentException") h2 130) (h := h) (r := 0) (st := [.int 0, .ref 128]) [.int a1] cv_L_100 ⟨Nat.le_of_ble_eq_true rfl, Nat.le_of_ble_eq_true rfl⟩ m dL_pass_4 (Nat.le_of_ble_eq_true rfl) hX rfl rfl ⟨Nat.le_of_ble_eq_true rfl, Nat.le_of_ble_eq_true rfl⟩ "java/lang/IllegalArgumentException" (fun _ _ _ q => q.1) [] [] (0, 9, 12, 31) rfl (fun z hz => by cases hz) ⟨Nat.le_of_ble_eq_true rfl, Nat.le_of_ble_eq_true rfl⟩ (by decide) lk_31 lc_31 3 3 rfl 12 13 14 rfl rfl rfl dL_pass_12 (Nat.le_of_ble_eq_true rfl) 1 1 (by decide) dL_pass_13 dL_pass_14 rfl (Nat.le_of_ble_eq_true rfl) (Nat.le_of_ble_eq_true rfl) (fun _ _ q => ⟨rfl, q.2⟩)
set_option maxRecDepth 100000 in
set_option maxHeartbeats 4000000 in
theorem v_L_pleaFrom {h h2 : kH} {fs : List Value} {f : Nat → Int64} {w : Int32} {a1 : Int32} (m : kMet kX11_pleaFrom false 1 6 [.ref 0, .int a1] h 130 (kRt (some (.int w)) h2 130)) (hX : h 0 = kO 11 fs) (hO : h2 128 = kJ 1 f) : kMet kL_pleaFrom false 1 6 [.ref 0, .int a1, .ref 128] h 130 (kRt (some (.int 0)) (kU h2 128 (kJ 1 (vp_updL f 0 (Int32.toInt64 w)))) 130) := by
  refine kMet.inT (by decide) (0, 9, 12, 13) [] rfl rfl _ rfl ?_
  refine k_aload_n (i := 2) dL_pleaFrom_0 (rfl : 0 + 1 = 1) rfl rfl ?_
  refine k_iconst (v := 0) dL_pleaFrom_1 (rfl : 1 + 1 = 2) (by decide) ?_
  refine k_aload_n (i := 0) dL_pleaFrom_2 (rfl : 2 + 1 = 3) rfl rfl ?_
  refine k_iload_n (i := 1) dL_pleaFrom_3 (rfl : 3 + 1 = 4) rfl rfl ?_
  refine k_callVd1 cv_L_91 ⟨Nat.le_of_ble_eq_true rfl, Nat.le_of_ble_eq_true rfl⟩ m dL_pleaFrom_4 (rfl : 4 + 3 = 7) (Nat.le_of_ble_eq_true rfl) hX rfl rfl ⟨Nat.le_of_ble_eq_true rfl, Nat.le_of_ble_eq_true rfl⟩ ?_
  refine k_i2l dL_pleaFrom_7 (rfl : 7 + 1 = 8) ?_
  refine k_last dL_pleaFrom_8 (rfl : 8 + 1 = 9) (Nat.le_of_ble_eq_true rfl) hO vp_00 ?_
  refine k_goto (tgt := 15) dL_pleaFrom_9 (by decide) ?_
  refine k_iconst (v := 0) dL_pleaFrom_15 (rfl : 15 + 1 = 16) (by decide) ?_
  refine k_iret rfl rfl dL_pleaFrom_16 (Nat.le_of_ble_eq_true rfl) (Nat.le_of_ble_eq_true rfl) kRt_rfl
set_option maxRecDepth 100000 in
set_option maxHeartbeats 4000000 in
theorem x1_L_pleaFrom {h h2 : kH} {fs : List Value} {a1 : Int32} (m : kMet kX11_pleaFrom false 1 6 [.ref 0, .int a1] h 130 (kRo (.inr "java/lang/IndexOutOfBoundsException") h2 130)) (hX : h 0 = kO 11 fs) : kMet kL_pleaFrom false 1 6 [.ref 0, .int a1, .ref 128] h 130 (kRt (some (.int 1)) h2 130) := by
  refine kMet.inT (by decide) (0, 9, 12, 13) [] rfl rfl _ rfl ?_
  refine k_aload_n (i := 2) dL_pleaFrom_0 (rfl : 0 + 1 = 1) rfl rfl ?_
  refine k_iconst (v := 0) dL_pleaFrom_1 (rfl : 1 + 1 = 2) (by decide) ?_
  refine k_aload_n (i := 0) dL_pleaFrom_2 (rfl : 2 + 1 = 3) rfl rfl ?_
  refine k_iload_n (i := 1) dL_pleaFrom_3 (rfl : 3 + 1 = 4) rfl rfl ?_
  exact k_callVxN (K := kL_pleaFrom) (J := kX11_pleaFrom) (Q := kRo (.inr "java/lang/IndexOutOfBoundsException") h2 130) (h := h) (r := 0) (st := [.int 0, .ref 128]) [.int a1] cv_L_91 ⟨Nat.le_of_ble_eq_true rfl, Nat.le_of_ble_eq_true rfl⟩ m dL_pleaFrom_4 (Nat.le_of_ble_eq_true rfl) hX rfl rfl ⟨Nat.le_of_ble_eq_true rfl, Nat.le_of_ble_eq_true rfl⟩ "java/lang/IndexOutOfBoundsException" (fun _ _ _ q => q.1) [] [] (0, 9, 12, 13) rfl (fun z hz => by cases hz) ⟨Nat.le_of_ble_eq_true rfl, Nat.le_of_ble_eq_true rfl⟩ (by decide) lk_13 lc_13 3 3 rfl 12 13 14 rfl rfl rfl dL_pleaFrom_12 (Nat.le_of_ble_eq_true rfl) 1 1 (by decide) dL_pleaFrom_13 dL_pleaFrom_14 rfl (Nat.le_of_ble_eq_true rfl) (Nat.le_of_ble_eq_true rfl) (fun _ _ q => ⟨rfl, q.2⟩)
set_option maxRecDepth 100000 in
set_option maxHeartbeats 4000000 in
theorem v_L_pleaParty {h h2 : kH} {fs : List Value} {f : Nat → Int64} {w : Int32} {a1 : Int32} (m : kMet kX11_pleaParty false 1 6 [.ref 0, .int a1] h 130 (kRt (some (.int w)) h2 130)) (hX : h 0 = kO 11 fs) (hO : h2 128 = kJ 1 f) : kMet kL_pleaParty false 1 6 [.ref 0, .int a1, .ref 128] h 130 (kRt (some (.int 0)) (kU h2 128 (kJ 1 (vp_updL f 0 (Int32.toInt64 w)))) 130) := by
  refine kMet.inT (by decide) (0, 9, 12, 13) [] rfl rfl _ rfl ?_
  refine k_aload_n (i := 2) dL_pleaParty_0 (rfl : 0 + 1 = 1) rfl rfl ?_
  refine k_iconst (v := 0) dL_pleaParty_1 (rfl : 1 + 1 = 2) (by decide) ?_
  refine k_aload_n (i := 0) dL_pleaParty_2 (rfl : 2 + 1 = 3) rfl rfl ?_
  refine k_iload_n (i := 1) dL_pleaParty_3 (rfl : 3 + 1 = 4) rfl rfl ?_
  refine k_callVd1 cv_L_88 ⟨Nat.le_of_ble_eq_true rfl, Nat.le_of_ble_eq_true rfl⟩ m dL_pleaParty_4 (rfl : 4 + 3 = 7) (Nat.le_of_ble_eq_true rfl) hX rfl rfl ⟨Nat.le_of_ble_eq_true rfl, Nat.le_of_ble_eq_true rfl⟩ ?_
  refine k_i2l dL_pleaParty_7 (rfl : 7 + 1 = 8) ?_
  refine k_last dL_pleaParty_8 (rfl : 8 + 1 = 9) (Nat.le_of_ble_eq_true rfl) hO vp_00 ?_
  refine k_goto (tgt := 15) dL_pleaParty_9 (by decide) ?_
  refine k_iconst (v := 0) dL_pleaParty_15 (rfl : 15 + 1 = 16) (by decide) ?_
  refine k_iret rfl rfl dL_pleaParty_16 (Nat.le_of_ble_eq_true rfl) (Nat.le_of_ble_eq_true rfl) kRt_rfl
set_option maxRecDepth 100000 in
set_option maxHeartbeats 4000000 in
theorem x1_L_pleaParty {h h2 : kH} {fs : List Value} {a1 : Int32} (m : kMet kX11_pleaParty false 1 6 [.ref 0, .int a1] h 130 (kRo (.inr "java/lang/IndexOutOfBoundsException") h2 130)) (hX : h 0 = kO 11 fs) : kMet kL_pleaParty false 1 6 [.ref 0, .int a1, .ref 128] h 130 (kRt (some (.int 1)) h2 130) := by
  refine kMet.inT (by decide) (0, 9, 12, 13) [] rfl rfl _ rfl ?_
  refine k_aload_n (i := 2) dL_pleaParty_0 (rfl : 0 + 1 = 1) rfl rfl ?_
  refine k_iconst (v := 0) dL_pleaParty_1 (rfl : 1 + 1 = 2) (by decide) ?_
  refine k_aload_n (i := 0) dL_pleaParty_2 (rfl : 2 + 1 = 3) rfl rfl ?_
  refine k_iload_n (i := 1) dL_pleaParty_3 (rfl : 3 + 1 = 4) rfl rfl ?_
  exact k_callVxN (K := kL_pleaParty) (J := kX11_pleaParty) (Q := kRo (.inr "java/lang/IndexOutOfBoundsException") h2 130) (h := h) (r := 0) (st := [.int 0, .ref 128]) [.int a1] cv_L_88 ⟨Nat.le_of_ble_eq_true rfl, Nat.le_of_ble_eq_true rfl⟩ m dL_pleaParty_4 (Nat.le_of_ble_eq_true rfl) hX rfl rfl ⟨Nat.le_of_ble_eq_true rfl, Nat.le_of_ble_eq_true rfl⟩ "java/lang/IndexOutOfBoundsException" (fun _ _ _ q => q.1) [] [] (0, 9, 12, 13) rfl (fun z hz => by cases hz) ⟨Nat.le_of_ble_eq_true rfl, Nat.le_of_ble_eq_true rfl⟩ (by decide) lk_13 lc_13 3 3 rfl 12 13 14 rfl rfl rfl dL_pleaParty_12 (Nat.le_of_ble_eq_true rfl) 1 1 (by decide) dL_pleaParty_13 dL_pleaParty_14 rfl (Nat.le_of_ble_eq_true rfl) (Nat.le_of_ble_eq_true rfl) (fun _ _ q => ⟨rfl, q.2⟩)
set_option maxRecDepth 100000 in
set_option maxHeartbeats 4000000 in
theorem v_L_pleaUntil {h h2 : kH} {fs : List Value} {f : Nat → Int64} {w : Int32} {a1 : Int32} (m : kMet kX11_pleaUntil false 1 6 [.ref 0, .int a1] h 130 (kRt (some (.int w)) h2 130)) (hX : h 0 = kO 11 fs) (hO : h2 128 = kJ 1 f) : kMet kL_pleaUntil false 1 6 [.ref 0, .int a1, .ref 128] h 130 (kRt (some (.int 0)) (kU h2 128 (kJ 1 (vp_updL f 0 (Int32.toInt64 w)))) 130) := by
  refine kMet.inT (by decide) (0, 9, 12, 13) [] rfl rfl _ rfl ?_
  refine k_aload_n (i := 2) dL_pleaUntil_0 (rfl : 0 + 1 = 1) rfl rfl ?_
  refine k_iconst (v := 0) dL_pleaUntil_1 (rfl : 1 + 1 = 2) (by decide) ?_
  refine k_aload_n (i := 0) dL_pleaUntil_2 (rfl : 2 + 1 = 3) rfl rfl ?_
  refine k_iload_n (i := 1) dL_pleaUntil_3 (rfl : 3 + 1 = 4) rfl rfl ?_
  refine k_callVd1 cv_L_94 ⟨Nat.le_of_ble_eq_true rfl, Nat.le_of_ble_eq_true rfl⟩ m dL_pleaUntil_4 (rfl : 4 + 3 = 7) (Nat.le_of_ble_eq_true rfl) hX rfl rfl ⟨Nat.le_of_ble_eq_true rfl, Nat.le_of_ble_eq_true rfl⟩ ?_
  refine k_i2l dL_pleaUntil_7 (rfl : 7 + 1 = 8) ?_
  refine k_last dL_pleaUntil_8 (rfl : 8 + 1 = 9) (Nat.le_of_ble_eq_true rfl) hO vp_00 ?_
  refine k_goto (tgt := 15) dL_pleaUntil_9 (by decide) ?_
  refine k_iconst (v := 0) dL_pleaUntil_15 (rfl : 15 + 1 = 16) (by decide) ?_
  refine k_iret rfl rfl dL_pleaUntil_16 (Nat.le_of_ble_eq_true rfl) (Nat.le_of_ble_eq_true rfl) kRt_rfl
set_option maxRecDepth 100000 in
set_option maxHeartbeats 4000000 in
theorem x1_L_pleaUntil {h h2 : kH} {fs : List Value} {a1 : Int32} (m : kMet kX11_pleaUntil false 1 6 [.ref 0, .int a1] h 130 (kRo (.inr "java/lang/IndexOutOfBoundsException") h2 130)) (hX : h 0 = kO 11 fs) : kMet kL_pleaUntil false 1 6 [.ref 0, .int a1, .ref 128] h 130 (kRt (some (.int 1)) h2 130) := by
  refine kMet.inT (by decide) (0, 9, 12, 13) [] rfl rfl _ rfl ?_
  refine k_aload_n (i := 2) dL_pleaUntil_0 (rfl : 0 + 1 = 1) rfl rfl ?_
  refine k_iconst (v := 0) dL_pleaUntil_1 (rfl : 1 + 1 = 2) (by decide) ?_
  refine k_aload_n (i := 0) dL_pleaUntil_2 (rfl : 2 + 1 = 3) rfl rfl ?_
  refine k_iload_n (i := 1) dL_pleaUntil_3 (rfl : 3 + 1 = 4) rfl rfl ?_
  exact k_callVxN (K := kL_pleaUntil) (J := kX11_pleaUntil) (Q := kRo (.inr "java/lang/IndexOutOfBoundsException") h2 130) (h := h) (r := 0) (st := [.int 0, .ref 128]) [.int a1] cv_L_94 ⟨Nat.le_of_ble_eq_true rfl, Nat.le_of_ble_eq_true rfl⟩ m dL_pleaUntil_4 (Nat.le_of_ble_eq_true rfl) hX rfl rfl ⟨Nat.le_of_ble_eq_true rfl, Nat.le_of_ble_eq_true rfl⟩ "java/lang/IndexOutOfBoundsException" (fun _ _ _ q => q.1) [] [] (0, 9, 12, 13) rfl (fun z hz => by cases hz) ⟨Nat.le_of_ble_eq_true rfl, Nat.le_of_ble_eq_true rfl⟩ (by decide) lk_13 lc_13 3 3 rfl 12 13 14 rfl rfl rfl dL_pleaUntil_12 (Nat.le_of_ble_eq_true rfl) 1 1 (by decide) dL_pleaUntil_13 dL_pleaUntil_14 rfl (Nat.le_of_ble_eq_true rfl) (Nat.le_of_ble_eq_true rfl) (fun _ _ q => ⟨rfl, q.2⟩)
set_option maxRecDepth 100000 in
set_option maxHeartbeats 4000000 in
theorem v_L_reach {h h2 : kH} {fs : List Value} {f : Nat → Int64} {w : Int64} {a1 : Int32} {a2 : Int32} (m : kMet kX11_reach false 1 6 [.ref 0, .int a1, .int a2] h 130 (kRt (some (.long w)) h2 130)) (hX : h 0 = kO 11 fs) (hO : h2 128 = kJ 1 f) : kMet kL_reach false 1 6 [.ref 0, .int a1, .int a2, .ref 128] h 130 (kRt (some (.int 0)) (kU h2 128 (kJ 1 (vp_updL f 0 w))) 130) := by
  refine kMet.inT (by decide) (0, 9, 12, 13) [] rfl rfl _ rfl ?_
  refine k_aload_n (i := 3) dL_reach_0 (rfl : 0 + 1 = 1) rfl rfl ?_
  refine k_iconst (v := 0) dL_reach_1 (rfl : 1 + 1 = 2) (by decide) ?_
  refine k_aload_n (i := 0) dL_reach_2 (rfl : 2 + 1 = 3) rfl rfl ?_
  refine k_iload_n (i := 1) dL_reach_3 (rfl : 3 + 1 = 4) rfl rfl ?_
  refine k_iload_n (i := 2) dL_reach_4 (rfl : 4 + 1 = 5) rfl rfl ?_
  refine k_callVd2 cv_L_21 ⟨Nat.le_of_ble_eq_true rfl, Nat.le_of_ble_eq_true rfl⟩ m dL_reach_5 (rfl : 5 + 3 = 8) (Nat.le_of_ble_eq_true rfl) hX rfl rfl ⟨Nat.le_of_ble_eq_true rfl, Nat.le_of_ble_eq_true rfl⟩ ?_
  refine k_last dL_reach_8 (rfl : 8 + 1 = 9) (Nat.le_of_ble_eq_true rfl) hO vp_00 ?_
  refine k_goto (tgt := 16) dL_reach_9 (by decide) ?_
  refine k_iconst (v := 0) dL_reach_16 (rfl : 16 + 1 = 17) (by decide) ?_
  refine k_iret rfl rfl dL_reach_17 (Nat.le_of_ble_eq_true rfl) (Nat.le_of_ble_eq_true rfl) kRt_rfl
set_option maxRecDepth 100000 in
set_option maxHeartbeats 4000000 in
theorem x1_L_reach {h h2 : kH} {fs : List Value} {a1 : Int32} {a2 : Int32} (m : kMet kX11_reach false 1 6 [.ref 0, .int a1, .int a2] h 130 (kRo (.inr "java/lang/IndexOutOfBoundsException") h2 130)) (hX : h 0 = kO 11 fs) : kMet kL_reach false 1 6 [.ref 0, .int a1, .int a2, .ref 128] h 130 (kRt (some (.int 1)) h2 130) := by
  refine kMet.inT (by decide) (0, 9, 12, 13) [] rfl rfl _ rfl ?_
  refine k_aload_n (i := 3) dL_reach_0 (rfl : 0 + 1 = 1) rfl rfl ?_
  refine k_iconst (v := 0) dL_reach_1 (rfl : 1 + 1 = 2) (by decide) ?_
  refine k_aload_n (i := 0) dL_reach_2 (rfl : 2 + 1 = 3) rfl rfl ?_
  refine k_iload_n (i := 1) dL_reach_3 (rfl : 3 + 1 = 4) rfl rfl ?_
  refine k_iload_n (i := 2) dL_reach_4 (rfl : 4 + 1 = 5) rfl rfl ?_
  exact k_callVxA (K := kL_reach) (J := kX11_reach) (Q := kRo (.inr "java/lang/IndexOutOfBoundsException") h2 130) (h := h) (r := 0) (st := [.int 0, .ref 128]) [.int a1, .int a2] cv_L_21 ⟨Nat.le_of_ble_eq_true rfl, Nat.le_of_ble_eq_true rfl⟩ m dL_reach_5 (Nat.le_of_ble_eq_true rfl) hX rfl rfl ⟨Nat.le_of_ble_eq_true rfl, Nat.le_of_ble_eq_true rfl⟩ "java/lang/IndexOutOfBoundsException" (fun _ _ _ q => q.1) [] [] (0, 9, 12, 13) rfl (fun z hz => by cases hz) ⟨Nat.le_of_ble_eq_true rfl, Nat.le_of_ble_eq_true rfl⟩ (by decide) lk_13 lc_13 4 12 14 15 rfl rfl rfl dL_reach_12 (Nat.le_of_ble_eq_true rfl) 1 1 (by decide) dL_reach_14 dL_reach_15 rfl (Nat.le_of_ble_eq_true rfl) (Nat.le_of_ble_eq_true rfl) (fun _ _ q => ⟨rfl, q.2⟩)
set_option maxRecDepth 100000 in
set_option maxHeartbeats 4000000 in
theorem v_L_reachByQueue {h h2 : kH} {fs : List Value} {f : Nat → Int64} {w : Int64} {a1 : Int32} {a2 : Int32} (m : kMet kX11_reachByQueue false 1 6 [.ref 0, .int a1, .int a2] h 130 (kRt (some (.long w)) h2 130)) (hX : h 0 = kO 11 fs) (hO : h2 128 = kJ 1 f) : kMet kL_reachByQueue false 1 6 [.ref 0, .int a1, .int a2, .ref 128] h 130 (kRt (some (.int 0)) (kU h2 128 (kJ 1 (vp_updL f 0 w))) 130) := by
  refine kMet.inT (by decide) (0, 9, 12, 13) [] rfl rfl _ rfl ?_
  refine k_aload_n (i := 3) dL_reachByQueue_0 (rfl : 0 + 1 = 1) rfl rfl ?_
  refine k_iconst (v := 0) dL_reachByQueue_1 (rfl : 1 + 1 = 2) (by decide) ?_
  refine k_aload_n (i := 0) dL_reachByQueue_2 (rfl : 2 + 1 = 3) rfl rfl ?_
  refine k_iload_n (i := 1) dL_reachByQueue_3 (rfl : 3 + 1 = 4) rfl rfl ?_
  refine k_iload_n (i := 2) dL_reachByQueue_4 (rfl : 4 + 1 = 5) rfl rfl ?_
  refine k_callVd2 cv_L_25 ⟨Nat.le_of_ble_eq_true rfl, Nat.le_of_ble_eq_true rfl⟩ m dL_reachByQueue_5 (rfl : 5 + 3 = 8) (Nat.le_of_ble_eq_true rfl) hX rfl rfl ⟨Nat.le_of_ble_eq_true rfl, Nat.le_of_ble_eq_true rfl⟩ ?_
  refine k_last dL_reachByQueue_8 (rfl : 8 + 1 = 9) (Nat.le_of_ble_eq_true rfl) hO vp_00 ?_
  refine k_goto (tgt := 16) dL_reachByQueue_9 (by decide) ?_
  refine k_iconst (v := 0) dL_reachByQueue_16 (rfl : 16 + 1 = 17) (by decide) ?_
  refine k_iret rfl rfl dL_reachByQueue_17 (Nat.le_of_ble_eq_true rfl) (Nat.le_of_ble_eq_true rfl) kRt_rfl
set_option maxRecDepth 100000 in
set_option maxHeartbeats 4000000 in
theorem x1_L_reachByQueue {h h2 : kH} {fs : List Value} {a1 : Int32} {a2 : Int32} (m : kMet kX11_reachByQueue false 1 6 [.ref 0, .int a1, .int a2] h 130 (kRo (.inr "java/lang/IndexOutOfBoundsException") h2 130)) (hX : h 0 = kO 11 fs) : kMet kL_reachByQueue false 1 6 [.ref 0, .int a1, .int a2, .ref 128] h 130 (kRt (some (.int 1)) h2 130) := by
  refine kMet.inT (by decide) (0, 9, 12, 13) [] rfl rfl _ rfl ?_
  refine k_aload_n (i := 3) dL_reachByQueue_0 (rfl : 0 + 1 = 1) rfl rfl ?_
  refine k_iconst (v := 0) dL_reachByQueue_1 (rfl : 1 + 1 = 2) (by decide) ?_
  refine k_aload_n (i := 0) dL_reachByQueue_2 (rfl : 2 + 1 = 3) rfl rfl ?_
  refine k_iload_n (i := 1) dL_reachByQueue_3 (rfl : 3 + 1 = 4) rfl rfl ?_
  refine k_iload_n (i := 2) dL_reachByQueue_4 (rfl : 4 + 1 = 5) rfl rfl ?_
  exact k_callVxA (K := kL_reachByQueue) (J := kX11_reachByQueue) (Q := kRo (.inr "java/lang/IndexOutOfBoundsException") h2 130) (h := h) (r := 0) (st := [.int 0, .ref 128]) [.int a1, .int a2] cv_L_25 ⟨Nat.le_of_ble_eq_true rfl, Nat.le_of_ble_eq_true rfl⟩ m dL_reachByQueue_5 (Nat.le_of_ble_eq_true rfl) hX rfl rfl ⟨Nat.le_of_ble_eq_true rfl, Nat.le_of_ble_eq_true rfl⟩ "java/lang/IndexOutOfBoundsException" (fun _ _ _ q => q.1) [] [] (0, 9, 12, 13) rfl (fun z hz => by cases hz) ⟨Nat.le_of_ble_eq_true rfl, Nat.le_of_ble_eq_true rfl⟩ (by decide) lk_13 lc_13 4 12 14 15 rfl rfl rfl dL_reachByQueue_12 (Nat.le_of_ble_eq_true rfl) 1 1 (by decide) dL_reachByQueue_14 dL_reachByQueue_15 rfl (Nat.le_of_ble_eq_true rfl) (Nat.le_of_ble_eq_true rfl) (fun _ _ q => ⟨rfl, q.2⟩)
set_option maxRecDepth 100000 in
set_option maxHeartbeats 4000000 in
theorem v_L_refusalDetail {h h2 : kH} {fs : List Value} {f : Nat → Int64} {w : Int32}  (m : kMet kX11_refusalDetail false 1 6 [.ref 0] h 130 (kRt (some (.int w)) h2 130)) (hX : h 0 = kO 11 fs) (hO : h2 128 = kJ 1 f) : kMet kL_refusalDetail false 1 6 [.ref 0, .ref 128] h 130 (kRt (some (.int 0)) (kU h2 128 (kJ 1 (vp_updL f 0 (Int32.toInt64 w)))) 130) := by
  refine kMet.inT (by decide) (0, 8, 11, 49) [] rfl rfl _ rfl ?_
  refine k_aload_n (i := 1) dL_refusalDetail_0 (rfl : 0 + 1 = 1) rfl rfl ?_
  refine k_iconst (v := 0) dL_refusalDetail_1 (rfl : 1 + 1 = 2) (by decide) ?_
  refine k_aload_n (i := 0) dL_refusalDetail_2 (rfl : 2 + 1 = 3) rfl rfl ?_
  refine k_callVd0 cv_L_107 ⟨Nat.le_of_ble_eq_true rfl, Nat.le_of_ble_eq_true rfl⟩ m dL_refusalDetail_3 (rfl : 3 + 3 = 6) (Nat.le_of_ble_eq_true rfl) hX rfl rfl ⟨Nat.le_of_ble_eq_true rfl, Nat.le_of_ble_eq_true rfl⟩ ?_
  refine k_i2l dL_refusalDetail_6 (rfl : 6 + 1 = 7) ?_
  refine k_last dL_refusalDetail_7 (rfl : 7 + 1 = 8) (Nat.le_of_ble_eq_true rfl) hO vp_00 ?_
  refine k_goto (tgt := 14) dL_refusalDetail_8 (by decide) ?_
  refine k_iconst (v := 0) dL_refusalDetail_14 (rfl : 14 + 1 = 15) (by decide) ?_
  refine k_iret rfl rfl dL_refusalDetail_15 (Nat.le_of_ble_eq_true rfl) (Nat.le_of_ble_eq_true rfl) kRt_rfl
set_option maxRecDepth 100000 in
set_option maxHeartbeats 4000000 in
theorem x1_L_refusalDetail {h h2 : kH} {fs : List Value}  (m : kMet kX11_refusalDetail false 1 6 [.ref 0] h 130 (kRo (.inr "java/util/NoSuchElementException") h2 130)) (hX : h 0 = kO 11 fs) : kMet kL_refusalDetail false 1 6 [.ref 0, .ref 128] h 130 (kRt (some (.int 1)) h2 130) := by
  refine kMet.inT (by decide) (0, 8, 11, 49) [] rfl rfl _ rfl ?_
  refine k_aload_n (i := 1) dL_refusalDetail_0 (rfl : 0 + 1 = 1) rfl rfl ?_
  refine k_iconst (v := 0) dL_refusalDetail_1 (rfl : 1 + 1 = 2) (by decide) ?_
  refine k_aload_n (i := 0) dL_refusalDetail_2 (rfl : 2 + 1 = 3) rfl rfl ?_
  exact k_callVxN (K := kL_refusalDetail) (J := kX11_refusalDetail) (Q := kRo (.inr "java/util/NoSuchElementException") h2 130) (h := h) (r := 0) (st := [.int 0, .ref 128]) [] cv_L_107 ⟨Nat.le_of_ble_eq_true rfl, Nat.le_of_ble_eq_true rfl⟩ m dL_refusalDetail_3 (Nat.le_of_ble_eq_true rfl) hX rfl rfl ⟨Nat.le_of_ble_eq_true rfl, Nat.le_of_ble_eq_true rfl⟩ "java/util/NoSuchElementException" (fun _ _ _ q => q.1) [] [] (0, 8, 11, 49) rfl (fun z hz => by cases hz) ⟨Nat.le_of_ble_eq_true rfl, Nat.le_of_ble_eq_true rfl⟩ (by decide) lk_49 lc_49 2 2 rfl 11 12 13 rfl rfl rfl dL_refusalDetail_11 (Nat.le_of_ble_eq_true rfl) 1 1 (by decide) dL_refusalDetail_12 dL_refusalDetail_13 rfl (Nat.le_of_ble_eq_true rfl) (Nat.le_of_ble_eq_true rfl) (fun _ _ q => ⟨rfl, q.2⟩)
set_option maxRecDepth 100000 in
set_option maxHeartbeats 4000000 in
theorem v_L_refusalReason {h h2 : kH} {fs : List Value} {f : Nat → Int64} {w : Int32}  (m : kMet kX11_refusalReason false 1 6 [.ref 0] h 130 (kRt (some (.int w)) h2 130)) (hX : h 0 = kO 11 fs) (hO : h2 128 = kJ 1 f) : kMet kL_refusalReason false 1 6 [.ref 0, .ref 128] h 130 (kRt (some (.int 0)) (kU h2 128 (kJ 1 (vp_updL f 0 (Int32.toInt64 w)))) 130) := by
  refine kMet.inT (by decide) (0, 8, 11, 49) [] rfl rfl _ rfl ?_
  refine k_aload_n (i := 1) dL_refusalReason_0 (rfl : 0 + 1 = 1) rfl rfl ?_
  refine k_iconst (v := 0) dL_refusalReason_1 (rfl : 1 + 1 = 2) (by decide) ?_
  refine k_aload_n (i := 0) dL_refusalReason_2 (rfl : 2 + 1 = 3) rfl rfl ?_
  refine k_callVd0 cv_L_103 ⟨Nat.le_of_ble_eq_true rfl, Nat.le_of_ble_eq_true rfl⟩ m dL_refusalReason_3 (rfl : 3 + 3 = 6) (Nat.le_of_ble_eq_true rfl) hX rfl rfl ⟨Nat.le_of_ble_eq_true rfl, Nat.le_of_ble_eq_true rfl⟩ ?_
  refine k_i2l dL_refusalReason_6 (rfl : 6 + 1 = 7) ?_
  refine k_last dL_refusalReason_7 (rfl : 7 + 1 = 8) (Nat.le_of_ble_eq_true rfl) hO vp_00 ?_
  refine k_goto (tgt := 14) dL_refusalReason_8 (by decide) ?_
  refine k_iconst (v := 0) dL_refusalReason_14 (rfl : 14 + 1 = 15) (by decide) ?_
  refine k_iret rfl rfl dL_refusalReason_15 (Nat.le_of_ble_eq_true rfl) (Nat.le_of_ble_eq_true rfl) kRt_rfl
set_option maxRecDepth 100000 in
set_option maxHeartbeats 4000000 in
theorem x1_L_refusalReason {h h2 : kH} {fs : List Value}  (m : kMet kX11_refusalReason false 1 6 [.ref 0] h 130 (kRo (.inr "java/util/NoSuchElementException") h2 130)) (hX : h 0 = kO 11 fs) : kMet kL_refusalReason false 1 6 [.ref 0, .ref 128] h 130 (kRt (some (.int 1)) h2 130) := by
  refine kMet.inT (by decide) (0, 8, 11, 49) [] rfl rfl _ rfl ?_
  refine k_aload_n (i := 1) dL_refusalReason_0 (rfl : 0 + 1 = 1) rfl rfl ?_
  refine k_iconst (v := 0) dL_refusalReason_1 (rfl : 1 + 1 = 2) (by decide) ?_
  refine k_aload_n (i := 0) dL_refusalReason_2 (rfl : 2 + 1 = 3) rfl rfl ?_
  exact k_callVxN (K := kL_refusalReason) (J := kX11_refusalReason) (Q := kRo (.inr "java/util/NoSuchElementException") h2 130) (h := h) (r := 0) (st := [.int 0, .ref 128]) [] cv_L_103 ⟨Nat.le_of_ble_eq_true rfl, Nat.le_of_ble_eq_true rfl⟩ m dL_refusalReason_3 (Nat.le_of_ble_eq_true rfl) hX rfl rfl ⟨Nat.le_of_ble_eq_true rfl, Nat.le_of_ble_eq_true rfl⟩ "java/util/NoSuchElementException" (fun _ _ _ q => q.1) [] [] (0, 8, 11, 49) rfl (fun z hz => by cases hz) ⟨Nat.le_of_ble_eq_true rfl, Nat.le_of_ble_eq_true rfl⟩ (by decide) lk_49 lc_49 2 2 rfl 11 12 13 rfl rfl rfl dL_refusalReason_11 (Nat.le_of_ble_eq_true rfl) 1 1 (by decide) dL_refusalReason_12 dL_refusalReason_13 rfl (Nat.le_of_ble_eq_true rfl) (Nat.le_of_ble_eq_true rfl) (fun _ _ q => ⟨rfl, q.2⟩)
set_option maxRecDepth 100000 in
set_option maxHeartbeats 4000000 in
theorem v_L_restore {h h2 : kH} {fs : List Value} {f : Nat → Int64} {w : Int32}  (m : kMet kX11_restore false 1 6 [.ref 0] h 130 (kRt (some (.int w)) h2 130)) (hX : h 0 = kO 11 fs) (hO : h2 128 = kJ 1 f) : kMet kL_restore false 1 6 [.ref 0, .ref 128] h 130 (kRt (some (.int 0)) (kU h2 128 (kJ 1 (vp_updL f 0 (Int32.toInt64 w)))) 130) := by
  refine kMet.inT (by decide) (0, 8, 11, 36) [] rfl rfl _ rfl ?_
  refine k_aload_n (i := 1) dL_restore_0 (rfl : 0 + 1 = 1) rfl rfl ?_
  refine k_iconst (v := 0) dL_restore_1 (rfl : 1 + 1 = 2) (by decide) ?_
  refine k_aload_n (i := 0) dL_restore_2 (rfl : 2 + 1 = 3) rfl rfl ?_
  refine k_callVd0 cv_L_148 ⟨Nat.le_of_ble_eq_true rfl, Nat.le_of_ble_eq_true rfl⟩ m dL_restore_3 (rfl : 3 + 3 = 6) (Nat.le_of_ble_eq_true rfl) hX rfl rfl ⟨Nat.le_of_ble_eq_true rfl, Nat.le_of_ble_eq_true rfl⟩ ?_
  refine k_i2l dL_restore_6 (rfl : 6 + 1 = 7) ?_
  refine k_last dL_restore_7 (rfl : 7 + 1 = 8) (Nat.le_of_ble_eq_true rfl) hO vp_00 ?_
  refine k_goto (tgt := 14) dL_restore_8 (by decide) ?_
  refine k_iconst (v := 0) dL_restore_14 (rfl : 14 + 1 = 15) (by decide) ?_
  refine k_iret rfl rfl dL_restore_15 (Nat.le_of_ble_eq_true rfl) (Nat.le_of_ble_eq_true rfl) kRt_rfl
set_option maxRecDepth 100000 in
set_option maxHeartbeats 4000000 in
theorem x1_L_restore {h h2 : kH} {fs : List Value}  (m : kMet kX11_restore false 1 6 [.ref 0] h 130 (kRo (.inr "java/lang/IllegalStateException") h2 130)) (hX : h 0 = kO 11 fs) : kMet kL_restore false 1 6 [.ref 0, .ref 128] h 130 (kRt (some (.int 1)) h2 130) := by
  refine kMet.inT (by decide) (0, 8, 11, 36) [] rfl rfl _ rfl ?_
  refine k_aload_n (i := 1) dL_restore_0 (rfl : 0 + 1 = 1) rfl rfl ?_
  refine k_iconst (v := 0) dL_restore_1 (rfl : 1 + 1 = 2) (by decide) ?_
  refine k_aload_n (i := 0) dL_restore_2 (rfl : 2 + 1 = 3) rfl rfl ?_
  exact k_callVxN (K := kL_restore) (J := kX11_restore) (Q := kRo (.inr "java/lang/IllegalStateException") h2 130) (h := h) (r := 0) (st := [.int 0, .ref 128]) [] cv_L_148 ⟨Nat.le_of_ble_eq_true rfl, Nat.le_of_ble_eq_true rfl⟩ m dL_restore_3 (Nat.le_of_ble_eq_true rfl) hX rfl rfl ⟨Nat.le_of_ble_eq_true rfl, Nat.le_of_ble_eq_true rfl⟩ "java/lang/IllegalStateException" (fun _ _ _ q => q.1) [] [] (0, 8, 11, 36) rfl (fun z hz => by cases hz) ⟨Nat.le_of_ble_eq_true rfl, Nat.le_of_ble_eq_true rfl⟩ (by decide) lk_36 lc_36 2 2 rfl 11 12 13 rfl rfl rfl dL_restore_11 (Nat.le_of_ble_eq_true rfl) 1 1 (by decide) dL_restore_12 dL_restore_13 rfl (Nat.le_of_ble_eq_true rfl) (Nat.le_of_ble_eq_true rfl) (fun _ _ q => ⟨rfl, q.2⟩)
set_option maxRecDepth 100000 in
set_option maxHeartbeats 4000000 in
theorem v_L_run {h h2 : kH} {fs : List Value} {f : Nat → Int64} {w : Int32}  (m : kMet kX11_run false 1 6 [.ref 0] h 130 (kRt (some (.int w)) h2 130)) (hX : h 0 = kO 11 fs) (hO : h2 128 = kJ 1 f) : kMet kL_run false 1 6 [.ref 0, .ref 128] h 130 (kRt (some (.int 0)) (kU h2 128 (kJ 1 (vp_updL f 0 (Int32.toInt64 w)))) 130) := by
  refine kMet.inT (by decide) (0, 8, 11, 31) [(0, 8, 14, 36)] rfl rfl _ rfl ?_
  refine k_aload_n (i := 1) dL_run_0 (rfl : 0 + 1 = 1) rfl rfl ?_
  refine k_iconst (v := 0) dL_run_1 (rfl : 1 + 1 = 2) (by decide) ?_
  refine k_aload_n (i := 0) dL_run_2 (rfl : 2 + 1 = 3) rfl rfl ?_
  refine k_callVd0 cv_L_127 ⟨Nat.le_of_ble_eq_true rfl, Nat.le_of_ble_eq_true rfl⟩ m dL_run_3 (rfl : 3 + 3 = 6) (Nat.le_of_ble_eq_true rfl) hX rfl rfl ⟨Nat.le_of_ble_eq_true rfl, Nat.le_of_ble_eq_true rfl⟩ ?_
  refine k_i2l dL_run_6 (rfl : 6 + 1 = 7) ?_
  refine k_last dL_run_7 (rfl : 7 + 1 = 8) (Nat.le_of_ble_eq_true rfl) hO vp_00 ?_
  refine k_goto (tgt := 17) dL_run_8 (by decide) ?_
  refine k_iconst (v := 0) dL_run_17 (rfl : 17 + 1 = 18) (by decide) ?_
  refine k_iret rfl rfl dL_run_18 (Nat.le_of_ble_eq_true rfl) (Nat.le_of_ble_eq_true rfl) kRt_rfl
set_option maxRecDepth 100000 in
set_option maxHeartbeats 4000000 in
theorem x1_L_run {h h2 : kH} {fs : List Value}  (m : kMet kX11_run false 1 6 [.ref 0] h 130 (kRo (.inr "java/lang/IllegalArgumentException") h2 130)) (hX : h 0 = kO 11 fs) : kMet kL_run false 1 6 [.ref 0, .ref 128] h 130 (kRt (some (.int 1)) h2 130) := by
  refine kMet.inT (by decide) (0, 8, 11, 31) [(0, 8, 14, 36)] rfl rfl _ rfl ?_
  refine k_aload_n (i := 1) dL_run_0 (rfl : 0 + 1 = 1) rfl rfl ?_
  refine k_iconst (v := 0) dL_run_1 (rfl : 1 + 1 = 2) (by decide) ?_
  refine k_aload_n (i := 0) dL_run_2 (rfl : 2 + 1 = 3) rfl rfl ?_
  exact k_callVxN (K := kL_run) (J := kX11_run) (Q := kRo (.inr "java/lang/IllegalArgumentException") h2 130) (h := h) (r := 0) (st := [.int 0, .ref 128]) [] cv_L_127 ⟨Nat.le_of_ble_eq_true rfl, Nat.le_of_ble_eq_true rfl⟩ m dL_run_3 (Nat.le_of_ble_eq_true rfl) hX rfl rfl ⟨Nat.le_of_ble_eq_true rfl, Nat.le_of_ble_eq_true rfl⟩ "java/lang/IllegalArgumentException" (fun _ _ _ q => q.1) [] [(0, 8, 14, 36)] (0, 8, 11, 31) rfl (fun z hz => by cases hz) ⟨Nat.le_of_ble_eq_true rfl, Nat.le_of_ble_eq_true rfl⟩ (by decide) lk_31 lc_31 2 2 rfl 11 12 13 rfl rfl rfl dL_run_11 (Nat.le_of_ble_eq_true rfl) 1 1 (by decide) dL_run_12 dL_run_13 rfl (Nat.le_of_ble_eq_true rfl) (Nat.le_of_ble_eq_true rfl) (fun _ _ q => ⟨rfl, q.2⟩)
set_option maxRecDepth 100000 in
set_option maxHeartbeats 4000000 in
theorem x2_L_run {h h2 : kH} {fs : List Value}  (m : kMet kX11_run false 1 6 [.ref 0] h 130 (kRo (.inr "java/lang/IllegalStateException") h2 130)) (hX : h 0 = kO 11 fs) : kMet kL_run false 1 6 [.ref 0, .ref 128] h 130 (kRt (some (.int 2)) h2 130) := by
  refine kMet.inT (by decide) (0, 8, 11, 31) [(0, 8, 14, 36)] rfl rfl _ rfl ?_
  refine k_aload_n (i := 1) dL_run_0 (rfl : 0 + 1 = 1) rfl rfl ?_
  refine k_iconst (v := 0) dL_run_1 (rfl : 1 + 1 = 2) (by decide) ?_
  refine k_aload_n (i := 0) dL_run_2 (rfl : 2 + 1 = 3) rfl rfl ?_
  exact k_callVxN (K := kL_run) (J := kX11_run) (Q := kRo (.inr "java/lang/IllegalStateException") h2 130) (h := h) (r := 0) (st := [.int 0, .ref 128]) [] cv_L_127 ⟨Nat.le_of_ble_eq_true rfl, Nat.le_of_ble_eq_true rfl⟩ m dL_run_3 (Nat.le_of_ble_eq_true rfl) hX rfl rfl ⟨Nat.le_of_ble_eq_true rfl, Nat.le_of_ble_eq_true rfl⟩ "java/lang/IllegalStateException" (fun _ _ _ q => q.1) [(0, 8, 11, 31)] [] (0, 8, 14, 36) rfl (fun z hz => by
    rcases List.mem_cons.1 hz with rfl | hz
    · exact ⟨by decide, "java/lang/IllegalArgumentException", lk_31, by decide⟩
    cases hz) ⟨Nat.le_of_ble_eq_true rfl, Nat.le_of_ble_eq_true rfl⟩ (by decide) lk_36 lc_36 2 2 rfl 14 15 16 rfl rfl rfl dL_run_14 (Nat.le_of_ble_eq_true rfl) 2 2 (by decide) dL_run_15 dL_run_16 rfl (Nat.le_of_ble_eq_true rfl) (Nat.le_of_ble_eq_true rfl) (fun _ _ q => ⟨rfl, q.2⟩)
set_option maxRecDepth 100000 in
set_option maxHeartbeats 4000000 in
theorem v_L_servedCount {h h2 : kH} {fs : List Value} {f : Nat → Int64} {w : Int32} {a1 : Int32} (m : kMet kX11_servedCount false 1 6 [.ref 0, .int a1] h 130 (kRt (some (.int w)) h2 130)) (hX : h 0 = kO 11 fs) (hO : h2 128 = kJ 1 f) : kMet kL_servedCount false 1 6 [.ref 0, .int a1, .ref 128] h 130 (kRt (some (.int 0)) (kU h2 128 (kJ 1 (vp_updL f 0 (Int32.toInt64 w)))) 130) := by
  refine kMet.inT (by decide) (0, 9, 12, 13) [] rfl rfl _ rfl ?_
  refine k_aload_n (i := 2) dL_servedCount_0 (rfl : 0 + 1 = 1) rfl rfl ?_
  refine k_iconst (v := 0) dL_servedCount_1 (rfl : 1 + 1 = 2) (by decide) ?_
  refine k_aload_n (i := 0) dL_servedCount_2 (rfl : 2 + 1 = 3) rfl rfl ?_
  refine k_iload_n (i := 1) dL_servedCount_3 (rfl : 3 + 1 = 4) rfl rfl ?_
  refine k_callVd1 cv_L_51 ⟨Nat.le_of_ble_eq_true rfl, Nat.le_of_ble_eq_true rfl⟩ m dL_servedCount_4 (rfl : 4 + 3 = 7) (Nat.le_of_ble_eq_true rfl) hX rfl rfl ⟨Nat.le_of_ble_eq_true rfl, Nat.le_of_ble_eq_true rfl⟩ ?_
  refine k_i2l dL_servedCount_7 (rfl : 7 + 1 = 8) ?_
  refine k_last dL_servedCount_8 (rfl : 8 + 1 = 9) (Nat.le_of_ble_eq_true rfl) hO vp_00 ?_
  refine k_goto (tgt := 15) dL_servedCount_9 (by decide) ?_
  refine k_iconst (v := 0) dL_servedCount_15 (rfl : 15 + 1 = 16) (by decide) ?_
  refine k_iret rfl rfl dL_servedCount_16 (Nat.le_of_ble_eq_true rfl) (Nat.le_of_ble_eq_true rfl) kRt_rfl
set_option maxRecDepth 100000 in
set_option maxHeartbeats 4000000 in
theorem x1_L_servedCount {h h2 : kH} {fs : List Value} {a1 : Int32} (m : kMet kX11_servedCount false 1 6 [.ref 0, .int a1] h 130 (kRo (.inr "java/lang/IndexOutOfBoundsException") h2 130)) (hX : h 0 = kO 11 fs) : kMet kL_servedCount false 1 6 [.ref 0, .int a1, .ref 128] h 130 (kRt (some (.int 1)) h2 130) := by
  refine kMet.inT (by decide) (0, 9, 12, 13) [] rfl rfl _ rfl ?_
  refine k_aload_n (i := 2) dL_servedCount_0 (rfl : 0 + 1 = 1) rfl rfl ?_
  refine k_iconst (v := 0) dL_servedCount_1 (rfl : 1 + 1 = 2) (by decide) ?_
  refine k_aload_n (i := 0) dL_servedCount_2 (rfl : 2 + 1 = 3) rfl rfl ?_
  refine k_iload_n (i := 1) dL_servedCount_3 (rfl : 3 + 1 = 4) rfl rfl ?_
  exact k_callVxN (K := kL_servedCount) (J := kX11_servedCount) (Q := kRo (.inr "java/lang/IndexOutOfBoundsException") h2 130) (h := h) (r := 0) (st := [.int 0, .ref 128]) [.int a1] cv_L_51 ⟨Nat.le_of_ble_eq_true rfl, Nat.le_of_ble_eq_true rfl⟩ m dL_servedCount_4 (Nat.le_of_ble_eq_true rfl) hX rfl rfl ⟨Nat.le_of_ble_eq_true rfl, Nat.le_of_ble_eq_true rfl⟩ "java/lang/IndexOutOfBoundsException" (fun _ _ _ q => q.1) [] [] (0, 9, 12, 13) rfl (fun z hz => by cases hz) ⟨Nat.le_of_ble_eq_true rfl, Nat.le_of_ble_eq_true rfl⟩ (by decide) lk_13 lc_13 3 3 rfl 12 13 14 rfl rfl rfl dL_servedCount_12 (Nat.le_of_ble_eq_true rfl) 1 1 (by decide) dL_servedCount_13 dL_servedCount_14 rfl (Nat.le_of_ble_eq_true rfl) (Nat.le_of_ble_eq_true rfl) (fun _ _ q => ⟨rfl, q.2⟩)
set_option maxRecDepth 100000 in
set_option maxHeartbeats 4000000 in
theorem v_L_servingThrows {h h2 : kH} {fs : List Value} {f : Nat → Int64} {w : Int64} {a1 : Int32} (m : kMet kX11_servingThrows false 1 6 [.ref 0, .int a1] h 130 (kRt (some (.long w)) h2 130)) (hX : h 0 = kO 11 fs) (hO : h2 128 = kJ 1 f) : kMet kL_servingThrows false 1 6 [.ref 0, .int a1, .ref 128] h 130 (kRt (some (.int 0)) (kU h2 128 (kJ 1 (vp_updL f 0 w))) 130) := by
  refine kMet.inT (by decide) (0, 8, 11, 13) [] rfl rfl _ rfl ?_
  refine k_aload_n (i := 2) dL_servingThrows_0 (rfl : 0 + 1 = 1) rfl rfl ?_
  refine k_iconst (v := 0) dL_servingThrows_1 (rfl : 1 + 1 = 2) (by decide) ?_
  refine k_aload_n (i := 0) dL_servingThrows_2 (rfl : 2 + 1 = 3) rfl rfl ?_
  refine k_iload_n (i := 1) dL_servingThrows_3 (rfl : 3 + 1 = 4) rfl rfl ?_
  refine k_callVd1 cv_L_68 ⟨Nat.le_of_ble_eq_true rfl, Nat.le_of_ble_eq_true rfl⟩ m dL_servingThrows_4 (rfl : 4 + 3 = 7) (Nat.le_of_ble_eq_true rfl) hX rfl rfl ⟨Nat.le_of_ble_eq_true rfl, Nat.le_of_ble_eq_true rfl⟩ ?_
  refine k_last dL_servingThrows_7 (rfl : 7 + 1 = 8) (Nat.le_of_ble_eq_true rfl) hO vp_00 ?_
  refine k_goto (tgt := 14) dL_servingThrows_8 (by decide) ?_
  refine k_iconst (v := 0) dL_servingThrows_14 (rfl : 14 + 1 = 15) (by decide) ?_
  refine k_iret rfl rfl dL_servingThrows_15 (Nat.le_of_ble_eq_true rfl) (Nat.le_of_ble_eq_true rfl) kRt_rfl
set_option maxRecDepth 100000 in
set_option maxHeartbeats 4000000 in
theorem x1_L_servingThrows {h h2 : kH} {fs : List Value} {a1 : Int32} (m : kMet kX11_servingThrows false 1 6 [.ref 0, .int a1] h 130 (kRo (.inr "java/lang/IndexOutOfBoundsException") h2 130)) (hX : h 0 = kO 11 fs) : kMet kL_servingThrows false 1 6 [.ref 0, .int a1, .ref 128] h 130 (kRt (some (.int 1)) h2 130) := by
  refine kMet.inT (by decide) (0, 8, 11, 13) [] rfl rfl _ rfl ?_
  refine k_aload_n (i := 2) dL_servingThrows_0 (rfl : 0 + 1 = 1) rfl rfl ?_
  refine k_iconst (v := 0) dL_servingThrows_1 (rfl : 1 + 1 = 2) (by decide) ?_
  refine k_aload_n (i := 0) dL_servingThrows_2 (rfl : 2 + 1 = 3) rfl rfl ?_
  refine k_iload_n (i := 1) dL_servingThrows_3 (rfl : 3 + 1 = 4) rfl rfl ?_
  exact k_callVxN (K := kL_servingThrows) (J := kX11_servingThrows) (Q := kRo (.inr "java/lang/IndexOutOfBoundsException") h2 130) (h := h) (r := 0) (st := [.int 0, .ref 128]) [.int a1] cv_L_68 ⟨Nat.le_of_ble_eq_true rfl, Nat.le_of_ble_eq_true rfl⟩ m dL_servingThrows_4 (Nat.le_of_ble_eq_true rfl) hX rfl rfl ⟨Nat.le_of_ble_eq_true rfl, Nat.le_of_ble_eq_true rfl⟩ "java/lang/IndexOutOfBoundsException" (fun _ _ _ q => q.1) [] [] (0, 8, 11, 13) rfl (fun z hz => by cases hz) ⟨Nat.le_of_ble_eq_true rfl, Nat.le_of_ble_eq_true rfl⟩ (by decide) lk_13 lc_13 3 3 rfl 11 12 13 rfl rfl rfl dL_servingThrows_11 (Nat.le_of_ble_eq_true rfl) 1 1 (by decide) dL_servingThrows_12 dL_servingThrows_13 rfl (Nat.le_of_ble_eq_true rfl) (Nat.le_of_ble_eq_true rfl) (fun _ _ q => ⟨rfl, q.2⟩)
set_option maxRecDepth 100000 in
set_option maxHeartbeats 4000000 in
theorem v_L_servingThrowsBySets {h h2 : kH} {fs : List Value} {f : Nat → Int64} {w : Int64} {a1 : Int32} (m : kMet kX11_servingThrowsBySets false 1 6 [.ref 0, .int a1] h 130 (kRt (some (.long w)) h2 130)) (hX : h 0 = kO 11 fs) (hO : h2 128 = kJ 1 f) : kMet kL_servingThrowsBySets false 1 6 [.ref 0, .int a1, .ref 128] h 130 (kRt (some (.int 0)) (kU h2 128 (kJ 1 (vp_updL f 0 w))) 130) := by
  refine kMet.inT (by decide) (0, 8, 11, 13) [] rfl rfl _ rfl ?_
  refine k_aload_n (i := 2) dL_servingThrowsBySets_0 (rfl : 0 + 1 = 1) rfl rfl ?_
  refine k_iconst (v := 0) dL_servingThrowsBySets_1 (rfl : 1 + 1 = 2) (by decide) ?_
  refine k_aload_n (i := 0) dL_servingThrowsBySets_2 (rfl : 2 + 1 = 3) rfl rfl ?_
  refine k_iload_n (i := 1) dL_servingThrowsBySets_3 (rfl : 3 + 1 = 4) rfl rfl ?_
  refine k_callVd1 cv_L_71 ⟨Nat.le_of_ble_eq_true rfl, Nat.le_of_ble_eq_true rfl⟩ m dL_servingThrowsBySets_4 (rfl : 4 + 3 = 7) (Nat.le_of_ble_eq_true rfl) hX rfl rfl ⟨Nat.le_of_ble_eq_true rfl, Nat.le_of_ble_eq_true rfl⟩ ?_
  refine k_last dL_servingThrowsBySets_7 (rfl : 7 + 1 = 8) (Nat.le_of_ble_eq_true rfl) hO vp_00 ?_
  refine k_goto (tgt := 14) dL_servingThrowsBySets_8 (by decide) ?_
  refine k_iconst (v := 0) dL_servingThrowsBySets_14 (rfl : 14 + 1 = 15) (by decide) ?_
  refine k_iret rfl rfl dL_servingThrowsBySets_15 (Nat.le_of_ble_eq_true rfl) (Nat.le_of_ble_eq_true rfl) kRt_rfl
set_option maxRecDepth 100000 in
set_option maxHeartbeats 4000000 in
theorem x1_L_servingThrowsBySets {h h2 : kH} {fs : List Value} {a1 : Int32} (m : kMet kX11_servingThrowsBySets false 1 6 [.ref 0, .int a1] h 130 (kRo (.inr "java/lang/IndexOutOfBoundsException") h2 130)) (hX : h 0 = kO 11 fs) : kMet kL_servingThrowsBySets false 1 6 [.ref 0, .int a1, .ref 128] h 130 (kRt (some (.int 1)) h2 130) := by
  refine kMet.inT (by decide) (0, 8, 11, 13) [] rfl rfl _ rfl ?_
  refine k_aload_n (i := 2) dL_servingThrowsBySets_0 (rfl : 0 + 1 = 1) rfl rfl ?_
  refine k_iconst (v := 0) dL_servingThrowsBySets_1 (rfl : 1 + 1 = 2) (by decide) ?_
  refine k_aload_n (i := 0) dL_servingThrowsBySets_2 (rfl : 2 + 1 = 3) rfl rfl ?_
  refine k_iload_n (i := 1) dL_servingThrowsBySets_3 (rfl : 3 + 1 = 4) rfl rfl ?_
  exact k_callVxN (K := kL_servingThrowsBySets) (J := kX11_servingThrowsBySets) (Q := kRo (.inr "java/lang/IndexOutOfBoundsException") h2 130) (h := h) (r := 0) (st := [.int 0, .ref 128]) [.int a1] cv_L_71 ⟨Nat.le_of_ble_eq_true rfl, Nat.le_of_ble_eq_true rfl⟩ m dL_servingThrowsBySets_4 (Nat.le_of_ble_eq_true rfl) hX rfl rfl ⟨Nat.le_of_ble_eq_true rfl, Nat.le_of_ble_eq_true rfl⟩ "java/lang/IndexOutOfBoundsException" (fun _ _ _ q => q.1) [] [] (0, 8, 11, 13) rfl (fun z hz => by cases hz) ⟨Nat.le_of_ble_eq_true rfl, Nat.le_of_ble_eq_true rfl⟩ (by decide) lk_13 lc_13 3 3 rfl 11 12 13 rfl rfl rfl dL_servingThrowsBySets_11 (Nat.le_of_ble_eq_true rfl) 1 1 (by decide) dL_servingThrowsBySets_12 dL_servingThrowsBySets_13 rfl (Nat.le_of_ble_eq_true rfl) (Nat.le_of_ble_eq_true rfl) (fun _ _ q => ⟨rfl, q.2⟩)
set_option maxRecDepth 100000 in
set_option maxHeartbeats 4000000 in
theorem v_L_setBench {h h2 : kH} {fs : List Value} {f : Nat → Int64} {w : Int32} {a1 : Int32} {a2 : Int32} (m : kMet kX11_setBench false 1 6 [.ref 0, .int a1, .int a2] h 130 (kRt (some (.int w)) h2 130)) (hX : h 0 = kO 11 fs) (hO : h2 128 = kJ 1 f) : kMet kL_setBench false 1 6 [.ref 0, .int a1, .int a2, .ref 128] h 130 (kRt (some (.int 0)) (kU h2 128 (kJ 1 (vp_updL f 0 (Int32.toInt64 w)))) 130) := by
  refine kMet.inT (by decide) (0, 10, 13, 13) [(0, 10, 17, 15)] rfl rfl _ rfl ?_
  refine k_aload_n (i := 3) dL_setBench_0 (rfl : 0 + 1 = 1) rfl rfl ?_
  refine k_iconst (v := 0) dL_setBench_1 (rfl : 1 + 1 = 2) (by decide) ?_
  refine k_aload_n (i := 0) dL_setBench_2 (rfl : 2 + 1 = 3) rfl rfl ?_
  refine k_iload_n (i := 1) dL_setBench_3 (rfl : 3 + 1 = 4) rfl rfl ?_
  refine k_iload_n (i := 2) dL_setBench_4 (rfl : 4 + 1 = 5) rfl rfl ?_
  refine k_callVd2 cv_L_17 ⟨Nat.le_of_ble_eq_true rfl, Nat.le_of_ble_eq_true rfl⟩ m dL_setBench_5 (rfl : 5 + 3 = 8) (Nat.le_of_ble_eq_true rfl) hX rfl rfl ⟨Nat.le_of_ble_eq_true rfl, Nat.le_of_ble_eq_true rfl⟩ ?_
  refine k_i2l dL_setBench_8 (rfl : 8 + 1 = 9) ?_
  refine k_last dL_setBench_9 (rfl : 9 + 1 = 10) (Nat.le_of_ble_eq_true rfl) hO vp_00 ?_
  refine k_goto (tgt := 21) dL_setBench_10 (by decide) ?_
  refine k_iconst (v := 0) dL_setBench_21 (rfl : 21 + 1 = 22) (by decide) ?_
  refine k_iret rfl rfl dL_setBench_22 (Nat.le_of_ble_eq_true rfl) (Nat.le_of_ble_eq_true rfl) kRt_rfl
set_option maxRecDepth 100000 in
set_option maxHeartbeats 4000000 in
theorem x1_L_setBench {h h2 : kH} {fs : List Value} {a1 : Int32} {a2 : Int32} (m : kMet kX11_setBench false 1 6 [.ref 0, .int a1, .int a2] h 130 (kRo (.inr "java/lang/IndexOutOfBoundsException") h2 130)) (hX : h 0 = kO 11 fs) : kMet kL_setBench false 1 6 [.ref 0, .int a1, .int a2, .ref 128] h 130 (kRt (some (.int 1)) h2 130) := by
  refine kMet.inT (by decide) (0, 10, 13, 13) [(0, 10, 17, 15)] rfl rfl _ rfl ?_
  refine k_aload_n (i := 3) dL_setBench_0 (rfl : 0 + 1 = 1) rfl rfl ?_
  refine k_iconst (v := 0) dL_setBench_1 (rfl : 1 + 1 = 2) (by decide) ?_
  refine k_aload_n (i := 0) dL_setBench_2 (rfl : 2 + 1 = 3) rfl rfl ?_
  refine k_iload_n (i := 1) dL_setBench_3 (rfl : 3 + 1 = 4) rfl rfl ?_
  refine k_iload_n (i := 2) dL_setBench_4 (rfl : 4 + 1 = 5) rfl rfl ?_
  exact k_callVxA (K := kL_setBench) (J := kX11_setBench) (Q := kRo (.inr "java/lang/IndexOutOfBoundsException") h2 130) (h := h) (r := 0) (st := [.int 0, .ref 128]) [.int a1, .int a2] cv_L_17 ⟨Nat.le_of_ble_eq_true rfl, Nat.le_of_ble_eq_true rfl⟩ m dL_setBench_5 (Nat.le_of_ble_eq_true rfl) hX rfl rfl ⟨Nat.le_of_ble_eq_true rfl, Nat.le_of_ble_eq_true rfl⟩ "java/lang/IndexOutOfBoundsException" (fun _ _ _ q => q.1) [] [(0, 10, 17, 15)] (0, 10, 13, 13) rfl (fun z hz => by cases hz) ⟨Nat.le_of_ble_eq_true rfl, Nat.le_of_ble_eq_true rfl⟩ (by decide) lk_13 lc_13 4 13 15 16 rfl rfl rfl dL_setBench_13 (Nat.le_of_ble_eq_true rfl) 1 1 (by decide) dL_setBench_15 dL_setBench_16 rfl (Nat.le_of_ble_eq_true rfl) (Nat.le_of_ble_eq_true rfl) (fun _ _ q => ⟨rfl, q.2⟩)
set_option maxRecDepth 100000 in
set_option maxHeartbeats 4000000 in
theorem x2_L_setBench {h h2 : kH} {fs : List Value} {a1 : Int32} {a2 : Int32} (m : kMet kX11_setBench false 1 6 [.ref 0, .int a1, .int a2] h 130 (kRo (.inr "java/lang/UnsupportedOperationException") h2 130)) (hX : h 0 = kO 11 fs) : kMet kL_setBench false 1 6 [.ref 0, .int a1, .int a2, .ref 128] h 130 (kRt (some (.int 2)) h2 130) := by
  refine kMet.inT (by decide) (0, 10, 13, 13) [(0, 10, 17, 15)] rfl rfl _ rfl ?_
  refine k_aload_n (i := 3) dL_setBench_0 (rfl : 0 + 1 = 1) rfl rfl ?_
  refine k_iconst (v := 0) dL_setBench_1 (rfl : 1 + 1 = 2) (by decide) ?_
  refine k_aload_n (i := 0) dL_setBench_2 (rfl : 2 + 1 = 3) rfl rfl ?_
  refine k_iload_n (i := 1) dL_setBench_3 (rfl : 3 + 1 = 4) rfl rfl ?_
  refine k_iload_n (i := 2) dL_setBench_4 (rfl : 4 + 1 = 5) rfl rfl ?_
  exact k_callVxA (K := kL_setBench) (J := kX11_setBench) (Q := kRo (.inr "java/lang/UnsupportedOperationException") h2 130) (h := h) (r := 0) (st := [.int 0, .ref 128]) [.int a1, .int a2] cv_L_17 ⟨Nat.le_of_ble_eq_true rfl, Nat.le_of_ble_eq_true rfl⟩ m dL_setBench_5 (Nat.le_of_ble_eq_true rfl) hX rfl rfl ⟨Nat.le_of_ble_eq_true rfl, Nat.le_of_ble_eq_true rfl⟩ "java/lang/UnsupportedOperationException" (fun _ _ _ q => q.1) [(0, 10, 13, 13)] [] (0, 10, 17, 15) rfl (fun z hz => by
    rcases List.mem_cons.1 hz with rfl | hz
    · exact ⟨by decide, "java/lang/IndexOutOfBoundsException", lk_13, by decide⟩
    cases hz) ⟨Nat.le_of_ble_eq_true rfl, Nat.le_of_ble_eq_true rfl⟩ (by decide) lk_15 lc_15 4 17 19 20 rfl rfl rfl dL_setBench_17 (Nat.le_of_ble_eq_true rfl) 2 2 (by decide) dL_setBench_19 dL_setBench_20 rfl (Nat.le_of_ble_eq_true rfl) (Nat.le_of_ble_eq_true rfl) (fun _ _ q => ⟨rfl, q.2⟩)
set_option maxRecDepth 100000 in
set_option maxHeartbeats 4000000 in
theorem v_L_setSitting {h h2 : kH} {fs : List Value} {f : Nat → Int64} {w : Int32} {a1 : Int32} {a2 : Int32} (m : kMet kX11_setSitting false 1 6 [.ref 0, .int a1, .int a2] h 130 (kRt (some (.int w)) h2 130)) (hX : h 0 = kO 11 fs) (hO : h2 128 = kJ 1 f) : kMet kL_setSitting false 1 6 [.ref 0, .int a1, .int a2, .ref 128] h 130 (kRt (some (.int 0)) (kU h2 128 (kJ 1 (vp_updL f 0 (if w = 0 then (0 : Int64) else 1)))) 130) := by
  refine kMet.inT (by decide) (0, 17, 20, 13) [] rfl rfl _ rfl ?_
  refine k_aload_n (i := 3) dL_setSitting_0 (rfl : 0 + 1 = 1) rfl rfl ?_
  refine k_iconst (v := 0) dL_setSitting_1 (rfl : 1 + 1 = 2) (by decide) ?_
  refine k_aload_n (i := 0) dL_setSitting_2 (rfl : 2 + 1 = 3) rfl rfl ?_
  refine k_iload_n (i := 1) dL_setSitting_3 (rfl : 3 + 1 = 4) rfl rfl ?_
  refine k_iload_n (i := 2) dL_setSitting_4 (rfl : 4 + 1 = 5) rfl rfl ?_
  refine k_callVd2 cv_L_84 ⟨Nat.le_of_ble_eq_true rfl, Nat.le_of_ble_eq_true rfl⟩ m dL_setSitting_5 (rfl : 5 + 3 = 8) (Nat.le_of_ble_eq_true rfl) hX rfl rfl ⟨Nat.le_of_ble_eq_true rfl, Nat.le_of_ble_eq_true rfl⟩ ?_
  refine k_if_eq (tgt := 15) dL_setSitting_8 (rfl : 8 + 3 = 11) (by decide) (fun b9 => ?_) (fun b9 => ?_)
  · rw [if_pos b9]
    refine k_lconst (v := 0) dL_setSitting_15 (rfl : 15 + 1 = 16) (by decide) ?_
    refine k_last dL_setSitting_16 (rfl : 16 + 1 = 17) (Nat.le_of_ble_eq_true rfl) hO vp_00 ?_
    refine k_goto (tgt := 24) dL_setSitting_17 (by decide) ?_
    refine k_iconst (v := 0) dL_setSitting_24 (rfl : 24 + 1 = 25) (by decide) ?_
    refine k_iret rfl rfl dL_setSitting_25 (Nat.le_of_ble_eq_true rfl) (Nat.le_of_ble_eq_true rfl) kRt_rfl
  · rw [if_neg b9]
    refine k_lconst (v := 1) dL_setSitting_11 (rfl : 11 + 1 = 12) (by decide) ?_
    refine k_goto (tgt := 16) dL_setSitting_12 (by decide) ?_
    refine k_last dL_setSitting_16 (rfl : 16 + 1 = 17) (Nat.le_of_ble_eq_true rfl) hO vp_00 ?_
    refine k_goto (tgt := 24) dL_setSitting_17 (by decide) ?_
    refine k_iconst (v := 0) dL_setSitting_24 (rfl : 24 + 1 = 25) (by decide) ?_
    refine k_iret rfl rfl dL_setSitting_25 (Nat.le_of_ble_eq_true rfl) (Nat.le_of_ble_eq_true rfl) kRt_rfl
set_option maxRecDepth 100000 in
set_option maxHeartbeats 4000000 in
theorem x1_L_setSitting {h h2 : kH} {fs : List Value} {a1 : Int32} {a2 : Int32} (m : kMet kX11_setSitting false 1 6 [.ref 0, .int a1, .int a2] h 130 (kRo (.inr "java/lang/IndexOutOfBoundsException") h2 130)) (hX : h 0 = kO 11 fs) : kMet kL_setSitting false 1 6 [.ref 0, .int a1, .int a2, .ref 128] h 130 (kRt (some (.int 1)) h2 130) := by
  refine kMet.inT (by decide) (0, 17, 20, 13) [] rfl rfl _ rfl ?_
  refine k_aload_n (i := 3) dL_setSitting_0 (rfl : 0 + 1 = 1) rfl rfl ?_
  refine k_iconst (v := 0) dL_setSitting_1 (rfl : 1 + 1 = 2) (by decide) ?_
  refine k_aload_n (i := 0) dL_setSitting_2 (rfl : 2 + 1 = 3) rfl rfl ?_
  refine k_iload_n (i := 1) dL_setSitting_3 (rfl : 3 + 1 = 4) rfl rfl ?_
  refine k_iload_n (i := 2) dL_setSitting_4 (rfl : 4 + 1 = 5) rfl rfl ?_
  exact k_callVxA (K := kL_setSitting) (J := kX11_setSitting) (Q := kRo (.inr "java/lang/IndexOutOfBoundsException") h2 130) (h := h) (r := 0) (st := [.int 0, .ref 128]) [.int a1, .int a2] cv_L_84 ⟨Nat.le_of_ble_eq_true rfl, Nat.le_of_ble_eq_true rfl⟩ m dL_setSitting_5 (Nat.le_of_ble_eq_true rfl) hX rfl rfl ⟨Nat.le_of_ble_eq_true rfl, Nat.le_of_ble_eq_true rfl⟩ "java/lang/IndexOutOfBoundsException" (fun _ _ _ q => q.1) [] [] (0, 17, 20, 13) rfl (fun z hz => by cases hz) ⟨Nat.le_of_ble_eq_true rfl, Nat.le_of_ble_eq_true rfl⟩ (by decide) lk_13 lc_13 4 20 22 23 rfl rfl rfl dL_setSitting_20 (Nat.le_of_ble_eq_true rfl) 1 1 (by decide) dL_setSitting_22 dL_setSitting_23 rfl (Nat.le_of_ble_eq_true rfl) (Nat.le_of_ble_eq_true rfl) (fun _ _ q => ⟨rfl, q.2⟩)
set_option maxRecDepth 100000 in
set_option maxHeartbeats 4000000 in
theorem v_L_setTree {h h2 : kH} {fs : List Value} {f : Nat → Int64} {w : Int32} {a1 : Int32} {a2 : Int32} {a3 : Int32} (m : kMet kX11_setTree false 1 6 [.ref 0, .int a1, .int a2, .int a3] h 130 (kRt (some (.int w)) h2 130)) (hX : h 0 = kO 11 fs) (hO : h2 128 = kJ 1 f) : kMet kL_setTree false 1 6 [.ref 0, .int a1, .int a2, .int a3, .ref 128] h 130 (kRt (some (.int 0)) (kU h2 128 (kJ 1 (vp_updL f 0 (Int32.toInt64 w)))) 130) := by
  refine kMet.inT (by decide) (0, 12, 15, 13) [(0, 12, 19, 15)] rfl rfl _ rfl ?_
  refine k_aload (i := 4) dL_setTree_0 (rfl : 0 + 2 = 2) rfl ?_
  refine k_iconst (v := 0) dL_setTree_2 (rfl : 2 + 1 = 3) (by decide) ?_
  refine k_aload_n (i := 0) dL_setTree_3 (rfl : 3 + 1 = 4) rfl rfl ?_
  refine k_iload_n (i := 1) dL_setTree_4 (rfl : 4 + 1 = 5) rfl rfl ?_
  refine k_iload_n (i := 2) dL_setTree_5 (rfl : 5 + 1 = 6) rfl rfl ?_
  refine k_iload_n (i := 3) dL_setTree_6 (rfl : 6 + 1 = 7) rfl rfl ?_
  refine k_callVd3 cv_L_7 ⟨Nat.le_of_ble_eq_true rfl, Nat.le_of_ble_eq_true rfl⟩ m dL_setTree_7 (rfl : 7 + 3 = 10) (Nat.le_of_ble_eq_true rfl) hX rfl rfl ⟨Nat.le_of_ble_eq_true rfl, Nat.le_of_ble_eq_true rfl⟩ ?_
  refine k_i2l dL_setTree_10 (rfl : 10 + 1 = 11) ?_
  refine k_last dL_setTree_11 (rfl : 11 + 1 = 12) (Nat.le_of_ble_eq_true rfl) hO vp_00 ?_
  refine k_goto (tgt := 23) dL_setTree_12 (by decide) ?_
  refine k_iconst (v := 0) dL_setTree_23 (rfl : 23 + 1 = 24) (by decide) ?_
  refine k_iret rfl rfl dL_setTree_24 (Nat.le_of_ble_eq_true rfl) (Nat.le_of_ble_eq_true rfl) kRt_rfl
set_option maxRecDepth 100000 in
set_option maxHeartbeats 4000000 in
theorem x1_L_setTree {h h2 : kH} {fs : List Value} {a1 : Int32} {a2 : Int32} {a3 : Int32} (m : kMet kX11_setTree false 1 6 [.ref 0, .int a1, .int a2, .int a3] h 130 (kRo (.inr "java/lang/IndexOutOfBoundsException") h2 130)) (hX : h 0 = kO 11 fs) : kMet kL_setTree false 1 6 [.ref 0, .int a1, .int a2, .int a3, .ref 128] h 130 (kRt (some (.int 1)) h2 130) := by
  refine kMet.inT (by decide) (0, 12, 15, 13) [(0, 12, 19, 15)] rfl rfl _ rfl ?_
  refine k_aload (i := 4) dL_setTree_0 (rfl : 0 + 2 = 2) rfl ?_
  refine k_iconst (v := 0) dL_setTree_2 (rfl : 2 + 1 = 3) (by decide) ?_
  refine k_aload_n (i := 0) dL_setTree_3 (rfl : 3 + 1 = 4) rfl rfl ?_
  refine k_iload_n (i := 1) dL_setTree_4 (rfl : 4 + 1 = 5) rfl rfl ?_
  refine k_iload_n (i := 2) dL_setTree_5 (rfl : 5 + 1 = 6) rfl rfl ?_
  refine k_iload_n (i := 3) dL_setTree_6 (rfl : 6 + 1 = 7) rfl rfl ?_
  exact k_callVxA (K := kL_setTree) (J := kX11_setTree) (Q := kRo (.inr "java/lang/IndexOutOfBoundsException") h2 130) (h := h) (r := 0) (st := [.int 0, .ref 128]) [.int a1, .int a2, .int a3] cv_L_7 ⟨Nat.le_of_ble_eq_true rfl, Nat.le_of_ble_eq_true rfl⟩ m dL_setTree_7 (Nat.le_of_ble_eq_true rfl) hX rfl rfl ⟨Nat.le_of_ble_eq_true rfl, Nat.le_of_ble_eq_true rfl⟩ "java/lang/IndexOutOfBoundsException" (fun _ _ _ q => q.1) [] [(0, 12, 19, 15)] (0, 12, 15, 13) rfl (fun z hz => by cases hz) ⟨Nat.le_of_ble_eq_true rfl, Nat.le_of_ble_eq_true rfl⟩ (by decide) lk_13 lc_13 5 15 17 18 rfl rfl rfl dL_setTree_15 (Nat.le_of_ble_eq_true rfl) 1 1 (by decide) dL_setTree_17 dL_setTree_18 rfl (Nat.le_of_ble_eq_true rfl) (Nat.le_of_ble_eq_true rfl) (fun _ _ q => ⟨rfl, q.2⟩)
set_option maxRecDepth 100000 in
set_option maxHeartbeats 4000000 in
theorem x2_L_setTree {h h2 : kH} {fs : List Value} {a1 : Int32} {a2 : Int32} {a3 : Int32} (m : kMet kX11_setTree false 1 6 [.ref 0, .int a1, .int a2, .int a3] h 130 (kRo (.inr "java/lang/UnsupportedOperationException") h2 130)) (hX : h 0 = kO 11 fs) : kMet kL_setTree false 1 6 [.ref 0, .int a1, .int a2, .int a3, .ref 128] h 130 (kRt (some (.int 2)) h2 130) := by
  refine kMet.inT (by decide) (0, 12, 15, 13) [(0, 12, 19, 15)] rfl rfl _ rfl ?_
  refine k_aload (i := 4) dL_setTree_0 (rfl : 0 + 2 = 2) rfl ?_
  refine k_iconst (v := 0) dL_setTree_2 (rfl : 2 + 1 = 3) (by decide) ?_
  refine k_aload_n (i := 0) dL_setTree_3 (rfl : 3 + 1 = 4) rfl rfl ?_
  refine k_iload_n (i := 1) dL_setTree_4 (rfl : 4 + 1 = 5) rfl rfl ?_
  refine k_iload_n (i := 2) dL_setTree_5 (rfl : 5 + 1 = 6) rfl rfl ?_
  refine k_iload_n (i := 3) dL_setTree_6 (rfl : 6 + 1 = 7) rfl rfl ?_
  exact k_callVxA (K := kL_setTree) (J := kX11_setTree) (Q := kRo (.inr "java/lang/UnsupportedOperationException") h2 130) (h := h) (r := 0) (st := [.int 0, .ref 128]) [.int a1, .int a2, .int a3] cv_L_7 ⟨Nat.le_of_ble_eq_true rfl, Nat.le_of_ble_eq_true rfl⟩ m dL_setTree_7 (Nat.le_of_ble_eq_true rfl) hX rfl rfl ⟨Nat.le_of_ble_eq_true rfl, Nat.le_of_ble_eq_true rfl⟩ "java/lang/UnsupportedOperationException" (fun _ _ _ q => q.1) [(0, 12, 15, 13)] [] (0, 12, 19, 15) rfl (fun z hz => by
    rcases List.mem_cons.1 hz with rfl | hz
    · exact ⟨by decide, "java/lang/IndexOutOfBoundsException", lk_13, by decide⟩
    cases hz) ⟨Nat.le_of_ble_eq_true rfl, Nat.le_of_ble_eq_true rfl⟩ (by decide) lk_15 lc_15 5 19 21 22 rfl rfl rfl dL_setTree_19 (Nat.le_of_ble_eq_true rfl) 2 2 (by decide) dL_setTree_21 dL_setTree_22 rfl (Nat.le_of_ble_eq_true rfl) (Nat.le_of_ble_eq_true rfl) (fun _ _ q => ⟨rfl, q.2⟩)
set_option maxRecDepth 100000 in
set_option maxHeartbeats 4000000 in
theorem v_L_setWind {h h2 : kH} {fs : List Value} {f : Nat → Int64} {w : Int32} {a1 : Int32} {a2 : Int32} (m : kMet kX11_setWind false 1 6 [.ref 0, .int a1, .int a2] h 130 (kRt (some (.int w)) h2 130)) (hX : h 0 = kO 11 fs) (hO : h2 128 = kJ 1 f) : kMet kL_setWind false 1 6 [.ref 0, .int a1, .int a2, .ref 128] h 130 (kRt (some (.int 0)) (kU h2 128 (kJ 1 (vp_updL f 0 (Int32.toInt64 w)))) 130) := by
  refine kMet.inT (by decide) (0, 10, 13, 31) [] rfl rfl _ rfl ?_
  refine k_aload_n (i := 3) dL_setWind_0 (rfl : 0 + 1 = 1) rfl rfl ?_
  refine k_iconst (v := 0) dL_setWind_1 (rfl : 1 + 1 = 2) (by decide) ?_
  refine k_aload_n (i := 0) dL_setWind_2 (rfl : 2 + 1 = 3) rfl rfl ?_
  refine k_iload_n (i := 1) dL_setWind_3 (rfl : 3 + 1 = 4) rfl rfl ?_
  refine k_iload_n (i := 2) dL_setWind_4 (rfl : 4 + 1 = 5) rfl rfl ?_
  refine k_callVd2 cv_L_28 ⟨Nat.le_of_ble_eq_true rfl, Nat.le_of_ble_eq_true rfl⟩ m dL_setWind_5 (rfl : 5 + 3 = 8) (Nat.le_of_ble_eq_true rfl) hX rfl rfl ⟨Nat.le_of_ble_eq_true rfl, Nat.le_of_ble_eq_true rfl⟩ ?_
  refine k_i2l dL_setWind_8 (rfl : 8 + 1 = 9) ?_
  refine k_last dL_setWind_9 (rfl : 9 + 1 = 10) (Nat.le_of_ble_eq_true rfl) hO vp_00 ?_
  refine k_goto (tgt := 17) dL_setWind_10 (by decide) ?_
  refine k_iconst (v := 0) dL_setWind_17 (rfl : 17 + 1 = 18) (by decide) ?_
  refine k_iret rfl rfl dL_setWind_18 (Nat.le_of_ble_eq_true rfl) (Nat.le_of_ble_eq_true rfl) kRt_rfl
set_option maxRecDepth 100000 in
set_option maxHeartbeats 4000000 in
theorem x1_L_setWind {h h2 : kH} {fs : List Value} {a1 : Int32} {a2 : Int32} (m : kMet kX11_setWind false 1 6 [.ref 0, .int a1, .int a2] h 130 (kRo (.inr "java/lang/IllegalArgumentException") h2 130)) (hX : h 0 = kO 11 fs) : kMet kL_setWind false 1 6 [.ref 0, .int a1, .int a2, .ref 128] h 130 (kRt (some (.int 1)) h2 130) := by
  refine kMet.inT (by decide) (0, 10, 13, 31) [] rfl rfl _ rfl ?_
  refine k_aload_n (i := 3) dL_setWind_0 (rfl : 0 + 1 = 1) rfl rfl ?_
  refine k_iconst (v := 0) dL_setWind_1 (rfl : 1 + 1 = 2) (by decide) ?_
  refine k_aload_n (i := 0) dL_setWind_2 (rfl : 2 + 1 = 3) rfl rfl ?_
  refine k_iload_n (i := 1) dL_setWind_3 (rfl : 3 + 1 = 4) rfl rfl ?_
  refine k_iload_n (i := 2) dL_setWind_4 (rfl : 4 + 1 = 5) rfl rfl ?_
  exact k_callVxA (K := kL_setWind) (J := kX11_setWind) (Q := kRo (.inr "java/lang/IllegalArgumentException") h2 130) (h := h) (r := 0) (st := [.int 0, .ref 128]) [.int a1, .int a2] cv_L_28 ⟨Nat.le_of_ble_eq_true rfl, Nat.le_of_ble_eq_true rfl⟩ m dL_setWind_5 (Nat.le_of_ble_eq_true rfl) hX rfl rfl ⟨Nat.le_of_ble_eq_true rfl, Nat.le_of_ble_eq_true rfl⟩ "java/lang/IllegalArgumentException" (fun _ _ _ q => q.1) [] [] (0, 10, 13, 31) rfl (fun z hz => by cases hz) ⟨Nat.le_of_ble_eq_true rfl, Nat.le_of_ble_eq_true rfl⟩ (by decide) lk_31 lc_31 4 13 15 16 rfl rfl rfl dL_setWind_13 (Nat.le_of_ble_eq_true rfl) 1 1 (by decide) dL_setWind_15 dL_setWind_16 rfl (Nat.le_of_ble_eq_true rfl) (Nat.le_of_ble_eq_true rfl) (fun _ _ q => ⟨rfl, q.2⟩)
set_option maxRecDepth 100000 in
set_option maxHeartbeats 4000000 in
theorem v_L_summon {h h2 : kH} {fs : List Value} {f : Nat → Int64} {w : Int32} {a1 : Int32} {a2 : Int32} (m : kMet kX11_summon false 1 6 [.ref 0, .int a1, .int a2] h 130 (kRt (some (.int w)) h2 130)) (hX : h 0 = kO 11 fs) (hO : h2 128 = kJ 1 f) : kMet kL_summon false 1 6 [.ref 0, .int a1, .int a2, .ref 128] h 130 (kRt (some (.int 0)) (kU h2 128 (kJ 1 (vp_updL f 0 (if w = 0 then (0 : Int64) else 1)))) 130) := by
  refine kMet.inT (by decide) (0, 17, 20, 13) [(0, 17, 24, 31), (0, 17, 28, 15)] rfl rfl _ rfl ?_
  refine k_aload_n (i := 3) dL_summon_0 (rfl : 0 + 1 = 1) rfl rfl ?_
  refine k_iconst (v := 0) dL_summon_1 (rfl : 1 + 1 = 2) (by decide) ?_
  refine k_aload_n (i := 0) dL_summon_2 (rfl : 2 + 1 = 3) rfl rfl ?_
  refine k_iload_n (i := 1) dL_summon_3 (rfl : 3 + 1 = 4) rfl rfl ?_
  refine k_iload_n (i := 2) dL_summon_4 (rfl : 4 + 1 = 5) rfl rfl ?_
  refine k_callVd2 cv_L_77 ⟨Nat.le_of_ble_eq_true rfl, Nat.le_of_ble_eq_true rfl⟩ m dL_summon_5 (rfl : 5 + 3 = 8) (Nat.le_of_ble_eq_true rfl) hX rfl rfl ⟨Nat.le_of_ble_eq_true rfl, Nat.le_of_ble_eq_true rfl⟩ ?_
  refine k_if_eq (tgt := 15) dL_summon_8 (rfl : 8 + 3 = 11) (by decide) (fun b9 => ?_) (fun b9 => ?_)
  · rw [if_pos b9]
    refine k_lconst (v := 0) dL_summon_15 (rfl : 15 + 1 = 16) (by decide) ?_
    refine k_last dL_summon_16 (rfl : 16 + 1 = 17) (Nat.le_of_ble_eq_true rfl) hO vp_00 ?_
    refine k_goto (tgt := 32) dL_summon_17 (by decide) ?_
    refine k_iconst (v := 0) dL_summon_32 (rfl : 32 + 1 = 33) (by decide) ?_
    refine k_iret rfl rfl dL_summon_33 (Nat.le_of_ble_eq_true rfl) (Nat.le_of_ble_eq_true rfl) kRt_rfl
  · rw [if_neg b9]
    refine k_lconst (v := 1) dL_summon_11 (rfl : 11 + 1 = 12) (by decide) ?_
    refine k_goto (tgt := 16) dL_summon_12 (by decide) ?_
    refine k_last dL_summon_16 (rfl : 16 + 1 = 17) (Nat.le_of_ble_eq_true rfl) hO vp_00 ?_
    refine k_goto (tgt := 32) dL_summon_17 (by decide) ?_
    refine k_iconst (v := 0) dL_summon_32 (rfl : 32 + 1 = 33) (by decide) ?_
    refine k_iret rfl rfl dL_summon_33 (Nat.le_of_ble_eq_true rfl) (Nat.le_of_ble_eq_true rfl) kRt_rfl
set_option maxRecDepth 100000 in
set_option maxHeartbeats 4000000 in
theorem x1_L_summon {h h2 : kH} {fs : List Value} {a1 : Int32} {a2 : Int32} (m : kMet kX11_summon false 1 6 [.ref 0, .int a1, .int a2] h 130 (kRo (.inr "java/lang/IndexOutOfBoundsException") h2 130)) (hX : h 0 = kO 11 fs) : kMet kL_summon false 1 6 [.ref 0, .int a1, .int a2, .ref 128] h 130 (kRt (some (.int 1)) h2 130) := by
  refine kMet.inT (by decide) (0, 17, 20, 13) [(0, 17, 24, 31), (0, 17, 28, 15)] rfl rfl _ rfl ?_
  refine k_aload_n (i := 3) dL_summon_0 (rfl : 0 + 1 = 1) rfl rfl ?_
  refine k_iconst (v := 0) dL_summon_1 (rfl : 1 + 1 = 2) (by decide) ?_
  refine k_aload_n (i := 0) dL_summon_2 (rfl : 2 + 1 = 3) rfl rfl ?_
  refine k_iload_n (i := 1) dL_summon_3 (rfl : 3 + 1 = 4) rfl rfl ?_
  refine k_iload_n (i := 2) dL_summon_4 (rfl : 4 + 1 = 5) rfl rfl ?_
  exact k_callVxA (K := kL_summon) (J := kX11_summon) (Q := kRo (.inr "java/lang/IndexOutOfBoundsException") h2 130) (h := h) (r := 0) (st := [.int 0, .ref 128]) [.int a1, .int a2] cv_L_77 ⟨Nat.le_of_ble_eq_true rfl, Nat.le_of_ble_eq_true rfl⟩ m dL_summon_5 (Nat.le_of_ble_eq_true rfl) hX rfl rfl ⟨Nat.le_of_ble_eq_true rfl, Nat.le_of_ble_eq_true rfl⟩ "java/lang/IndexOutOfBoundsException" (fun _ _ _ q => q.1) [] [(0, 17, 24, 31), (0, 17, 28, 15)] (0, 17, 20, 13) rfl (fun z hz => by cases hz) ⟨Nat.le_of_ble_eq_true rfl, Nat.le_of_ble_eq_true rfl⟩ (by decide) lk_13 lc_13 4 20 22 23 rfl rfl rfl dL_summon_20 (Nat.le_of_ble_eq_true rfl) 1 1 (by decide) dL_summon_22 dL_summon_23 rfl (Nat.le_of_ble_eq_true rfl) (Nat.le_of_ble_eq_true rfl) (fun _ _ q => ⟨rfl, q.2⟩)
set_option maxRecDepth 100000 in
set_option maxHeartbeats 4000000 in
theorem x2_L_summon {h h2 : kH} {fs : List Value} {a1 : Int32} {a2 : Int32} (m : kMet kX11_summon false 1 6 [.ref 0, .int a1, .int a2] h 130 (kRo (.inr "java/lang/IllegalArgumentException") h2 130)) (hX : h 0 = kO 11 fs) : kMet kL_summon false 1 6 [.ref 0, .int a1, .int a2, .ref 128] h 130 (kRt (some (.int 2)) h2 130) := by
  refine kMet.inT (by decide) (0, 17, 20, 13) [(0, 17, 24, 31), (0, 17, 28, 15)] rfl rfl _ rfl ?_
  refine k_aload_n (i := 3) dL_summon_0 (rfl : 0 + 1 = 1) rfl rfl ?_
  refine k_iconst (v := 0) dL_summon_1 (rfl : 1 + 1 = 2) (by decide) ?_
  refine k_aload_n (i := 0) dL_summon_2 (rfl : 2 + 1 = 3) rfl rfl ?_
  refine k_iload_n (i := 1) dL_summon_3 (rfl : 3 + 1 = 4) rfl rfl ?_
  refine k_iload_n (i := 2) dL_summon_4 (rfl : 4 + 1 = 5) rfl rfl ?_
  exact k_callVxA (K := kL_summon) (J := kX11_summon) (Q := kRo (.inr "java/lang/IllegalArgumentException") h2 130) (h := h) (r := 0) (st := [.int 0, .ref 128]) [.int a1, .int a2] cv_L_77 ⟨Nat.le_of_ble_eq_true rfl, Nat.le_of_ble_eq_true rfl⟩ m dL_summon_5 (Nat.le_of_ble_eq_true rfl) hX rfl rfl ⟨Nat.le_of_ble_eq_true rfl, Nat.le_of_ble_eq_true rfl⟩ "java/lang/IllegalArgumentException" (fun _ _ _ q => q.1) [(0, 17, 20, 13)] [(0, 17, 28, 15)] (0, 17, 24, 31) rfl (fun z hz => by
    rcases List.mem_cons.1 hz with rfl | hz
    · exact ⟨by decide, "java/lang/IndexOutOfBoundsException", lk_13, by decide⟩
    cases hz) ⟨Nat.le_of_ble_eq_true rfl, Nat.le_of_ble_eq_true rfl⟩ (by decide) lk_31 lc_31 4 24 26 27 rfl rfl rfl dL_summon_24 (Nat.le_of_ble_eq_true rfl) 2 2 (by decide) dL_summon_26 dL_summon_27 rfl (Nat.le_of_ble_eq_true rfl) (Nat.le_of_ble_eq_true rfl) (fun _ _ q => ⟨rfl, q.2⟩)
set_option maxRecDepth 100000 in
set_option maxHeartbeats 4000000 in
theorem x3_L_summon {h h2 : kH} {fs : List Value} {a1 : Int32} {a2 : Int32} (m : kMet kX11_summon false 1 6 [.ref 0, .int a1, .int a2] h 130 (kRo (.inr "java/lang/UnsupportedOperationException") h2 130)) (hX : h 0 = kO 11 fs) : kMet kL_summon false 1 6 [.ref 0, .int a1, .int a2, .ref 128] h 130 (kRt (some (.int 3)) h2 130) := by
  refine kMet.inT (by decide) (0, 17, 20, 13) [(0, 17, 24, 31), (0, 17, 28, 15)] rfl rfl _ rfl ?_
  refine k_aload_n (i := 3) dL_summon_0 (rfl : 0 + 1 = 1) rfl rfl ?_
  refine k_iconst (v := 0) dL_summon_1 (rfl : 1 + 1 = 2) (by decide) ?_
  refine k_aload_n (i := 0) dL_summon_2 (rfl : 2 + 1 = 3) rfl rfl ?_
  refine k_iload_n (i := 1) dL_summon_3 (rfl : 3 + 1 = 4) rfl rfl ?_
  refine k_iload_n (i := 2) dL_summon_4 (rfl : 4 + 1 = 5) rfl rfl ?_
  exact k_callVxA (K := kL_summon) (J := kX11_summon) (Q := kRo (.inr "java/lang/UnsupportedOperationException") h2 130) (h := h) (r := 0) (st := [.int 0, .ref 128]) [.int a1, .int a2] cv_L_77 ⟨Nat.le_of_ble_eq_true rfl, Nat.le_of_ble_eq_true rfl⟩ m dL_summon_5 (Nat.le_of_ble_eq_true rfl) hX rfl rfl ⟨Nat.le_of_ble_eq_true rfl, Nat.le_of_ble_eq_true rfl⟩ "java/lang/UnsupportedOperationException" (fun _ _ _ q => q.1) [(0, 17, 20, 13), (0, 17, 24, 31)] [] (0, 17, 28, 15) rfl (fun z hz => by
    rcases List.mem_cons.1 hz with rfl | hz
    · exact ⟨by decide, "java/lang/IndexOutOfBoundsException", lk_13, by decide⟩
    rcases List.mem_cons.1 hz with rfl | hz
    · exact ⟨by decide, "java/lang/IllegalArgumentException", lk_31, by decide⟩
    cases hz) ⟨Nat.le_of_ble_eq_true rfl, Nat.le_of_ble_eq_true rfl⟩ (by decide) lk_15 lc_15 4 28 30 31 rfl rfl rfl dL_summon_28 (Nat.le_of_ble_eq_true rfl) 3 3 (by decide) dL_summon_30 dL_summon_31 rfl (Nat.le_of_ble_eq_true rfl) (Nat.le_of_ble_eq_true rfl) (fun _ _ q => ⟨rfl, q.2⟩)
set_option maxRecDepth 100000 in
set_option maxHeartbeats 4000000 in
theorem v_L_undo {h h2 : kH} {fs : List Value} {f : Nat → Int64} {w : Int32}  (m : kMet kX11_undo false 1 6 [.ref 0] h 130 (kRt (some (.int w)) h2 130)) (hX : h 0 = kO 11 fs) (hO : h2 128 = kJ 1 f) : kMet kL_undo false 1 6 [.ref 0, .ref 128] h 130 (kRt (some (.int 0)) (kU h2 128 (kJ 1 (vp_updL f 0 (Int32.toInt64 w)))) 130) := by
  refine kMet.inT (by decide) (0, 8, 11, 36) [] rfl rfl _ rfl ?_
  refine k_aload_n (i := 1) dL_undo_0 (rfl : 0 + 1 = 1) rfl rfl ?_
  refine k_iconst (v := 0) dL_undo_1 (rfl : 1 + 1 = 2) (by decide) ?_
  refine k_aload_n (i := 0) dL_undo_2 (rfl : 2 + 1 = 3) rfl rfl ?_
  refine k_callVd0 cv_L_145 ⟨Nat.le_of_ble_eq_true rfl, Nat.le_of_ble_eq_true rfl⟩ m dL_undo_3 (rfl : 3 + 3 = 6) (Nat.le_of_ble_eq_true rfl) hX rfl rfl ⟨Nat.le_of_ble_eq_true rfl, Nat.le_of_ble_eq_true rfl⟩ ?_
  refine k_i2l dL_undo_6 (rfl : 6 + 1 = 7) ?_
  refine k_last dL_undo_7 (rfl : 7 + 1 = 8) (Nat.le_of_ble_eq_true rfl) hO vp_00 ?_
  refine k_goto (tgt := 14) dL_undo_8 (by decide) ?_
  refine k_iconst (v := 0) dL_undo_14 (rfl : 14 + 1 = 15) (by decide) ?_
  refine k_iret rfl rfl dL_undo_15 (Nat.le_of_ble_eq_true rfl) (Nat.le_of_ble_eq_true rfl) kRt_rfl
set_option maxRecDepth 100000 in
set_option maxHeartbeats 4000000 in
theorem x1_L_undo {h h2 : kH} {fs : List Value}  (m : kMet kX11_undo false 1 6 [.ref 0] h 130 (kRo (.inr "java/lang/IllegalStateException") h2 130)) (hX : h 0 = kO 11 fs) : kMet kL_undo false 1 6 [.ref 0, .ref 128] h 130 (kRt (some (.int 1)) h2 130) := by
  refine kMet.inT (by decide) (0, 8, 11, 36) [] rfl rfl _ rfl ?_
  refine k_aload_n (i := 1) dL_undo_0 (rfl : 0 + 1 = 1) rfl rfl ?_
  refine k_iconst (v := 0) dL_undo_1 (rfl : 1 + 1 = 2) (by decide) ?_
  refine k_aload_n (i := 0) dL_undo_2 (rfl : 2 + 1 = 3) rfl rfl ?_
  exact k_callVxN (K := kL_undo) (J := kX11_undo) (Q := kRo (.inr "java/lang/IllegalStateException") h2 130) (h := h) (r := 0) (st := [.int 0, .ref 128]) [] cv_L_145 ⟨Nat.le_of_ble_eq_true rfl, Nat.le_of_ble_eq_true rfl⟩ m dL_undo_3 (Nat.le_of_ble_eq_true rfl) hX rfl rfl ⟨Nat.le_of_ble_eq_true rfl, Nat.le_of_ble_eq_true rfl⟩ "java/lang/IllegalStateException" (fun _ _ _ q => q.1) [] [] (0, 8, 11, 36) rfl (fun z hz => by cases hz) ⟨Nat.le_of_ble_eq_true rfl, Nat.le_of_ble_eq_true rfl⟩ (by decide) lk_36 lc_36 2 2 rfl 11 12 13 rfl rfl rfl dL_undo_11 (Nat.le_of_ble_eq_true rfl) 1 1 (by decide) dL_undo_12 dL_undo_13 rfl (Nat.le_of_ble_eq_true rfl) (Nat.le_of_ble_eq_true rfl) (fun _ _ q => ⟨rfl, q.2⟩)
