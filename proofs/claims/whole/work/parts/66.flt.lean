theorem vx_ofWF {l : Launch} {y : MethodName} {ws ws' : List Cond} {rm : Room} {Pc : Array Value → State → Prop} {Qc : Array Value → State → Outcome → State → Prop} {XC : String → State → State → Prop} {mc ms : Nat} {free : Addr → Prop} {cc : ByteArray} {maxL : Nat} {ret : Option FieldType}
    (hy : plainFor y = true) (hw : ws = Cond.code y cc maxL ret :: ws')
    (body : ∀ p e s m args below meth c s₁, BodyLoose p l y (headSpec ws rm) cc maxL ret e s m args below meth c s₁ → c.maxLocals = maxL → (∀ x ∈ c.exceptionTable.toList, False) → Pc args s →
      W p l e (headSpec ws rm).room s m args below meth c s.heap [] 0 0 (vx_MQ below Qc XC args s mc ms free) (entryFrame m args maxL)) : vx_Met l y ws rm Pc Qc XC mc ms free := by
  refine MetFree.of_bodySF (code := cc) (maxLocals := maxL) (ret := ret) hy ?_ ?_
  · intro args s m h hn
    obtain ⟨meth, c, h1, h2, h3, h4, h5, h6, -, -⟩ := Cond.code_spec hn (atoms_spec (ws := ws) h _ (by rw [hw]; exact List.mem_cons_self))
    exact ⟨meth, c, h1, h2, h3, h4, h5, h6⟩
  · intro p e s m args below meth c s₁ B hml hP _
    have hh0 : s₁.heap = s.heap := by rw [B.state]; rfl
    have ht : ∀ x ∈ c.exceptionTable.toList, False := by
      obtain ⟨meth9, c9, h1, h2, -, -, -, -, h7, -⟩ := Cond.code_spec B.named (atoms_spec (ws := ws) B.pre _ (by rw [hw]; exact List.mem_cons_self))
      cases Option.some.inj (h1.symm.trans B.method)
      cases Option.some.inj (h2.symm.trans (Stand.of_body B).code)
      intro x hx
      rw [Array.isEmpty_iff.mp h7] at hx
      cases hx
    obtain ⟨t, a1, o, b1, b2, b3⟩ := body p e s m args below meth c s₁ B hml ht hP s₁ hh0 (Stand.of_body B)
    exact ⟨t, o, a1, b1, b2, b3⟩
theorem kMet.inF {K : kM} {mu : Bool} {mc ms : Nat} {av : List Value} {h : kH} {N : Nat} {Q : kQ} (hy : plainFor K.1 = true) (hh : K.2.2.2.2.1 = []) (hlen : Nat.ble (kAr av).length K.2.2.1 = true) (ls : List Value) (hls : kEnt K.2.2.1 av = ls)
    (k : kEv K (kRm K mc ms) (kFm mu mc ms Q) mu 0 ls [] h N 0 0) : kMet K mu mc ms av h N Q := by
  subst hls
  intro l g sz hl
  have hw : kWs K = Cond.code K.1 K.2.1 K.2.2.1 K.2.2.2.1 :: gT := by unfold kWs kCode; rw [hh]
  refine vx_ofWF (cc := K.2.1) (maxL := K.2.2.1) (ret := K.2.2.2.1) hy hw ?_
  intro p e s m args below meth c s₁ B hml hnt hv
  obtain ⟨rfl, hsz, hW, hK, hSt, hmu⟩ := hv
  subst hsz
  have hts0 := atoms_spec (ws := kWs K) B.pre
  have hts : ∀ w ∈ gT, w.before ((av.map (kV g)).toArray) s = true := fun w hw => hts0 w (List.mem_cons_of_mem _ hw)
  have C : kCx K p l s m ((av.map (kV g)).toArray) meth c g (va_A (kW g h N) s.heap.size) := by
    refine ⟨B.exec, B.bytes, hml, B.returns, hts, findClass_of_methodNamed B.named, B.notSynchronized, hl, (name_of_methodNamed B.named B.method).1, ?_, hK, hSt, fun q hq => Or.inr hq⟩
    rw [hh]
    cases hc : c.exceptionTable.toList with
    | nil => rfl
    | cons x xs => exact (hnt x (by rw [hc]; exact List.mem_cons_self)).elim
  have hlen' : (kAr av).length ≤ K.2.2.1 := Nat.le_of_ble_eq_true hlen
  have hl2 := kEnt_has (g := g) hlen'
  rw [lg_entry_eq]
  exact k p l e s m _ below meth c g _ C s.heap [] _ ⟨hW.1, hW.2.self⟩ va_S.rf hl2 hmu
section FLX
variable {K : kM} {R : Room} {F : kFn} {mu : Bool} {pc pc' : Nat} {ls st : List Value} {h : kH} {N cs ss : Nat}
theorem k_f2b {idx : Nat} {b : UInt32} (hl0 : Cond.methodLink K.1.cls idx ⟨"java/lang/Float", "floatToRawIntBits", "(F)I"⟩ ∈ gT) (hn0 : Cond.native ⟨"java/lang/Float", "floatToRawIntBits", "(F)I"⟩ ∈ gT) (hs0 : Cond.static ⟨"java/lang/Float", "floatToRawIntBits", "(F)I"⟩ ∈ gT) (hi0 : Cond.initialized "java/lang/Float" ∈ gT) (hd : decode K.2.1 pc = .ok (.invokestatic idx, 3)) (hp : pc + 3 = pc') (hRf : 1 ≤ R.frames) (hRl : (st.map fun v => v.category).sum + 15 ≤ R.locals)
    (kk : kEv K R F mu pc' ls (.int b.toInt32 :: st) h N cs ss) : kEv K R F mu pc ls (.float b :: st) h N cs ss := by
  subst hp
  intro p l e s m args below meth c g A C H locs lsA hW hS hl hz
  obtain ⟨hx, hb, hml, hr, hts, hown, hlk, hst, hnm, htb, hK, hSt, hA⟩ := id C
  exact vn_f2i hx hb (by rw [hml, hl.1]) hown (hts _ hl0) (hts _ hn0) (hts _ hs0) (hts _ hi0) hRf (by rw [kV_cats]; exact hRl) hd (kk p l e s m args below meth c g A C H locs lsA hW hS hl hz)
end FLX
def f_X7_shareOfCaught (x : kK)  : UInt32 := (FP.fdiv (FP.i2f ((x.1 0).2.1 13)) (FP.i2f ((x.1 0).2.1 12)))
set_option maxRecDepth 100000 in
set_option maxHeartbeats 4000000 in
theorem m_X7_shareOfCaught {x : kK} {r : kH} (hne : vf_n32 (FP.fdiv (FP.i2f ((x.1 0).2.1 13)) (FP.i2f ((x.1 0).2.1 12)))) : kMet kX7_shareOfCaught false 0 0 [.ref 8] (kTp (kHc x) r) 130 (kRt (some (.float (f_X7_shareOfCaught x ))) (kTp (kHc x) r) 130) := by
  refine kMet.in (by decide) rfl rfl _ rfl ?_
  refine k_aload_n (i := 0) dX7_shareOfCaught_0 (rfl : 0 + 1 = 1) rfl rfl ?_
  refine k_get 7 6 fg_X7_34 dX7_shareOfCaught_1 (rfl : 1 + 3 = 4) (Nat.le_of_ble_eq_true rfl) rfl rfl ?_
  refine k_i2f dX7_shareOfCaught_4 (rfl : 4 + 1 = 5) ?_
  refine k_aload_n (i := 0) dX7_shareOfCaught_5 (rfl : 5 + 1 = 6) rfl rfl ?_
  refine k_get 7 5 fg_X7_31 dX7_shareOfCaught_6 (rfl : 6 + 3 = 9) (Nat.le_of_ble_eq_true rfl) rfl rfl ?_
  refine k_i2f dX7_shareOfCaught_9 (rfl : 9 + 1 = 10) ?_
  refine k_fdiv dX7_shareOfCaught_10 (rfl : 10 + 1 = 11) hne ?_
  refine k_fret rfl dX7_shareOfCaught_11 (Nat.le_of_ble_eq_true rfl) (Nat.le_of_ble_eq_true rfl) ?_
  exact kRt_of rfl rfl
def o_X11_caughtShare (x : kK)  : kOut := if ((x.1 0).2.1 12) = 0 then (.inr "java/lang/ArithmeticException") else (.inl (some (.float (f_X7_shareOfCaught x ))))
set_option maxRecDepth 100000 in
set_option maxHeartbeats 4000000 in
theorem m_X11_caughtShare {x : kK} {r : kH} (hsh : ¬ (x.1 0).2.1 12 = 0 → isSh (FP.fdiv (FP.i2f ((x.1 0).2.1 13)) (FP.i2f ((x.1 0).2.1 12)))) : kMet kX11_caughtShare false 1 6 [.ref 0] (kTp (kHc x) r) 130 (kRo (o_X11_caughtShare x ) (kTp (kHc x) r) 130) := by
  refine kMet.in (by decide) rfl rfl _ rfl ?_
  refine k_aload_n (i := 0) dX11_caughtShare_0 (rfl : 0 + 1 = 1) rfl rfl ?_
  refine k_get 11 0 fg_X11_12 dX11_caughtShare_1 (rfl : 1 + 3 = 4) (Nat.le_of_ble_eq_true rfl) rfl rfl ?_
  refine k_get 9 2 fg_X11_190 dX11_caughtShare_4 (rfl : 4 + 3 = 7) (Nat.le_of_ble_eq_true rfl) rfl rfl ?_
  refine k_get 7 5 fg_X11_255 dX11_caughtShare_7 (rfl : 7 + 3 = 10) (Nat.le_of_ble_eq_true rfl) rfl rfl ?_
  refine k_if_ne (tgt := 24) dX11_caughtShare_10 (rfl : 10 + 3 = 13) (by decide) (fun b10 => ?_) (fun b10 => ?_)
  · refine k_aload_n (i := 0) dX11_caughtShare_24 (rfl : 24 + 1 = 25) rfl rfl ?_
    refine k_get 11 0 fg_X11_12 dX11_caughtShare_25 (rfl : 25 + 3 = 28) (Nat.le_of_ble_eq_true rfl) rfl rfl ?_
    refine k_get 9 2 fg_X11_190 dX11_caughtShare_28 (rfl : 28 + 3 = 31) (Nat.le_of_ble_eq_true rfl) rfl rfl ?_
    refine k_callVd0 cv_X11_337 ⟨Nat.le_of_ble_eq_true rfl, Nat.le_of_ble_eq_true rfl⟩ (m_X7_shareOfCaught (n32_sh (hsh b10))) dX11_caughtShare_31 (rfl : 31 + 3 = 34) (Nat.le_of_ble_eq_true rfl) rfl rfl rfl ⟨Nat.le_of_ble_eq_true rfl, Nat.le_of_ble_eq_true rfl⟩ ?_
    refine k_fret rfl dX11_caughtShare_34 (Nat.le_of_ble_eq_true rfl) (Nat.le_of_ble_eq_true rfl) ?_
    exact kRo_of (Eq.symm (if_neg (show ¬ (((x.1 0).2.1 12) = 0) from b10))) rfl
  · refine k_throwW th_X11_332_336 tx_X11_334 rfl dX11_caughtShare_13 dX11_caughtShare_16 dX11_caughtShare_17 dX11_caughtShare_20 dX11_caughtShare_23 (Nat.le_of_ble_eq_true rfl) (Nat.le_of_ble_eq_true rfl) ⟨(Nat.le_of_ble_eq_true rfl), (Nat.le_of_ble_eq_true rfl)⟩ (Nat.le_of_ble_eq_true rfl) (Nat.le_of_ble_eq_true rfl) ?_
    exact kRo_of (Eq.symm (if_pos (show ((x.1 0).2.1 12) = 0 from b10))) rfl
theorem bf_ge {E F : Nat} (h1 : 1 ≤ E) (hE : E < 127) (hF : F < 8388608) : ¬ 0 ≤ Op.cmpValue (FP.fcmp (mkF E F) FP.fconst1) .g := by
  rw [fc_1 h1 (by omega) hF, if_pos hE]
  decide
theorem bf_lt {F : Nat} (hF : F < 8388608) : 0 ≤ Op.cmpValue (FP.fcmp (mkF 127 F) FP.fconst1) .g := by
  rw [fc_1 (by omega) (by omega) hF, if_neg (by omega)]
  split <;> decide
theorem bf_2 {E F k : Nat} (hE : 103 ≤ E) (hk : E + (k + 1) ≤ 127) (hF : F < 8388608) : FP.fmul (mkF (127 - (k + 1)) F) FP.fconst2 = mkF (127 - k) F := by
  rw [fm_2 (by omega) (by omega) hF, show 127 - (k + 1) + 1 = 127 - k by omega]
theorem bf_2n {E F k : Nat} (hE : 103 ≤ E) (hk : E + (k + 1) ≤ 127) (hF : F < 8388608) : vf_n32 (FP.fmul (mkF (127 - (k + 1)) F) FP.fconst2) := by
  rw [bf_2 hE hk hF]
  exact n32_mk (by omega) hF
theorem bf_v {E F : Nat} (hE : E ≤ 127) (hF : F < 8388608) : (nI (E + 0) <<< ((23 : Int32) &&& 31)) ||| FP.f2i (FP.fmul (FP.fsub (mkF (127 - 0) F) FP.fconst1) (1258291200 : UInt32)) = UInt32.toInt32 (mkF E F) := by
  rw [(ff_23 rfl hF).2]
  exact bits_mk hE hF
set_option maxRecDepth 100000 in
set_option maxHeartbeats 4000000 in
theorem l_X11_bitsOfShare {h : kH} {N : Nat} {a1 : UInt32} {E F : Nat} (hE : 103 ≤ E) (hF : F < 8388608) : ∀ k, E + k ≤ 127 → kEv kX11_bitsOfShare (kRm kX11_bitsOfShare 0 0) (kFm false 0 0 (kRt (some (.int (UInt32.toInt32 (mkF E F)))) h N)) false 13 [.float a1, .int (nI (E + k)), .float (mkF (127 - k) F)] [] h N 0 0 := by
  intro k
  induction k with
  | zero =>
    intro hk
    refine k_fload_n (i := 2) dX11_bitsOfShare_13 (rfl : 13 + 1 = 14) rfl rfl ?_
    refine k_fconst1 dX11_bitsOfShare_14 (rfl : 14 + 1 = 15) ?_
    refine k_fcmp dX11_bitsOfShare_15 (rfl : 15 + 1 = 16) ?_
    refine k_if_ge (tgt := 34) dX11_bitsOfShare_16 (rfl : 16 + 3 = 19) (by decide) (fun b16 => ?_) (fun b16 => by exact absurd (bf_lt hF) b16)
    refine k_iload_n (i := 1) dX11_bitsOfShare_34 (rfl : 34 + 1 = 35) rfl rfl ?_
    refine k_bipush (v := 23) dX11_bitsOfShare_35 (rfl : 35 + 2 = 37) (by decide) ?_
    refine k_ishl dX11_bitsOfShare_37 (rfl : 37 + 1 = 38) ?_
    refine k_fload_n (i := 2) dX11_bitsOfShare_38 (rfl : 38 + 1 = 39) rfl rfl ?_
    refine k_fconst1 dX11_bitsOfShare_39 (rfl : 39 + 1 = 40) ?_
    refine k_fsub dX11_bitsOfShare_40 (rfl : 40 + 1 = 41) (fs_n hF) ?_
    refine k_ldcwf dX11_bitsOfShare_41 (rfl : 41 + 3 = 44) kc_X11_515 ?_
    refine k_fmul dX11_bitsOfShare_44 (rfl : 44 + 1 = 45) (ff_23 rfl hF).1 ?_
    refine k_f2i dX11_bitsOfShare_45 (rfl : 45 + 1 = 46) ?_
    refine k_ior dX11_bitsOfShare_46 (rfl : 46 + 1 = 47) ?_
    refine k_iret rfl rfl dX11_bitsOfShare_47 (Nat.le_of_ble_eq_true rfl) (Nat.le_of_ble_eq_true rfl) ?_
    exact kRt_of (congrArg (fun z => some (Value.int z)) (bf_v (by omega) hF)) rfl
  | succ k ih =>
    intro hk
    refine k_fload_n (i := 2) dX11_bitsOfShare_13 (rfl : 13 + 1 = 14) rfl rfl ?_
    refine k_fconst1 dX11_bitsOfShare_14 (rfl : 14 + 1 = 15) ?_
    refine k_fcmp dX11_bitsOfShare_15 (rfl : 15 + 1 = 16) ?_
    refine k_if_ge (tgt := 34) dX11_bitsOfShare_16 (rfl : 16 + 3 = 19) (by decide) (fun b16 => by exact absurd b16 (bf_ge (by omega) (by omega) hF)) (fun b16 => ?_)
    refine k_iload_n (i := 1) dX11_bitsOfShare_19 (rfl : 19 + 1 = 20) rfl rfl ?_
    refine k_iconst (v := 1) dX11_bitsOfShare_20 (rfl : 20 + 1 = 21) (by decide) ?_
    refine k_icmp_le (tgt := 34) dX11_bitsOfShare_21 (rfl : 21 + 3 = 24) (by decide) (fun b21 => by exact absurd b21 (by first | exact nI_ge (a := 1) (by omega) (by omega) | exact nI_nle (by omega) (by omega))) (fun b21 => ?_)
    refine k_fload_n (i := 2) dX11_bitsOfShare_24 (rfl : 24 + 1 = 25) rfl rfl ?_
    refine k_fconst2 dX11_bitsOfShare_25 (rfl : 25 + 1 = 26) ?_
    refine k_fmul dX11_bitsOfShare_26 (rfl : 26 + 1 = 27) (bf_2n hE hk hF) ?_
    refine k_fstore_n (i := 2) dX11_bitsOfShare_27 (rfl : 27 + 1 = 28) rfl (Nat.le_of_ble_eq_true rfl) ?_
    refine k_ls (ls2 := [.float a1, .int (nI (E + (k + 1))), .float (FP.fmul (mkF (127 - (k + 1)) F) FP.fconst2)]) rfl ?_
    refine k_ls (ls2 := [.float a1, .int (nI (E + (k + 1))), .float (mkF (127 - k) F)]) (by rw [show (FP.fmul (mkF (127 - (k + 1)) F) FP.fconst2) = (mkF (127 - k) F) from bf_2 hE hk hF]) ?_
    refine k_iinc (i := 1) (v := (nI (E + k))) dX11_bitsOfShare_28 (rfl : 28 + 3 = 31) rfl (Nat.le_of_ble_eq_true rfl) (by first | exact pk_m1 (E + k) | (rw [show Int32.ofInt (-1) = (-1 : Int32) from by decide]; exact pk_m1 (E + k))) ?_
    refine k_ls (ls2 := [.float a1, .int (nI (E + k)), .float (mkF (127 - k) F)]) rfl ?_
    refine k_goto (tgt := 13) dX11_bitsOfShare_31 (by decide) ?_
    exact ih (by omega)
theorem bf_z : Op.cmpValue (FP.fcmp 0 FP.fconst0) .g ≤ 0 := by decide +kernel
theorem bf_p {E F : Nat} (h1 : 1 ≤ E) (hE : E < 255) (hF : F < 8388608) : ¬ Op.cmpValue (FP.fcmp (mkF E F) FP.fconst0) .g ≤ 0 := by
  rw [fc_0 h1 hE hF]
  decide
set_option maxRecDepth 100000 in
set_option maxHeartbeats 4000000 in
theorem m_X11_bitsOfShare {h : kH} {N : Nat} {f : UInt32} (hs : isSh f) : kMet kX11_bitsOfShare false 0 0 [.float f] h N (kRt (some (.int (UInt32.toInt32 f))) h N) := by
  refine kMet.in (by decide) rfl rfl _ rfl ?_
  rcases hs with rfl | ⟨E, F, h1, h2, h3, rfl⟩
  · refine k_fload_n (i := 0) dX11_bitsOfShare_0 (rfl : 0 + 1 = 1) rfl rfl ?_
    refine k_fconst0 dX11_bitsOfShare_1 (rfl : 1 + 1 = 2) ?_
    refine k_fcmp dX11_bitsOfShare_2 (rfl : 2 + 1 = 3) ?_
    refine k_if_gt (tgt := 8) dX11_bitsOfShare_3 (rfl : 3 + 3 = 6) (by decide) (fun b3 => by exact absurd b3 (by exact Int32.not_lt.2 bf_z)) (fun b3 => ?_)
    refine k_iconst (v := 0) dX11_bitsOfShare_6 (rfl : 6 + 1 = 7) (by decide) ?_
    refine k_iret rfl rfl dX11_bitsOfShare_7 (Nat.le_of_ble_eq_true rfl) (Nat.le_of_ble_eq_true rfl) ?_
    exact kRt_of rfl rfl
  · refine k_fload_n (i := 0) dX11_bitsOfShare_0 (rfl : 0 + 1 = 1) rfl rfl ?_
    refine k_fconst0 dX11_bitsOfShare_1 (rfl : 1 + 1 = 2) ?_
    refine k_fcmp dX11_bitsOfShare_2 (rfl : 2 + 1 = 3) ?_
    refine k_if_gt (tgt := 8) dX11_bitsOfShare_3 (rfl : 3 + 3 = 6) (by decide) (fun b3 => ?_) (fun b3 => by exact absurd (Int32.not_lt.1 b3) (bf_p (by omega) (by omega) h3))
    refine k_bipush (v := 127) dX11_bitsOfShare_8 (rfl : 8 + 2 = 10) (by decide) ?_
    refine k_istore_n (i := 1) dX11_bitsOfShare_10 (rfl : 10 + 1 = 11) rfl (Nat.le_of_ble_eq_true rfl) ?_
    refine k_ls (ls2 := [.float (mkF E F), .int 127, .retAddr 0]) rfl ?_
    refine k_fload_n (i := 0) dX11_bitsOfShare_11 (rfl : 11 + 1 = 12) rfl rfl ?_
    refine k_fstore_n (i := 2) dX11_bitsOfShare_12 (rfl : 12 + 1 = 13) rfl (Nat.le_of_ble_eq_true rfl) ?_
    refine k_ls (ls2 := [.float (mkF E F), .int 127, .float (mkF E F)]) rfl ?_
    refine k_ls (ls2 := [.float (mkF E F), .int (nI (E + (127 - E))), .float (mkF (127 - (127 - E)) F)]) (by rw [show 127 - (127 - E) = E by omega, show E + (127 - E) = 127 by omega]; rfl) ?_
    exact l_X11_bitsOfShare h1 h3 (127 - E) (by omega)
def o_X11_caughtShareBits (x : kK)  : kOut := if ((x.1 0).2.1 12) = 0 then (.inr "java/lang/ArithmeticException") else (.inl (some (.int (UInt32.toInt32 (f_X7_shareOfCaught x )))))
set_option maxRecDepth 100000 in
set_option maxHeartbeats 4000000 in
theorem m_X11_caughtShareBits {x : kK} {r : kH} (hsh : ¬ (x.1 0).2.1 12 = 0 → isSh (FP.fdiv (FP.i2f ((x.1 0).2.1 13)) (FP.i2f ((x.1 0).2.1 12)))) : kMet kX11_caughtShareBits false 1 6 [.ref 0] (kTp (kHc x) r) 130 (kRo (o_X11_caughtShareBits x ) (kTp (kHc x) r) 130) := by
  refine kMet.in (by decide) rfl rfl _ rfl ?_
  refine k_aload_n (i := 0) dX11_caughtShareBits_0 (rfl : 0 + 1 = 1) rfl rfl ?_
  refine k_get 11 0 fg_X11_12 dX11_caughtShareBits_1 (rfl : 1 + 3 = 4) (Nat.le_of_ble_eq_true rfl) rfl rfl ?_
  refine k_get 9 2 fg_X11_190 dX11_caughtShareBits_4 (rfl : 4 + 3 = 7) (Nat.le_of_ble_eq_true rfl) rfl rfl ?_
  refine k_get 7 5 fg_X11_255 dX11_caughtShareBits_7 (rfl : 7 + 3 = 10) (Nat.le_of_ble_eq_true rfl) rfl rfl ?_
  refine k_if_ne (tgt := 24) dX11_caughtShareBits_10 (rfl : 10 + 3 = 13) (by decide) (fun b10 => ?_) (fun b10 => ?_)
  · refine k_aload_n (i := 0) dX11_caughtShareBits_24 (rfl : 24 + 1 = 25) rfl rfl ?_
    refine k_get 11 0 fg_X11_12 dX11_caughtShareBits_25 (rfl : 25 + 3 = 28) (Nat.le_of_ble_eq_true rfl) rfl rfl ?_
    refine k_get 9 2 fg_X11_190 dX11_caughtShareBits_28 (rfl : 28 + 3 = 31) (Nat.le_of_ble_eq_true rfl) rfl rfl ?_
    refine k_callVd0 cv_X11_337 ⟨Nat.le_of_ble_eq_true rfl, Nat.le_of_ble_eq_true rfl⟩ (m_X7_shareOfCaught (n32_sh (hsh b10))) dX11_caughtShareBits_31 (rfl : 31 + 3 = 34) (Nat.le_of_ble_eq_true rfl) rfl rfl rfl ⟨Nat.le_of_ble_eq_true rfl, Nat.le_of_ble_eq_true rfl⟩ ?_
    refine k_callSd1 cv_X11_341 ⟨Nat.le_of_ble_eq_true rfl, Nat.le_of_ble_eq_true rfl⟩ (m_X11_bitsOfShare (hsh b10)) dX11_caughtShareBits_34 (rfl : 34 + 3 = 37) rfl ⟨Nat.le_of_ble_eq_true rfl, Nat.le_of_ble_eq_true rfl⟩ ?_
    refine k_iret rfl rfl dX11_caughtShareBits_37 (Nat.le_of_ble_eq_true rfl) (Nat.le_of_ble_eq_true rfl) ?_
    exact kRo_of (Eq.symm (if_neg (show ¬ (((x.1 0).2.1 12) = 0) from b10))) rfl
  · refine k_throwW th_X11_332_336 tx_X11_334 rfl dX11_caughtShareBits_13 dX11_caughtShareBits_16 dX11_caughtShareBits_17 dX11_caughtShareBits_20 dX11_caughtShareBits_23 (Nat.le_of_ble_eq_true rfl) (Nat.le_of_ble_eq_true rfl) ⟨(Nat.le_of_ble_eq_true rfl), (Nat.le_of_ble_eq_true rfl)⟩ (Nat.le_of_ble_eq_true rfl) (Nat.le_of_ble_eq_true rfl) ?_
    exact kRo_of (Eq.symm (if_pos (show ((x.1 0).2.1 12) = 0 from b10))) rfl
def o_X11_meanSteps (x : kK)  : kOut := if ((x.1 0).2.1 12) = 0 then (.inr "java/lang/ArithmeticException") else (.inl (some (.double (FP.ddiv (FP.i2d ((x.1 0).2.1 14)) (FP.i2d ((x.1 0).2.1 12))))))
set_option maxRecDepth 100000 in
set_option maxHeartbeats 4000000 in
theorem m_X11_meanSteps {x : kK} {r : kH} (hne : ¬ (x.1 0).2.1 12 = 0 → vf_n64 (FP.ddiv (FP.i2d ((x.1 0).2.1 14)) (FP.i2d ((x.1 0).2.1 12)))) : kMet kX11_meanSteps false 1 6 [.ref 0] (kTp (kHc x) r) 130 (kRo (o_X11_meanSteps x ) (kTp (kHc x) r) 130) := by
  refine kMet.in (by decide) rfl rfl _ rfl ?_
  refine k_aload_n (i := 0) dX11_meanSteps_0 (rfl : 0 + 1 = 1) rfl rfl ?_
  refine k_get 11 0 fg_X11_12 dX11_meanSteps_1 (rfl : 1 + 3 = 4) (Nat.le_of_ble_eq_true rfl) rfl rfl ?_
  refine k_get 9 2 fg_X11_190 dX11_meanSteps_4 (rfl : 4 + 3 = 7) (Nat.le_of_ble_eq_true rfl) rfl rfl ?_
  refine k_get 7 5 fg_X11_255 dX11_meanSteps_7 (rfl : 7 + 3 = 10) (Nat.le_of_ble_eq_true rfl) rfl rfl ?_
  refine k_if_ne (tgt := 24) dX11_meanSteps_10 (rfl : 10 + 3 = 13) (by decide) (fun b10 => ?_) (fun b10 => ?_)
  · refine k_aload_n (i := 0) dX11_meanSteps_24 (rfl : 24 + 1 = 25) rfl rfl ?_
    refine k_get 11 0 fg_X11_12 dX11_meanSteps_25 (rfl : 25 + 3 = 28) (Nat.le_of_ble_eq_true rfl) rfl rfl ?_
    refine k_get 9 2 fg_X11_190 dX11_meanSteps_28 (rfl : 28 + 3 = 31) (Nat.le_of_ble_eq_true rfl) rfl rfl ?_
    refine k_get 7 7 fg_X11_345 dX11_meanSteps_31 (rfl : 31 + 3 = 34) (Nat.le_of_ble_eq_true rfl) rfl rfl ?_
    refine k_i2d dX11_meanSteps_34 (rfl : 34 + 1 = 35) ?_
    refine k_aload_n (i := 0) dX11_meanSteps_35 (rfl : 35 + 1 = 36) rfl rfl ?_
    refine k_get 11 0 fg_X11_12 dX11_meanSteps_36 (rfl : 36 + 3 = 39) (Nat.le_of_ble_eq_true rfl) rfl rfl ?_
    refine k_get 9 2 fg_X11_190 dX11_meanSteps_39 (rfl : 39 + 3 = 42) (Nat.le_of_ble_eq_true rfl) rfl rfl ?_
    refine k_get 7 5 fg_X11_255 dX11_meanSteps_42 (rfl : 42 + 3 = 45) (Nat.le_of_ble_eq_true rfl) rfl rfl ?_
    refine k_i2d dX11_meanSteps_45 (rfl : 45 + 1 = 46) ?_
    refine k_ddiv dX11_meanSteps_46 (rfl : 46 + 1 = 47) (hne b10) ?_
    refine k_dret rfl dX11_meanSteps_47 (Nat.le_of_ble_eq_true rfl) (Nat.le_of_ble_eq_true rfl) ?_
    exact kRo_of (Eq.symm (if_neg (show ¬ (((x.1 0).2.1 12) = 0) from b10))) rfl
  · refine k_throwW th_X11_332_336 tx_X11_334 rfl dX11_meanSteps_13 dX11_meanSteps_16 dX11_meanSteps_17 dX11_meanSteps_20 dX11_meanSteps_23 (Nat.le_of_ble_eq_true rfl) (Nat.le_of_ble_eq_true rfl) ⟨(Nat.le_of_ble_eq_true rfl), (Nat.le_of_ble_eq_true rfl)⟩ (Nat.le_of_ble_eq_true rfl) (Nat.le_of_ble_eq_true rfl) ?_
    exact kRo_of (Eq.symm (if_pos (show ((x.1 0).2.1 12) = 0 from b10))) rfl
def f_Jxf58ca_isNaN_12338 (a1 : UInt32) : Int32 := if (Op.cmpValue (FP.fcmp a1 a1) .l) = 0 then 0 else 1
set_option maxRecDepth 100000 in
set_option maxHeartbeats 4000000 in
theorem m_Jxf58ca_isNaN_12338 {h : kH} {N : Nat} {a1 : UInt32} : kMet kJxf58ca_isNaN_12338 false 0 0 [.float a1] h N (kRt (some (.int (f_Jxf58ca_isNaN_12338 a1))) h N) := by
  refine kMet.inF (by decide +kernel) rfl rfl _ rfl ?_
  refine k_fload_n (i := 0) dJxf58ca_isNaN_12338_0 (rfl : 0 + 1 = 1) rfl rfl ?_
  refine k_fload_n (i := 0) dJxf58ca_isNaN_12338_1 (rfl : 1 + 1 = 2) rfl rfl ?_
  refine k_fcmp dJxf58ca_isNaN_12338_2 (rfl : 2 + 1 = 3) ?_
  refine k_if_eq (tgt := 10) dJxf58ca_isNaN_12338_3 (rfl : 3 + 3 = 6) (by decide) (fun b3 => ?_) (fun b3 => ?_)
  · refine k_iconst (v := 0) dJxf58ca_isNaN_12338_10 (rfl : 10 + 1 = 11) (by decide) ?_
    refine k_iret rfl rfl dJxf58ca_isNaN_12338_11 (Nat.le_of_ble_eq_true rfl) (Nat.le_of_ble_eq_true rfl) ?_
    exact kRt_of (congrArg (fun z => some (Value.int z)) (Eq.symm (if_pos (show (Op.cmpValue (FP.fcmp a1 a1) .l) = 0 from b3)))) rfl
  · refine k_iconst (v := 1) dJxf58ca_isNaN_12338_6 (rfl : 6 + 1 = 7) (by decide) ?_
    refine k_goto (tgt := 11) dJxf58ca_isNaN_12338_7 (by decide) ?_
    refine k_iret rfl rfl dJxf58ca_isNaN_12338_11 (Nat.le_of_ble_eq_true rfl) (Nat.le_of_ble_eq_true rfl) ?_
    exact kRt_of (congrArg (fun z => some (Value.int z)) (Eq.symm (if_neg (show ¬ ((Op.cmpValue (FP.fcmp a1 a1) .l) = 0) from b3)))) rfl
def f_Jxf58ca_floatToIntBits_5c35a (a1 : UInt32) : Int32 := if (f_Jxf58ca_isNaN_12338 a1) = 0 then (UInt32.toInt32 a1) else (2143289344 : Int32)
set_option maxRecDepth 100000 in
set_option maxHeartbeats 4000000 in
theorem m_Jxf58ca_floatToIntBits_5c35a {h : kH} {N : Nat} {a1 : UInt32} : kMet kJxf58ca_floatToIntBits_5c35a false 0 0 [.float a1] h N (kRt (some (.int (f_Jxf58ca_floatToIntBits_5c35a a1))) h N) := by
  refine kMet.inF (by decide +kernel) rfl rfl _ rfl ?_
  refine k_fload_n (i := 0) dJxf58ca_floatToIntBits_5c35a_0 (rfl : 0 + 1 = 1) rfl rfl ?_
  refine k_callSd1 cv_Jxf58ca_59 ⟨Nat.le_of_ble_eq_true rfl, Nat.le_of_ble_eq_true rfl⟩ (m_Jxf58ca_isNaN_12338) dJxf58ca_floatToIntBits_5c35a_1 (rfl : 1 + 3 = 4) rfl ⟨Nat.le_of_ble_eq_true rfl, Nat.le_of_ble_eq_true rfl⟩ ?_
  refine k_if_ne (tgt := 12) dJxf58ca_floatToIntBits_5c35a_4 (rfl : 4 + 3 = 7) (by decide) (fun b4 => ?_) (fun b4 => ?_)
  · refine k_ldc dJxf58ca_floatToIntBits_5c35a_12 (rfl : 12 + 2 = 14) kc_Jxf58ca_77 ?_
    refine k_iret rfl rfl dJxf58ca_floatToIntBits_5c35a_14 (Nat.le_of_ble_eq_true rfl) (Nat.le_of_ble_eq_true rfl) ?_
    exact kRt_of (congrArg (fun z => some (Value.int z)) (Eq.symm (if_neg (show ¬ ((f_Jxf58ca_isNaN_12338 a1) = 0) from b4)))) rfl
  · refine k_fload_n (i := 0) dJxf58ca_floatToIntBits_5c35a_7 (rfl : 7 + 1 = 8) rfl rfl ?_
    refine k_f2b (gm 1829 (by decide +kernel) (by decide +kernel)) (gm 1831 (by decide +kernel) (by decide +kernel)) (gm 1830 (by decide +kernel) (by decide +kernel)) (gm 115 (by decide +kernel) (by decide +kernel)) dJxf58ca_floatToIntBits_5c35a_8 (rfl : 8 + 3 = 11) (Nat.le_of_ble_eq_true rfl) (Nat.le_of_ble_eq_true rfl) ?_
    refine k_iret rfl rfl dJxf58ca_floatToIntBits_5c35a_11 (Nat.le_of_ble_eq_true rfl) (Nat.le_of_ble_eq_true rfl) ?_
    exact kRt_of (congrArg (fun z => some (Value.int z)) (Eq.symm (if_pos (show (f_Jxf58ca_isNaN_12338 a1) = 0 from b4)))) rfl
def f_X12_caughtShare (x : kY)  : UInt32 := if ((x.2 0) 9) = 0 then FP.fconst0 else (FP.fdiv (FP.i2f ((x.2 0) 10)) (FP.i2f ((x.2 0) 9)))
def g_X12_caughtShare (x : kY)  : kY := if ((x.2 0) 9) = 0 then (yS x 0 1) else (yS x 0 0)
set_option maxRecDepth 100000 in
set_option maxHeartbeats 4000000 in
theorem m_X12_caughtShare {x : kY} {a9 : kH} {z9 : kE × kE} (hne : ¬ x.2 0 9 = 0 → vf_n32 (FP.fdiv (FP.i2f (x.2 0 10)) (FP.i2f (x.2 0 9)))) : kMet kX12_caughtShare false 0 0 [.ref 116] (kTp a9 (kHr x z9)) 130 (kRt (some (.float (f_X12_caughtShare x ))) (kTp a9 (kHr (g_X12_caughtShare x ) z9)) 130) := by
  refine kMet.in (by decide) rfl rfl _ rfl ?_
  refine k_aload_n (i := 0) dX12_caughtShare_0 (rfl : 0 + 1 = 1) rfl rfl ?_
  refine k_aload_n (i := 0) dX12_caughtShare_1 (rfl : 1 + 1 = 2) rfl rfl ?_
  refine k_get 12 7 fg_X12_16 dX12_caughtShare_2 (rfl : 2 + 3 = 5) (Nat.le_of_ble_eq_true rfl) rfl rfl ?_
  refine k_bipush (v := 9) dX12_caughtShare_5 (rfl : 5 + 2 = 7) (by decide) ?_
  refine k_ialdc (c := 9) (by decide) dX12_caughtShare_7 (rfl : 7 + 1 = 8) (Nat.le_of_ble_eq_true rfl) rfl (vp_in_iff.mpr (by decide)) ?_
  refine k_if_ne (tgt := 15) dX12_caughtShare_8 (rfl : 8 + 3 = 11) (by decide) (fun b8 => ?_) (fun b8 => ?_)
  · refine k_iconst (v := 0) dX12_caughtShare_15 (rfl : 15 + 1 = 16) (by decide) ?_
    refine k_put 12 0 fp_X12_50 dX12_caughtShare_16 (rfl : 16 + 3 = 19) (Nat.le_of_ble_eq_true rfl) rfl (Nat.le_of_ble_eq_true rfl) rfl rfl ?_
    refine kf_Y0 (v := 0) rfl ?_
    refine k_aload_n (i := 0) dX12_caughtShare_19 (rfl : 19 + 1 = 20) rfl rfl ?_
    refine k_get 12 0 fg_X12_50 dX12_caughtShare_20 (rfl : 20 + 3 = 23) (Nat.le_of_ble_eq_true rfl) rfl rfl ?_
    refine k_if_ne (tgt := 46) dX12_caughtShare_23 (rfl : 23 + 3 = 26) (by decide) (fun b23 => by exact absurd (by first | decide | (show (0 : Int32) = 0; decide)) b23) (fun b23 => ?_)
    refine k_aload_n (i := 0) dX12_caughtShare_26 (rfl : 26 + 1 = 27) rfl rfl ?_
    refine k_get 12 7 fg_X12_16 dX12_caughtShare_27 (rfl : 27 + 3 = 30) (Nat.le_of_ble_eq_true rfl) rfl rfl ?_
    refine k_bipush (v := 10) dX12_caughtShare_30 (rfl : 30 + 2 = 32) (by decide) ?_
    refine k_ialdc (c := 10) (by decide) dX12_caughtShare_32 (rfl : 32 + 1 = 33) (Nat.le_of_ble_eq_true rfl) rfl (vp_in_iff.mpr (by decide)) ?_
    refine k_i2f dX12_caughtShare_33 (rfl : 33 + 1 = 34) ?_
    refine k_aload_n (i := 0) dX12_caughtShare_34 (rfl : 34 + 1 = 35) rfl rfl ?_
    refine k_get 12 7 fg_X12_16 dX12_caughtShare_35 (rfl : 35 + 3 = 38) (Nat.le_of_ble_eq_true rfl) rfl rfl ?_
    refine k_bipush (v := 9) dX12_caughtShare_38 (rfl : 38 + 2 = 40) (by decide) ?_
    refine k_ialdc (c := 9) (by decide) dX12_caughtShare_40 (rfl : 40 + 1 = 41) (Nat.le_of_ble_eq_true rfl) rfl (vp_in_iff.mpr (by decide)) ?_
    refine k_i2f dX12_caughtShare_41 (rfl : 41 + 1 = 42) ?_
    refine k_fdiv dX12_caughtShare_42 (rfl : 42 + 1 = 43) (hne b8) ?_
    refine k_goto (tgt := 47) dX12_caughtShare_43 (by decide) ?_
    refine k_fret rfl dX12_caughtShare_47 (Nat.le_of_ble_eq_true rfl) (Nat.le_of_ble_eq_true rfl) ?_
    exact kRt_of (congrArg (fun z => some (Value.float z)) (Eq.symm (if_neg (show ¬ (((x.2 0) 9) = 0) from b8)))) (congrArg (fun z => kTp a9 (kHr z z9)) (Eq.symm (if_neg (show ¬ (((x.2 0) 9) = 0) from b8))))
  · refine k_iconst (v := 1) dX12_caughtShare_11 (rfl : 11 + 1 = 12) (by decide) ?_
    refine k_goto (tgt := 16) dX12_caughtShare_12 (by decide) ?_
    refine k_put 12 0 fp_X12_50 dX12_caughtShare_16 (rfl : 16 + 3 = 19) (Nat.le_of_ble_eq_true rfl) rfl (Nat.le_of_ble_eq_true rfl) rfl rfl ?_
    refine kf_Y0 (v := 1) rfl ?_
    refine k_aload_n (i := 0) dX12_caughtShare_19 (rfl : 19 + 1 = 20) rfl rfl ?_
    refine k_get 12 0 fg_X12_50 dX12_caughtShare_20 (rfl : 20 + 3 = 23) (Nat.le_of_ble_eq_true rfl) rfl rfl ?_
    refine k_if_ne (tgt := 46) dX12_caughtShare_23 (rfl : 23 + 3 = 26) (by decide) (fun b23 => ?_) (fun b23 => by exact absurd b23 (by first | decide | (show ¬ (1 : Int32) = 0; decide)))
    refine k_fconst0 dX12_caughtShare_46 (rfl : 46 + 1 = 47) ?_
    refine k_fret rfl dX12_caughtShare_47 (Nat.le_of_ble_eq_true rfl) (Nat.le_of_ble_eq_true rfl) ?_
    exact kRt_of (congrArg (fun z => some (Value.float z)) (Eq.symm (if_pos (show ((x.2 0) 9) = 0 from b8)))) (congrArg (fun z => kTp a9 (kHr z z9)) (Eq.symm (if_pos (show ((x.2 0) 9) = 0 from b8))))
def f_X12_caughtShareBits (x : kY)  : Int32 := if ((g_X12_caughtShare x ).1 0) = 0 then (f_Jxf58ca_floatToIntBits_5c35a (f_X12_caughtShare x )) else 0
def g_X12_caughtShareBits (x : kY)  : kY := if ((g_X12_caughtShare x ).1 0) = 0 then (g_X12_caughtShare x ) else (g_X12_caughtShare x )
set_option maxRecDepth 100000 in
set_option maxHeartbeats 4000000 in
theorem m_X12_caughtShareBits {x : kY} {a9 : kH} {z9 : kE × kE} (hne : ¬ x.2 0 9 = 0 → vf_n32 (FP.fdiv (FP.i2f (x.2 0 10)) (FP.i2f (x.2 0 9)))) : kMet kX12_caughtShareBits false 0 0 [.ref 116] (kTp a9 (kHr x z9)) 130 (kRt (some (.int (f_X12_caughtShareBits x ))) (kTp a9 (kHr (g_X12_caughtShareBits x ) z9)) 130) := by
  refine kMet.in (by decide) rfl rfl _ rfl ?_
  refine k_aload_n (i := 0) dX12_caughtShareBits_0 (rfl : 0 + 1 = 1) rfl rfl ?_
  refine k_callVd0 cv_X12_216 ⟨Nat.le_of_ble_eq_true rfl, Nat.le_of_ble_eq_true rfl⟩ (m_X12_caughtShare hne) dX12_caughtShareBits_1 (rfl : 1 + 3 = 4) (Nat.le_of_ble_eq_true rfl) rfl rfl rfl ⟨Nat.le_of_ble_eq_true rfl, Nat.le_of_ble_eq_true rfl⟩ ?_
  refine k_fstore_n (i := 1) dX12_caughtShareBits_4 (rfl : 4 + 1 = 5) rfl (Nat.le_of_ble_eq_true rfl) ?_
  refine k_ls (ls2 := [.ref 116, .float (f_X12_caughtShare x )]) rfl ?_
  refine k_aload_n (i := 0) dX12_caughtShareBits_5 (rfl : 5 + 1 = 6) rfl rfl ?_
  refine k_get 12 0 fg_X12_50 dX12_caughtShareBits_6 (rfl : 6 + 3 = 9) (Nat.le_of_ble_eq_true rfl) rfl rfl ?_
  refine k_if_ne (tgt := 19) dX12_caughtShareBits_9 (rfl : 9 + 3 = 12) (by decide) (fun b9 => ?_) (fun b9 => ?_)
  · refine k_iconst (v := 0) dX12_caughtShareBits_19 (rfl : 19 + 1 = 20) (by decide) ?_
    refine k_iret rfl rfl dX12_caughtShareBits_20 (Nat.le_of_ble_eq_true rfl) (Nat.le_of_ble_eq_true rfl) ?_
    exact kRt_of (congrArg (fun z => some (Value.int z)) (Eq.symm (if_neg (show ¬ (((g_X12_caughtShare x ).1 0) = 0) from b9)))) (congrArg (fun z => kTp a9 (kHr z z9)) (Eq.symm (if_neg (show ¬ (((g_X12_caughtShare x ).1 0) = 0) from b9))))
  · refine k_fload_n (i := 1) dX12_caughtShareBits_12 (rfl : 12 + 1 = 13) rfl rfl ?_
    refine k_callSd1 cv_X12_220 ⟨Nat.le_of_ble_eq_true rfl, Nat.le_of_ble_eq_true rfl⟩ (m_Jxf58ca_floatToIntBits_5c35a) dX12_caughtShareBits_13 (rfl : 13 + 3 = 16) rfl ⟨Nat.le_of_ble_eq_true rfl, Nat.le_of_ble_eq_true rfl⟩ ?_
    refine k_goto (tgt := 20) dX12_caughtShareBits_16 (by decide) ?_
    refine k_iret rfl rfl dX12_caughtShareBits_20 (Nat.le_of_ble_eq_true rfl) (Nat.le_of_ble_eq_true rfl) ?_
    exact kRt_of (congrArg (fun z => some (Value.int z)) (Eq.symm (if_pos (show ((g_X12_caughtShare x ).1 0) = 0 from b9)))) (congrArg (fun z => kTp a9 (kHr z z9)) (Eq.symm (if_pos (show ((g_X12_caughtShare x ).1 0) = 0 from b9))))
def f_X12_meanSteps (x : kY)  : UInt64 := if ((x.2 0) 9) = 0 then FP.dconst0 else (FP.ddiv (FP.i2d ((x.2 0) 11)) (FP.i2d ((x.2 0) 9)))
def g_X12_meanSteps (x : kY)  : kY := if ((x.2 0) 9) = 0 then (yS x 0 1) else (yS x 0 0)
set_option maxRecDepth 100000 in
set_option maxHeartbeats 4000000 in
theorem m_X12_meanSteps {x : kY} {a9 : kH} {z9 : kE × kE} (hne : ¬ x.2 0 9 = 0 → vf_n64 (FP.ddiv (FP.i2d (x.2 0 11)) (FP.i2d (x.2 0 9)))) : kMet kX12_meanSteps false 0 0 [.ref 116] (kTp a9 (kHr x z9)) 130 (kRt (some (.double (f_X12_meanSteps x ))) (kTp a9 (kHr (g_X12_meanSteps x ) z9)) 130) := by
  refine kMet.in (by decide) rfl rfl _ rfl ?_
  refine k_aload_n (i := 0) dX12_meanSteps_0 (rfl : 0 + 1 = 1) rfl rfl ?_
  refine k_aload_n (i := 0) dX12_meanSteps_1 (rfl : 1 + 1 = 2) rfl rfl ?_
  refine k_get 12 7 fg_X12_16 dX12_meanSteps_2 (rfl : 2 + 3 = 5) (Nat.le_of_ble_eq_true rfl) rfl rfl ?_
  refine k_bipush (v := 9) dX12_meanSteps_5 (rfl : 5 + 2 = 7) (by decide) ?_
  refine k_ialdc (c := 9) (by decide) dX12_meanSteps_7 (rfl : 7 + 1 = 8) (Nat.le_of_ble_eq_true rfl) rfl (vp_in_iff.mpr (by decide)) ?_
  refine k_if_ne (tgt := 15) dX12_meanSteps_8 (rfl : 8 + 3 = 11) (by decide) (fun b8 => ?_) (fun b8 => ?_)
  · refine k_iconst (v := 0) dX12_meanSteps_15 (rfl : 15 + 1 = 16) (by decide) ?_
    refine k_put 12 0 fp_X12_50 dX12_meanSteps_16 (rfl : 16 + 3 = 19) (Nat.le_of_ble_eq_true rfl) rfl (Nat.le_of_ble_eq_true rfl) rfl rfl ?_
    refine kf_Y0 (v := 0) rfl ?_
    refine k_aload_n (i := 0) dX12_meanSteps_19 (rfl : 19 + 1 = 20) rfl rfl ?_
    refine k_get 12 0 fg_X12_50 dX12_meanSteps_20 (rfl : 20 + 3 = 23) (Nat.le_of_ble_eq_true rfl) rfl rfl ?_
    refine k_if_ne (tgt := 46) dX12_meanSteps_23 (rfl : 23 + 3 = 26) (by decide) (fun b23 => by exact absurd (by first | decide | (show (0 : Int32) = 0; decide)) b23) (fun b23 => ?_)
    refine k_aload_n (i := 0) dX12_meanSteps_26 (rfl : 26 + 1 = 27) rfl rfl ?_
    refine k_get 12 7 fg_X12_16 dX12_meanSteps_27 (rfl : 27 + 3 = 30) (Nat.le_of_ble_eq_true rfl) rfl rfl ?_
    refine k_bipush (v := 11) dX12_meanSteps_30 (rfl : 30 + 2 = 32) (by decide) ?_
    refine k_ialdc (c := 11) (by decide) dX12_meanSteps_32 (rfl : 32 + 1 = 33) (Nat.le_of_ble_eq_true rfl) rfl (vp_in_iff.mpr (by decide)) ?_
    refine k_i2d dX12_meanSteps_33 (rfl : 33 + 1 = 34) ?_
    refine k_aload_n (i := 0) dX12_meanSteps_34 (rfl : 34 + 1 = 35) rfl rfl ?_
    refine k_get 12 7 fg_X12_16 dX12_meanSteps_35 (rfl : 35 + 3 = 38) (Nat.le_of_ble_eq_true rfl) rfl rfl ?_
    refine k_bipush (v := 9) dX12_meanSteps_38 (rfl : 38 + 2 = 40) (by decide) ?_
    refine k_ialdc (c := 9) (by decide) dX12_meanSteps_40 (rfl : 40 + 1 = 41) (Nat.le_of_ble_eq_true rfl) rfl (vp_in_iff.mpr (by decide)) ?_
    refine k_i2d dX12_meanSteps_41 (rfl : 41 + 1 = 42) ?_
    refine k_ddiv dX12_meanSteps_42 (rfl : 42 + 1 = 43) (hne b8) ?_
    refine k_goto (tgt := 47) dX12_meanSteps_43 (by decide) ?_
    refine k_dret rfl dX12_meanSteps_47 (Nat.le_of_ble_eq_true rfl) (Nat.le_of_ble_eq_true rfl) ?_
    exact kRt_of (congrArg (fun z => some (Value.double z)) (Eq.symm (if_neg (show ¬ (((x.2 0) 9) = 0) from b8)))) (congrArg (fun z => kTp a9 (kHr z z9)) (Eq.symm (if_neg (show ¬ (((x.2 0) 9) = 0) from b8))))
  · refine k_iconst (v := 1) dX12_meanSteps_11 (rfl : 11 + 1 = 12) (by decide) ?_
    refine k_goto (tgt := 16) dX12_meanSteps_12 (by decide) ?_
    refine k_put 12 0 fp_X12_50 dX12_meanSteps_16 (rfl : 16 + 3 = 19) (Nat.le_of_ble_eq_true rfl) rfl (Nat.le_of_ble_eq_true rfl) rfl rfl ?_
    refine kf_Y0 (v := 1) rfl ?_
    refine k_aload_n (i := 0) dX12_meanSteps_19 (rfl : 19 + 1 = 20) rfl rfl ?_
    refine k_get 12 0 fg_X12_50 dX12_meanSteps_20 (rfl : 20 + 3 = 23) (Nat.le_of_ble_eq_true rfl) rfl rfl ?_
    refine k_if_ne (tgt := 46) dX12_meanSteps_23 (rfl : 23 + 3 = 26) (by decide) (fun b23 => ?_) (fun b23 => by exact absurd b23 (by first | decide | (show ¬ (1 : Int32) = 0; decide)))
    refine k_dconst0 dX12_meanSteps_46 (rfl : 46 + 1 = 47) ?_
    refine k_dret rfl dX12_meanSteps_47 (Nat.le_of_ble_eq_true rfl) (Nat.le_of_ble_eq_true rfl) ?_
    exact kRt_of (congrArg (fun z => some (Value.double z)) (Eq.symm (if_pos (show ((x.2 0) 9) = 0 from b8)))) (congrArg (fun z => kTp a9 (kHr z z9)) (Eq.symm (if_pos (show ((x.2 0) 9) = 0 from b8))))
