/-- the reference's v as it is made, c being where the sittings stand -/
def vS (c : Int32) : Nat → Int32 := fun q => if q = 8 then c else if q = 2 then 10 else if q = 1 then 50 else 0
theorem vS_0 : upd (upd (fun _ => (0 : Int32)) (Int32.toNatClampNeg 1) 50) (Int32.toNatClampNeg 2) 10 = vS 0 := by
  funext q
  show upd (upd (fun _ => (0 : Int32)) 1 50) 2 10 q = vS 0 q
  unfold upd vS
  by_cases h8 : q = 8
  · subst h8; rfl
  · rw [if_neg h8]
theorem vS_8 {c v : Int32} : upd (vS c) (Int32.toNatClampNeg 8) v = vS v := by
  funext q
  show upd (vS c) 8 v q = vS v q
  unfold upd vS
  by_cases h8 : q = 8
  · rw [if_pos h8, if_pos h8]
  · rw [if_neg h8, if_neg h8, if_neg h8]
section KST
variable {K : kM} {R : Room} {F : kFn} {mu : Bool} {pc : Nat} {ls st : List Value} {h : kH} {N cs ss : Nat}
theorem k_st {v v2 : Value} (e : v = v2) (k : kEv K R F mu pc ls (v2 :: st) h N cs ss) : kEv K R F mu pc ls (v :: st) h N cs ss := by
  subst e
  exact k
end KST
def hX12 (h : kH) : kH := (kU (kU (kU (kU (kU (kU (kU (kU (kU (kU (kU (kU (kU (kU (kU (kU (kU (kU (kU (kU (kU (kU (kU (kU h 116 (kO 12 [.int 0, .int 0, .int (-1), .int (-1), .int 0, .int 0, .int 0, .null, .null, .null, .null, .null, .null, .int 0, .int 0, .null, .null, .null, .null, .null, .int 0, .int 0, .int 0, .int 0, .int 0, .int 0])) 117 (kI 116 (fun _ => 0))) 116 (kO 12 [.int 0, .int 0, .int (-1), .int (-1), .int 0, .int 0, .int 0, .ref 117, .null, .null, .null, .null, .null, .int 0, .int 0, .null, .null, .null, .null, .null, .int 0, .int 0, .int 0, .int 0, .int 0, .int 0])) 118 (kI 116 (fun _ => 0))) 116 (kO 12 [.int 0, .int 0, .int (-1), .int (-1), .int 0, .int 0, .int 0, .ref 117, .ref 118, .null, .null, .null, .null, .int 0, .int 0, .null, .null, .null, .null, .null, .int 0, .int 0, .int 0, .int 0, .int 0, .int 0])) 119 (kI 116 (fun _ => 0))) 116 (kO 12 [.int 0, .int 0, .int (-1), .int (-1), .int 0, .int 0, .int 0, .ref 117, .ref 118, .ref 119, .null, .null, .null, .int 0, .int 0, .null, .null, .null, .null, .null, .int 0, .int 0, .int 0, .int 0, .int 0, .int 0])) 120 (kI 928 (fun _ => 0))) 116 (kO 12 [.int 0, .int 0, .int (-1), .int (-1), .int 0, .int 0, .int 0, .ref 117, .ref 118, .ref 119, .ref 120, .null, .null, .int 0, .int 0, .null, .null, .null, .null, .null, .int 0, .int 0, .int 0, .int 0, .int 0, .int 0])) 121 (kI 40 (fun _ => 0))) 116 (kO 12 [.int 0, .int 0, .int (-1), .int (-1), .int 0, .int 0, .int 0, .ref 117, .ref 118, .ref 119, .ref 120, .ref 121, .null, .int 0, .int 0, .null, .null, .null, .null, .null, .int 0, .int 0, .int 0, .int 0, .int 0, .int 0])) 122 (kI 64 (fun _ => 0))) 116 (kO 12 [.int 0, .int 0, .int (-1), .int (-1), .int 0, .int 0, .int 0, .ref 117, .ref 118, .ref 119, .ref 120, .ref 121, .ref 122, .int 0, .int 0, .null, .null, .null, .null, .null, .int 0, .int 0, .int 0, .int 0, .int 0, .int 0])) 123 (kI 60 (fun _ => 0))) 116 (kO 12 [.int 0, .int 0, .int (-1), .int (-1), .int 0, .int 0, .int 0, .ref 117, .ref 118, .ref 119, .ref 120, .ref 121, .ref 122, .int 0, .int 0, .ref 123, .null, .null, .null, .null, .int 0, .int 0, .int 0, .int 0, .int 0, .int 0])) 124 (kI 40 (fun _ => 0))) 116 (kO 12 [.int 0, .int 0, .int (-1), .int (-1), .int 0, .int 0, .int 0, .ref 117, .ref 118, .ref 119, .ref 120, .ref 121, .ref 122, .int 0, .int 0, .ref 123, .ref 124, .null, .null, .null, .int 0, .int 0, .int 0, .int 0, .int 0, .int 0])) 125 (kI 10 (fun _ => 0))) 116 (kO 12 [.int 0, .int 0, .int (-1), .int (-1), .int 0, .int 0, .int 0, .ref 117, .ref 118, .ref 119, .ref 120, .ref 121, .ref 122, .int 0, .int 0, .ref 123, .ref 124, .ref 125, .null, .null, .int 0, .int 0, .int 0, .int 0, .int 0, .int 0])) 126 (kI 52 (upd (upd (upd (upd (upd (upd (upd (upd (upd (upd (upd (upd (upd (upd (upd (upd (upd (upd (upd (upd (upd (upd (upd (upd (upd (upd (upd (upd (upd (upd (upd (upd (upd (upd (upd (upd (upd (upd (upd (upd (upd (upd (upd (upd (upd (upd (upd (upd (upd (upd (upd (upd (fun _ => 0) (Int32.toNatClampNeg 0) 116) (Int32.toNatClampNeg 1) 114) (Int32.toNatClampNeg 2) 101) (Int32.toNatClampNeg 3) 101) (Int32.toNatClampNeg 4) 32) (Int32.toNatClampNeg 5) 102) (Int32.toNatClampNeg 6) 101) (Int32.toNatClampNeg 7) 108) (Int32.toNatClampNeg 8) 108) (Int32.toNatClampNeg 9) 32) (Int32.toNatClampNeg 10) 98) (Int32.toNatClampNeg 11) 101) (Int32.toNatClampNeg 12) 110) (Int32.toNatClampNeg 13) 99) (Int32.toNatClampNeg 14) 104) (Int32.toNatClampNeg 15) 32) (Int32.toNatClampNeg 16) 112) (Int32.toNatClampNeg 17) 97) (Int32.toNatClampNeg 18) 114) (Int32.toNatClampNeg 19) 116) (Int32.toNatClampNeg 20) 121) (Int32.toNatClampNeg 21) 32) (Int32.toNatClampNeg 22) 109) (Int32.toNatClampNeg 23) 111) (Int32.toNatClampNeg 24) 118) (Int32.toNatClampNeg 25) 101) (Int32.toNatClampNeg 26) 32) (Int32.toNatClampNeg 27) 119) (Int32.toNatClampNeg 28) 105) (Int32.toNatClampNeg 29) 110) (Int32.toNatClampNeg 30) 100) (Int32.toNatClampNeg 31) 32) (Int32.toNatClampNeg 32) 116) (Int32.toNatClampNeg 33) 104) (Int32.toNatClampNeg 34) 114) (Int32.toNatClampNeg 35) 111) (Int32.toNatClampNeg 36) 119) (Int32.toNatClampNeg 37) 32) (Int32.toNatClampNeg 38) 98) (Int32.toNatClampNeg 39) 117) (Int32.toNatClampNeg 40) 121) (Int32.toNatClampNeg 41) 32) (Int32.toNatClampNeg 42) 104) (Int32.toNatClampNeg 43) 101) (Int32.toNatClampNeg 44) 97) (Int32.toNatClampNeg 45) 114) (Int32.toNatClampNeg 46) 32) (Int32.toNatClampNeg 47) 112) (Int32.toNatClampNeg 48) 97) (Int32.toNatClampNeg 49) 115) (Int32.toNatClampNeg 50) 115) (Int32.toNatClampNeg 51) 32))) 116 (kO 12 [.int 0, .int 0, .int (-1), .int (-1), .int 0, .int 0, .int 0, .ref 117, .ref 118, .ref 119, .ref 120, .ref 121, .ref 122, .int 0, .int 0, .ref 123, .ref 124, .ref 125, .ref 126, .null, .int 0, .int 0, .int 0, .int 0, .int 0, .int 0])) 127 (kI 11 (upd (upd (upd (upd (upd (upd (upd (upd (upd (upd (upd (fun _ => 0) (Int32.toNatClampNeg 0) 0) (Int32.toNatClampNeg 1) 5) (Int32.toNatClampNeg 2) 10) (Int32.toNatClampNeg 3) 16) (Int32.toNatClampNeg 4) 22) (Int32.toNatClampNeg 5) 27) (Int32.toNatClampNeg 6) 32) (Int32.toNatClampNeg 7) 38) (Int32.toNatClampNeg 8) 42) (Int32.toNatClampNeg 9) 47) (Int32.toNatClampNeg 10) 52))) 116 (kO 12 [.int 0, .int 0, .int (-1), .int (-1), .int 0, .int 0, .int 0, .ref 117, .ref 118, .ref 119, .ref 120, .ref 121, .ref 122, .int 0, .int 0, .ref 123, .ref 124, .ref 125, .ref 126, .ref 127, .int 0, .int 0, .int 0, .int 0, .int 0, .int 0])) 117 (kI 116 (vS (((((((((((0 : Int32) ||| ((1 : Int32) <<< ((8 : Int32) &&& 31))) ||| ((1 : Int32) <<< ((9 : Int32) &&& 31))) ||| ((1 : Int32) <<< ((10 : Int32) &&& 31))) ||| ((1 : Int32) <<< ((11 : Int32) &&& 31))) ||| ((1 : Int32) <<< ((12 : Int32) &&& 31))) ||| ((1 : Int32) <<< ((13 : Int32) &&& 31))) ||| ((1 : Int32) <<< ((14 : Int32) &&& 31))) ||| ((1 : Int32) <<< ((15 : Int32) &&& 31))) ||| ((1 : Int32) <<< ((16 : Int32) &&& 31))) ||| ((1 : Int32) <<< ((17 : Int32) &&& 31))))))
set_option maxRecDepth 100000 in
set_option maxHeartbeats 4000000 in
theorem m_X12_init {h : kH} (h0 : h 116 = kO 12 [.int 0, .int 0, .int 0, .int 0, .int 0, .int 0, .int 0, .null, .null, .null, .null, .null, .null, .int 0, .int 0, .null, .null, .null, .null, .null, .int 0, .int 0, .int 0, .int 0, .int 0, .int 0]) : kMet kX12_init true 11 1553 [.ref 116] h 117 (kRt none (hX12 h) 128) := by
  refine kMet.in (by decide) rfl rfl _ rfl ?_
  refine k_aload_n (i := 0) dX12_init_0 (rfl : 0 + 1 = 1) rfl rfl ?_
  refine k_oinit (gm 1408 (by decide +kernel) (by decide +kernel)) (gm 128 (by decide +kernel) (by decide +kernel)) (gm 129 (by decide +kernel) (by decide +kernel)) dX12_init_1 (rfl : 1 + 3 = 4) (Nat.le_of_ble_eq_true rfl) (Nat.le_of_ble_eq_true rfl) ?_
  refine k_aload_n (i := 0) dX12_init_4 (rfl : 4 + 1 = 5) rfl rfl ?_
  refine k_iconst (v := (-1)) dX12_init_5 (rfl : 5 + 1 = 6) (by decide) ?_
  refine k_put 12 2 fp_X12_7 dX12_init_6 (rfl : 6 + 3 = 9) (by omega) h0 (Nat.le_of_ble_eq_true rfl) rfl rfl ?_
  refine k_aload_n (i := 0) dX12_init_9 (rfl : 9 + 1 = 10) rfl rfl ?_
  refine k_iconst (v := (-1)) dX12_init_10 (rfl : 10 + 1 = 11) (by decide) ?_
  refine k_put 12 3 fp_X12_13 dX12_init_11 (rfl : 11 + 3 = 14) (by omega) kU_s (Nat.le_of_ble_eq_true rfl) rfl rfl ?_
  rw [kU_kU]
  refine k_aload_n (i := 0) dX12_init_14 (rfl : 14 + 1 = 15) rfl rfl ?_
  refine k_bipush (v := 116) dX12_init_15 (rfl : 15 + 2 = 17) (by decide) ?_
  refine k_newI (n9 := 116) (N' := 116) dX12_init_17 (rfl : 17 + 2 = 19) (by omega) (by decide) (by decide) (by decide) ⟨Nat.le_of_ble_eq_true rfl, Nat.le_of_ble_eq_true rfl⟩ ?_
  refine k_putF 12 7 fp_X12_16 rfl dX12_init_19 (rfl : 19 + 3 = 22) (by omega) (Eq.trans (kU_n (by omega)) kU_s) (Nat.le_of_ble_eq_true rfl) rfl rfl ?_
  refine k_aload_n (i := 0) dX12_init_22 (rfl : 22 + 1 = 23) rfl rfl ?_
  refine k_bipush (v := 116) dX12_init_23 (rfl : 23 + 2 = 25) (by decide) ?_
  refine k_newI (n9 := 116) (N' := 116) dX12_init_25 (rfl : 25 + 2 = 27) (by omega) (by decide) (by decide) (by decide) ⟨Nat.le_of_ble_eq_true rfl, Nat.le_of_ble_eq_true rfl⟩ ?_
  refine k_putF 12 8 fp_X12_20 rfl dX12_init_27 (rfl : 27 + 3 = 30) (by omega) (Eq.trans (kU_n (by omega)) kU_s) (Nat.le_of_ble_eq_true rfl) rfl rfl ?_
  refine k_aload_n (i := 0) dX12_init_30 (rfl : 30 + 1 = 31) rfl rfl ?_
  refine k_bipush (v := 116) dX12_init_31 (rfl : 31 + 2 = 33) (by decide) ?_
  refine k_newI (n9 := 116) (N' := 116) dX12_init_33 (rfl : 33 + 2 = 35) (by omega) (by decide) (by decide) (by decide) ⟨Nat.le_of_ble_eq_true rfl, Nat.le_of_ble_eq_true rfl⟩ ?_
  refine k_putF 12 9 fp_X12_23 rfl dX12_init_35 (rfl : 35 + 3 = 38) (by omega) (Eq.trans (kU_n (by omega)) kU_s) (Nat.le_of_ble_eq_true rfl) rfl rfl ?_
  refine k_aload_n (i := 0) dX12_init_38 (rfl : 38 + 1 = 39) rfl rfl ?_
  refine k_sipush (v := 928) dX12_init_39 (rfl : 39 + 3 = 42) (by decide) ?_
  refine k_newI (n9 := 928) (N' := 928) dX12_init_42 (rfl : 42 + 2 = 44) (by omega) (by decide) (by decide) (by decide) ⟨Nat.le_of_ble_eq_true rfl, Nat.le_of_ble_eq_true rfl⟩ ?_
  refine k_putF 12 10 fp_X12_26 rfl dX12_init_44 (rfl : 44 + 3 = 47) (by omega) (Eq.trans (kU_n (by omega)) kU_s) (Nat.le_of_ble_eq_true rfl) rfl rfl ?_
  refine k_aload_n (i := 0) dX12_init_47 (rfl : 47 + 1 = 48) rfl rfl ?_
  refine k_bipush (v := 40) dX12_init_48 (rfl : 48 + 2 = 50) (by decide) ?_
  refine k_newI (n9 := 40) (N' := 40) dX12_init_50 (rfl : 50 + 2 = 52) (by omega) (by decide) (by decide) (by decide) ⟨Nat.le_of_ble_eq_true rfl, Nat.le_of_ble_eq_true rfl⟩ ?_
  refine k_putF 12 11 fp_X12_29 rfl dX12_init_52 (rfl : 52 + 3 = 55) (by omega) (Eq.trans (kU_n (by omega)) kU_s) (Nat.le_of_ble_eq_true rfl) rfl rfl ?_
  refine k_aload_n (i := 0) dX12_init_55 (rfl : 55 + 1 = 56) rfl rfl ?_
  refine k_bipush (v := 64) dX12_init_56 (rfl : 56 + 2 = 58) (by decide) ?_
  refine k_newI (n9 := 64) (N' := 64) dX12_init_58 (rfl : 58 + 2 = 60) (by omega) (by decide) (by decide) (by decide) ⟨Nat.le_of_ble_eq_true rfl, Nat.le_of_ble_eq_true rfl⟩ ?_
  refine k_putF 12 12 fp_X12_32 rfl dX12_init_60 (rfl : 60 + 3 = 63) (by omega) (Eq.trans (kU_n (by omega)) kU_s) (Nat.le_of_ble_eq_true rfl) rfl rfl ?_
  refine k_aload_n (i := 0) dX12_init_63 (rfl : 63 + 1 = 64) rfl rfl ?_
  refine k_bipush (v := 60) dX12_init_64 (rfl : 64 + 2 = 66) (by decide) ?_
  refine k_newI (n9 := 60) (N' := 60) dX12_init_66 (rfl : 66 + 2 = 68) (by omega) (by decide) (by decide) (by decide) ⟨Nat.le_of_ble_eq_true rfl, Nat.le_of_ble_eq_true rfl⟩ ?_
  refine k_putF 12 15 fp_X12_35 rfl dX12_init_68 (rfl : 68 + 3 = 71) (by omega) (Eq.trans (kU_n (by omega)) kU_s) (Nat.le_of_ble_eq_true rfl) rfl rfl ?_
  refine k_aload_n (i := 0) dX12_init_71 (rfl : 71 + 1 = 72) rfl rfl ?_
  refine k_bipush (v := 40) dX12_init_72 (rfl : 72 + 2 = 74) (by decide) ?_
  refine k_newI (n9 := 40) (N' := 40) dX12_init_74 (rfl : 74 + 2 = 76) (by omega) (by decide) (by decide) (by decide) ⟨Nat.le_of_ble_eq_true rfl, Nat.le_of_ble_eq_true rfl⟩ ?_
  refine k_putF 12 16 fp_X12_38 rfl dX12_init_76 (rfl : 76 + 3 = 79) (by omega) (Eq.trans (kU_n (by omega)) kU_s) (Nat.le_of_ble_eq_true rfl) rfl rfl ?_
  refine k_aload_n (i := 0) dX12_init_79 (rfl : 79 + 1 = 80) rfl rfl ?_
  refine k_bipush (v := 10) dX12_init_80 (rfl : 80 + 2 = 82) (by decide) ?_
  refine k_newI (n9 := 10) (N' := 10) dX12_init_82 (rfl : 82 + 2 = 84) (by omega) (by decide) (by decide) (by decide) ⟨Nat.le_of_ble_eq_true rfl, Nat.le_of_ble_eq_true rfl⟩ ?_
  refine k_putF 12 17 fp_X12_41 rfl dX12_init_84 (rfl : 84 + 3 = 87) (by omega) (Eq.trans (kU_n (by omega)) kU_s) (Nat.le_of_ble_eq_true rfl) rfl rfl ?_
  refine k_aload_n (i := 0) dX12_init_87 (rfl : 87 + 1 = 88) rfl rfl ?_
  refine k_bipush (v := 52) dX12_init_88 (rfl : 88 + 2 = 90) (by decide) ?_
  refine k_newI (n9 := 52) (N' := 52) dX12_init_90 (rfl : 90 + 2 = 92) (by omega) (by decide) (by decide) (by decide) ⟨Nat.le_of_ble_eq_true rfl, Nat.le_of_ble_eq_true rfl⟩ ?_
  refine k_dup dX12_init_92 (rfl : 92 + 1 = 93) rfl ?_
  refine k_iconst (v := 0) dX12_init_93 (rfl : 93 + 1 = 94) (by decide) ?_
  refine k_bipush (v := 116) dX12_init_94 (rfl : 94 + 2 = 96) (by decide) ?_
  refine k_iast (n := 52) (f := (fun _ => 0)) dX12_init_96 (rfl : 96 + 1 = 97) (by omega) kU_s (vp_in_iff.mpr (by decide)) ?_
  rw [kU_kU]
  refine k_dup dX12_init_97 (rfl : 97 + 1 = 98) rfl ?_
  refine k_iconst (v := 1) dX12_init_98 (rfl : 98 + 1 = 99) (by decide) ?_
  refine k_bipush (v := 114) dX12_init_99 (rfl : 99 + 2 = 101) (by decide) ?_
  refine k_iast (n := 52) (f := (upd (fun _ => 0) (Int32.toNatClampNeg 0) 116)) dX12_init_101 (rfl : 101 + 1 = 102) (by omega) kU_s (vp_in_iff.mpr (by decide)) ?_
  rw [kU_kU]
  refine k_dup dX12_init_102 (rfl : 102 + 1 = 103) rfl ?_
  refine k_iconst (v := 2) dX12_init_103 (rfl : 103 + 1 = 104) (by decide) ?_
  refine k_bipush (v := 101) dX12_init_104 (rfl : 104 + 2 = 106) (by decide) ?_
  refine k_iast (n := 52) (f := (upd (upd (fun _ => 0) (Int32.toNatClampNeg 0) 116) (Int32.toNatClampNeg 1) 114)) dX12_init_106 (rfl : 106 + 1 = 107) (by omega) kU_s (vp_in_iff.mpr (by decide)) ?_
  rw [kU_kU]
  refine k_dup dX12_init_107 (rfl : 107 + 1 = 108) rfl ?_
  refine k_iconst (v := 3) dX12_init_108 (rfl : 108 + 1 = 109) (by decide) ?_
  refine k_bipush (v := 101) dX12_init_109 (rfl : 109 + 2 = 111) (by decide) ?_
  refine k_iast (n := 52) (f := (upd (upd (upd (fun _ => 0) (Int32.toNatClampNeg 0) 116) (Int32.toNatClampNeg 1) 114) (Int32.toNatClampNeg 2) 101)) dX12_init_111 (rfl : 111 + 1 = 112) (by omega) kU_s (vp_in_iff.mpr (by decide)) ?_
  rw [kU_kU]
  refine k_dup dX12_init_112 (rfl : 112 + 1 = 113) rfl ?_
  refine k_iconst (v := 4) dX12_init_113 (rfl : 113 + 1 = 114) (by decide) ?_
  refine k_bipush (v := 32) dX12_init_114 (rfl : 114 + 2 = 116) (by decide) ?_
  refine k_iast (n := 52) (f := (upd (upd (upd (upd (fun _ => 0) (Int32.toNatClampNeg 0) 116) (Int32.toNatClampNeg 1) 114) (Int32.toNatClampNeg 2) 101) (Int32.toNatClampNeg 3) 101)) dX12_init_116 (rfl : 116 + 1 = 117) (by omega) kU_s (vp_in_iff.mpr (by decide)) ?_
  rw [kU_kU]
  refine k_dup dX12_init_117 (rfl : 117 + 1 = 118) rfl ?_
  refine k_iconst (v := 5) dX12_init_118 (rfl : 118 + 1 = 119) (by decide) ?_
  refine k_bipush (v := 102) dX12_init_119 (rfl : 119 + 2 = 121) (by decide) ?_
  refine k_iast (n := 52) (f := (upd (upd (upd (upd (upd (fun _ => 0) (Int32.toNatClampNeg 0) 116) (Int32.toNatClampNeg 1) 114) (Int32.toNatClampNeg 2) 101) (Int32.toNatClampNeg 3) 101) (Int32.toNatClampNeg 4) 32)) dX12_init_121 (rfl : 121 + 1 = 122) (by omega) kU_s (vp_in_iff.mpr (by decide)) ?_
  rw [kU_kU]
  refine k_dup dX12_init_122 (rfl : 122 + 1 = 123) rfl ?_
  refine k_bipush (v := 6) dX12_init_123 (rfl : 123 + 2 = 125) (by decide) ?_
  refine k_bipush (v := 101) dX12_init_125 (rfl : 125 + 2 = 127) (by decide) ?_
  refine k_iast (n := 52) (f := (upd (upd (upd (upd (upd (upd (fun _ => 0) (Int32.toNatClampNeg 0) 116) (Int32.toNatClampNeg 1) 114) (Int32.toNatClampNeg 2) 101) (Int32.toNatClampNeg 3) 101) (Int32.toNatClampNeg 4) 32) (Int32.toNatClampNeg 5) 102)) dX12_init_127 (rfl : 127 + 1 = 128) (by omega) kU_s (vp_in_iff.mpr (by decide)) ?_
  rw [kU_kU]
  refine k_dup dX12_init_128 (rfl : 128 + 1 = 129) rfl ?_
  refine k_bipush (v := 7) dX12_init_129 (rfl : 129 + 2 = 131) (by decide) ?_
  refine k_bipush (v := 108) dX12_init_131 (rfl : 131 + 2 = 133) (by decide) ?_
  refine k_iast (n := 52) (f := (upd (upd (upd (upd (upd (upd (upd (fun _ => 0) (Int32.toNatClampNeg 0) 116) (Int32.toNatClampNeg 1) 114) (Int32.toNatClampNeg 2) 101) (Int32.toNatClampNeg 3) 101) (Int32.toNatClampNeg 4) 32) (Int32.toNatClampNeg 5) 102) (Int32.toNatClampNeg 6) 101)) dX12_init_133 (rfl : 133 + 1 = 134) (by omega) kU_s (vp_in_iff.mpr (by decide)) ?_
  rw [kU_kU]
  refine k_dup dX12_init_134 (rfl : 134 + 1 = 135) rfl ?_
  refine k_bipush (v := 8) dX12_init_135 (rfl : 135 + 2 = 137) (by decide) ?_
  refine k_bipush (v := 108) dX12_init_137 (rfl : 137 + 2 = 139) (by decide) ?_
  refine k_iast (n := 52) (f := (upd (upd (upd (upd (upd (upd (upd (upd (fun _ => 0) (Int32.toNatClampNeg 0) 116) (Int32.toNatClampNeg 1) 114) (Int32.toNatClampNeg 2) 101) (Int32.toNatClampNeg 3) 101) (Int32.toNatClampNeg 4) 32) (Int32.toNatClampNeg 5) 102) (Int32.toNatClampNeg 6) 101) (Int32.toNatClampNeg 7) 108)) dX12_init_139 (rfl : 139 + 1 = 140) (by omega) kU_s (vp_in_iff.mpr (by decide)) ?_
  rw [kU_kU]
  refine k_dup dX12_init_140 (rfl : 140 + 1 = 141) rfl ?_
  refine k_bipush (v := 9) dX12_init_141 (rfl : 141 + 2 = 143) (by decide) ?_
  refine k_bipush (v := 32) dX12_init_143 (rfl : 143 + 2 = 145) (by decide) ?_
  refine k_iast (n := 52) (f := (upd (upd (upd (upd (upd (upd (upd (upd (upd (fun _ => 0) (Int32.toNatClampNeg 0) 116) (Int32.toNatClampNeg 1) 114) (Int32.toNatClampNeg 2) 101) (Int32.toNatClampNeg 3) 101) (Int32.toNatClampNeg 4) 32) (Int32.toNatClampNeg 5) 102) (Int32.toNatClampNeg 6) 101) (Int32.toNatClampNeg 7) 108) (Int32.toNatClampNeg 8) 108)) dX12_init_145 (rfl : 145 + 1 = 146) (by omega) kU_s (vp_in_iff.mpr (by decide)) ?_
  rw [kU_kU]
  refine k_dup dX12_init_146 (rfl : 146 + 1 = 147) rfl ?_
  refine k_bipush (v := 10) dX12_init_147 (rfl : 147 + 2 = 149) (by decide) ?_
  refine k_bipush (v := 98) dX12_init_149 (rfl : 149 + 2 = 151) (by decide) ?_
  refine k_iast (n := 52) (f := (upd (upd (upd (upd (upd (upd (upd (upd (upd (upd (fun _ => 0) (Int32.toNatClampNeg 0) 116) (Int32.toNatClampNeg 1) 114) (Int32.toNatClampNeg 2) 101) (Int32.toNatClampNeg 3) 101) (Int32.toNatClampNeg 4) 32) (Int32.toNatClampNeg 5) 102) (Int32.toNatClampNeg 6) 101) (Int32.toNatClampNeg 7) 108) (Int32.toNatClampNeg 8) 108) (Int32.toNatClampNeg 9) 32)) dX12_init_151 (rfl : 151 + 1 = 152) (by omega) kU_s (vp_in_iff.mpr (by decide)) ?_
  rw [kU_kU]
  refine k_dup dX12_init_152 (rfl : 152 + 1 = 153) rfl ?_
  refine k_bipush (v := 11) dX12_init_153 (rfl : 153 + 2 = 155) (by decide) ?_
  refine k_bipush (v := 101) dX12_init_155 (rfl : 155 + 2 = 157) (by decide) ?_
  refine k_iast (n := 52) (f := (upd (upd (upd (upd (upd (upd (upd (upd (upd (upd (upd (fun _ => 0) (Int32.toNatClampNeg 0) 116) (Int32.toNatClampNeg 1) 114) (Int32.toNatClampNeg 2) 101) (Int32.toNatClampNeg 3) 101) (Int32.toNatClampNeg 4) 32) (Int32.toNatClampNeg 5) 102) (Int32.toNatClampNeg 6) 101) (Int32.toNatClampNeg 7) 108) (Int32.toNatClampNeg 8) 108) (Int32.toNatClampNeg 9) 32) (Int32.toNatClampNeg 10) 98)) dX12_init_157 (rfl : 157 + 1 = 158) (by omega) kU_s (vp_in_iff.mpr (by decide)) ?_
  rw [kU_kU]
  refine k_dup dX12_init_158 (rfl : 158 + 1 = 159) rfl ?_
  refine k_bipush (v := 12) dX12_init_159 (rfl : 159 + 2 = 161) (by decide) ?_
  refine k_bipush (v := 110) dX12_init_161 (rfl : 161 + 2 = 163) (by decide) ?_
  refine k_iast (n := 52) (f := (upd (upd (upd (upd (upd (upd (upd (upd (upd (upd (upd (upd (fun _ => 0) (Int32.toNatClampNeg 0) 116) (Int32.toNatClampNeg 1) 114) (Int32.toNatClampNeg 2) 101) (Int32.toNatClampNeg 3) 101) (Int32.toNatClampNeg 4) 32) (Int32.toNatClampNeg 5) 102) (Int32.toNatClampNeg 6) 101) (Int32.toNatClampNeg 7) 108) (Int32.toNatClampNeg 8) 108) (Int32.toNatClampNeg 9) 32) (Int32.toNatClampNeg 10) 98) (Int32.toNatClampNeg 11) 101)) dX12_init_163 (rfl : 163 + 1 = 164) (by omega) kU_s (vp_in_iff.mpr (by decide)) ?_
  rw [kU_kU]
  refine k_dup dX12_init_164 (rfl : 164 + 1 = 165) rfl ?_
  refine k_bipush (v := 13) dX12_init_165 (rfl : 165 + 2 = 167) (by decide) ?_
  refine k_bipush (v := 99) dX12_init_167 (rfl : 167 + 2 = 169) (by decide) ?_
  refine k_iast (n := 52) (f := (upd (upd (upd (upd (upd (upd (upd (upd (upd (upd (upd (upd (upd (fun _ => 0) (Int32.toNatClampNeg 0) 116) (Int32.toNatClampNeg 1) 114) (Int32.toNatClampNeg 2) 101) (Int32.toNatClampNeg 3) 101) (Int32.toNatClampNeg 4) 32) (Int32.toNatClampNeg 5) 102) (Int32.toNatClampNeg 6) 101) (Int32.toNatClampNeg 7) 108) (Int32.toNatClampNeg 8) 108) (Int32.toNatClampNeg 9) 32) (Int32.toNatClampNeg 10) 98) (Int32.toNatClampNeg 11) 101) (Int32.toNatClampNeg 12) 110)) dX12_init_169 (rfl : 169 + 1 = 170) (by omega) kU_s (vp_in_iff.mpr (by decide)) ?_
  rw [kU_kU]
  refine k_dup dX12_init_170 (rfl : 170 + 1 = 171) rfl ?_
  refine k_bipush (v := 14) dX12_init_171 (rfl : 171 + 2 = 173) (by decide) ?_
  refine k_bipush (v := 104) dX12_init_173 (rfl : 173 + 2 = 175) (by decide) ?_
  refine k_iast (n := 52) (f := (upd (upd (upd (upd (upd (upd (upd (upd (upd (upd (upd (upd (upd (upd (fun _ => 0) (Int32.toNatClampNeg 0) 116) (Int32.toNatClampNeg 1) 114) (Int32.toNatClampNeg 2) 101) (Int32.toNatClampNeg 3) 101) (Int32.toNatClampNeg 4) 32) (Int32.toNatClampNeg 5) 102) (Int32.toNatClampNeg 6) 101) (Int32.toNatClampNeg 7) 108) (Int32.toNatClampNeg 8) 108) (Int32.toNatClampNeg 9) 32) (Int32.toNatClampNeg 10) 98) (Int32.toNatClampNeg 11) 101) (Int32.toNatClampNeg 12) 110) (Int32.toNatClampNeg 13) 99)) dX12_init_175 (rfl : 175 + 1 = 176) (by omega) kU_s (vp_in_iff.mpr (by decide)) ?_
  rw [kU_kU]
  refine k_dup dX12_init_176 (rfl : 176 + 1 = 177) rfl ?_
  refine k_bipush (v := 15) dX12_init_177 (rfl : 177 + 2 = 179) (by decide) ?_
  refine k_bipush (v := 32) dX12_init_179 (rfl : 179 + 2 = 181) (by decide) ?_
  refine k_iast (n := 52) (f := (upd (upd (upd (upd (upd (upd (upd (upd (upd (upd (upd (upd (upd (upd (upd (fun _ => 0) (Int32.toNatClampNeg 0) 116) (Int32.toNatClampNeg 1) 114) (Int32.toNatClampNeg 2) 101) (Int32.toNatClampNeg 3) 101) (Int32.toNatClampNeg 4) 32) (Int32.toNatClampNeg 5) 102) (Int32.toNatClampNeg 6) 101) (Int32.toNatClampNeg 7) 108) (Int32.toNatClampNeg 8) 108) (Int32.toNatClampNeg 9) 32) (Int32.toNatClampNeg 10) 98) (Int32.toNatClampNeg 11) 101) (Int32.toNatClampNeg 12) 110) (Int32.toNatClampNeg 13) 99) (Int32.toNatClampNeg 14) 104)) dX12_init_181 (rfl : 181 + 1 = 182) (by omega) kU_s (vp_in_iff.mpr (by decide)) ?_
  rw [kU_kU]
  refine k_dup dX12_init_182 (rfl : 182 + 1 = 183) rfl ?_
  refine k_bipush (v := 16) dX12_init_183 (rfl : 183 + 2 = 185) (by decide) ?_
  refine k_bipush (v := 112) dX12_init_185 (rfl : 185 + 2 = 187) (by decide) ?_
  refine k_iast (n := 52) (f := (upd (upd (upd (upd (upd (upd (upd (upd (upd (upd (upd (upd (upd (upd (upd (upd (fun _ => 0) (Int32.toNatClampNeg 0) 116) (Int32.toNatClampNeg 1) 114) (Int32.toNatClampNeg 2) 101) (Int32.toNatClampNeg 3) 101) (Int32.toNatClampNeg 4) 32) (Int32.toNatClampNeg 5) 102) (Int32.toNatClampNeg 6) 101) (Int32.toNatClampNeg 7) 108) (Int32.toNatClampNeg 8) 108) (Int32.toNatClampNeg 9) 32) (Int32.toNatClampNeg 10) 98) (Int32.toNatClampNeg 11) 101) (Int32.toNatClampNeg 12) 110) (Int32.toNatClampNeg 13) 99) (Int32.toNatClampNeg 14) 104) (Int32.toNatClampNeg 15) 32)) dX12_init_187 (rfl : 187 + 1 = 188) (by omega) kU_s (vp_in_iff.mpr (by decide)) ?_
  rw [kU_kU]
  refine k_dup dX12_init_188 (rfl : 188 + 1 = 189) rfl ?_
  refine k_bipush (v := 17) dX12_init_189 (rfl : 189 + 2 = 191) (by decide) ?_
  refine k_bipush (v := 97) dX12_init_191 (rfl : 191 + 2 = 193) (by decide) ?_
  refine k_iast (n := 52) (f := (upd (upd (upd (upd (upd (upd (upd (upd (upd (upd (upd (upd (upd (upd (upd (upd (upd (fun _ => 0) (Int32.toNatClampNeg 0) 116) (Int32.toNatClampNeg 1) 114) (Int32.toNatClampNeg 2) 101) (Int32.toNatClampNeg 3) 101) (Int32.toNatClampNeg 4) 32) (Int32.toNatClampNeg 5) 102) (Int32.toNatClampNeg 6) 101) (Int32.toNatClampNeg 7) 108) (Int32.toNatClampNeg 8) 108) (Int32.toNatClampNeg 9) 32) (Int32.toNatClampNeg 10) 98) (Int32.toNatClampNeg 11) 101) (Int32.toNatClampNeg 12) 110) (Int32.toNatClampNeg 13) 99) (Int32.toNatClampNeg 14) 104) (Int32.toNatClampNeg 15) 32) (Int32.toNatClampNeg 16) 112)) dX12_init_193 (rfl : 193 + 1 = 194) (by omega) kU_s (vp_in_iff.mpr (by decide)) ?_
  rw [kU_kU]
  refine k_dup dX12_init_194 (rfl : 194 + 1 = 195) rfl ?_
  refine k_bipush (v := 18) dX12_init_195 (rfl : 195 + 2 = 197) (by decide) ?_
  refine k_bipush (v := 114) dX12_init_197 (rfl : 197 + 2 = 199) (by decide) ?_
  refine k_iast (n := 52) (f := (upd (upd (upd (upd (upd (upd (upd (upd (upd (upd (upd (upd (upd (upd (upd (upd (upd (upd (fun _ => 0) (Int32.toNatClampNeg 0) 116) (Int32.toNatClampNeg 1) 114) (Int32.toNatClampNeg 2) 101) (Int32.toNatClampNeg 3) 101) (Int32.toNatClampNeg 4) 32) (Int32.toNatClampNeg 5) 102) (Int32.toNatClampNeg 6) 101) (Int32.toNatClampNeg 7) 108) (Int32.toNatClampNeg 8) 108) (Int32.toNatClampNeg 9) 32) (Int32.toNatClampNeg 10) 98) (Int32.toNatClampNeg 11) 101) (Int32.toNatClampNeg 12) 110) (Int32.toNatClampNeg 13) 99) (Int32.toNatClampNeg 14) 104) (Int32.toNatClampNeg 15) 32) (Int32.toNatClampNeg 16) 112) (Int32.toNatClampNeg 17) 97)) dX12_init_199 (rfl : 199 + 1 = 200) (by omega) kU_s (vp_in_iff.mpr (by decide)) ?_
  rw [kU_kU]
  refine k_dup dX12_init_200 (rfl : 200 + 1 = 201) rfl ?_
  refine k_bipush (v := 19) dX12_init_201 (rfl : 201 + 2 = 203) (by decide) ?_
  refine k_bipush (v := 116) dX12_init_203 (rfl : 203 + 2 = 205) (by decide) ?_
  refine k_iast (n := 52) (f := (upd (upd (upd (upd (upd (upd (upd (upd (upd (upd (upd (upd (upd (upd (upd (upd (upd (upd (upd (fun _ => 0) (Int32.toNatClampNeg 0) 116) (Int32.toNatClampNeg 1) 114) (Int32.toNatClampNeg 2) 101) (Int32.toNatClampNeg 3) 101) (Int32.toNatClampNeg 4) 32) (Int32.toNatClampNeg 5) 102) (Int32.toNatClampNeg 6) 101) (Int32.toNatClampNeg 7) 108) (Int32.toNatClampNeg 8) 108) (Int32.toNatClampNeg 9) 32) (Int32.toNatClampNeg 10) 98) (Int32.toNatClampNeg 11) 101) (Int32.toNatClampNeg 12) 110) (Int32.toNatClampNeg 13) 99) (Int32.toNatClampNeg 14) 104) (Int32.toNatClampNeg 15) 32) (Int32.toNatClampNeg 16) 112) (Int32.toNatClampNeg 17) 97) (Int32.toNatClampNeg 18) 114)) dX12_init_205 (rfl : 205 + 1 = 206) (by omega) kU_s (vp_in_iff.mpr (by decide)) ?_
  rw [kU_kU]
  refine k_dup dX12_init_206 (rfl : 206 + 1 = 207) rfl ?_
  refine k_bipush (v := 20) dX12_init_207 (rfl : 207 + 2 = 209) (by decide) ?_
  refine k_bipush (v := 121) dX12_init_209 (rfl : 209 + 2 = 211) (by decide) ?_
  refine k_iast (n := 52) (f := (upd (upd (upd (upd (upd (upd (upd (upd (upd (upd (upd (upd (upd (upd (upd (upd (upd (upd (upd (upd (fun _ => 0) (Int32.toNatClampNeg 0) 116) (Int32.toNatClampNeg 1) 114) (Int32.toNatClampNeg 2) 101) (Int32.toNatClampNeg 3) 101) (Int32.toNatClampNeg 4) 32) (Int32.toNatClampNeg 5) 102) (Int32.toNatClampNeg 6) 101) (Int32.toNatClampNeg 7) 108) (Int32.toNatClampNeg 8) 108) (Int32.toNatClampNeg 9) 32) (Int32.toNatClampNeg 10) 98) (Int32.toNatClampNeg 11) 101) (Int32.toNatClampNeg 12) 110) (Int32.toNatClampNeg 13) 99) (Int32.toNatClampNeg 14) 104) (Int32.toNatClampNeg 15) 32) (Int32.toNatClampNeg 16) 112) (Int32.toNatClampNeg 17) 97) (Int32.toNatClampNeg 18) 114) (Int32.toNatClampNeg 19) 116)) dX12_init_211 (rfl : 211 + 1 = 212) (by omega) kU_s (vp_in_iff.mpr (by decide)) ?_
  rw [kU_kU]
  refine k_dup dX12_init_212 (rfl : 212 + 1 = 213) rfl ?_
  refine k_bipush (v := 21) dX12_init_213 (rfl : 213 + 2 = 215) (by decide) ?_
  refine k_bipush (v := 32) dX12_init_215 (rfl : 215 + 2 = 217) (by decide) ?_
  refine k_iast (n := 52) (f := (upd (upd (upd (upd (upd (upd (upd (upd (upd (upd (upd (upd (upd (upd (upd (upd (upd (upd (upd (upd (upd (fun _ => 0) (Int32.toNatClampNeg 0) 116) (Int32.toNatClampNeg 1) 114) (Int32.toNatClampNeg 2) 101) (Int32.toNatClampNeg 3) 101) (Int32.toNatClampNeg 4) 32) (Int32.toNatClampNeg 5) 102) (Int32.toNatClampNeg 6) 101) (Int32.toNatClampNeg 7) 108) (Int32.toNatClampNeg 8) 108) (Int32.toNatClampNeg 9) 32) (Int32.toNatClampNeg 10) 98) (Int32.toNatClampNeg 11) 101) (Int32.toNatClampNeg 12) 110) (Int32.toNatClampNeg 13) 99) (Int32.toNatClampNeg 14) 104) (Int32.toNatClampNeg 15) 32) (Int32.toNatClampNeg 16) 112) (Int32.toNatClampNeg 17) 97) (Int32.toNatClampNeg 18) 114) (Int32.toNatClampNeg 19) 116) (Int32.toNatClampNeg 20) 121)) dX12_init_217 (rfl : 217 + 1 = 218) (by omega) kU_s (vp_in_iff.mpr (by decide)) ?_
  rw [kU_kU]
  refine k_dup dX12_init_218 (rfl : 218 + 1 = 219) rfl ?_
  refine k_bipush (v := 22) dX12_init_219 (rfl : 219 + 2 = 221) (by decide) ?_
  refine k_bipush (v := 109) dX12_init_221 (rfl : 221 + 2 = 223) (by decide) ?_
  refine k_iast (n := 52) (f := (upd (upd (upd (upd (upd (upd (upd (upd (upd (upd (upd (upd (upd (upd (upd (upd (upd (upd (upd (upd (upd (upd (fun _ => 0) (Int32.toNatClampNeg 0) 116) (Int32.toNatClampNeg 1) 114) (Int32.toNatClampNeg 2) 101) (Int32.toNatClampNeg 3) 101) (Int32.toNatClampNeg 4) 32) (Int32.toNatClampNeg 5) 102) (Int32.toNatClampNeg 6) 101) (Int32.toNatClampNeg 7) 108) (Int32.toNatClampNeg 8) 108) (Int32.toNatClampNeg 9) 32) (Int32.toNatClampNeg 10) 98) (Int32.toNatClampNeg 11) 101) (Int32.toNatClampNeg 12) 110) (Int32.toNatClampNeg 13) 99) (Int32.toNatClampNeg 14) 104) (Int32.toNatClampNeg 15) 32) (Int32.toNatClampNeg 16) 112) (Int32.toNatClampNeg 17) 97) (Int32.toNatClampNeg 18) 114) (Int32.toNatClampNeg 19) 116) (Int32.toNatClampNeg 20) 121) (Int32.toNatClampNeg 21) 32)) dX12_init_223 (rfl : 223 + 1 = 224) (by omega) kU_s (vp_in_iff.mpr (by decide)) ?_
  rw [kU_kU]
  refine k_dup dX12_init_224 (rfl : 224 + 1 = 225) rfl ?_
  refine k_bipush (v := 23) dX12_init_225 (rfl : 225 + 2 = 227) (by decide) ?_
  refine k_bipush (v := 111) dX12_init_227 (rfl : 227 + 2 = 229) (by decide) ?_
  refine k_iast (n := 52) (f := (upd (upd (upd (upd (upd (upd (upd (upd (upd (upd (upd (upd (upd (upd (upd (upd (upd (upd (upd (upd (upd (upd (upd (fun _ => 0) (Int32.toNatClampNeg 0) 116) (Int32.toNatClampNeg 1) 114) (Int32.toNatClampNeg 2) 101) (Int32.toNatClampNeg 3) 101) (Int32.toNatClampNeg 4) 32) (Int32.toNatClampNeg 5) 102) (Int32.toNatClampNeg 6) 101) (Int32.toNatClampNeg 7) 108) (Int32.toNatClampNeg 8) 108) (Int32.toNatClampNeg 9) 32) (Int32.toNatClampNeg 10) 98) (Int32.toNatClampNeg 11) 101) (Int32.toNatClampNeg 12) 110) (Int32.toNatClampNeg 13) 99) (Int32.toNatClampNeg 14) 104) (Int32.toNatClampNeg 15) 32) (Int32.toNatClampNeg 16) 112) (Int32.toNatClampNeg 17) 97) (Int32.toNatClampNeg 18) 114) (Int32.toNatClampNeg 19) 116) (Int32.toNatClampNeg 20) 121) (Int32.toNatClampNeg 21) 32) (Int32.toNatClampNeg 22) 109)) dX12_init_229 (rfl : 229 + 1 = 230) (by omega) kU_s (vp_in_iff.mpr (by decide)) ?_
  rw [kU_kU]
  refine k_dup dX12_init_230 (rfl : 230 + 1 = 231) rfl ?_
  refine k_bipush (v := 24) dX12_init_231 (rfl : 231 + 2 = 233) (by decide) ?_
  refine k_bipush (v := 118) dX12_init_233 (rfl : 233 + 2 = 235) (by decide) ?_
  refine k_iast (n := 52) (f := (upd (upd (upd (upd (upd (upd (upd (upd (upd (upd (upd (upd (upd (upd (upd (upd (upd (upd (upd (upd (upd (upd (upd (upd (fun _ => 0) (Int32.toNatClampNeg 0) 116) (Int32.toNatClampNeg 1) 114) (Int32.toNatClampNeg 2) 101) (Int32.toNatClampNeg 3) 101) (Int32.toNatClampNeg 4) 32) (Int32.toNatClampNeg 5) 102) (Int32.toNatClampNeg 6) 101) (Int32.toNatClampNeg 7) 108) (Int32.toNatClampNeg 8) 108) (Int32.toNatClampNeg 9) 32) (Int32.toNatClampNeg 10) 98) (Int32.toNatClampNeg 11) 101) (Int32.toNatClampNeg 12) 110) (Int32.toNatClampNeg 13) 99) (Int32.toNatClampNeg 14) 104) (Int32.toNatClampNeg 15) 32) (Int32.toNatClampNeg 16) 112) (Int32.toNatClampNeg 17) 97) (Int32.toNatClampNeg 18) 114) (Int32.toNatClampNeg 19) 116) (Int32.toNatClampNeg 20) 121) (Int32.toNatClampNeg 21) 32) (Int32.toNatClampNeg 22) 109) (Int32.toNatClampNeg 23) 111)) dX12_init_235 (rfl : 235 + 1 = 236) (by omega) kU_s (vp_in_iff.mpr (by decide)) ?_
  rw [kU_kU]
  refine k_dup dX12_init_236 (rfl : 236 + 1 = 237) rfl ?_
  refine k_bipush (v := 25) dX12_init_237 (rfl : 237 + 2 = 239) (by decide) ?_
  refine k_bipush (v := 101) dX12_init_239 (rfl : 239 + 2 = 241) (by decide) ?_
  refine k_iast (n := 52) (f := (upd (upd (upd (upd (upd (upd (upd (upd (upd (upd (upd (upd (upd (upd (upd (upd (upd (upd (upd (upd (upd (upd (upd (upd (upd (fun _ => 0) (Int32.toNatClampNeg 0) 116) (Int32.toNatClampNeg 1) 114) (Int32.toNatClampNeg 2) 101) (Int32.toNatClampNeg 3) 101) (Int32.toNatClampNeg 4) 32) (Int32.toNatClampNeg 5) 102) (Int32.toNatClampNeg 6) 101) (Int32.toNatClampNeg 7) 108) (Int32.toNatClampNeg 8) 108) (Int32.toNatClampNeg 9) 32) (Int32.toNatClampNeg 10) 98) (Int32.toNatClampNeg 11) 101) (Int32.toNatClampNeg 12) 110) (Int32.toNatClampNeg 13) 99) (Int32.toNatClampNeg 14) 104) (Int32.toNatClampNeg 15) 32) (Int32.toNatClampNeg 16) 112) (Int32.toNatClampNeg 17) 97) (Int32.toNatClampNeg 18) 114) (Int32.toNatClampNeg 19) 116) (Int32.toNatClampNeg 20) 121) (Int32.toNatClampNeg 21) 32) (Int32.toNatClampNeg 22) 109) (Int32.toNatClampNeg 23) 111) (Int32.toNatClampNeg 24) 118)) dX12_init_241 (rfl : 241 + 1 = 242) (by omega) kU_s (vp_in_iff.mpr (by decide)) ?_
  rw [kU_kU]
  refine k_dup dX12_init_242 (rfl : 242 + 1 = 243) rfl ?_
  refine k_bipush (v := 26) dX12_init_243 (rfl : 243 + 2 = 245) (by decide) ?_
  refine k_bipush (v := 32) dX12_init_245 (rfl : 245 + 2 = 247) (by decide) ?_
  refine k_iast (n := 52) (f := (upd (upd (upd (upd (upd (upd (upd (upd (upd (upd (upd (upd (upd (upd (upd (upd (upd (upd (upd (upd (upd (upd (upd (upd (upd (upd (fun _ => 0) (Int32.toNatClampNeg 0) 116) (Int32.toNatClampNeg 1) 114) (Int32.toNatClampNeg 2) 101) (Int32.toNatClampNeg 3) 101) (Int32.toNatClampNeg 4) 32) (Int32.toNatClampNeg 5) 102) (Int32.toNatClampNeg 6) 101) (Int32.toNatClampNeg 7) 108) (Int32.toNatClampNeg 8) 108) (Int32.toNatClampNeg 9) 32) (Int32.toNatClampNeg 10) 98) (Int32.toNatClampNeg 11) 101) (Int32.toNatClampNeg 12) 110) (Int32.toNatClampNeg 13) 99) (Int32.toNatClampNeg 14) 104) (Int32.toNatClampNeg 15) 32) (Int32.toNatClampNeg 16) 112) (Int32.toNatClampNeg 17) 97) (Int32.toNatClampNeg 18) 114) (Int32.toNatClampNeg 19) 116) (Int32.toNatClampNeg 20) 121) (Int32.toNatClampNeg 21) 32) (Int32.toNatClampNeg 22) 109) (Int32.toNatClampNeg 23) 111) (Int32.toNatClampNeg 24) 118) (Int32.toNatClampNeg 25) 101)) dX12_init_247 (rfl : 247 + 1 = 248) (by omega) kU_s (vp_in_iff.mpr (by decide)) ?_
  rw [kU_kU]
  refine k_dup dX12_init_248 (rfl : 248 + 1 = 249) rfl ?_
  refine k_bipush (v := 27) dX12_init_249 (rfl : 249 + 2 = 251) (by decide) ?_
  refine k_bipush (v := 119) dX12_init_251 (rfl : 251 + 2 = 253) (by decide) ?_
  refine k_iast (n := 52) (f := (upd (upd (upd (upd (upd (upd (upd (upd (upd (upd (upd (upd (upd (upd (upd (upd (upd (upd (upd (upd (upd (upd (upd (upd (upd (upd (upd (fun _ => 0) (Int32.toNatClampNeg 0) 116) (Int32.toNatClampNeg 1) 114) (Int32.toNatClampNeg 2) 101) (Int32.toNatClampNeg 3) 101) (Int32.toNatClampNeg 4) 32) (Int32.toNatClampNeg 5) 102) (Int32.toNatClampNeg 6) 101) (Int32.toNatClampNeg 7) 108) (Int32.toNatClampNeg 8) 108) (Int32.toNatClampNeg 9) 32) (Int32.toNatClampNeg 10) 98) (Int32.toNatClampNeg 11) 101) (Int32.toNatClampNeg 12) 110) (Int32.toNatClampNeg 13) 99) (Int32.toNatClampNeg 14) 104) (Int32.toNatClampNeg 15) 32) (Int32.toNatClampNeg 16) 112) (Int32.toNatClampNeg 17) 97) (Int32.toNatClampNeg 18) 114) (Int32.toNatClampNeg 19) 116) (Int32.toNatClampNeg 20) 121) (Int32.toNatClampNeg 21) 32) (Int32.toNatClampNeg 22) 109) (Int32.toNatClampNeg 23) 111) (Int32.toNatClampNeg 24) 118) (Int32.toNatClampNeg 25) 101) (Int32.toNatClampNeg 26) 32)) dX12_init_253 (rfl : 253 + 1 = 254) (by omega) kU_s (vp_in_iff.mpr (by decide)) ?_
  rw [kU_kU]
  refine k_dup dX12_init_254 (rfl : 254 + 1 = 255) rfl ?_
  refine k_bipush (v := 28) dX12_init_255 (rfl : 255 + 2 = 257) (by decide) ?_
  refine k_bipush (v := 105) dX12_init_257 (rfl : 257 + 2 = 259) (by decide) ?_
  refine k_iast (n := 52) (f := (upd (upd (upd (upd (upd (upd (upd (upd (upd (upd (upd (upd (upd (upd (upd (upd (upd (upd (upd (upd (upd (upd (upd (upd (upd (upd (upd (upd (fun _ => 0) (Int32.toNatClampNeg 0) 116) (Int32.toNatClampNeg 1) 114) (Int32.toNatClampNeg 2) 101) (Int32.toNatClampNeg 3) 101) (Int32.toNatClampNeg 4) 32) (Int32.toNatClampNeg 5) 102) (Int32.toNatClampNeg 6) 101) (Int32.toNatClampNeg 7) 108) (Int32.toNatClampNeg 8) 108) (Int32.toNatClampNeg 9) 32) (Int32.toNatClampNeg 10) 98) (Int32.toNatClampNeg 11) 101) (Int32.toNatClampNeg 12) 110) (Int32.toNatClampNeg 13) 99) (Int32.toNatClampNeg 14) 104) (Int32.toNatClampNeg 15) 32) (Int32.toNatClampNeg 16) 112) (Int32.toNatClampNeg 17) 97) (Int32.toNatClampNeg 18) 114) (Int32.toNatClampNeg 19) 116) (Int32.toNatClampNeg 20) 121) (Int32.toNatClampNeg 21) 32) (Int32.toNatClampNeg 22) 109) (Int32.toNatClampNeg 23) 111) (Int32.toNatClampNeg 24) 118) (Int32.toNatClampNeg 25) 101) (Int32.toNatClampNeg 26) 32) (Int32.toNatClampNeg 27) 119)) dX12_init_259 (rfl : 259 + 1 = 260) (by omega) kU_s (vp_in_iff.mpr (by decide)) ?_
  rw [kU_kU]
  refine k_dup dX12_init_260 (rfl : 260 + 1 = 261) rfl ?_
  refine k_bipush (v := 29) dX12_init_261 (rfl : 261 + 2 = 263) (by decide) ?_
  refine k_bipush (v := 110) dX12_init_263 (rfl : 263 + 2 = 265) (by decide) ?_
  refine k_iast (n := 52) (f := (upd (upd (upd (upd (upd (upd (upd (upd (upd (upd (upd (upd (upd (upd (upd (upd (upd (upd (upd (upd (upd (upd (upd (upd (upd (upd (upd (upd (upd (fun _ => 0) (Int32.toNatClampNeg 0) 116) (Int32.toNatClampNeg 1) 114) (Int32.toNatClampNeg 2) 101) (Int32.toNatClampNeg 3) 101) (Int32.toNatClampNeg 4) 32) (Int32.toNatClampNeg 5) 102) (Int32.toNatClampNeg 6) 101) (Int32.toNatClampNeg 7) 108) (Int32.toNatClampNeg 8) 108) (Int32.toNatClampNeg 9) 32) (Int32.toNatClampNeg 10) 98) (Int32.toNatClampNeg 11) 101) (Int32.toNatClampNeg 12) 110) (Int32.toNatClampNeg 13) 99) (Int32.toNatClampNeg 14) 104) (Int32.toNatClampNeg 15) 32) (Int32.toNatClampNeg 16) 112) (Int32.toNatClampNeg 17) 97) (Int32.toNatClampNeg 18) 114) (Int32.toNatClampNeg 19) 116) (Int32.toNatClampNeg 20) 121) (Int32.toNatClampNeg 21) 32) (Int32.toNatClampNeg 22) 109) (Int32.toNatClampNeg 23) 111) (Int32.toNatClampNeg 24) 118) (Int32.toNatClampNeg 25) 101) (Int32.toNatClampNeg 26) 32) (Int32.toNatClampNeg 27) 119) (Int32.toNatClampNeg 28) 105)) dX12_init_265 (rfl : 265 + 1 = 266) (by omega) kU_s (vp_in_iff.mpr (by decide)) ?_
  rw [kU_kU]
  refine k_dup dX12_init_266 (rfl : 266 + 1 = 267) rfl ?_
  refine k_bipush (v := 30) dX12_init_267 (rfl : 267 + 2 = 269) (by decide) ?_
  refine k_bipush (v := 100) dX12_init_269 (rfl : 269 + 2 = 271) (by decide) ?_
  refine k_iast (n := 52) (f := (upd (upd (upd (upd (upd (upd (upd (upd (upd (upd (upd (upd (upd (upd (upd (upd (upd (upd (upd (upd (upd (upd (upd (upd (upd (upd (upd (upd (upd (upd (fun _ => 0) (Int32.toNatClampNeg 0) 116) (Int32.toNatClampNeg 1) 114) (Int32.toNatClampNeg 2) 101) (Int32.toNatClampNeg 3) 101) (Int32.toNatClampNeg 4) 32) (Int32.toNatClampNeg 5) 102) (Int32.toNatClampNeg 6) 101) (Int32.toNatClampNeg 7) 108) (Int32.toNatClampNeg 8) 108) (Int32.toNatClampNeg 9) 32) (Int32.toNatClampNeg 10) 98) (Int32.toNatClampNeg 11) 101) (Int32.toNatClampNeg 12) 110) (Int32.toNatClampNeg 13) 99) (Int32.toNatClampNeg 14) 104) (Int32.toNatClampNeg 15) 32) (Int32.toNatClampNeg 16) 112) (Int32.toNatClampNeg 17) 97) (Int32.toNatClampNeg 18) 114) (Int32.toNatClampNeg 19) 116) (Int32.toNatClampNeg 20) 121) (Int32.toNatClampNeg 21) 32) (Int32.toNatClampNeg 22) 109) (Int32.toNatClampNeg 23) 111) (Int32.toNatClampNeg 24) 118) (Int32.toNatClampNeg 25) 101) (Int32.toNatClampNeg 26) 32) (Int32.toNatClampNeg 27) 119) (Int32.toNatClampNeg 28) 105) (Int32.toNatClampNeg 29) 110)) dX12_init_271 (rfl : 271 + 1 = 272) (by omega) kU_s (vp_in_iff.mpr (by decide)) ?_
  rw [kU_kU]
  refine k_dup dX12_init_272 (rfl : 272 + 1 = 273) rfl ?_
  refine k_bipush (v := 31) dX12_init_273 (rfl : 273 + 2 = 275) (by decide) ?_
  refine k_bipush (v := 32) dX12_init_275 (rfl : 275 + 2 = 277) (by decide) ?_
  refine k_iast (n := 52) (f := (upd (upd (upd (upd (upd (upd (upd (upd (upd (upd (upd (upd (upd (upd (upd (upd (upd (upd (upd (upd (upd (upd (upd (upd (upd (upd (upd (upd (upd (upd (upd (fun _ => 0) (Int32.toNatClampNeg 0) 116) (Int32.toNatClampNeg 1) 114) (Int32.toNatClampNeg 2) 101) (Int32.toNatClampNeg 3) 101) (Int32.toNatClampNeg 4) 32) (Int32.toNatClampNeg 5) 102) (Int32.toNatClampNeg 6) 101) (Int32.toNatClampNeg 7) 108) (Int32.toNatClampNeg 8) 108) (Int32.toNatClampNeg 9) 32) (Int32.toNatClampNeg 10) 98) (Int32.toNatClampNeg 11) 101) (Int32.toNatClampNeg 12) 110) (Int32.toNatClampNeg 13) 99) (Int32.toNatClampNeg 14) 104) (Int32.toNatClampNeg 15) 32) (Int32.toNatClampNeg 16) 112) (Int32.toNatClampNeg 17) 97) (Int32.toNatClampNeg 18) 114) (Int32.toNatClampNeg 19) 116) (Int32.toNatClampNeg 20) 121) (Int32.toNatClampNeg 21) 32) (Int32.toNatClampNeg 22) 109) (Int32.toNatClampNeg 23) 111) (Int32.toNatClampNeg 24) 118) (Int32.toNatClampNeg 25) 101) (Int32.toNatClampNeg 26) 32) (Int32.toNatClampNeg 27) 119) (Int32.toNatClampNeg 28) 105) (Int32.toNatClampNeg 29) 110) (Int32.toNatClampNeg 30) 100)) dX12_init_277 (rfl : 277 + 1 = 278) (by omega) kU_s (vp_in_iff.mpr (by decide)) ?_
  rw [kU_kU]
  refine k_dup dX12_init_278 (rfl : 278 + 1 = 279) rfl ?_
  refine k_bipush (v := 32) dX12_init_279 (rfl : 279 + 2 = 281) (by decide) ?_
  refine k_bipush (v := 116) dX12_init_281 (rfl : 281 + 2 = 283) (by decide) ?_
  refine k_iast (n := 52) (f := (upd (upd (upd (upd (upd (upd (upd (upd (upd (upd (upd (upd (upd (upd (upd (upd (upd (upd (upd (upd (upd (upd (upd (upd (upd (upd (upd (upd (upd (upd (upd (upd (fun _ => 0) (Int32.toNatClampNeg 0) 116) (Int32.toNatClampNeg 1) 114) (Int32.toNatClampNeg 2) 101) (Int32.toNatClampNeg 3) 101) (Int32.toNatClampNeg 4) 32) (Int32.toNatClampNeg 5) 102) (Int32.toNatClampNeg 6) 101) (Int32.toNatClampNeg 7) 108) (Int32.toNatClampNeg 8) 108) (Int32.toNatClampNeg 9) 32) (Int32.toNatClampNeg 10) 98) (Int32.toNatClampNeg 11) 101) (Int32.toNatClampNeg 12) 110) (Int32.toNatClampNeg 13) 99) (Int32.toNatClampNeg 14) 104) (Int32.toNatClampNeg 15) 32) (Int32.toNatClampNeg 16) 112) (Int32.toNatClampNeg 17) 97) (Int32.toNatClampNeg 18) 114) (Int32.toNatClampNeg 19) 116) (Int32.toNatClampNeg 20) 121) (Int32.toNatClampNeg 21) 32) (Int32.toNatClampNeg 22) 109) (Int32.toNatClampNeg 23) 111) (Int32.toNatClampNeg 24) 118) (Int32.toNatClampNeg 25) 101) (Int32.toNatClampNeg 26) 32) (Int32.toNatClampNeg 27) 119) (Int32.toNatClampNeg 28) 105) (Int32.toNatClampNeg 29) 110) (Int32.toNatClampNeg 30) 100) (Int32.toNatClampNeg 31) 32)) dX12_init_283 (rfl : 283 + 1 = 284) (by omega) kU_s (vp_in_iff.mpr (by decide)) ?_
  rw [kU_kU]
  refine k_dup dX12_init_284 (rfl : 284 + 1 = 285) rfl ?_
  refine k_bipush (v := 33) dX12_init_285 (rfl : 285 + 2 = 287) (by decide) ?_
  refine k_bipush (v := 104) dX12_init_287 (rfl : 287 + 2 = 289) (by decide) ?_
  refine k_iast (n := 52) (f := (upd (upd (upd (upd (upd (upd (upd (upd (upd (upd (upd (upd (upd (upd (upd (upd (upd (upd (upd (upd (upd (upd (upd (upd (upd (upd (upd (upd (upd (upd (upd (upd (upd (fun _ => 0) (Int32.toNatClampNeg 0) 116) (Int32.toNatClampNeg 1) 114) (Int32.toNatClampNeg 2) 101) (Int32.toNatClampNeg 3) 101) (Int32.toNatClampNeg 4) 32) (Int32.toNatClampNeg 5) 102) (Int32.toNatClampNeg 6) 101) (Int32.toNatClampNeg 7) 108) (Int32.toNatClampNeg 8) 108) (Int32.toNatClampNeg 9) 32) (Int32.toNatClampNeg 10) 98) (Int32.toNatClampNeg 11) 101) (Int32.toNatClampNeg 12) 110) (Int32.toNatClampNeg 13) 99) (Int32.toNatClampNeg 14) 104) (Int32.toNatClampNeg 15) 32) (Int32.toNatClampNeg 16) 112) (Int32.toNatClampNeg 17) 97) (Int32.toNatClampNeg 18) 114) (Int32.toNatClampNeg 19) 116) (Int32.toNatClampNeg 20) 121) (Int32.toNatClampNeg 21) 32) (Int32.toNatClampNeg 22) 109) (Int32.toNatClampNeg 23) 111) (Int32.toNatClampNeg 24) 118) (Int32.toNatClampNeg 25) 101) (Int32.toNatClampNeg 26) 32) (Int32.toNatClampNeg 27) 119) (Int32.toNatClampNeg 28) 105) (Int32.toNatClampNeg 29) 110) (Int32.toNatClampNeg 30) 100) (Int32.toNatClampNeg 31) 32) (Int32.toNatClampNeg 32) 116)) dX12_init_289 (rfl : 289 + 1 = 290) (by omega) kU_s (vp_in_iff.mpr (by decide)) ?_
  rw [kU_kU]
  refine k_dup dX12_init_290 (rfl : 290 + 1 = 291) rfl ?_
  refine k_bipush (v := 34) dX12_init_291 (rfl : 291 + 2 = 293) (by decide) ?_
  refine k_bipush (v := 114) dX12_init_293 (rfl : 293 + 2 = 295) (by decide) ?_
  refine k_iast (n := 52) (f := (upd (upd (upd (upd (upd (upd (upd (upd (upd (upd (upd (upd (upd (upd (upd (upd (upd (upd (upd (upd (upd (upd (upd (upd (upd (upd (upd (upd (upd (upd (upd (upd (upd (upd (fun _ => 0) (Int32.toNatClampNeg 0) 116) (Int32.toNatClampNeg 1) 114) (Int32.toNatClampNeg 2) 101) (Int32.toNatClampNeg 3) 101) (Int32.toNatClampNeg 4) 32) (Int32.toNatClampNeg 5) 102) (Int32.toNatClampNeg 6) 101) (Int32.toNatClampNeg 7) 108) (Int32.toNatClampNeg 8) 108) (Int32.toNatClampNeg 9) 32) (Int32.toNatClampNeg 10) 98) (Int32.toNatClampNeg 11) 101) (Int32.toNatClampNeg 12) 110) (Int32.toNatClampNeg 13) 99) (Int32.toNatClampNeg 14) 104) (Int32.toNatClampNeg 15) 32) (Int32.toNatClampNeg 16) 112) (Int32.toNatClampNeg 17) 97) (Int32.toNatClampNeg 18) 114) (Int32.toNatClampNeg 19) 116) (Int32.toNatClampNeg 20) 121) (Int32.toNatClampNeg 21) 32) (Int32.toNatClampNeg 22) 109) (Int32.toNatClampNeg 23) 111) (Int32.toNatClampNeg 24) 118) (Int32.toNatClampNeg 25) 101) (Int32.toNatClampNeg 26) 32) (Int32.toNatClampNeg 27) 119) (Int32.toNatClampNeg 28) 105) (Int32.toNatClampNeg 29) 110) (Int32.toNatClampNeg 30) 100) (Int32.toNatClampNeg 31) 32) (Int32.toNatClampNeg 32) 116) (Int32.toNatClampNeg 33) 104)) dX12_init_295 (rfl : 295 + 1 = 296) (by omega) kU_s (vp_in_iff.mpr (by decide)) ?_
  rw [kU_kU]
  refine k_dup dX12_init_296 (rfl : 296 + 1 = 297) rfl ?_
  refine k_bipush (v := 35) dX12_init_297 (rfl : 297 + 2 = 299) (by decide) ?_
  refine k_bipush (v := 111) dX12_init_299 (rfl : 299 + 2 = 301) (by decide) ?_
  refine k_iast (n := 52) (f := (upd (upd (upd (upd (upd (upd (upd (upd (upd (upd (upd (upd (upd (upd (upd (upd (upd (upd (upd (upd (upd (upd (upd (upd (upd (upd (upd (upd (upd (upd (upd (upd (upd (upd (upd (fun _ => 0) (Int32.toNatClampNeg 0) 116) (Int32.toNatClampNeg 1) 114) (Int32.toNatClampNeg 2) 101) (Int32.toNatClampNeg 3) 101) (Int32.toNatClampNeg 4) 32) (Int32.toNatClampNeg 5) 102) (Int32.toNatClampNeg 6) 101) (Int32.toNatClampNeg 7) 108) (Int32.toNatClampNeg 8) 108) (Int32.toNatClampNeg 9) 32) (Int32.toNatClampNeg 10) 98) (Int32.toNatClampNeg 11) 101) (Int32.toNatClampNeg 12) 110) (Int32.toNatClampNeg 13) 99) (Int32.toNatClampNeg 14) 104) (Int32.toNatClampNeg 15) 32) (Int32.toNatClampNeg 16) 112) (Int32.toNatClampNeg 17) 97) (Int32.toNatClampNeg 18) 114) (Int32.toNatClampNeg 19) 116) (Int32.toNatClampNeg 20) 121) (Int32.toNatClampNeg 21) 32) (Int32.toNatClampNeg 22) 109) (Int32.toNatClampNeg 23) 111) (Int32.toNatClampNeg 24) 118) (Int32.toNatClampNeg 25) 101) (Int32.toNatClampNeg 26) 32) (Int32.toNatClampNeg 27) 119) (Int32.toNatClampNeg 28) 105) (Int32.toNatClampNeg 29) 110) (Int32.toNatClampNeg 30) 100) (Int32.toNatClampNeg 31) 32) (Int32.toNatClampNeg 32) 116) (Int32.toNatClampNeg 33) 104) (Int32.toNatClampNeg 34) 114)) dX12_init_301 (rfl : 301 + 1 = 302) (by omega) kU_s (vp_in_iff.mpr (by decide)) ?_
  rw [kU_kU]
  refine k_dup dX12_init_302 (rfl : 302 + 1 = 303) rfl ?_
  refine k_bipush (v := 36) dX12_init_303 (rfl : 303 + 2 = 305) (by decide) ?_
  refine k_bipush (v := 119) dX12_init_305 (rfl : 305 + 2 = 307) (by decide) ?_
  refine k_iast (n := 52) (f := (upd (upd (upd (upd (upd (upd (upd (upd (upd (upd (upd (upd (upd (upd (upd (upd (upd (upd (upd (upd (upd (upd (upd (upd (upd (upd (upd (upd (upd (upd (upd (upd (upd (upd (upd (upd (fun _ => 0) (Int32.toNatClampNeg 0) 116) (Int32.toNatClampNeg 1) 114) (Int32.toNatClampNeg 2) 101) (Int32.toNatClampNeg 3) 101) (Int32.toNatClampNeg 4) 32) (Int32.toNatClampNeg 5) 102) (Int32.toNatClampNeg 6) 101) (Int32.toNatClampNeg 7) 108) (Int32.toNatClampNeg 8) 108) (Int32.toNatClampNeg 9) 32) (Int32.toNatClampNeg 10) 98) (Int32.toNatClampNeg 11) 101) (Int32.toNatClampNeg 12) 110) (Int32.toNatClampNeg 13) 99) (Int32.toNatClampNeg 14) 104) (Int32.toNatClampNeg 15) 32) (Int32.toNatClampNeg 16) 112) (Int32.toNatClampNeg 17) 97) (Int32.toNatClampNeg 18) 114) (Int32.toNatClampNeg 19) 116) (Int32.toNatClampNeg 20) 121) (Int32.toNatClampNeg 21) 32) (Int32.toNatClampNeg 22) 109) (Int32.toNatClampNeg 23) 111) (Int32.toNatClampNeg 24) 118) (Int32.toNatClampNeg 25) 101) (Int32.toNatClampNeg 26) 32) (Int32.toNatClampNeg 27) 119) (Int32.toNatClampNeg 28) 105) (Int32.toNatClampNeg 29) 110) (Int32.toNatClampNeg 30) 100) (Int32.toNatClampNeg 31) 32) (Int32.toNatClampNeg 32) 116) (Int32.toNatClampNeg 33) 104) (Int32.toNatClampNeg 34) 114) (Int32.toNatClampNeg 35) 111)) dX12_init_307 (rfl : 307 + 1 = 308) (by omega) kU_s (vp_in_iff.mpr (by decide)) ?_
  rw [kU_kU]
  refine k_dup dX12_init_308 (rfl : 308 + 1 = 309) rfl ?_
  refine k_bipush (v := 37) dX12_init_309 (rfl : 309 + 2 = 311) (by decide) ?_
  refine k_bipush (v := 32) dX12_init_311 (rfl : 311 + 2 = 313) (by decide) ?_
  refine k_iast (n := 52) (f := (upd (upd (upd (upd (upd (upd (upd (upd (upd (upd (upd (upd (upd (upd (upd (upd (upd (upd (upd (upd (upd (upd (upd (upd (upd (upd (upd (upd (upd (upd (upd (upd (upd (upd (upd (upd (upd (fun _ => 0) (Int32.toNatClampNeg 0) 116) (Int32.toNatClampNeg 1) 114) (Int32.toNatClampNeg 2) 101) (Int32.toNatClampNeg 3) 101) (Int32.toNatClampNeg 4) 32) (Int32.toNatClampNeg 5) 102) (Int32.toNatClampNeg 6) 101) (Int32.toNatClampNeg 7) 108) (Int32.toNatClampNeg 8) 108) (Int32.toNatClampNeg 9) 32) (Int32.toNatClampNeg 10) 98) (Int32.toNatClampNeg 11) 101) (Int32.toNatClampNeg 12) 110) (Int32.toNatClampNeg 13) 99) (Int32.toNatClampNeg 14) 104) (Int32.toNatClampNeg 15) 32) (Int32.toNatClampNeg 16) 112) (Int32.toNatClampNeg 17) 97) (Int32.toNatClampNeg 18) 114) (Int32.toNatClampNeg 19) 116) (Int32.toNatClampNeg 20) 121) (Int32.toNatClampNeg 21) 32) (Int32.toNatClampNeg 22) 109) (Int32.toNatClampNeg 23) 111) (Int32.toNatClampNeg 24) 118) (Int32.toNatClampNeg 25) 101) (Int32.toNatClampNeg 26) 32) (Int32.toNatClampNeg 27) 119) (Int32.toNatClampNeg 28) 105) (Int32.toNatClampNeg 29) 110) (Int32.toNatClampNeg 30) 100) (Int32.toNatClampNeg 31) 32) (Int32.toNatClampNeg 32) 116) (Int32.toNatClampNeg 33) 104) (Int32.toNatClampNeg 34) 114) (Int32.toNatClampNeg 35) 111) (Int32.toNatClampNeg 36) 119)) dX12_init_313 (rfl : 313 + 1 = 314) (by omega) kU_s (vp_in_iff.mpr (by decide)) ?_
  rw [kU_kU]
  refine k_dup dX12_init_314 (rfl : 314 + 1 = 315) rfl ?_
  refine k_bipush (v := 38) dX12_init_315 (rfl : 315 + 2 = 317) (by decide) ?_
  refine k_bipush (v := 98) dX12_init_317 (rfl : 317 + 2 = 319) (by decide) ?_
  refine k_iast (n := 52) (f := (upd (upd (upd (upd (upd (upd (upd (upd (upd (upd (upd (upd (upd (upd (upd (upd (upd (upd (upd (upd (upd (upd (upd (upd (upd (upd (upd (upd (upd (upd (upd (upd (upd (upd (upd (upd (upd (upd (fun _ => 0) (Int32.toNatClampNeg 0) 116) (Int32.toNatClampNeg 1) 114) (Int32.toNatClampNeg 2) 101) (Int32.toNatClampNeg 3) 101) (Int32.toNatClampNeg 4) 32) (Int32.toNatClampNeg 5) 102) (Int32.toNatClampNeg 6) 101) (Int32.toNatClampNeg 7) 108) (Int32.toNatClampNeg 8) 108) (Int32.toNatClampNeg 9) 32) (Int32.toNatClampNeg 10) 98) (Int32.toNatClampNeg 11) 101) (Int32.toNatClampNeg 12) 110) (Int32.toNatClampNeg 13) 99) (Int32.toNatClampNeg 14) 104) (Int32.toNatClampNeg 15) 32) (Int32.toNatClampNeg 16) 112) (Int32.toNatClampNeg 17) 97) (Int32.toNatClampNeg 18) 114) (Int32.toNatClampNeg 19) 116) (Int32.toNatClampNeg 20) 121) (Int32.toNatClampNeg 21) 32) (Int32.toNatClampNeg 22) 109) (Int32.toNatClampNeg 23) 111) (Int32.toNatClampNeg 24) 118) (Int32.toNatClampNeg 25) 101) (Int32.toNatClampNeg 26) 32) (Int32.toNatClampNeg 27) 119) (Int32.toNatClampNeg 28) 105) (Int32.toNatClampNeg 29) 110) (Int32.toNatClampNeg 30) 100) (Int32.toNatClampNeg 31) 32) (Int32.toNatClampNeg 32) 116) (Int32.toNatClampNeg 33) 104) (Int32.toNatClampNeg 34) 114) (Int32.toNatClampNeg 35) 111) (Int32.toNatClampNeg 36) 119) (Int32.toNatClampNeg 37) 32)) dX12_init_319 (rfl : 319 + 1 = 320) (by omega) kU_s (vp_in_iff.mpr (by decide)) ?_
  rw [kU_kU]
  refine k_dup dX12_init_320 (rfl : 320 + 1 = 321) rfl ?_
  refine k_bipush (v := 39) dX12_init_321 (rfl : 321 + 2 = 323) (by decide) ?_
  refine k_bipush (v := 117) dX12_init_323 (rfl : 323 + 2 = 325) (by decide) ?_
  refine k_iast (n := 52) (f := (upd (upd (upd (upd (upd (upd (upd (upd (upd (upd (upd (upd (upd (upd (upd (upd (upd (upd (upd (upd (upd (upd (upd (upd (upd (upd (upd (upd (upd (upd (upd (upd (upd (upd (upd (upd (upd (upd (upd (fun _ => 0) (Int32.toNatClampNeg 0) 116) (Int32.toNatClampNeg 1) 114) (Int32.toNatClampNeg 2) 101) (Int32.toNatClampNeg 3) 101) (Int32.toNatClampNeg 4) 32) (Int32.toNatClampNeg 5) 102) (Int32.toNatClampNeg 6) 101) (Int32.toNatClampNeg 7) 108) (Int32.toNatClampNeg 8) 108) (Int32.toNatClampNeg 9) 32) (Int32.toNatClampNeg 10) 98) (Int32.toNatClampNeg 11) 101) (Int32.toNatClampNeg 12) 110) (Int32.toNatClampNeg 13) 99) (Int32.toNatClampNeg 14) 104) (Int32.toNatClampNeg 15) 32) (Int32.toNatClampNeg 16) 112) (Int32.toNatClampNeg 17) 97) (Int32.toNatClampNeg 18) 114) (Int32.toNatClampNeg 19) 116) (Int32.toNatClampNeg 20) 121) (Int32.toNatClampNeg 21) 32) (Int32.toNatClampNeg 22) 109) (Int32.toNatClampNeg 23) 111) (Int32.toNatClampNeg 24) 118) (Int32.toNatClampNeg 25) 101) (Int32.toNatClampNeg 26) 32) (Int32.toNatClampNeg 27) 119) (Int32.toNatClampNeg 28) 105) (Int32.toNatClampNeg 29) 110) (Int32.toNatClampNeg 30) 100) (Int32.toNatClampNeg 31) 32) (Int32.toNatClampNeg 32) 116) (Int32.toNatClampNeg 33) 104) (Int32.toNatClampNeg 34) 114) (Int32.toNatClampNeg 35) 111) (Int32.toNatClampNeg 36) 119) (Int32.toNatClampNeg 37) 32) (Int32.toNatClampNeg 38) 98)) dX12_init_325 (rfl : 325 + 1 = 326) (by omega) kU_s (vp_in_iff.mpr (by decide)) ?_
  rw [kU_kU]
  refine k_dup dX12_init_326 (rfl : 326 + 1 = 327) rfl ?_
  refine k_bipush (v := 40) dX12_init_327 (rfl : 327 + 2 = 329) (by decide) ?_
  refine k_bipush (v := 121) dX12_init_329 (rfl : 329 + 2 = 331) (by decide) ?_
  refine k_iast (n := 52) (f := (upd (upd (upd (upd (upd (upd (upd (upd (upd (upd (upd (upd (upd (upd (upd (upd (upd (upd (upd (upd (upd (upd (upd (upd (upd (upd (upd (upd (upd (upd (upd (upd (upd (upd (upd (upd (upd (upd (upd (upd (fun _ => 0) (Int32.toNatClampNeg 0) 116) (Int32.toNatClampNeg 1) 114) (Int32.toNatClampNeg 2) 101) (Int32.toNatClampNeg 3) 101) (Int32.toNatClampNeg 4) 32) (Int32.toNatClampNeg 5) 102) (Int32.toNatClampNeg 6) 101) (Int32.toNatClampNeg 7) 108) (Int32.toNatClampNeg 8) 108) (Int32.toNatClampNeg 9) 32) (Int32.toNatClampNeg 10) 98) (Int32.toNatClampNeg 11) 101) (Int32.toNatClampNeg 12) 110) (Int32.toNatClampNeg 13) 99) (Int32.toNatClampNeg 14) 104) (Int32.toNatClampNeg 15) 32) (Int32.toNatClampNeg 16) 112) (Int32.toNatClampNeg 17) 97) (Int32.toNatClampNeg 18) 114) (Int32.toNatClampNeg 19) 116) (Int32.toNatClampNeg 20) 121) (Int32.toNatClampNeg 21) 32) (Int32.toNatClampNeg 22) 109) (Int32.toNatClampNeg 23) 111) (Int32.toNatClampNeg 24) 118) (Int32.toNatClampNeg 25) 101) (Int32.toNatClampNeg 26) 32) (Int32.toNatClampNeg 27) 119) (Int32.toNatClampNeg 28) 105) (Int32.toNatClampNeg 29) 110) (Int32.toNatClampNeg 30) 100) (Int32.toNatClampNeg 31) 32) (Int32.toNatClampNeg 32) 116) (Int32.toNatClampNeg 33) 104) (Int32.toNatClampNeg 34) 114) (Int32.toNatClampNeg 35) 111) (Int32.toNatClampNeg 36) 119) (Int32.toNatClampNeg 37) 32) (Int32.toNatClampNeg 38) 98) (Int32.toNatClampNeg 39) 117)) dX12_init_331 (rfl : 331 + 1 = 332) (by omega) kU_s (vp_in_iff.mpr (by decide)) ?_
  rw [kU_kU]
  refine k_dup dX12_init_332 (rfl : 332 + 1 = 333) rfl ?_
  refine k_bipush (v := 41) dX12_init_333 (rfl : 333 + 2 = 335) (by decide) ?_
  refine k_bipush (v := 32) dX12_init_335 (rfl : 335 + 2 = 337) (by decide) ?_
  refine k_iast (n := 52) (f := (upd (upd (upd (upd (upd (upd (upd (upd (upd (upd (upd (upd (upd (upd (upd (upd (upd (upd (upd (upd (upd (upd (upd (upd (upd (upd (upd (upd (upd (upd (upd (upd (upd (upd (upd (upd (upd (upd (upd (upd (upd (fun _ => 0) (Int32.toNatClampNeg 0) 116) (Int32.toNatClampNeg 1) 114) (Int32.toNatClampNeg 2) 101) (Int32.toNatClampNeg 3) 101) (Int32.toNatClampNeg 4) 32) (Int32.toNatClampNeg 5) 102) (Int32.toNatClampNeg 6) 101) (Int32.toNatClampNeg 7) 108) (Int32.toNatClampNeg 8) 108) (Int32.toNatClampNeg 9) 32) (Int32.toNatClampNeg 10) 98) (Int32.toNatClampNeg 11) 101) (Int32.toNatClampNeg 12) 110) (Int32.toNatClampNeg 13) 99) (Int32.toNatClampNeg 14) 104) (Int32.toNatClampNeg 15) 32) (Int32.toNatClampNeg 16) 112) (Int32.toNatClampNeg 17) 97) (Int32.toNatClampNeg 18) 114) (Int32.toNatClampNeg 19) 116) (Int32.toNatClampNeg 20) 121) (Int32.toNatClampNeg 21) 32) (Int32.toNatClampNeg 22) 109) (Int32.toNatClampNeg 23) 111) (Int32.toNatClampNeg 24) 118) (Int32.toNatClampNeg 25) 101) (Int32.toNatClampNeg 26) 32) (Int32.toNatClampNeg 27) 119) (Int32.toNatClampNeg 28) 105) (Int32.toNatClampNeg 29) 110) (Int32.toNatClampNeg 30) 100) (Int32.toNatClampNeg 31) 32) (Int32.toNatClampNeg 32) 116) (Int32.toNatClampNeg 33) 104) (Int32.toNatClampNeg 34) 114) (Int32.toNatClampNeg 35) 111) (Int32.toNatClampNeg 36) 119) (Int32.toNatClampNeg 37) 32) (Int32.toNatClampNeg 38) 98) (Int32.toNatClampNeg 39) 117) (Int32.toNatClampNeg 40) 121)) dX12_init_337 (rfl : 337 + 1 = 338) (by omega) kU_s (vp_in_iff.mpr (by decide)) ?_
  rw [kU_kU]
  refine k_dup dX12_init_338 (rfl : 338 + 1 = 339) rfl ?_
  refine k_bipush (v := 42) dX12_init_339 (rfl : 339 + 2 = 341) (by decide) ?_
  refine k_bipush (v := 104) dX12_init_341 (rfl : 341 + 2 = 343) (by decide) ?_
  refine k_iast (n := 52) (f := (upd (upd (upd (upd (upd (upd (upd (upd (upd (upd (upd (upd (upd (upd (upd (upd (upd (upd (upd (upd (upd (upd (upd (upd (upd (upd (upd (upd (upd (upd (upd (upd (upd (upd (upd (upd (upd (upd (upd (upd (upd (upd (fun _ => 0) (Int32.toNatClampNeg 0) 116) (Int32.toNatClampNeg 1) 114) (Int32.toNatClampNeg 2) 101) (Int32.toNatClampNeg 3) 101) (Int32.toNatClampNeg 4) 32) (Int32.toNatClampNeg 5) 102) (Int32.toNatClampNeg 6) 101) (Int32.toNatClampNeg 7) 108) (Int32.toNatClampNeg 8) 108) (Int32.toNatClampNeg 9) 32) (Int32.toNatClampNeg 10) 98) (Int32.toNatClampNeg 11) 101) (Int32.toNatClampNeg 12) 110) (Int32.toNatClampNeg 13) 99) (Int32.toNatClampNeg 14) 104) (Int32.toNatClampNeg 15) 32) (Int32.toNatClampNeg 16) 112) (Int32.toNatClampNeg 17) 97) (Int32.toNatClampNeg 18) 114) (Int32.toNatClampNeg 19) 116) (Int32.toNatClampNeg 20) 121) (Int32.toNatClampNeg 21) 32) (Int32.toNatClampNeg 22) 109) (Int32.toNatClampNeg 23) 111) (Int32.toNatClampNeg 24) 118) (Int32.toNatClampNeg 25) 101) (Int32.toNatClampNeg 26) 32) (Int32.toNatClampNeg 27) 119) (Int32.toNatClampNeg 28) 105) (Int32.toNatClampNeg 29) 110) (Int32.toNatClampNeg 30) 100) (Int32.toNatClampNeg 31) 32) (Int32.toNatClampNeg 32) 116) (Int32.toNatClampNeg 33) 104) (Int32.toNatClampNeg 34) 114) (Int32.toNatClampNeg 35) 111) (Int32.toNatClampNeg 36) 119) (Int32.toNatClampNeg 37) 32) (Int32.toNatClampNeg 38) 98) (Int32.toNatClampNeg 39) 117) (Int32.toNatClampNeg 40) 121) (Int32.toNatClampNeg 41) 32)) dX12_init_343 (rfl : 343 + 1 = 344) (by omega) kU_s (vp_in_iff.mpr (by decide)) ?_
  rw [kU_kU]
  refine k_dup dX12_init_344 (rfl : 344 + 1 = 345) rfl ?_
  refine k_bipush (v := 43) dX12_init_345 (rfl : 345 + 2 = 347) (by decide) ?_
  refine k_bipush (v := 101) dX12_init_347 (rfl : 347 + 2 = 349) (by decide) ?_
  refine k_iast (n := 52) (f := (upd (upd (upd (upd (upd (upd (upd (upd (upd (upd (upd (upd (upd (upd (upd (upd (upd (upd (upd (upd (upd (upd (upd (upd (upd (upd (upd (upd (upd (upd (upd (upd (upd (upd (upd (upd (upd (upd (upd (upd (upd (upd (upd (fun _ => 0) (Int32.toNatClampNeg 0) 116) (Int32.toNatClampNeg 1) 114) (Int32.toNatClampNeg 2) 101) (Int32.toNatClampNeg 3) 101) (Int32.toNatClampNeg 4) 32) (Int32.toNatClampNeg 5) 102) (Int32.toNatClampNeg 6) 101) (Int32.toNatClampNeg 7) 108) (Int32.toNatClampNeg 8) 108) (Int32.toNatClampNeg 9) 32) (Int32.toNatClampNeg 10) 98) (Int32.toNatClampNeg 11) 101) (Int32.toNatClampNeg 12) 110) (Int32.toNatClampNeg 13) 99) (Int32.toNatClampNeg 14) 104) (Int32.toNatClampNeg 15) 32) (Int32.toNatClampNeg 16) 112) (Int32.toNatClampNeg 17) 97) (Int32.toNatClampNeg 18) 114) (Int32.toNatClampNeg 19) 116) (Int32.toNatClampNeg 20) 121) (Int32.toNatClampNeg 21) 32) (Int32.toNatClampNeg 22) 109) (Int32.toNatClampNeg 23) 111) (Int32.toNatClampNeg 24) 118) (Int32.toNatClampNeg 25) 101) (Int32.toNatClampNeg 26) 32) (Int32.toNatClampNeg 27) 119) (Int32.toNatClampNeg 28) 105) (Int32.toNatClampNeg 29) 110) (Int32.toNatClampNeg 30) 100) (Int32.toNatClampNeg 31) 32) (Int32.toNatClampNeg 32) 116) (Int32.toNatClampNeg 33) 104) (Int32.toNatClampNeg 34) 114) (Int32.toNatClampNeg 35) 111) (Int32.toNatClampNeg 36) 119) (Int32.toNatClampNeg 37) 32) (Int32.toNatClampNeg 38) 98) (Int32.toNatClampNeg 39) 117) (Int32.toNatClampNeg 40) 121) (Int32.toNatClampNeg 41) 32) (Int32.toNatClampNeg 42) 104)) dX12_init_349 (rfl : 349 + 1 = 350) (by omega) kU_s (vp_in_iff.mpr (by decide)) ?_
  rw [kU_kU]
  refine k_dup dX12_init_350 (rfl : 350 + 1 = 351) rfl ?_
  refine k_bipush (v := 44) dX12_init_351 (rfl : 351 + 2 = 353) (by decide) ?_
  refine k_bipush (v := 97) dX12_init_353 (rfl : 353 + 2 = 355) (by decide) ?_
  refine k_iast (n := 52) (f := (upd (upd (upd (upd (upd (upd (upd (upd (upd (upd (upd (upd (upd (upd (upd (upd (upd (upd (upd (upd (upd (upd (upd (upd (upd (upd (upd (upd (upd (upd (upd (upd (upd (upd (upd (upd (upd (upd (upd (upd (upd (upd (upd (upd (fun _ => 0) (Int32.toNatClampNeg 0) 116) (Int32.toNatClampNeg 1) 114) (Int32.toNatClampNeg 2) 101) (Int32.toNatClampNeg 3) 101) (Int32.toNatClampNeg 4) 32) (Int32.toNatClampNeg 5) 102) (Int32.toNatClampNeg 6) 101) (Int32.toNatClampNeg 7) 108) (Int32.toNatClampNeg 8) 108) (Int32.toNatClampNeg 9) 32) (Int32.toNatClampNeg 10) 98) (Int32.toNatClampNeg 11) 101) (Int32.toNatClampNeg 12) 110) (Int32.toNatClampNeg 13) 99) (Int32.toNatClampNeg 14) 104) (Int32.toNatClampNeg 15) 32) (Int32.toNatClampNeg 16) 112) (Int32.toNatClampNeg 17) 97) (Int32.toNatClampNeg 18) 114) (Int32.toNatClampNeg 19) 116) (Int32.toNatClampNeg 20) 121) (Int32.toNatClampNeg 21) 32) (Int32.toNatClampNeg 22) 109) (Int32.toNatClampNeg 23) 111) (Int32.toNatClampNeg 24) 118) (Int32.toNatClampNeg 25) 101) (Int32.toNatClampNeg 26) 32) (Int32.toNatClampNeg 27) 119) (Int32.toNatClampNeg 28) 105) (Int32.toNatClampNeg 29) 110) (Int32.toNatClampNeg 30) 100) (Int32.toNatClampNeg 31) 32) (Int32.toNatClampNeg 32) 116) (Int32.toNatClampNeg 33) 104) (Int32.toNatClampNeg 34) 114) (Int32.toNatClampNeg 35) 111) (Int32.toNatClampNeg 36) 119) (Int32.toNatClampNeg 37) 32) (Int32.toNatClampNeg 38) 98) (Int32.toNatClampNeg 39) 117) (Int32.toNatClampNeg 40) 121) (Int32.toNatClampNeg 41) 32) (Int32.toNatClampNeg 42) 104) (Int32.toNatClampNeg 43) 101)) dX12_init_355 (rfl : 355 + 1 = 356) (by omega) kU_s (vp_in_iff.mpr (by decide)) ?_
  rw [kU_kU]
  refine k_dup dX12_init_356 (rfl : 356 + 1 = 357) rfl ?_
  refine k_bipush (v := 45) dX12_init_357 (rfl : 357 + 2 = 359) (by decide) ?_
  refine k_bipush (v := 114) dX12_init_359 (rfl : 359 + 2 = 361) (by decide) ?_
  refine k_iast (n := 52) (f := (upd (upd (upd (upd (upd (upd (upd (upd (upd (upd (upd (upd (upd (upd (upd (upd (upd (upd (upd (upd (upd (upd (upd (upd (upd (upd (upd (upd (upd (upd (upd (upd (upd (upd (upd (upd (upd (upd (upd (upd (upd (upd (upd (upd (upd (fun _ => 0) (Int32.toNatClampNeg 0) 116) (Int32.toNatClampNeg 1) 114) (Int32.toNatClampNeg 2) 101) (Int32.toNatClampNeg 3) 101) (Int32.toNatClampNeg 4) 32) (Int32.toNatClampNeg 5) 102) (Int32.toNatClampNeg 6) 101) (Int32.toNatClampNeg 7) 108) (Int32.toNatClampNeg 8) 108) (Int32.toNatClampNeg 9) 32) (Int32.toNatClampNeg 10) 98) (Int32.toNatClampNeg 11) 101) (Int32.toNatClampNeg 12) 110) (Int32.toNatClampNeg 13) 99) (Int32.toNatClampNeg 14) 104) (Int32.toNatClampNeg 15) 32) (Int32.toNatClampNeg 16) 112) (Int32.toNatClampNeg 17) 97) (Int32.toNatClampNeg 18) 114) (Int32.toNatClampNeg 19) 116) (Int32.toNatClampNeg 20) 121) (Int32.toNatClampNeg 21) 32) (Int32.toNatClampNeg 22) 109) (Int32.toNatClampNeg 23) 111) (Int32.toNatClampNeg 24) 118) (Int32.toNatClampNeg 25) 101) (Int32.toNatClampNeg 26) 32) (Int32.toNatClampNeg 27) 119) (Int32.toNatClampNeg 28) 105) (Int32.toNatClampNeg 29) 110) (Int32.toNatClampNeg 30) 100) (Int32.toNatClampNeg 31) 32) (Int32.toNatClampNeg 32) 116) (Int32.toNatClampNeg 33) 104) (Int32.toNatClampNeg 34) 114) (Int32.toNatClampNeg 35) 111) (Int32.toNatClampNeg 36) 119) (Int32.toNatClampNeg 37) 32) (Int32.toNatClampNeg 38) 98) (Int32.toNatClampNeg 39) 117) (Int32.toNatClampNeg 40) 121) (Int32.toNatClampNeg 41) 32) (Int32.toNatClampNeg 42) 104) (Int32.toNatClampNeg 43) 101) (Int32.toNatClampNeg 44) 97)) dX12_init_361 (rfl : 361 + 1 = 362) (by omega) kU_s (vp_in_iff.mpr (by decide)) ?_
  rw [kU_kU]
  refine k_dup dX12_init_362 (rfl : 362 + 1 = 363) rfl ?_
  refine k_bipush (v := 46) dX12_init_363 (rfl : 363 + 2 = 365) (by decide) ?_
  refine k_bipush (v := 32) dX12_init_365 (rfl : 365 + 2 = 367) (by decide) ?_
  refine k_iast (n := 52) (f := (upd (upd (upd (upd (upd (upd (upd (upd (upd (upd (upd (upd (upd (upd (upd (upd (upd (upd (upd (upd (upd (upd (upd (upd (upd (upd (upd (upd (upd (upd (upd (upd (upd (upd (upd (upd (upd (upd (upd (upd (upd (upd (upd (upd (upd (upd (fun _ => 0) (Int32.toNatClampNeg 0) 116) (Int32.toNatClampNeg 1) 114) (Int32.toNatClampNeg 2) 101) (Int32.toNatClampNeg 3) 101) (Int32.toNatClampNeg 4) 32) (Int32.toNatClampNeg 5) 102) (Int32.toNatClampNeg 6) 101) (Int32.toNatClampNeg 7) 108) (Int32.toNatClampNeg 8) 108) (Int32.toNatClampNeg 9) 32) (Int32.toNatClampNeg 10) 98) (Int32.toNatClampNeg 11) 101) (Int32.toNatClampNeg 12) 110) (Int32.toNatClampNeg 13) 99) (Int32.toNatClampNeg 14) 104) (Int32.toNatClampNeg 15) 32) (Int32.toNatClampNeg 16) 112) (Int32.toNatClampNeg 17) 97) (Int32.toNatClampNeg 18) 114) (Int32.toNatClampNeg 19) 116) (Int32.toNatClampNeg 20) 121) (Int32.toNatClampNeg 21) 32) (Int32.toNatClampNeg 22) 109) (Int32.toNatClampNeg 23) 111) (Int32.toNatClampNeg 24) 118) (Int32.toNatClampNeg 25) 101) (Int32.toNatClampNeg 26) 32) (Int32.toNatClampNeg 27) 119) (Int32.toNatClampNeg 28) 105) (Int32.toNatClampNeg 29) 110) (Int32.toNatClampNeg 30) 100) (Int32.toNatClampNeg 31) 32) (Int32.toNatClampNeg 32) 116) (Int32.toNatClampNeg 33) 104) (Int32.toNatClampNeg 34) 114) (Int32.toNatClampNeg 35) 111) (Int32.toNatClampNeg 36) 119) (Int32.toNatClampNeg 37) 32) (Int32.toNatClampNeg 38) 98) (Int32.toNatClampNeg 39) 117) (Int32.toNatClampNeg 40) 121) (Int32.toNatClampNeg 41) 32) (Int32.toNatClampNeg 42) 104) (Int32.toNatClampNeg 43) 101) (Int32.toNatClampNeg 44) 97) (Int32.toNatClampNeg 45) 114)) dX12_init_367 (rfl : 367 + 1 = 368) (by omega) kU_s (vp_in_iff.mpr (by decide)) ?_
  rw [kU_kU]
  refine k_dup dX12_init_368 (rfl : 368 + 1 = 369) rfl ?_
  refine k_bipush (v := 47) dX12_init_369 (rfl : 369 + 2 = 371) (by decide) ?_
  refine k_bipush (v := 112) dX12_init_371 (rfl : 371 + 2 = 373) (by decide) ?_
  refine k_iast (n := 52) (f := (upd (upd (upd (upd (upd (upd (upd (upd (upd (upd (upd (upd (upd (upd (upd (upd (upd (upd (upd (upd (upd (upd (upd (upd (upd (upd (upd (upd (upd (upd (upd (upd (upd (upd (upd (upd (upd (upd (upd (upd (upd (upd (upd (upd (upd (upd (upd (fun _ => 0) (Int32.toNatClampNeg 0) 116) (Int32.toNatClampNeg 1) 114) (Int32.toNatClampNeg 2) 101) (Int32.toNatClampNeg 3) 101) (Int32.toNatClampNeg 4) 32) (Int32.toNatClampNeg 5) 102) (Int32.toNatClampNeg 6) 101) (Int32.toNatClampNeg 7) 108) (Int32.toNatClampNeg 8) 108) (Int32.toNatClampNeg 9) 32) (Int32.toNatClampNeg 10) 98) (Int32.toNatClampNeg 11) 101) (Int32.toNatClampNeg 12) 110) (Int32.toNatClampNeg 13) 99) (Int32.toNatClampNeg 14) 104) (Int32.toNatClampNeg 15) 32) (Int32.toNatClampNeg 16) 112) (Int32.toNatClampNeg 17) 97) (Int32.toNatClampNeg 18) 114) (Int32.toNatClampNeg 19) 116) (Int32.toNatClampNeg 20) 121) (Int32.toNatClampNeg 21) 32) (Int32.toNatClampNeg 22) 109) (Int32.toNatClampNeg 23) 111) (Int32.toNatClampNeg 24) 118) (Int32.toNatClampNeg 25) 101) (Int32.toNatClampNeg 26) 32) (Int32.toNatClampNeg 27) 119) (Int32.toNatClampNeg 28) 105) (Int32.toNatClampNeg 29) 110) (Int32.toNatClampNeg 30) 100) (Int32.toNatClampNeg 31) 32) (Int32.toNatClampNeg 32) 116) (Int32.toNatClampNeg 33) 104) (Int32.toNatClampNeg 34) 114) (Int32.toNatClampNeg 35) 111) (Int32.toNatClampNeg 36) 119) (Int32.toNatClampNeg 37) 32) (Int32.toNatClampNeg 38) 98) (Int32.toNatClampNeg 39) 117) (Int32.toNatClampNeg 40) 121) (Int32.toNatClampNeg 41) 32) (Int32.toNatClampNeg 42) 104) (Int32.toNatClampNeg 43) 101) (Int32.toNatClampNeg 44) 97) (Int32.toNatClampNeg 45) 114) (Int32.toNatClampNeg 46) 32)) dX12_init_373 (rfl : 373 + 1 = 374) (by omega) kU_s (vp_in_iff.mpr (by decide)) ?_
  rw [kU_kU]
  refine k_dup dX12_init_374 (rfl : 374 + 1 = 375) rfl ?_
  refine k_bipush (v := 48) dX12_init_375 (rfl : 375 + 2 = 377) (by decide) ?_
  refine k_bipush (v := 97) dX12_init_377 (rfl : 377 + 2 = 379) (by decide) ?_
  refine k_iast (n := 52) (f := (upd (upd (upd (upd (upd (upd (upd (upd (upd (upd (upd (upd (upd (upd (upd (upd (upd (upd (upd (upd (upd (upd (upd (upd (upd (upd (upd (upd (upd (upd (upd (upd (upd (upd (upd (upd (upd (upd (upd (upd (upd (upd (upd (upd (upd (upd (upd (upd (fun _ => 0) (Int32.toNatClampNeg 0) 116) (Int32.toNatClampNeg 1) 114) (Int32.toNatClampNeg 2) 101) (Int32.toNatClampNeg 3) 101) (Int32.toNatClampNeg 4) 32) (Int32.toNatClampNeg 5) 102) (Int32.toNatClampNeg 6) 101) (Int32.toNatClampNeg 7) 108) (Int32.toNatClampNeg 8) 108) (Int32.toNatClampNeg 9) 32) (Int32.toNatClampNeg 10) 98) (Int32.toNatClampNeg 11) 101) (Int32.toNatClampNeg 12) 110) (Int32.toNatClampNeg 13) 99) (Int32.toNatClampNeg 14) 104) (Int32.toNatClampNeg 15) 32) (Int32.toNatClampNeg 16) 112) (Int32.toNatClampNeg 17) 97) (Int32.toNatClampNeg 18) 114) (Int32.toNatClampNeg 19) 116) (Int32.toNatClampNeg 20) 121) (Int32.toNatClampNeg 21) 32) (Int32.toNatClampNeg 22) 109) (Int32.toNatClampNeg 23) 111) (Int32.toNatClampNeg 24) 118) (Int32.toNatClampNeg 25) 101) (Int32.toNatClampNeg 26) 32) (Int32.toNatClampNeg 27) 119) (Int32.toNatClampNeg 28) 105) (Int32.toNatClampNeg 29) 110) (Int32.toNatClampNeg 30) 100) (Int32.toNatClampNeg 31) 32) (Int32.toNatClampNeg 32) 116) (Int32.toNatClampNeg 33) 104) (Int32.toNatClampNeg 34) 114) (Int32.toNatClampNeg 35) 111) (Int32.toNatClampNeg 36) 119) (Int32.toNatClampNeg 37) 32) (Int32.toNatClampNeg 38) 98) (Int32.toNatClampNeg 39) 117) (Int32.toNatClampNeg 40) 121) (Int32.toNatClampNeg 41) 32) (Int32.toNatClampNeg 42) 104) (Int32.toNatClampNeg 43) 101) (Int32.toNatClampNeg 44) 97) (Int32.toNatClampNeg 45) 114) (Int32.toNatClampNeg 46) 32) (Int32.toNatClampNeg 47) 112)) dX12_init_379 (rfl : 379 + 1 = 380) (by omega) kU_s (vp_in_iff.mpr (by decide)) ?_
  rw [kU_kU]
  refine k_dup dX12_init_380 (rfl : 380 + 1 = 381) rfl ?_
  refine k_bipush (v := 49) dX12_init_381 (rfl : 381 + 2 = 383) (by decide) ?_
  refine k_bipush (v := 115) dX12_init_383 (rfl : 383 + 2 = 385) (by decide) ?_
  refine k_iast (n := 52) (f := (upd (upd (upd (upd (upd (upd (upd (upd (upd (upd (upd (upd (upd (upd (upd (upd (upd (upd (upd (upd (upd (upd (upd (upd (upd (upd (upd (upd (upd (upd (upd (upd (upd (upd (upd (upd (upd (upd (upd (upd (upd (upd (upd (upd (upd (upd (upd (upd (upd (fun _ => 0) (Int32.toNatClampNeg 0) 116) (Int32.toNatClampNeg 1) 114) (Int32.toNatClampNeg 2) 101) (Int32.toNatClampNeg 3) 101) (Int32.toNatClampNeg 4) 32) (Int32.toNatClampNeg 5) 102) (Int32.toNatClampNeg 6) 101) (Int32.toNatClampNeg 7) 108) (Int32.toNatClampNeg 8) 108) (Int32.toNatClampNeg 9) 32) (Int32.toNatClampNeg 10) 98) (Int32.toNatClampNeg 11) 101) (Int32.toNatClampNeg 12) 110) (Int32.toNatClampNeg 13) 99) (Int32.toNatClampNeg 14) 104) (Int32.toNatClampNeg 15) 32) (Int32.toNatClampNeg 16) 112) (Int32.toNatClampNeg 17) 97) (Int32.toNatClampNeg 18) 114) (Int32.toNatClampNeg 19) 116) (Int32.toNatClampNeg 20) 121) (Int32.toNatClampNeg 21) 32) (Int32.toNatClampNeg 22) 109) (Int32.toNatClampNeg 23) 111) (Int32.toNatClampNeg 24) 118) (Int32.toNatClampNeg 25) 101) (Int32.toNatClampNeg 26) 32) (Int32.toNatClampNeg 27) 119) (Int32.toNatClampNeg 28) 105) (Int32.toNatClampNeg 29) 110) (Int32.toNatClampNeg 30) 100) (Int32.toNatClampNeg 31) 32) (Int32.toNatClampNeg 32) 116) (Int32.toNatClampNeg 33) 104) (Int32.toNatClampNeg 34) 114) (Int32.toNatClampNeg 35) 111) (Int32.toNatClampNeg 36) 119) (Int32.toNatClampNeg 37) 32) (Int32.toNatClampNeg 38) 98) (Int32.toNatClampNeg 39) 117) (Int32.toNatClampNeg 40) 121) (Int32.toNatClampNeg 41) 32) (Int32.toNatClampNeg 42) 104) (Int32.toNatClampNeg 43) 101) (Int32.toNatClampNeg 44) 97) (Int32.toNatClampNeg 45) 114) (Int32.toNatClampNeg 46) 32) (Int32.toNatClampNeg 47) 112) (Int32.toNatClampNeg 48) 97)) dX12_init_385 (rfl : 385 + 1 = 386) (by omega) kU_s (vp_in_iff.mpr (by decide)) ?_
  rw [kU_kU]
  refine k_dup dX12_init_386 (rfl : 386 + 1 = 387) rfl ?_
  refine k_bipush (v := 50) dX12_init_387 (rfl : 387 + 2 = 389) (by decide) ?_
  refine k_bipush (v := 115) dX12_init_389 (rfl : 389 + 2 = 391) (by decide) ?_
  refine k_iast (n := 52) (f := (upd (upd (upd (upd (upd (upd (upd (upd (upd (upd (upd (upd (upd (upd (upd (upd (upd (upd (upd (upd (upd (upd (upd (upd (upd (upd (upd (upd (upd (upd (upd (upd (upd (upd (upd (upd (upd (upd (upd (upd (upd (upd (upd (upd (upd (upd (upd (upd (upd (upd (fun _ => 0) (Int32.toNatClampNeg 0) 116) (Int32.toNatClampNeg 1) 114) (Int32.toNatClampNeg 2) 101) (Int32.toNatClampNeg 3) 101) (Int32.toNatClampNeg 4) 32) (Int32.toNatClampNeg 5) 102) (Int32.toNatClampNeg 6) 101) (Int32.toNatClampNeg 7) 108) (Int32.toNatClampNeg 8) 108) (Int32.toNatClampNeg 9) 32) (Int32.toNatClampNeg 10) 98) (Int32.toNatClampNeg 11) 101) (Int32.toNatClampNeg 12) 110) (Int32.toNatClampNeg 13) 99) (Int32.toNatClampNeg 14) 104) (Int32.toNatClampNeg 15) 32) (Int32.toNatClampNeg 16) 112) (Int32.toNatClampNeg 17) 97) (Int32.toNatClampNeg 18) 114) (Int32.toNatClampNeg 19) 116) (Int32.toNatClampNeg 20) 121) (Int32.toNatClampNeg 21) 32) (Int32.toNatClampNeg 22) 109) (Int32.toNatClampNeg 23) 111) (Int32.toNatClampNeg 24) 118) (Int32.toNatClampNeg 25) 101) (Int32.toNatClampNeg 26) 32) (Int32.toNatClampNeg 27) 119) (Int32.toNatClampNeg 28) 105) (Int32.toNatClampNeg 29) 110) (Int32.toNatClampNeg 30) 100) (Int32.toNatClampNeg 31) 32) (Int32.toNatClampNeg 32) 116) (Int32.toNatClampNeg 33) 104) (Int32.toNatClampNeg 34) 114) (Int32.toNatClampNeg 35) 111) (Int32.toNatClampNeg 36) 119) (Int32.toNatClampNeg 37) 32) (Int32.toNatClampNeg 38) 98) (Int32.toNatClampNeg 39) 117) (Int32.toNatClampNeg 40) 121) (Int32.toNatClampNeg 41) 32) (Int32.toNatClampNeg 42) 104) (Int32.toNatClampNeg 43) 101) (Int32.toNatClampNeg 44) 97) (Int32.toNatClampNeg 45) 114) (Int32.toNatClampNeg 46) 32) (Int32.toNatClampNeg 47) 112) (Int32.toNatClampNeg 48) 97) (Int32.toNatClampNeg 49) 115)) dX12_init_391 (rfl : 391 + 1 = 392) (by omega) kU_s (vp_in_iff.mpr (by decide)) ?_
  rw [kU_kU]
  refine k_dup dX12_init_392 (rfl : 392 + 1 = 393) rfl ?_
  refine k_bipush (v := 51) dX12_init_393 (rfl : 393 + 2 = 395) (by decide) ?_
  refine k_bipush (v := 32) dX12_init_395 (rfl : 395 + 2 = 397) (by decide) ?_
  refine k_iast (n := 52) (f := (upd (upd (upd (upd (upd (upd (upd (upd (upd (upd (upd (upd (upd (upd (upd (upd (upd (upd (upd (upd (upd (upd (upd (upd (upd (upd (upd (upd (upd (upd (upd (upd (upd (upd (upd (upd (upd (upd (upd (upd (upd (upd (upd (upd (upd (upd (upd (upd (upd (upd (upd (fun _ => 0) (Int32.toNatClampNeg 0) 116) (Int32.toNatClampNeg 1) 114) (Int32.toNatClampNeg 2) 101) (Int32.toNatClampNeg 3) 101) (Int32.toNatClampNeg 4) 32) (Int32.toNatClampNeg 5) 102) (Int32.toNatClampNeg 6) 101) (Int32.toNatClampNeg 7) 108) (Int32.toNatClampNeg 8) 108) (Int32.toNatClampNeg 9) 32) (Int32.toNatClampNeg 10) 98) (Int32.toNatClampNeg 11) 101) (Int32.toNatClampNeg 12) 110) (Int32.toNatClampNeg 13) 99) (Int32.toNatClampNeg 14) 104) (Int32.toNatClampNeg 15) 32) (Int32.toNatClampNeg 16) 112) (Int32.toNatClampNeg 17) 97) (Int32.toNatClampNeg 18) 114) (Int32.toNatClampNeg 19) 116) (Int32.toNatClampNeg 20) 121) (Int32.toNatClampNeg 21) 32) (Int32.toNatClampNeg 22) 109) (Int32.toNatClampNeg 23) 111) (Int32.toNatClampNeg 24) 118) (Int32.toNatClampNeg 25) 101) (Int32.toNatClampNeg 26) 32) (Int32.toNatClampNeg 27) 119) (Int32.toNatClampNeg 28) 105) (Int32.toNatClampNeg 29) 110) (Int32.toNatClampNeg 30) 100) (Int32.toNatClampNeg 31) 32) (Int32.toNatClampNeg 32) 116) (Int32.toNatClampNeg 33) 104) (Int32.toNatClampNeg 34) 114) (Int32.toNatClampNeg 35) 111) (Int32.toNatClampNeg 36) 119) (Int32.toNatClampNeg 37) 32) (Int32.toNatClampNeg 38) 98) (Int32.toNatClampNeg 39) 117) (Int32.toNatClampNeg 40) 121) (Int32.toNatClampNeg 41) 32) (Int32.toNatClampNeg 42) 104) (Int32.toNatClampNeg 43) 101) (Int32.toNatClampNeg 44) 97) (Int32.toNatClampNeg 45) 114) (Int32.toNatClampNeg 46) 32) (Int32.toNatClampNeg 47) 112) (Int32.toNatClampNeg 48) 97) (Int32.toNatClampNeg 49) 115) (Int32.toNatClampNeg 50) 115)) dX12_init_397 (rfl : 397 + 1 = 398) (by omega) kU_s (vp_in_iff.mpr (by decide)) ?_
  rw [kU_kU]
  refine k_putF 12 18 fp_X12_44 rfl dX12_init_398 (rfl : 398 + 3 = 401) (by omega) (Eq.trans (kU_n (by omega)) kU_s) (Nat.le_of_ble_eq_true rfl) rfl rfl ?_
  refine k_aload_n (i := 0) dX12_init_401 (rfl : 401 + 1 = 402) rfl rfl ?_
  refine k_bipush (v := 11) dX12_init_402 (rfl : 402 + 2 = 404) (by decide) ?_
  refine k_newI (n9 := 11) (N' := 11) dX12_init_404 (rfl : 404 + 2 = 406) (by omega) (by decide) (by decide) (by decide) ⟨Nat.le_of_ble_eq_true rfl, Nat.le_of_ble_eq_true rfl⟩ ?_
  refine k_dup dX12_init_406 (rfl : 406 + 1 = 407) rfl ?_
  refine k_iconst (v := 0) dX12_init_407 (rfl : 407 + 1 = 408) (by decide) ?_
  refine k_iconst (v := 0) dX12_init_408 (rfl : 408 + 1 = 409) (by decide) ?_
  refine k_iast (n := 11) (f := (fun _ => 0)) dX12_init_409 (rfl : 409 + 1 = 410) (by omega) kU_s (vp_in_iff.mpr (by decide)) ?_
  rw [kU_kU]
  refine k_dup dX12_init_410 (rfl : 410 + 1 = 411) rfl ?_
  refine k_iconst (v := 1) dX12_init_411 (rfl : 411 + 1 = 412) (by decide) ?_
  refine k_iconst (v := 5) dX12_init_412 (rfl : 412 + 1 = 413) (by decide) ?_
  refine k_iast (n := 11) (f := (upd (fun _ => 0) (Int32.toNatClampNeg 0) 0)) dX12_init_413 (rfl : 413 + 1 = 414) (by omega) kU_s (vp_in_iff.mpr (by decide)) ?_
  rw [kU_kU]
  refine k_dup dX12_init_414 (rfl : 414 + 1 = 415) rfl ?_
  refine k_iconst (v := 2) dX12_init_415 (rfl : 415 + 1 = 416) (by decide) ?_
  refine k_bipush (v := 10) dX12_init_416 (rfl : 416 + 2 = 418) (by decide) ?_
  refine k_iast (n := 11) (f := (upd (upd (fun _ => 0) (Int32.toNatClampNeg 0) 0) (Int32.toNatClampNeg 1) 5)) dX12_init_418 (rfl : 418 + 1 = 419) (by omega) kU_s (vp_in_iff.mpr (by decide)) ?_
  rw [kU_kU]
  refine k_dup dX12_init_419 (rfl : 419 + 1 = 420) rfl ?_
  refine k_iconst (v := 3) dX12_init_420 (rfl : 420 + 1 = 421) (by decide) ?_
  refine k_bipush (v := 16) dX12_init_421 (rfl : 421 + 2 = 423) (by decide) ?_
  refine k_iast (n := 11) (f := (upd (upd (upd (fun _ => 0) (Int32.toNatClampNeg 0) 0) (Int32.toNatClampNeg 1) 5) (Int32.toNatClampNeg 2) 10)) dX12_init_423 (rfl : 423 + 1 = 424) (by omega) kU_s (vp_in_iff.mpr (by decide)) ?_
  rw [kU_kU]
  refine k_dup dX12_init_424 (rfl : 424 + 1 = 425) rfl ?_
  refine k_iconst (v := 4) dX12_init_425 (rfl : 425 + 1 = 426) (by decide) ?_
  refine k_bipush (v := 22) dX12_init_426 (rfl : 426 + 2 = 428) (by decide) ?_
  refine k_iast (n := 11) (f := (upd (upd (upd (upd (fun _ => 0) (Int32.toNatClampNeg 0) 0) (Int32.toNatClampNeg 1) 5) (Int32.toNatClampNeg 2) 10) (Int32.toNatClampNeg 3) 16)) dX12_init_428 (rfl : 428 + 1 = 429) (by omega) kU_s (vp_in_iff.mpr (by decide)) ?_
  rw [kU_kU]
  refine k_dup dX12_init_429 (rfl : 429 + 1 = 430) rfl ?_
  refine k_iconst (v := 5) dX12_init_430 (rfl : 430 + 1 = 431) (by decide) ?_
  refine k_bipush (v := 27) dX12_init_431 (rfl : 431 + 2 = 433) (by decide) ?_
  refine k_iast (n := 11) (f := (upd (upd (upd (upd (upd (fun _ => 0) (Int32.toNatClampNeg 0) 0) (Int32.toNatClampNeg 1) 5) (Int32.toNatClampNeg 2) 10) (Int32.toNatClampNeg 3) 16) (Int32.toNatClampNeg 4) 22)) dX12_init_433 (rfl : 433 + 1 = 434) (by omega) kU_s (vp_in_iff.mpr (by decide)) ?_
  rw [kU_kU]
  refine k_dup dX12_init_434 (rfl : 434 + 1 = 435) rfl ?_
  refine k_bipush (v := 6) dX12_init_435 (rfl : 435 + 2 = 437) (by decide) ?_
  refine k_bipush (v := 32) dX12_init_437 (rfl : 437 + 2 = 439) (by decide) ?_
  refine k_iast (n := 11) (f := (upd (upd (upd (upd (upd (upd (fun _ => 0) (Int32.toNatClampNeg 0) 0) (Int32.toNatClampNeg 1) 5) (Int32.toNatClampNeg 2) 10) (Int32.toNatClampNeg 3) 16) (Int32.toNatClampNeg 4) 22) (Int32.toNatClampNeg 5) 27)) dX12_init_439 (rfl : 439 + 1 = 440) (by omega) kU_s (vp_in_iff.mpr (by decide)) ?_
  rw [kU_kU]
  refine k_dup dX12_init_440 (rfl : 440 + 1 = 441) rfl ?_
  refine k_bipush (v := 7) dX12_init_441 (rfl : 441 + 2 = 443) (by decide) ?_
  refine k_bipush (v := 38) dX12_init_443 (rfl : 443 + 2 = 445) (by decide) ?_
  refine k_iast (n := 11) (f := (upd (upd (upd (upd (upd (upd (upd (fun _ => 0) (Int32.toNatClampNeg 0) 0) (Int32.toNatClampNeg 1) 5) (Int32.toNatClampNeg 2) 10) (Int32.toNatClampNeg 3) 16) (Int32.toNatClampNeg 4) 22) (Int32.toNatClampNeg 5) 27) (Int32.toNatClampNeg 6) 32)) dX12_init_445 (rfl : 445 + 1 = 446) (by omega) kU_s (vp_in_iff.mpr (by decide)) ?_
  rw [kU_kU]
  refine k_dup dX12_init_446 (rfl : 446 + 1 = 447) rfl ?_
  refine k_bipush (v := 8) dX12_init_447 (rfl : 447 + 2 = 449) (by decide) ?_
  refine k_bipush (v := 42) dX12_init_449 (rfl : 449 + 2 = 451) (by decide) ?_
  refine k_iast (n := 11) (f := (upd (upd (upd (upd (upd (upd (upd (upd (fun _ => 0) (Int32.toNatClampNeg 0) 0) (Int32.toNatClampNeg 1) 5) (Int32.toNatClampNeg 2) 10) (Int32.toNatClampNeg 3) 16) (Int32.toNatClampNeg 4) 22) (Int32.toNatClampNeg 5) 27) (Int32.toNatClampNeg 6) 32) (Int32.toNatClampNeg 7) 38)) dX12_init_451 (rfl : 451 + 1 = 452) (by omega) kU_s (vp_in_iff.mpr (by decide)) ?_
  rw [kU_kU]
  refine k_dup dX12_init_452 (rfl : 452 + 1 = 453) rfl ?_
  refine k_bipush (v := 9) dX12_init_453 (rfl : 453 + 2 = 455) (by decide) ?_
  refine k_bipush (v := 47) dX12_init_455 (rfl : 455 + 2 = 457) (by decide) ?_
  refine k_iast (n := 11) (f := (upd (upd (upd (upd (upd (upd (upd (upd (upd (fun _ => 0) (Int32.toNatClampNeg 0) 0) (Int32.toNatClampNeg 1) 5) (Int32.toNatClampNeg 2) 10) (Int32.toNatClampNeg 3) 16) (Int32.toNatClampNeg 4) 22) (Int32.toNatClampNeg 5) 27) (Int32.toNatClampNeg 6) 32) (Int32.toNatClampNeg 7) 38) (Int32.toNatClampNeg 8) 42)) dX12_init_457 (rfl : 457 + 1 = 458) (by omega) kU_s (vp_in_iff.mpr (by decide)) ?_
  rw [kU_kU]
  refine k_dup dX12_init_458 (rfl : 458 + 1 = 459) rfl ?_
  refine k_bipush (v := 10) dX12_init_459 (rfl : 459 + 2 = 461) (by decide) ?_
  refine k_bipush (v := 52) dX12_init_461 (rfl : 461 + 2 = 463) (by decide) ?_
  refine k_iast (n := 11) (f := (upd (upd (upd (upd (upd (upd (upd (upd (upd (upd (fun _ => 0) (Int32.toNatClampNeg 0) 0) (Int32.toNatClampNeg 1) 5) (Int32.toNatClampNeg 2) 10) (Int32.toNatClampNeg 3) 16) (Int32.toNatClampNeg 4) 22) (Int32.toNatClampNeg 5) 27) (Int32.toNatClampNeg 6) 32) (Int32.toNatClampNeg 7) 38) (Int32.toNatClampNeg 8) 42) (Int32.toNatClampNeg 9) 47)) dX12_init_463 (rfl : 463 + 1 = 464) (by omega) kU_s (vp_in_iff.mpr (by decide)) ?_
  rw [kU_kU]
  refine k_putF 12 19 fp_X12_47 rfl dX12_init_464 (rfl : 464 + 3 = 467) (by omega) (Eq.trans (kU_n (by omega)) kU_s) (Nat.le_of_ble_eq_true rfl) rfl rfl ?_
  refine k_aload_n (i := 0) dX12_init_467 (rfl : 467 + 1 = 468) rfl rfl ?_
  refine k_get 12 7 fg_X12_16 dX12_init_468 (rfl : 468 + 3 = 471) (by omega) kU_s rfl ?_
  refine k_iconst (v := 1) dX12_init_471 (rfl : 471 + 1 = 472) (by decide) ?_
  refine k_bipush (v := 50) dX12_init_472 (rfl : 472 + 2 = 474) (by decide) ?_
  refine k_iast (n := 116) (f := (fun _ => 0)) dX12_init_474 (rfl : 474 + 1 = 475) (by omega) (Eq.trans (kU_n (by omega)) (Eq.trans (kU_n (by omega)) (Eq.trans (kU_n (by omega)) (Eq.trans (kU_n (by omega)) (Eq.trans (kU_n (by omega)) (Eq.trans (kU_n (by omega)) (Eq.trans (kU_n (by omega)) (Eq.trans (kU_n (by omega)) (Eq.trans (kU_n (by omega)) (Eq.trans (kU_n (by omega)) (Eq.trans (kU_n (by omega)) (Eq.trans (kU_n (by omega)) (Eq.trans (kU_n (by omega)) (Eq.trans (kU_n (by omega)) (Eq.trans (kU_n (by omega)) (Eq.trans (kU_n (by omega)) (Eq.trans (kU_n (by omega)) (Eq.trans (kU_n (by omega)) (Eq.trans (kU_n (by omega)) (Eq.trans (kU_n (by omega)) (Eq.trans (kU_n (by omega)) kU_s))))))))))))))))))))) (vp_in_iff.mpr (by decide)) ?_
  refine k_aload_n (i := 0) dX12_init_475 (rfl : 475 + 1 = 476) rfl rfl ?_
  refine k_get 12 7 fg_X12_16 dX12_init_476 (rfl : 476 + 3 = 479) (by omega) (Eq.trans (kU_n (by omega)) kU_s) rfl ?_
  refine k_iconst (v := 2) dX12_init_479 (rfl : 479 + 1 = 480) (by decide) ?_
  refine k_bipush (v := 10) dX12_init_480 (rfl : 480 + 2 = 482) (by decide) ?_
  refine k_iast (n := 116) (f := (upd (fun _ => 0) (Int32.toNatClampNeg 1) 50)) dX12_init_482 (rfl : 482 + 1 = 483) (by omega) kU_s (vp_in_iff.mpr (by decide)) ?_
  rw [kU_kU]
  rw [vS_0]
  refine k_bipush (v := 8) dX12_init_483 (rfl : 483 + 2 = 485) (by decide) ?_
  refine k_istore_n (i := 1) dX12_init_485 (rfl : 485 + 1 = 486) rfl (Nat.le_of_ble_eq_true rfl) ?_
  refine k_ls (ls2 := [.ref 116, .int 8]) rfl ?_
  refine k_iload_n (i := 1) dX12_init_486 (rfl : 486 + 1 = 487) rfl rfl ?_
  refine k_bipush (v := 17) dX12_init_487 (rfl : 487 + 2 = 489) (by decide) ?_
  refine k_icmp_gt (tgt := 511) dX12_init_489 (rfl : 489 + 3 = 492) (by decide) (fun b9 => by exact absurd b9 (by decide)) (fun b9 => ?_)
  refine k_aload_n (i := 0) dX12_init_492 (rfl : 492 + 1 = 493) rfl rfl ?_
  refine k_get 12 7 fg_X12_16 dX12_init_493 (rfl : 493 + 3 = 496) (by omega) (Eq.trans (kU_n (by omega)) kU_s) rfl ?_
  refine k_bipush (v := 8) dX12_init_496 (rfl : 496 + 2 = 498) (by decide) ?_
  refine k_dup2_11 dX12_init_498 (rfl : 498 + 1 = 499) rfl rfl ?_
  refine k_iald (f := vS 0) dX12_init_499 (rfl : 499 + 1 = 500) (by omega) kU_s (vp_in_iff.mpr (by decide)) ?_
  refine k_st (v2 := .int 0) rfl ?_
  refine k_iconst (v := 1) dX12_init_500 (rfl : 500 + 1 = 501) (by decide) ?_
  refine k_iload_n (i := 1) dX12_init_501 (rfl : 501 + 1 = 502) rfl rfl ?_
  refine k_ishl dX12_init_502 (rfl : 502 + 1 = 503) ?_
  refine k_ior dX12_init_503 (rfl : 503 + 1 = 504) ?_
  refine k_iast (n := 116) (f := (vS 0)) dX12_init_504 (rfl : 504 + 1 = 505) (by omega) kU_s (vp_in_iff.mpr (by decide)) ?_
  rw [kU_kU]
  rw [vS_8]
  refine k_iinc (i := 1) (v := 9) dX12_init_505 (rfl : 505 + 3 = 508) rfl (Nat.le_of_ble_eq_true rfl) (by decide) ?_
  refine k_ls (ls2 := [.ref 116, .int 9]) rfl ?_
  refine k_goto (tgt := 486) dX12_init_508 (by decide) ?_
  refine k_iload_n (i := 1) dX12_init_486 (rfl : 486 + 1 = 487) rfl rfl ?_
  refine k_bipush (v := 17) dX12_init_487 (rfl : 487 + 2 = 489) (by decide) ?_
  refine k_icmp_gt (tgt := 511) dX12_init_489 (rfl : 489 + 3 = 492) (by decide) (fun b9 => by exact absurd b9 (by decide)) (fun b9 => ?_)
  refine k_aload_n (i := 0) dX12_init_492 (rfl : 492 + 1 = 493) rfl rfl ?_
  refine k_get 12 7 fg_X12_16 dX12_init_493 (rfl : 493 + 3 = 496) (by omega) (Eq.trans (kU_n (by omega)) kU_s) rfl ?_
  refine k_bipush (v := 8) dX12_init_496 (rfl : 496 + 2 = 498) (by decide) ?_
  refine k_dup2_11 dX12_init_498 (rfl : 498 + 1 = 499) rfl rfl ?_
  refine k_iald (f := vS ((0 : Int32) ||| ((1 : Int32) <<< ((8 : Int32) &&& 31)))) dX12_init_499 (rfl : 499 + 1 = 500) (by omega) kU_s (vp_in_iff.mpr (by decide)) ?_
  refine k_st (v2 := .int ((0 : Int32) ||| ((1 : Int32) <<< ((8 : Int32) &&& 31)))) rfl ?_
  refine k_iconst (v := 1) dX12_init_500 (rfl : 500 + 1 = 501) (by decide) ?_
  refine k_iload_n (i := 1) dX12_init_501 (rfl : 501 + 1 = 502) rfl rfl ?_
  refine k_ishl dX12_init_502 (rfl : 502 + 1 = 503) ?_
  refine k_ior dX12_init_503 (rfl : 503 + 1 = 504) ?_
  refine k_iast (n := 116) (f := (vS ((0 : Int32) ||| ((1 : Int32) <<< ((8 : Int32) &&& 31))))) dX12_init_504 (rfl : 504 + 1 = 505) (by omega) kU_s (vp_in_iff.mpr (by decide)) ?_
  rw [kU_kU]
  rw [vS_8]
  refine k_iinc (i := 1) (v := 10) dX12_init_505 (rfl : 505 + 3 = 508) rfl (Nat.le_of_ble_eq_true rfl) (by decide) ?_
  refine k_ls (ls2 := [.ref 116, .int 10]) rfl ?_
  refine k_goto (tgt := 486) dX12_init_508 (by decide) ?_
  refine k_iload_n (i := 1) dX12_init_486 (rfl : 486 + 1 = 487) rfl rfl ?_
  refine k_bipush (v := 17) dX12_init_487 (rfl : 487 + 2 = 489) (by decide) ?_
  refine k_icmp_gt (tgt := 511) dX12_init_489 (rfl : 489 + 3 = 492) (by decide) (fun b9 => by exact absurd b9 (by decide)) (fun b9 => ?_)
  refine k_aload_n (i := 0) dX12_init_492 (rfl : 492 + 1 = 493) rfl rfl ?_
  refine k_get 12 7 fg_X12_16 dX12_init_493 (rfl : 493 + 3 = 496) (by omega) (Eq.trans (kU_n (by omega)) kU_s) rfl ?_
  refine k_bipush (v := 8) dX12_init_496 (rfl : 496 + 2 = 498) (by decide) ?_
  refine k_dup2_11 dX12_init_498 (rfl : 498 + 1 = 499) rfl rfl ?_
  refine k_iald (f := vS (((0 : Int32) ||| ((1 : Int32) <<< ((8 : Int32) &&& 31))) ||| ((1 : Int32) <<< ((9 : Int32) &&& 31)))) dX12_init_499 (rfl : 499 + 1 = 500) (by omega) kU_s (vp_in_iff.mpr (by decide)) ?_
  refine k_st (v2 := .int (((0 : Int32) ||| ((1 : Int32) <<< ((8 : Int32) &&& 31))) ||| ((1 : Int32) <<< ((9 : Int32) &&& 31)))) rfl ?_
  refine k_iconst (v := 1) dX12_init_500 (rfl : 500 + 1 = 501) (by decide) ?_
  refine k_iload_n (i := 1) dX12_init_501 (rfl : 501 + 1 = 502) rfl rfl ?_
  refine k_ishl dX12_init_502 (rfl : 502 + 1 = 503) ?_
  refine k_ior dX12_init_503 (rfl : 503 + 1 = 504) ?_
  refine k_iast (n := 116) (f := (vS (((0 : Int32) ||| ((1 : Int32) <<< ((8 : Int32) &&& 31))) ||| ((1 : Int32) <<< ((9 : Int32) &&& 31))))) dX12_init_504 (rfl : 504 + 1 = 505) (by omega) kU_s (vp_in_iff.mpr (by decide)) ?_
  rw [kU_kU]
  rw [vS_8]
  refine k_iinc (i := 1) (v := 11) dX12_init_505 (rfl : 505 + 3 = 508) rfl (Nat.le_of_ble_eq_true rfl) (by decide) ?_
  refine k_ls (ls2 := [.ref 116, .int 11]) rfl ?_
  refine k_goto (tgt := 486) dX12_init_508 (by decide) ?_
  refine k_iload_n (i := 1) dX12_init_486 (rfl : 486 + 1 = 487) rfl rfl ?_
  refine k_bipush (v := 17) dX12_init_487 (rfl : 487 + 2 = 489) (by decide) ?_
  refine k_icmp_gt (tgt := 511) dX12_init_489 (rfl : 489 + 3 = 492) (by decide) (fun b9 => by exact absurd b9 (by decide)) (fun b9 => ?_)
  refine k_aload_n (i := 0) dX12_init_492 (rfl : 492 + 1 = 493) rfl rfl ?_
  refine k_get 12 7 fg_X12_16 dX12_init_493 (rfl : 493 + 3 = 496) (by omega) (Eq.trans (kU_n (by omega)) kU_s) rfl ?_
  refine k_bipush (v := 8) dX12_init_496 (rfl : 496 + 2 = 498) (by decide) ?_
  refine k_dup2_11 dX12_init_498 (rfl : 498 + 1 = 499) rfl rfl ?_
  refine k_iald (f := vS ((((0 : Int32) ||| ((1 : Int32) <<< ((8 : Int32) &&& 31))) ||| ((1 : Int32) <<< ((9 : Int32) &&& 31))) ||| ((1 : Int32) <<< ((10 : Int32) &&& 31)))) dX12_init_499 (rfl : 499 + 1 = 500) (by omega) kU_s (vp_in_iff.mpr (by decide)) ?_
  refine k_st (v2 := .int ((((0 : Int32) ||| ((1 : Int32) <<< ((8 : Int32) &&& 31))) ||| ((1 : Int32) <<< ((9 : Int32) &&& 31))) ||| ((1 : Int32) <<< ((10 : Int32) &&& 31)))) rfl ?_
  refine k_iconst (v := 1) dX12_init_500 (rfl : 500 + 1 = 501) (by decide) ?_
  refine k_iload_n (i := 1) dX12_init_501 (rfl : 501 + 1 = 502) rfl rfl ?_
  refine k_ishl dX12_init_502 (rfl : 502 + 1 = 503) ?_
  refine k_ior dX12_init_503 (rfl : 503 + 1 = 504) ?_
  refine k_iast (n := 116) (f := (vS ((((0 : Int32) ||| ((1 : Int32) <<< ((8 : Int32) &&& 31))) ||| ((1 : Int32) <<< ((9 : Int32) &&& 31))) ||| ((1 : Int32) <<< ((10 : Int32) &&& 31))))) dX12_init_504 (rfl : 504 + 1 = 505) (by omega) kU_s (vp_in_iff.mpr (by decide)) ?_
  rw [kU_kU]
  rw [vS_8]
  refine k_iinc (i := 1) (v := 12) dX12_init_505 (rfl : 505 + 3 = 508) rfl (Nat.le_of_ble_eq_true rfl) (by decide) ?_
  refine k_ls (ls2 := [.ref 116, .int 12]) rfl ?_
  refine k_goto (tgt := 486) dX12_init_508 (by decide) ?_
  refine k_iload_n (i := 1) dX12_init_486 (rfl : 486 + 1 = 487) rfl rfl ?_
  refine k_bipush (v := 17) dX12_init_487 (rfl : 487 + 2 = 489) (by decide) ?_
  refine k_icmp_gt (tgt := 511) dX12_init_489 (rfl : 489 + 3 = 492) (by decide) (fun b9 => by exact absurd b9 (by decide)) (fun b9 => ?_)
  refine k_aload_n (i := 0) dX12_init_492 (rfl : 492 + 1 = 493) rfl rfl ?_
  refine k_get 12 7 fg_X12_16 dX12_init_493 (rfl : 493 + 3 = 496) (by omega) (Eq.trans (kU_n (by omega)) kU_s) rfl ?_
  refine k_bipush (v := 8) dX12_init_496 (rfl : 496 + 2 = 498) (by decide) ?_
  refine k_dup2_11 dX12_init_498 (rfl : 498 + 1 = 499) rfl rfl ?_
  refine k_iald (f := vS (((((0 : Int32) ||| ((1 : Int32) <<< ((8 : Int32) &&& 31))) ||| ((1 : Int32) <<< ((9 : Int32) &&& 31))) ||| ((1 : Int32) <<< ((10 : Int32) &&& 31))) ||| ((1 : Int32) <<< ((11 : Int32) &&& 31)))) dX12_init_499 (rfl : 499 + 1 = 500) (by omega) kU_s (vp_in_iff.mpr (by decide)) ?_
  refine k_st (v2 := .int (((((0 : Int32) ||| ((1 : Int32) <<< ((8 : Int32) &&& 31))) ||| ((1 : Int32) <<< ((9 : Int32) &&& 31))) ||| ((1 : Int32) <<< ((10 : Int32) &&& 31))) ||| ((1 : Int32) <<< ((11 : Int32) &&& 31)))) rfl ?_
  refine k_iconst (v := 1) dX12_init_500 (rfl : 500 + 1 = 501) (by decide) ?_
  refine k_iload_n (i := 1) dX12_init_501 (rfl : 501 + 1 = 502) rfl rfl ?_
  refine k_ishl dX12_init_502 (rfl : 502 + 1 = 503) ?_
  refine k_ior dX12_init_503 (rfl : 503 + 1 = 504) ?_
  refine k_iast (n := 116) (f := (vS (((((0 : Int32) ||| ((1 : Int32) <<< ((8 : Int32) &&& 31))) ||| ((1 : Int32) <<< ((9 : Int32) &&& 31))) ||| ((1 : Int32) <<< ((10 : Int32) &&& 31))) ||| ((1 : Int32) <<< ((11 : Int32) &&& 31))))) dX12_init_504 (rfl : 504 + 1 = 505) (by omega) kU_s (vp_in_iff.mpr (by decide)) ?_
  rw [kU_kU]
  rw [vS_8]
  refine k_iinc (i := 1) (v := 13) dX12_init_505 (rfl : 505 + 3 = 508) rfl (Nat.le_of_ble_eq_true rfl) (by decide) ?_
  refine k_ls (ls2 := [.ref 116, .int 13]) rfl ?_
  refine k_goto (tgt := 486) dX12_init_508 (by decide) ?_
  refine k_iload_n (i := 1) dX12_init_486 (rfl : 486 + 1 = 487) rfl rfl ?_
  refine k_bipush (v := 17) dX12_init_487 (rfl : 487 + 2 = 489) (by decide) ?_
  refine k_icmp_gt (tgt := 511) dX12_init_489 (rfl : 489 + 3 = 492) (by decide) (fun b9 => by exact absurd b9 (by decide)) (fun b9 => ?_)
  refine k_aload_n (i := 0) dX12_init_492 (rfl : 492 + 1 = 493) rfl rfl ?_
  refine k_get 12 7 fg_X12_16 dX12_init_493 (rfl : 493 + 3 = 496) (by omega) (Eq.trans (kU_n (by omega)) kU_s) rfl ?_
  refine k_bipush (v := 8) dX12_init_496 (rfl : 496 + 2 = 498) (by decide) ?_
  refine k_dup2_11 dX12_init_498 (rfl : 498 + 1 = 499) rfl rfl ?_
  refine k_iald (f := vS ((((((0 : Int32) ||| ((1 : Int32) <<< ((8 : Int32) &&& 31))) ||| ((1 : Int32) <<< ((9 : Int32) &&& 31))) ||| ((1 : Int32) <<< ((10 : Int32) &&& 31))) ||| ((1 : Int32) <<< ((11 : Int32) &&& 31))) ||| ((1 : Int32) <<< ((12 : Int32) &&& 31)))) dX12_init_499 (rfl : 499 + 1 = 500) (by omega) kU_s (vp_in_iff.mpr (by decide)) ?_
  refine k_st (v2 := .int ((((((0 : Int32) ||| ((1 : Int32) <<< ((8 : Int32) &&& 31))) ||| ((1 : Int32) <<< ((9 : Int32) &&& 31))) ||| ((1 : Int32) <<< ((10 : Int32) &&& 31))) ||| ((1 : Int32) <<< ((11 : Int32) &&& 31))) ||| ((1 : Int32) <<< ((12 : Int32) &&& 31)))) rfl ?_
  refine k_iconst (v := 1) dX12_init_500 (rfl : 500 + 1 = 501) (by decide) ?_
  refine k_iload_n (i := 1) dX12_init_501 (rfl : 501 + 1 = 502) rfl rfl ?_
  refine k_ishl dX12_init_502 (rfl : 502 + 1 = 503) ?_
  refine k_ior dX12_init_503 (rfl : 503 + 1 = 504) ?_
  refine k_iast (n := 116) (f := (vS ((((((0 : Int32) ||| ((1 : Int32) <<< ((8 : Int32) &&& 31))) ||| ((1 : Int32) <<< ((9 : Int32) &&& 31))) ||| ((1 : Int32) <<< ((10 : Int32) &&& 31))) ||| ((1 : Int32) <<< ((11 : Int32) &&& 31))) ||| ((1 : Int32) <<< ((12 : Int32) &&& 31))))) dX12_init_504 (rfl : 504 + 1 = 505) (by omega) kU_s (vp_in_iff.mpr (by decide)) ?_
  rw [kU_kU]
  rw [vS_8]
  refine k_iinc (i := 1) (v := 14) dX12_init_505 (rfl : 505 + 3 = 508) rfl (Nat.le_of_ble_eq_true rfl) (by decide) ?_
  refine k_ls (ls2 := [.ref 116, .int 14]) rfl ?_
  refine k_goto (tgt := 486) dX12_init_508 (by decide) ?_
  refine k_iload_n (i := 1) dX12_init_486 (rfl : 486 + 1 = 487) rfl rfl ?_
  refine k_bipush (v := 17) dX12_init_487 (rfl : 487 + 2 = 489) (by decide) ?_
  refine k_icmp_gt (tgt := 511) dX12_init_489 (rfl : 489 + 3 = 492) (by decide) (fun b9 => by exact absurd b9 (by decide)) (fun b9 => ?_)
  refine k_aload_n (i := 0) dX12_init_492 (rfl : 492 + 1 = 493) rfl rfl ?_
  refine k_get 12 7 fg_X12_16 dX12_init_493 (rfl : 493 + 3 = 496) (by omega) (Eq.trans (kU_n (by omega)) kU_s) rfl ?_
  refine k_bipush (v := 8) dX12_init_496 (rfl : 496 + 2 = 498) (by decide) ?_
  refine k_dup2_11 dX12_init_498 (rfl : 498 + 1 = 499) rfl rfl ?_
  refine k_iald (f := vS (((((((0 : Int32) ||| ((1 : Int32) <<< ((8 : Int32) &&& 31))) ||| ((1 : Int32) <<< ((9 : Int32) &&& 31))) ||| ((1 : Int32) <<< ((10 : Int32) &&& 31))) ||| ((1 : Int32) <<< ((11 : Int32) &&& 31))) ||| ((1 : Int32) <<< ((12 : Int32) &&& 31))) ||| ((1 : Int32) <<< ((13 : Int32) &&& 31)))) dX12_init_499 (rfl : 499 + 1 = 500) (by omega) kU_s (vp_in_iff.mpr (by decide)) ?_
  refine k_st (v2 := .int (((((((0 : Int32) ||| ((1 : Int32) <<< ((8 : Int32) &&& 31))) ||| ((1 : Int32) <<< ((9 : Int32) &&& 31))) ||| ((1 : Int32) <<< ((10 : Int32) &&& 31))) ||| ((1 : Int32) <<< ((11 : Int32) &&& 31))) ||| ((1 : Int32) <<< ((12 : Int32) &&& 31))) ||| ((1 : Int32) <<< ((13 : Int32) &&& 31)))) rfl ?_
  refine k_iconst (v := 1) dX12_init_500 (rfl : 500 + 1 = 501) (by decide) ?_
  refine k_iload_n (i := 1) dX12_init_501 (rfl : 501 + 1 = 502) rfl rfl ?_
  refine k_ishl dX12_init_502 (rfl : 502 + 1 = 503) ?_
  refine k_ior dX12_init_503 (rfl : 503 + 1 = 504) ?_
  refine k_iast (n := 116) (f := (vS (((((((0 : Int32) ||| ((1 : Int32) <<< ((8 : Int32) &&& 31))) ||| ((1 : Int32) <<< ((9 : Int32) &&& 31))) ||| ((1 : Int32) <<< ((10 : Int32) &&& 31))) ||| ((1 : Int32) <<< ((11 : Int32) &&& 31))) ||| ((1 : Int32) <<< ((12 : Int32) &&& 31))) ||| ((1 : Int32) <<< ((13 : Int32) &&& 31))))) dX12_init_504 (rfl : 504 + 1 = 505) (by omega) kU_s (vp_in_iff.mpr (by decide)) ?_
  rw [kU_kU]
  rw [vS_8]
  refine k_iinc (i := 1) (v := 15) dX12_init_505 (rfl : 505 + 3 = 508) rfl (Nat.le_of_ble_eq_true rfl) (by decide) ?_
  refine k_ls (ls2 := [.ref 116, .int 15]) rfl ?_
  refine k_goto (tgt := 486) dX12_init_508 (by decide) ?_
  refine k_iload_n (i := 1) dX12_init_486 (rfl : 486 + 1 = 487) rfl rfl ?_
  refine k_bipush (v := 17) dX12_init_487 (rfl : 487 + 2 = 489) (by decide) ?_
  refine k_icmp_gt (tgt := 511) dX12_init_489 (rfl : 489 + 3 = 492) (by decide) (fun b9 => by exact absurd b9 (by decide)) (fun b9 => ?_)
  refine k_aload_n (i := 0) dX12_init_492 (rfl : 492 + 1 = 493) rfl rfl ?_
  refine k_get 12 7 fg_X12_16 dX12_init_493 (rfl : 493 + 3 = 496) (by omega) (Eq.trans (kU_n (by omega)) kU_s) rfl ?_
  refine k_bipush (v := 8) dX12_init_496 (rfl : 496 + 2 = 498) (by decide) ?_
  refine k_dup2_11 dX12_init_498 (rfl : 498 + 1 = 499) rfl rfl ?_
  refine k_iald (f := vS ((((((((0 : Int32) ||| ((1 : Int32) <<< ((8 : Int32) &&& 31))) ||| ((1 : Int32) <<< ((9 : Int32) &&& 31))) ||| ((1 : Int32) <<< ((10 : Int32) &&& 31))) ||| ((1 : Int32) <<< ((11 : Int32) &&& 31))) ||| ((1 : Int32) <<< ((12 : Int32) &&& 31))) ||| ((1 : Int32) <<< ((13 : Int32) &&& 31))) ||| ((1 : Int32) <<< ((14 : Int32) &&& 31)))) dX12_init_499 (rfl : 499 + 1 = 500) (by omega) kU_s (vp_in_iff.mpr (by decide)) ?_
  refine k_st (v2 := .int ((((((((0 : Int32) ||| ((1 : Int32) <<< ((8 : Int32) &&& 31))) ||| ((1 : Int32) <<< ((9 : Int32) &&& 31))) ||| ((1 : Int32) <<< ((10 : Int32) &&& 31))) ||| ((1 : Int32) <<< ((11 : Int32) &&& 31))) ||| ((1 : Int32) <<< ((12 : Int32) &&& 31))) ||| ((1 : Int32) <<< ((13 : Int32) &&& 31))) ||| ((1 : Int32) <<< ((14 : Int32) &&& 31)))) rfl ?_
  refine k_iconst (v := 1) dX12_init_500 (rfl : 500 + 1 = 501) (by decide) ?_
  refine k_iload_n (i := 1) dX12_init_501 (rfl : 501 + 1 = 502) rfl rfl ?_
  refine k_ishl dX12_init_502 (rfl : 502 + 1 = 503) ?_
  refine k_ior dX12_init_503 (rfl : 503 + 1 = 504) ?_
  refine k_iast (n := 116) (f := (vS ((((((((0 : Int32) ||| ((1 : Int32) <<< ((8 : Int32) &&& 31))) ||| ((1 : Int32) <<< ((9 : Int32) &&& 31))) ||| ((1 : Int32) <<< ((10 : Int32) &&& 31))) ||| ((1 : Int32) <<< ((11 : Int32) &&& 31))) ||| ((1 : Int32) <<< ((12 : Int32) &&& 31))) ||| ((1 : Int32) <<< ((13 : Int32) &&& 31))) ||| ((1 : Int32) <<< ((14 : Int32) &&& 31))))) dX12_init_504 (rfl : 504 + 1 = 505) (by omega) kU_s (vp_in_iff.mpr (by decide)) ?_
  rw [kU_kU]
  rw [vS_8]
  refine k_iinc (i := 1) (v := 16) dX12_init_505 (rfl : 505 + 3 = 508) rfl (Nat.le_of_ble_eq_true rfl) (by decide) ?_
  refine k_ls (ls2 := [.ref 116, .int 16]) rfl ?_
  refine k_goto (tgt := 486) dX12_init_508 (by decide) ?_
  refine k_iload_n (i := 1) dX12_init_486 (rfl : 486 + 1 = 487) rfl rfl ?_
  refine k_bipush (v := 17) dX12_init_487 (rfl : 487 + 2 = 489) (by decide) ?_
  refine k_icmp_gt (tgt := 511) dX12_init_489 (rfl : 489 + 3 = 492) (by decide) (fun b9 => by exact absurd b9 (by decide)) (fun b9 => ?_)
  refine k_aload_n (i := 0) dX12_init_492 (rfl : 492 + 1 = 493) rfl rfl ?_
  refine k_get 12 7 fg_X12_16 dX12_init_493 (rfl : 493 + 3 = 496) (by omega) (Eq.trans (kU_n (by omega)) kU_s) rfl ?_
  refine k_bipush (v := 8) dX12_init_496 (rfl : 496 + 2 = 498) (by decide) ?_
  refine k_dup2_11 dX12_init_498 (rfl : 498 + 1 = 499) rfl rfl ?_
  refine k_iald (f := vS (((((((((0 : Int32) ||| ((1 : Int32) <<< ((8 : Int32) &&& 31))) ||| ((1 : Int32) <<< ((9 : Int32) &&& 31))) ||| ((1 : Int32) <<< ((10 : Int32) &&& 31))) ||| ((1 : Int32) <<< ((11 : Int32) &&& 31))) ||| ((1 : Int32) <<< ((12 : Int32) &&& 31))) ||| ((1 : Int32) <<< ((13 : Int32) &&& 31))) ||| ((1 : Int32) <<< ((14 : Int32) &&& 31))) ||| ((1 : Int32) <<< ((15 : Int32) &&& 31)))) dX12_init_499 (rfl : 499 + 1 = 500) (by omega) kU_s (vp_in_iff.mpr (by decide)) ?_
  refine k_st (v2 := .int (((((((((0 : Int32) ||| ((1 : Int32) <<< ((8 : Int32) &&& 31))) ||| ((1 : Int32) <<< ((9 : Int32) &&& 31))) ||| ((1 : Int32) <<< ((10 : Int32) &&& 31))) ||| ((1 : Int32) <<< ((11 : Int32) &&& 31))) ||| ((1 : Int32) <<< ((12 : Int32) &&& 31))) ||| ((1 : Int32) <<< ((13 : Int32) &&& 31))) ||| ((1 : Int32) <<< ((14 : Int32) &&& 31))) ||| ((1 : Int32) <<< ((15 : Int32) &&& 31)))) rfl ?_
  refine k_iconst (v := 1) dX12_init_500 (rfl : 500 + 1 = 501) (by decide) ?_
  refine k_iload_n (i := 1) dX12_init_501 (rfl : 501 + 1 = 502) rfl rfl ?_
  refine k_ishl dX12_init_502 (rfl : 502 + 1 = 503) ?_
  refine k_ior dX12_init_503 (rfl : 503 + 1 = 504) ?_
  refine k_iast (n := 116) (f := (vS (((((((((0 : Int32) ||| ((1 : Int32) <<< ((8 : Int32) &&& 31))) ||| ((1 : Int32) <<< ((9 : Int32) &&& 31))) ||| ((1 : Int32) <<< ((10 : Int32) &&& 31))) ||| ((1 : Int32) <<< ((11 : Int32) &&& 31))) ||| ((1 : Int32) <<< ((12 : Int32) &&& 31))) ||| ((1 : Int32) <<< ((13 : Int32) &&& 31))) ||| ((1 : Int32) <<< ((14 : Int32) &&& 31))) ||| ((1 : Int32) <<< ((15 : Int32) &&& 31))))) dX12_init_504 (rfl : 504 + 1 = 505) (by omega) kU_s (vp_in_iff.mpr (by decide)) ?_
  rw [kU_kU]
  rw [vS_8]
  refine k_iinc (i := 1) (v := 17) dX12_init_505 (rfl : 505 + 3 = 508) rfl (Nat.le_of_ble_eq_true rfl) (by decide) ?_
  refine k_ls (ls2 := [.ref 116, .int 17]) rfl ?_
  refine k_goto (tgt := 486) dX12_init_508 (by decide) ?_
  refine k_iload_n (i := 1) dX12_init_486 (rfl : 486 + 1 = 487) rfl rfl ?_
  refine k_bipush (v := 17) dX12_init_487 (rfl : 487 + 2 = 489) (by decide) ?_
  refine k_icmp_gt (tgt := 511) dX12_init_489 (rfl : 489 + 3 = 492) (by decide) (fun b9 => by exact absurd b9 (by decide)) (fun b9 => ?_)
  refine k_aload_n (i := 0) dX12_init_492 (rfl : 492 + 1 = 493) rfl rfl ?_
  refine k_get 12 7 fg_X12_16 dX12_init_493 (rfl : 493 + 3 = 496) (by omega) (Eq.trans (kU_n (by omega)) kU_s) rfl ?_
  refine k_bipush (v := 8) dX12_init_496 (rfl : 496 + 2 = 498) (by decide) ?_
  refine k_dup2_11 dX12_init_498 (rfl : 498 + 1 = 499) rfl rfl ?_
  refine k_iald (f := vS ((((((((((0 : Int32) ||| ((1 : Int32) <<< ((8 : Int32) &&& 31))) ||| ((1 : Int32) <<< ((9 : Int32) &&& 31))) ||| ((1 : Int32) <<< ((10 : Int32) &&& 31))) ||| ((1 : Int32) <<< ((11 : Int32) &&& 31))) ||| ((1 : Int32) <<< ((12 : Int32) &&& 31))) ||| ((1 : Int32) <<< ((13 : Int32) &&& 31))) ||| ((1 : Int32) <<< ((14 : Int32) &&& 31))) ||| ((1 : Int32) <<< ((15 : Int32) &&& 31))) ||| ((1 : Int32) <<< ((16 : Int32) &&& 31)))) dX12_init_499 (rfl : 499 + 1 = 500) (by omega) kU_s (vp_in_iff.mpr (by decide)) ?_
  refine k_st (v2 := .int ((((((((((0 : Int32) ||| ((1 : Int32) <<< ((8 : Int32) &&& 31))) ||| ((1 : Int32) <<< ((9 : Int32) &&& 31))) ||| ((1 : Int32) <<< ((10 : Int32) &&& 31))) ||| ((1 : Int32) <<< ((11 : Int32) &&& 31))) ||| ((1 : Int32) <<< ((12 : Int32) &&& 31))) ||| ((1 : Int32) <<< ((13 : Int32) &&& 31))) ||| ((1 : Int32) <<< ((14 : Int32) &&& 31))) ||| ((1 : Int32) <<< ((15 : Int32) &&& 31))) ||| ((1 : Int32) <<< ((16 : Int32) &&& 31)))) rfl ?_
  refine k_iconst (v := 1) dX12_init_500 (rfl : 500 + 1 = 501) (by decide) ?_
  refine k_iload_n (i := 1) dX12_init_501 (rfl : 501 + 1 = 502) rfl rfl ?_
  refine k_ishl dX12_init_502 (rfl : 502 + 1 = 503) ?_
  refine k_ior dX12_init_503 (rfl : 503 + 1 = 504) ?_
  refine k_iast (n := 116) (f := (vS ((((((((((0 : Int32) ||| ((1 : Int32) <<< ((8 : Int32) &&& 31))) ||| ((1 : Int32) <<< ((9 : Int32) &&& 31))) ||| ((1 : Int32) <<< ((10 : Int32) &&& 31))) ||| ((1 : Int32) <<< ((11 : Int32) &&& 31))) ||| ((1 : Int32) <<< ((12 : Int32) &&& 31))) ||| ((1 : Int32) <<< ((13 : Int32) &&& 31))) ||| ((1 : Int32) <<< ((14 : Int32) &&& 31))) ||| ((1 : Int32) <<< ((15 : Int32) &&& 31))) ||| ((1 : Int32) <<< ((16 : Int32) &&& 31))))) dX12_init_504 (rfl : 504 + 1 = 505) (by omega) kU_s (vp_in_iff.mpr (by decide)) ?_
  rw [kU_kU]
  rw [vS_8]
  refine k_iinc (i := 1) (v := 18) dX12_init_505 (rfl : 505 + 3 = 508) rfl (Nat.le_of_ble_eq_true rfl) (by decide) ?_
  refine k_ls (ls2 := [.ref 116, .int 18]) rfl ?_
  refine k_goto (tgt := 486) dX12_init_508 (by decide) ?_
  refine k_iload_n (i := 1) dX12_init_486 (rfl : 486 + 1 = 487) rfl rfl ?_
  refine k_bipush (v := 17) dX12_init_487 (rfl : 487 + 2 = 489) (by decide) ?_
  refine k_icmp_gt (tgt := 511) dX12_init_489 (rfl : 489 + 3 = 492) (by decide) (fun b9 => ?_) (fun b9 => by exact absurd (by decide) b9)
  refine k_vret rfl dX12_init_511 (Nat.le_of_ble_eq_true rfl) (Nat.le_of_ble_eq_true rfl) ?_
  exact kRt_rfl
/-- the reference's first state -/
def y00 : kY := (fun k => if k = 2 then (-1) else if k = 3 then (-1) else 0, fun r => if r = 0 then vS 261888 else if r = 9 then (fun q => wW.getD q 0) else if r = 10 then (fun j => nI (wA.getD j 0)) else fun _ => 0)
theorem kEq_I {n : Nat} {f g : Nat → Int32} (h : ∀ j, j < n → f j = g j) : kEq (kI n f) (kI n g) := Or.inr ⟨0, n, f, g, rfl, rfl, h⟩
theorem hX12_is {h : kH} {z : kE × kE} : ∀ i, 116 ≤ i → i < 128 → kEq (hX12 h i) (kHr y00 z i) := by
  intro i h1 h2
  obtain ⟨t, rfl⟩ : ∃ t, i = 116 + t := ⟨i - 116, by omega⟩
  have ht : t < 12 := by omega
  match t, ht with
  | 0, _ => exact Or.inl rfl
  | 1, _ => exact Or.inl (by show kI 116 (vS (((((((((((0 : Int32) ||| ((1 : Int32) <<< ((8 : Int32) &&& 31))) ||| ((1 : Int32) <<< ((9 : Int32) &&& 31))) ||| ((1 : Int32) <<< ((10 : Int32) &&& 31))) ||| ((1 : Int32) <<< ((11 : Int32) &&& 31))) ||| ((1 : Int32) <<< ((12 : Int32) &&& 31))) ||| ((1 : Int32) <<< ((13 : Int32) &&& 31))) ||| ((1 : Int32) <<< ((14 : Int32) &&& 31))) ||| ((1 : Int32) <<< ((15 : Int32) &&& 31))) ||| ((1 : Int32) <<< ((16 : Int32) &&& 31))) ||| ((1 : Int32) <<< ((17 : Int32) &&& 31)))) = kI 116 (vS 261888); rw [show ((((((((((((0 : Int32) ||| ((1 : Int32) <<< ((8 : Int32) &&& 31))) ||| ((1 : Int32) <<< ((9 : Int32) &&& 31))) ||| ((1 : Int32) <<< ((10 : Int32) &&& 31))) ||| ((1 : Int32) <<< ((11 : Int32) &&& 31))) ||| ((1 : Int32) <<< ((12 : Int32) &&& 31))) ||| ((1 : Int32) <<< ((13 : Int32) &&& 31))) ||| ((1 : Int32) <<< ((14 : Int32) &&& 31))) ||| ((1 : Int32) <<< ((15 : Int32) &&& 31))) ||| ((1 : Int32) <<< ((16 : Int32) &&& 31))) ||| ((1 : Int32) <<< ((17 : Int32) &&& 31))) : Int32) = 261888 by decide])
  | 2, _ => exact Or.inl rfl
  | 3, _ => exact Or.inl rfl
  | 4, _ => exact Or.inl rfl
  | 5, _ => exact Or.inl rfl
  | 6, _ => exact Or.inl rfl
  | 7, _ => exact Or.inl rfl
  | 8, _ => exact Or.inl rfl
  | 9, _ => exact Or.inl rfl
  | 10, _ => exact kEq_I (by decide +kernel)
  | 11, _ => exact kEq_I (by decide +kernel)
