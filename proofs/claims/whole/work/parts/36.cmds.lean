def f_X11_checkCommand_0 (x : kK) (a2 : Int32) (a3 : Int32) (a4 : Int32) : Int32 := (f_X11_checkTree x a2 a3 1)
def g_X11_checkCommand_0 (x : kK) (a2 : Int32) (a3 : Int32) (a4 : Int32) : kK := (g_X11_checkTree x a2 a3 1)
set_option maxRecDepth 100000 in
set_option maxHeartbeats 4000000 in
theorem m_X11_checkCommand_0 {x : kK} {r : kH} (iv : kIv (x.1 0)) {a2 : Int32} {a3 : Int32} {a4 : Int32} : kMet kX11_checkCommand false 0 0 [.ref 0, .ref (1010 + 0), .int a2, .int a3, .int a4] (kTp (kHc x) r) 130 (kRt (some (.int (f_X11_checkCommand_0 x a2 a3 a4))) (kTp (kHc (g_X11_checkCommand_0 x a2 a3 a4)) r) 130) := by
  refine kMet.in (by decide) rfl rfl _ rfl ?_
  refine k_gets (Cn := "BoomerangCourt$1") (n := "$SwitchMap$BoomerangCourt$Command") (d := "[I") (id9 := 1002) (by decide) (gm 1315 (by decide +kernel) (by decide +kernel)) dX11_checkCommand_0 (rfl : 0 + 3 = 3) ?_
  refine k_aload_n (i := 1) dX11_checkCommand_3 (rfl : 3 + 1 = 4) rfl rfl ?_
  refine k_callUd0 (Cx := "BoomerangCourt$Command") nm_Jx29ce0_ordinal_8abf5 rfl (gm 1317 (by decide +kernel) (by decide +kernel)) (gm 1318 (by decide +kernel) (by decide +kernel)) (gm 1320 (by decide +kernel) (by decide +kernel)) (gm 1321 (by decide +kernel) (by decide +kernel)) ⟨Nat.le_of_ble_eq_true rfl, Nat.le_of_ble_eq_true rfl⟩ (m_Jx29ce0_ordinal (k9 := 0) (by decide)) dX11_checkCommand_4 (rfl : 4 + 3 = 7) (kEn_O (k9 := 0) (by decide)) rfl ⟨Nat.le_of_ble_eq_true rfl, Nat.le_of_ble_eq_true rfl⟩ ?_
  refine k_sald (id9 := 1002) (vs := kSw) (by decide) dX11_checkCommand_7 (rfl : 7 + 1 = 8) (vp_in_iff.mpr (by decide)) ?_
  refine k_tableIn (tgt := 64) dX11_checkCommand_8 (by decide) (by decide) rfl (by decide) ?_
  refine k_aload_n (i := 0) dX11_checkCommand_64 (rfl : 64 + 1 = 65) rfl rfl ?_
  refine k_iload_n (i := 2) dX11_checkCommand_65 (rfl : 65 + 1 = 66) rfl rfl ?_
  refine k_iload_n (i := 3) dX11_checkCommand_66 (rfl : 66 + 1 = 67) rfl rfl ?_
  refine k_iconst (v := 1) dX11_checkCommand_67 (rfl : 67 + 1 = 68) (by decide) ?_
  refine k_callVd3 cv_X11_68 ⟨Nat.le_of_ble_eq_true rfl, Nat.le_of_ble_eq_true rfl⟩ (m_X11_checkTree iv) dX11_checkCommand_68 (rfl : 68 + 3 = 71) (Nat.le_of_ble_eq_true rfl) rfl rfl rfl ⟨Nat.le_of_ble_eq_true rfl, Nat.le_of_ble_eq_true rfl⟩ ?_
  refine k_iret rfl rfl dX11_checkCommand_71 (Nat.le_of_ble_eq_true rfl) (Nat.le_of_ble_eq_true rfl) ?_
  exact kRt_of rfl rfl
def f_X11_checkCommand_1 (x : kK) (a2 : Int32) (a3 : Int32) (a4 : Int32) : Int32 := (f_X11_checkTree x a2 a3 0)
def g_X11_checkCommand_1 (x : kK) (a2 : Int32) (a3 : Int32) (a4 : Int32) : kK := (g_X11_checkTree x a2 a3 0)
set_option maxRecDepth 100000 in
set_option maxHeartbeats 4000000 in
theorem m_X11_checkCommand_1 {x : kK} {r : kH} (iv : kIv (x.1 0)) {a2 : Int32} {a3 : Int32} {a4 : Int32} : kMet kX11_checkCommand false 0 0 [.ref 0, .ref (1010 + 1), .int a2, .int a3, .int a4] (kTp (kHc x) r) 130 (kRt (some (.int (f_X11_checkCommand_1 x a2 a3 a4))) (kTp (kHc (g_X11_checkCommand_1 x a2 a3 a4)) r) 130) := by
  refine kMet.in (by decide) rfl rfl _ rfl ?_
  refine k_gets (Cn := "BoomerangCourt$1") (n := "$SwitchMap$BoomerangCourt$Command") (d := "[I") (id9 := 1002) (by decide) (gm 1315 (by decide +kernel) (by decide +kernel)) dX11_checkCommand_0 (rfl : 0 + 3 = 3) ?_
  refine k_aload_n (i := 1) dX11_checkCommand_3 (rfl : 3 + 1 = 4) rfl rfl ?_
  refine k_callUd0 (Cx := "BoomerangCourt$Command") nm_Jx29ce0_ordinal_8abf5 rfl (gm 1317 (by decide +kernel) (by decide +kernel)) (gm 1318 (by decide +kernel) (by decide +kernel)) (gm 1320 (by decide +kernel) (by decide +kernel)) (gm 1321 (by decide +kernel) (by decide +kernel)) ⟨Nat.le_of_ble_eq_true rfl, Nat.le_of_ble_eq_true rfl⟩ (m_Jx29ce0_ordinal (k9 := 1) (by decide)) dX11_checkCommand_4 (rfl : 4 + 3 = 7) (kEn_O (k9 := 1) (by decide)) rfl ⟨Nat.le_of_ble_eq_true rfl, Nat.le_of_ble_eq_true rfl⟩ ?_
  refine k_sald (id9 := 1002) (vs := kSw) (by decide) dX11_checkCommand_7 (rfl : 7 + 1 = 8) (vp_in_iff.mpr (by decide)) ?_
  refine k_tableIn (tgt := 72) dX11_checkCommand_8 (by decide) (by decide) rfl (by decide) ?_
  refine k_aload_n (i := 0) dX11_checkCommand_72 (rfl : 72 + 1 = 73) rfl rfl ?_
  refine k_iload_n (i := 2) dX11_checkCommand_73 (rfl : 73 + 1 = 74) rfl rfl ?_
  refine k_iload_n (i := 3) dX11_checkCommand_74 (rfl : 74 + 1 = 75) rfl rfl ?_
  refine k_iconst (v := 0) dX11_checkCommand_75 (rfl : 75 + 1 = 76) (by decide) ?_
  refine k_callVd3 cv_X11_68 ⟨Nat.le_of_ble_eq_true rfl, Nat.le_of_ble_eq_true rfl⟩ (m_X11_checkTree iv) dX11_checkCommand_76 (rfl : 76 + 3 = 79) (Nat.le_of_ble_eq_true rfl) rfl rfl rfl ⟨Nat.le_of_ble_eq_true rfl, Nat.le_of_ble_eq_true rfl⟩ ?_
  refine k_iret rfl rfl dX11_checkCommand_79 (Nat.le_of_ble_eq_true rfl) (Nat.le_of_ble_eq_true rfl) ?_
  exact kRt_of rfl rfl
def f_X11_checkCommand_2 (x : kK) (a2 : Int32) (a3 : Int32) (a4 : Int32) : Int32 := (f_X11_checkBench x a2 a3)
def g_X11_checkCommand_2 (x : kK) (a2 : Int32) (a3 : Int32) (a4 : Int32) : kK := (g_X11_checkBench x a2 a3)
set_option maxRecDepth 100000 in
set_option maxHeartbeats 4000000 in
theorem m_X11_checkCommand_2 {x : kK} {r : kH} (iv : kIv (x.1 0)) {a2 : Int32} {a3 : Int32} {a4 : Int32} : kMet kX11_checkCommand false 0 0 [.ref 0, .ref (1010 + 2), .int a2, .int a3, .int a4] (kTp (kHc x) r) 130 (kRt (some (.int (f_X11_checkCommand_2 x a2 a3 a4))) (kTp (kHc (g_X11_checkCommand_2 x a2 a3 a4)) r) 130) := by
  refine kMet.in (by decide) rfl rfl _ rfl ?_
  refine k_gets (Cn := "BoomerangCourt$1") (n := "$SwitchMap$BoomerangCourt$Command") (d := "[I") (id9 := 1002) (by decide) (gm 1315 (by decide +kernel) (by decide +kernel)) dX11_checkCommand_0 (rfl : 0 + 3 = 3) ?_
  refine k_aload_n (i := 1) dX11_checkCommand_3 (rfl : 3 + 1 = 4) rfl rfl ?_
  refine k_callUd0 (Cx := "BoomerangCourt$Command") nm_Jx29ce0_ordinal_8abf5 rfl (gm 1317 (by decide +kernel) (by decide +kernel)) (gm 1318 (by decide +kernel) (by decide +kernel)) (gm 1320 (by decide +kernel) (by decide +kernel)) (gm 1321 (by decide +kernel) (by decide +kernel)) ⟨Nat.le_of_ble_eq_true rfl, Nat.le_of_ble_eq_true rfl⟩ (m_Jx29ce0_ordinal (k9 := 2) (by decide)) dX11_checkCommand_4 (rfl : 4 + 3 = 7) (kEn_O (k9 := 2) (by decide)) rfl ⟨Nat.le_of_ble_eq_true rfl, Nat.le_of_ble_eq_true rfl⟩ ?_
  refine k_sald (id9 := 1002) (vs := kSw) (by decide) dX11_checkCommand_7 (rfl : 7 + 1 = 8) (vp_in_iff.mpr (by decide)) ?_
  refine k_tableIn (tgt := 80) dX11_checkCommand_8 (by decide) (by decide) rfl (by decide) ?_
  refine k_aload_n (i := 0) dX11_checkCommand_80 (rfl : 80 + 1 = 81) rfl rfl ?_
  refine k_iload_n (i := 2) dX11_checkCommand_81 (rfl : 81 + 1 = 82) rfl rfl ?_
  refine k_iload_n (i := 3) dX11_checkCommand_82 (rfl : 82 + 1 = 83) rfl rfl ?_
  refine k_callVd2 cv_X11_91 ⟨Nat.le_of_ble_eq_true rfl, Nat.le_of_ble_eq_true rfl⟩ (m_X11_checkBench iv) dX11_checkCommand_83 (rfl : 83 + 3 = 86) (Nat.le_of_ble_eq_true rfl) rfl rfl rfl ⟨Nat.le_of_ble_eq_true rfl, Nat.le_of_ble_eq_true rfl⟩ ?_
  refine k_iret rfl rfl dX11_checkCommand_86 (Nat.le_of_ble_eq_true rfl) (Nat.le_of_ble_eq_true rfl) ?_
  exact kRt_of rfl rfl
def f_X11_checkCommand_3 (x : kK) (a2 : Int32) (a3 : Int32) (a4 : Int32) : Int32 := (f_X11_checkNewParty x a2 a3)
def g_X11_checkCommand_3 (x : kK) (a2 : Int32) (a3 : Int32) (a4 : Int32) : kK := (g_X11_checkNewParty x a2 a3)
set_option maxRecDepth 100000 in
set_option maxHeartbeats 4000000 in
theorem m_X11_checkCommand_3 {x : kK} {r : kH} (iv : kIv (x.1 0)) {a2 : Int32} {a3 : Int32} {a4 : Int32} : kMet kX11_checkCommand false 0 0 [.ref 0, .ref (1010 + 3), .int a2, .int a3, .int a4] (kTp (kHc x) r) 130 (kRt (some (.int (f_X11_checkCommand_3 x a2 a3 a4))) (kTp (kHc (g_X11_checkCommand_3 x a2 a3 a4)) r) 130) := by
  refine kMet.in (by decide) rfl rfl _ rfl ?_
  refine k_gets (Cn := "BoomerangCourt$1") (n := "$SwitchMap$BoomerangCourt$Command") (d := "[I") (id9 := 1002) (by decide) (gm 1315 (by decide +kernel) (by decide +kernel)) dX11_checkCommand_0 (rfl : 0 + 3 = 3) ?_
  refine k_aload_n (i := 1) dX11_checkCommand_3 (rfl : 3 + 1 = 4) rfl rfl ?_
  refine k_callUd0 (Cx := "BoomerangCourt$Command") nm_Jx29ce0_ordinal_8abf5 rfl (gm 1317 (by decide +kernel) (by decide +kernel)) (gm 1318 (by decide +kernel) (by decide +kernel)) (gm 1320 (by decide +kernel) (by decide +kernel)) (gm 1321 (by decide +kernel) (by decide +kernel)) ⟨Nat.le_of_ble_eq_true rfl, Nat.le_of_ble_eq_true rfl⟩ (m_Jx29ce0_ordinal (k9 := 3) (by decide)) dX11_checkCommand_4 (rfl : 4 + 3 = 7) (kEn_O (k9 := 3) (by decide)) rfl ⟨Nat.le_of_ble_eq_true rfl, Nat.le_of_ble_eq_true rfl⟩ ?_
  refine k_sald (id9 := 1002) (vs := kSw) (by decide) dX11_checkCommand_7 (rfl : 7 + 1 = 8) (vp_in_iff.mpr (by decide)) ?_
  refine k_tableIn (tgt := 87) dX11_checkCommand_8 (by decide) (by decide) rfl (by decide) ?_
  refine k_aload_n (i := 0) dX11_checkCommand_87 (rfl : 87 + 1 = 88) rfl rfl ?_
  refine k_iload_n (i := 2) dX11_checkCommand_88 (rfl : 88 + 1 = 89) rfl rfl ?_
  refine k_iload_n (i := 3) dX11_checkCommand_89 (rfl : 89 + 1 = 90) rfl rfl ?_
  refine k_callVd2 cv_X11_145 ⟨Nat.le_of_ble_eq_true rfl, Nat.le_of_ble_eq_true rfl⟩ (m_X11_checkNewParty iv) dX11_checkCommand_90 (rfl : 90 + 3 = 93) (Nat.le_of_ble_eq_true rfl) rfl rfl rfl ⟨Nat.le_of_ble_eq_true rfl, Nat.le_of_ble_eq_true rfl⟩ ?_
  refine k_iret rfl rfl dX11_checkCommand_93 (Nat.le_of_ble_eq_true rfl) (Nat.le_of_ble_eq_true rfl) ?_
  exact kRt_of rfl rfl
def f_X11_checkCommand_4 (x : kK) (a2 : Int32) (a3 : Int32) (a4 : Int32) : Int32 := (f_X11_checkMove x a2 a3 a4)
def g_X11_checkCommand_4 (x : kK) (a2 : Int32) (a3 : Int32) (a4 : Int32) : kK := (g_X11_checkMove x a2 a3 a4)
set_option maxRecDepth 100000 in
set_option maxHeartbeats 4000000 in
theorem m_X11_checkCommand_4 {x : kK} {r : kH} (iv : kIv (x.1 0)) {a2 : Int32} {a3 : Int32} {a4 : Int32} : kMet kX11_checkCommand false 0 0 [.ref 0, .ref (1010 + 4), .int a2, .int a3, .int a4] (kTp (kHc x) r) 130 (kRt (some (.int (f_X11_checkCommand_4 x a2 a3 a4))) (kTp (kHc (g_X11_checkCommand_4 x a2 a3 a4)) r) 130) := by
  refine kMet.in (by decide) rfl rfl _ rfl ?_
  refine k_gets (Cn := "BoomerangCourt$1") (n := "$SwitchMap$BoomerangCourt$Command") (d := "[I") (id9 := 1002) (by decide) (gm 1315 (by decide +kernel) (by decide +kernel)) dX11_checkCommand_0 (rfl : 0 + 3 = 3) ?_
  refine k_aload_n (i := 1) dX11_checkCommand_3 (rfl : 3 + 1 = 4) rfl rfl ?_
  refine k_callUd0 (Cx := "BoomerangCourt$Command") nm_Jx29ce0_ordinal_8abf5 rfl (gm 1317 (by decide +kernel) (by decide +kernel)) (gm 1318 (by decide +kernel) (by decide +kernel)) (gm 1320 (by decide +kernel) (by decide +kernel)) (gm 1321 (by decide +kernel) (by decide +kernel)) ⟨Nat.le_of_ble_eq_true rfl, Nat.le_of_ble_eq_true rfl⟩ (m_Jx29ce0_ordinal (k9 := 4) (by decide)) dX11_checkCommand_4 (rfl : 4 + 3 = 7) (kEn_O (k9 := 4) (by decide)) rfl ⟨Nat.le_of_ble_eq_true rfl, Nat.le_of_ble_eq_true rfl⟩ ?_
  refine k_sald (id9 := 1002) (vs := kSw) (by decide) dX11_checkCommand_7 (rfl : 7 + 1 = 8) (vp_in_iff.mpr (by decide)) ?_
  refine k_tableIn (tgt := 94) dX11_checkCommand_8 (by decide) (by decide) rfl (by decide) ?_
  refine k_aload_n (i := 0) dX11_checkCommand_94 (rfl : 94 + 1 = 95) rfl rfl ?_
  refine k_iload_n (i := 2) dX11_checkCommand_95 (rfl : 95 + 1 = 96) rfl rfl ?_
  refine k_iload_n (i := 3) dX11_checkCommand_96 (rfl : 96 + 1 = 97) rfl rfl ?_
  refine k_iload (i := 4) dX11_checkCommand_97 (rfl : 97 + 2 = 99) rfl ?_
  refine k_callVd3 cv_X11_158 ⟨Nat.le_of_ble_eq_true rfl, Nat.le_of_ble_eq_true rfl⟩ (m_X11_checkMove iv) dX11_checkCommand_99 (rfl : 99 + 3 = 102) (Nat.le_of_ble_eq_true rfl) rfl rfl rfl ⟨Nat.le_of_ble_eq_true rfl, Nat.le_of_ble_eq_true rfl⟩ ?_
  refine k_iret rfl rfl dX11_checkCommand_102 (Nat.le_of_ble_eq_true rfl) (Nat.le_of_ble_eq_true rfl) ?_
  exact kRt_of rfl rfl
def f_X11_checkCommand_5 (x : kK) (a2 : Int32) (a3 : Int32) (a4 : Int32) : Int32 := (f_X11_checkWind a2 a3)
set_option maxRecDepth 100000 in
set_option maxHeartbeats 4000000 in
theorem m_X11_checkCommand_5 {x : kK} {r : kH} {a2 : Int32} {a3 : Int32} {a4 : Int32} : kMet kX11_checkCommand false 0 0 [.ref 0, .ref (1010 + 5), .int a2, .int a3, .int a4] (kTp (kHc x) r) 130 (kRt (some (.int (f_X11_checkCommand_5 x a2 a3 a4))) (kTp (kHc x) r) 130) := by
  refine kMet.in (by decide) rfl rfl _ rfl ?_
  refine k_gets (Cn := "BoomerangCourt$1") (n := "$SwitchMap$BoomerangCourt$Command") (d := "[I") (id9 := 1002) (by decide) (gm 1315 (by decide +kernel) (by decide +kernel)) dX11_checkCommand_0 (rfl : 0 + 3 = 3) ?_
  refine k_aload_n (i := 1) dX11_checkCommand_3 (rfl : 3 + 1 = 4) rfl rfl ?_
  refine k_callUd0 (Cx := "BoomerangCourt$Command") nm_Jx29ce0_ordinal_8abf5 rfl (gm 1317 (by decide +kernel) (by decide +kernel)) (gm 1318 (by decide +kernel) (by decide +kernel)) (gm 1320 (by decide +kernel) (by decide +kernel)) (gm 1321 (by decide +kernel) (by decide +kernel)) ⟨Nat.le_of_ble_eq_true rfl, Nat.le_of_ble_eq_true rfl⟩ (m_Jx29ce0_ordinal (k9 := 5) (by decide)) dX11_checkCommand_4 (rfl : 4 + 3 = 7) (kEn_O (k9 := 5) (by decide)) rfl ⟨Nat.le_of_ble_eq_true rfl, Nat.le_of_ble_eq_true rfl⟩ ?_
  refine k_sald (id9 := 1002) (vs := kSw) (by decide) dX11_checkCommand_7 (rfl : 7 + 1 = 8) (vp_in_iff.mpr (by decide)) ?_
  refine k_tableIn (tgt := 103) dX11_checkCommand_8 (by decide) (by decide) rfl (by decide) ?_
  refine k_aload_n (i := 0) dX11_checkCommand_103 (rfl : 103 + 1 = 104) rfl rfl ?_
  refine k_iload_n (i := 2) dX11_checkCommand_104 (rfl : 104 + 1 = 105) rfl rfl ?_
  refine k_iload_n (i := 3) dX11_checkCommand_105 (rfl : 105 + 1 = 106) rfl rfl ?_
  refine k_callVd2 cv_X11_131 ⟨Nat.le_of_ble_eq_true rfl, Nat.le_of_ble_eq_true rfl⟩ (m_X11_checkWind) dX11_checkCommand_106 (rfl : 106 + 3 = 109) (Nat.le_of_ble_eq_true rfl) rfl rfl rfl ⟨Nat.le_of_ble_eq_true rfl, Nat.le_of_ble_eq_true rfl⟩ ?_
  refine k_iret rfl rfl dX11_checkCommand_109 (Nat.le_of_ble_eq_true rfl) (Nat.le_of_ble_eq_true rfl) ?_
  exact kRt_of rfl rfl
def f_X11_checkCommand_6 (x : kK) (a2 : Int32) (a3 : Int32) (a4 : Int32) : Int32 := (f_X11_checkSummons x a2 a3)
def g_X11_checkCommand_6 (x : kK) (a2 : Int32) (a3 : Int32) (a4 : Int32) : kK := (g_X11_checkSummons x a2 a3)
set_option maxRecDepth 100000 in
set_option maxHeartbeats 4000000 in
theorem m_X11_checkCommand_6 {x : kK} {r : kH} (iv : kIv (x.1 0)) {a2 : Int32} {a3 : Int32} {a4 : Int32} : kMet kX11_checkCommand false 0 0 [.ref 0, .ref (1010 + 6), .int a2, .int a3, .int a4] (kTp (kHc x) r) 130 (kRt (some (.int (f_X11_checkCommand_6 x a2 a3 a4))) (kTp (kHc (g_X11_checkCommand_6 x a2 a3 a4)) r) 130) := by
  refine kMet.in (by decide) rfl rfl _ rfl ?_
  refine k_gets (Cn := "BoomerangCourt$1") (n := "$SwitchMap$BoomerangCourt$Command") (d := "[I") (id9 := 1002) (by decide) (gm 1315 (by decide +kernel) (by decide +kernel)) dX11_checkCommand_0 (rfl : 0 + 3 = 3) ?_
  refine k_aload_n (i := 1) dX11_checkCommand_3 (rfl : 3 + 1 = 4) rfl rfl ?_
  refine k_callUd0 (Cx := "BoomerangCourt$Command") nm_Jx29ce0_ordinal_8abf5 rfl (gm 1317 (by decide +kernel) (by decide +kernel)) (gm 1318 (by decide +kernel) (by decide +kernel)) (gm 1320 (by decide +kernel) (by decide +kernel)) (gm 1321 (by decide +kernel) (by decide +kernel)) ⟨Nat.le_of_ble_eq_true rfl, Nat.le_of_ble_eq_true rfl⟩ (m_Jx29ce0_ordinal (k9 := 6) (by decide)) dX11_checkCommand_4 (rfl : 4 + 3 = 7) (kEn_O (k9 := 6) (by decide)) rfl ⟨Nat.le_of_ble_eq_true rfl, Nat.le_of_ble_eq_true rfl⟩ ?_
  refine k_sald (id9 := 1002) (vs := kSw) (by decide) dX11_checkCommand_7 (rfl : 7 + 1 = 8) (vp_in_iff.mpr (by decide)) ?_
  refine k_tableIn (tgt := 110) dX11_checkCommand_8 (by decide) (by decide) rfl (by decide) ?_
  refine k_aload_n (i := 0) dX11_checkCommand_110 (rfl : 110 + 1 = 111) rfl rfl ?_
  refine k_iload_n (i := 2) dX11_checkCommand_111 (rfl : 111 + 1 = 112) rfl rfl ?_
  refine k_iload_n (i := 3) dX11_checkCommand_112 (rfl : 112 + 1 = 113) rfl rfl ?_
  refine k_callVd2 cv_X11_234 ⟨Nat.le_of_ble_eq_true rfl, Nat.le_of_ble_eq_true rfl⟩ (m_X11_checkSummons iv) dX11_checkCommand_113 (rfl : 113 + 3 = 116) (Nat.le_of_ble_eq_true rfl) rfl rfl rfl ⟨Nat.le_of_ble_eq_true rfl, Nat.le_of_ble_eq_true rfl⟩ ?_
  refine k_iret rfl rfl dX11_checkCommand_116 (Nat.le_of_ble_eq_true rfl) (Nat.le_of_ble_eq_true rfl) ?_
  exact kRt_of rfl rfl
def f_X11_checkCommand_7 (x : kK) (a2 : Int32) (a3 : Int32) (a4 : Int32) : Int32 := (f_X11_checkPurchase x a2)
set_option maxRecDepth 100000 in
set_option maxHeartbeats 4000000 in
theorem m_X11_checkCommand_7 {x : kK} {r : kH} {a2 : Int32} {a3 : Int32} {a4 : Int32} : kMet kX11_checkCommand false 0 0 [.ref 0, .ref (1010 + 7), .int a2, .int a3, .int a4] (kTp (kHc x) r) 130 (kRt (some (.int (f_X11_checkCommand_7 x a2 a3 a4))) (kTp (kHc x) r) 130) := by
  refine kMet.in (by decide) rfl rfl _ rfl ?_
  refine k_gets (Cn := "BoomerangCourt$1") (n := "$SwitchMap$BoomerangCourt$Command") (d := "[I") (id9 := 1002) (by decide) (gm 1315 (by decide +kernel) (by decide +kernel)) dX11_checkCommand_0 (rfl : 0 + 3 = 3) ?_
  refine k_aload_n (i := 1) dX11_checkCommand_3 (rfl : 3 + 1 = 4) rfl rfl ?_
  refine k_callUd0 (Cx := "BoomerangCourt$Command") nm_Jx29ce0_ordinal_8abf5 rfl (gm 1317 (by decide +kernel) (by decide +kernel)) (gm 1318 (by decide +kernel) (by decide +kernel)) (gm 1320 (by decide +kernel) (by decide +kernel)) (gm 1321 (by decide +kernel) (by decide +kernel)) ⟨Nat.le_of_ble_eq_true rfl, Nat.le_of_ble_eq_true rfl⟩ (m_Jx29ce0_ordinal (k9 := 7) (by decide)) dX11_checkCommand_4 (rfl : 4 + 3 = 7) (kEn_O (k9 := 7) (by decide)) rfl ⟨Nat.le_of_ble_eq_true rfl, Nat.le_of_ble_eq_true rfl⟩ ?_
  refine k_sald (id9 := 1002) (vs := kSw) (by decide) dX11_checkCommand_7 (rfl : 7 + 1 = 8) (vp_in_iff.mpr (by decide)) ?_
  refine k_tableIn (tgt := 117) dX11_checkCommand_8 (by decide) (by decide) rfl (by decide) ?_
  refine k_aload_n (i := 0) dX11_checkCommand_117 (rfl : 117 + 1 = 118) rfl rfl ?_
  refine k_iload_n (i := 2) dX11_checkCommand_118 (rfl : 118 + 1 = 119) rfl rfl ?_
  refine k_callVd1 cv_X11_242 ⟨Nat.le_of_ble_eq_true rfl, Nat.le_of_ble_eq_true rfl⟩ (m_X11_checkPurchase) dX11_checkCommand_119 (rfl : 119 + 3 = 122) (Nat.le_of_ble_eq_true rfl) rfl rfl rfl ⟨Nat.le_of_ble_eq_true rfl, Nat.le_of_ble_eq_true rfl⟩ ?_
  refine k_iret rfl rfl dX11_checkCommand_122 (Nat.le_of_ble_eq_true rfl) (Nat.le_of_ble_eq_true rfl) ?_
  exact kRt_of rfl rfl
def f_X11_checkCommand_8 (x : kK) (a2 : Int32) (a3 : Int32) (a4 : Int32) : Int32 := (f_X11_checkHearing x a2)
def g_X11_checkCommand_8 (x : kK) (a2 : Int32) (a3 : Int32) (a4 : Int32) : kK := (g_X11_checkHearing x a2)
set_option maxRecDepth 100000 in
set_option maxHeartbeats 4000000 in
theorem m_X11_checkCommand_8 {x : kK} {r : kH} {a2 : Int32} {a3 : Int32} {a4 : Int32} (iv : kIv (x.1 0)) : kMet kX11_checkCommand false 0 0 [.ref 0, .ref (1010 + 8), .int a2, .int a3, .int a4] (kTp (kHc x) r) 130 (kRt (some (.int (f_X11_checkCommand_8 x a2 a3 a4))) (kTp (kHc (g_X11_checkCommand_8 x a2 a3 a4)) r) 130) := by
  refine kMet.in (by decide) rfl rfl _ rfl ?_
  refine k_gets (Cn := "BoomerangCourt$1") (n := "$SwitchMap$BoomerangCourt$Command") (d := "[I") (id9 := 1002) (by decide) (gm 1315 (by decide +kernel) (by decide +kernel)) dX11_checkCommand_0 (rfl : 0 + 3 = 3) ?_
  refine k_aload_n (i := 1) dX11_checkCommand_3 (rfl : 3 + 1 = 4) rfl rfl ?_
  refine k_callUd0 (Cx := "BoomerangCourt$Command") nm_Jx29ce0_ordinal_8abf5 rfl (gm 1317 (by decide +kernel) (by decide +kernel)) (gm 1318 (by decide +kernel) (by decide +kernel)) (gm 1320 (by decide +kernel) (by decide +kernel)) (gm 1321 (by decide +kernel) (by decide +kernel)) ⟨Nat.le_of_ble_eq_true rfl, Nat.le_of_ble_eq_true rfl⟩ (m_Jx29ce0_ordinal (k9 := 8) (by decide)) dX11_checkCommand_4 (rfl : 4 + 3 = 7) (kEn_O (k9 := 8) (by decide)) rfl ⟨Nat.le_of_ble_eq_true rfl, Nat.le_of_ble_eq_true rfl⟩ ?_
  refine k_sald (id9 := 1002) (vs := kSw) (by decide) dX11_checkCommand_7 (rfl : 7 + 1 = 8) (vp_in_iff.mpr (by decide)) ?_
  refine k_tableIn (tgt := 123) dX11_checkCommand_8 (by decide) (by decide) rfl (by decide) ?_
  refine k_aload_n (i := 0) dX11_checkCommand_123 (rfl : 123 + 1 = 124) rfl rfl ?_
  refine k_iload_n (i := 2) dX11_checkCommand_124 (rfl : 124 + 1 = 125) rfl rfl ?_
  refine k_callVd1 cv_X11_288 ⟨Nat.le_of_ble_eq_true rfl, Nat.le_of_ble_eq_true rfl⟩ (m_X11_checkHearing iv) dX11_checkCommand_125 (rfl : 125 + 3 = 128) (Nat.le_of_ble_eq_true rfl) rfl rfl rfl ⟨Nat.le_of_ble_eq_true rfl, Nat.le_of_ble_eq_true rfl⟩ ?_
  refine k_iret rfl rfl dX11_checkCommand_128 (Nat.le_of_ble_eq_true rfl) (Nat.le_of_ble_eq_true rfl) ?_
  exact kRt_of rfl rfl
def f_X11_checkCommand_9 (x : kK) (a2 : Int32) (a3 : Int32) (a4 : Int32) : Int32 := (f_X11_checkPassing a2)
set_option maxRecDepth 100000 in
set_option maxHeartbeats 4000000 in
theorem m_X11_checkCommand_9 {x : kK} {r : kH} {a2 : Int32} {a3 : Int32} {a4 : Int32} : kMet kX11_checkCommand false 0 0 [.ref 0, .ref (1010 + 9), .int a2, .int a3, .int a4] (kTp (kHc x) r) 130 (kRt (some (.int (f_X11_checkCommand_9 x a2 a3 a4))) (kTp (kHc x) r) 130) := by
  refine kMet.in (by decide) rfl rfl _ rfl ?_
  refine k_gets (Cn := "BoomerangCourt$1") (n := "$SwitchMap$BoomerangCourt$Command") (d := "[I") (id9 := 1002) (by decide) (gm 1315 (by decide +kernel) (by decide +kernel)) dX11_checkCommand_0 (rfl : 0 + 3 = 3) ?_
  refine k_aload_n (i := 1) dX11_checkCommand_3 (rfl : 3 + 1 = 4) rfl rfl ?_
  refine k_callUd0 (Cx := "BoomerangCourt$Command") nm_Jx29ce0_ordinal_8abf5 rfl (gm 1317 (by decide +kernel) (by decide +kernel)) (gm 1318 (by decide +kernel) (by decide +kernel)) (gm 1320 (by decide +kernel) (by decide +kernel)) (gm 1321 (by decide +kernel) (by decide +kernel)) ⟨Nat.le_of_ble_eq_true rfl, Nat.le_of_ble_eq_true rfl⟩ (m_Jx29ce0_ordinal (k9 := 9) (by decide)) dX11_checkCommand_4 (rfl : 4 + 3 = 7) (kEn_O (k9 := 9) (by decide)) rfl ⟨Nat.le_of_ble_eq_true rfl, Nat.le_of_ble_eq_true rfl⟩ ?_
  refine k_sald (id9 := 1002) (vs := kSw) (by decide) dX11_checkCommand_7 (rfl : 7 + 1 = 8) (vp_in_iff.mpr (by decide)) ?_
  refine k_tableIn (tgt := 129) dX11_checkCommand_8 (by decide) (by decide) rfl (by decide) ?_
  refine k_aload_n (i := 0) dX11_checkCommand_129 (rfl : 129 + 1 = 130) rfl rfl ?_
  refine k_iload_n (i := 2) dX11_checkCommand_130 (rfl : 130 + 1 = 131) rfl rfl ?_
  refine k_callVd1 cv_X11_303 ⟨Nat.le_of_ble_eq_true rfl, Nat.le_of_ble_eq_true rfl⟩ (m_X11_checkPassing) dX11_checkCommand_131 (rfl : 131 + 3 = 134) (Nat.le_of_ble_eq_true rfl) rfl rfl rfl ⟨Nat.le_of_ble_eq_true rfl, Nat.le_of_ble_eq_true rfl⟩ ?_
  refine k_iret rfl rfl dX11_checkCommand_134 (Nat.le_of_ble_eq_true rfl) (Nat.le_of_ble_eq_true rfl) ?_
  exact kRt_of rfl rfl
def g_X11_carryOut_0 (x : kK) (a2 : Int32) (a3 : Int32) (a4 : Int32) : kK := (g_X11_plant x a2 a3 1)
set_option maxRecDepth 100000 in
set_option maxHeartbeats 4000000 in
theorem m_X11_carryOut_0 {x : kK} {r : kH} {a2 : Int32} {a3 : Int32} {a4 : Int32} : kMet kX11_carryOut false 0 0 [.ref 0, .ref (1010 + 0), .int a2, .int a3, .int a4] (kTp (kHc x) r) 130 (kRt (none) (kTp (kHc (g_X11_carryOut_0 x a2 a3 a4)) r) 130) := by
  refine kMet.in (by decide) rfl rfl _ rfl ?_
  refine k_gets (Cn := "BoomerangCourt$1") (n := "$SwitchMap$BoomerangCourt$Command") (d := "[I") (id9 := 1002) (by decide) (gm 1315 (by decide +kernel) (by decide +kernel)) dX11_carryOut_0 (rfl : 0 + 3 = 3) ?_
  refine k_aload_n (i := 1) dX11_carryOut_3 (rfl : 3 + 1 = 4) rfl rfl ?_
  refine k_callUd0 (Cx := "BoomerangCourt$Command") nm_Jx29ce0_ordinal_8abf5 rfl (gm 1317 (by decide +kernel) (by decide +kernel)) (gm 1318 (by decide +kernel) (by decide +kernel)) (gm 1320 (by decide +kernel) (by decide +kernel)) (gm 1321 (by decide +kernel) (by decide +kernel)) ⟨Nat.le_of_ble_eq_true rfl, Nat.le_of_ble_eq_true rfl⟩ (m_Jx29ce0_ordinal (k9 := 0) (by decide)) dX11_carryOut_4 (rfl : 4 + 3 = 7) (kEn_O (k9 := 0) (by decide)) rfl ⟨Nat.le_of_ble_eq_true rfl, Nat.le_of_ble_eq_true rfl⟩ ?_
  refine k_sald (id9 := 1002) (vs := kSw) (by decide) dX11_carryOut_7 (rfl : 7 + 1 = 8) (vp_in_iff.mpr (by decide)) ?_
  refine k_tableIn (tgt := 64) dX11_carryOut_8 (by decide) (by decide) rfl (by decide) ?_
  refine k_aload_n (i := 0) dX11_carryOut_64 (rfl : 64 + 1 = 65) rfl rfl ?_
  refine k_iload_n (i := 2) dX11_carryOut_65 (rfl : 65 + 1 = 66) rfl rfl ?_
  refine k_iload_n (i := 3) dX11_carryOut_66 (rfl : 66 + 1 = 67) rfl rfl ?_
  refine k_iconst (v := 1) dX11_carryOut_67 (rfl : 67 + 1 = 68) (by decide) ?_
  refine k_callVd3 cv_X11_88 ⟨Nat.le_of_ble_eq_true rfl, Nat.le_of_ble_eq_true rfl⟩ (m_X11_plant) dX11_carryOut_68 (rfl : 68 + 3 = 71) (Nat.le_of_ble_eq_true rfl) rfl rfl rfl ⟨Nat.le_of_ble_eq_true rfl, Nat.le_of_ble_eq_true rfl⟩ ?_
  refine k_pop dX11_carryOut_71 (rfl : 71 + 1 = 72) rfl ?_
  refine k_goto (tgt := 165) dX11_carryOut_72 (by decide) ?_
  refine k_vret rfl dX11_carryOut_165 (Nat.le_of_ble_eq_true rfl) (Nat.le_of_ble_eq_true rfl) ?_
  exact kRt_of rfl rfl
def g_X11_carryOut_1 (x : kK) (a2 : Int32) (a3 : Int32) (a4 : Int32) : kK := (g_X11_plant x a2 a3 0)
set_option maxRecDepth 100000 in
set_option maxHeartbeats 4000000 in
theorem m_X11_carryOut_1 {x : kK} {r : kH} {a2 : Int32} {a3 : Int32} {a4 : Int32} : kMet kX11_carryOut false 0 0 [.ref 0, .ref (1010 + 1), .int a2, .int a3, .int a4] (kTp (kHc x) r) 130 (kRt (none) (kTp (kHc (g_X11_carryOut_1 x a2 a3 a4)) r) 130) := by
  refine kMet.in (by decide) rfl rfl _ rfl ?_
  refine k_gets (Cn := "BoomerangCourt$1") (n := "$SwitchMap$BoomerangCourt$Command") (d := "[I") (id9 := 1002) (by decide) (gm 1315 (by decide +kernel) (by decide +kernel)) dX11_carryOut_0 (rfl : 0 + 3 = 3) ?_
  refine k_aload_n (i := 1) dX11_carryOut_3 (rfl : 3 + 1 = 4) rfl rfl ?_
  refine k_callUd0 (Cx := "BoomerangCourt$Command") nm_Jx29ce0_ordinal_8abf5 rfl (gm 1317 (by decide +kernel) (by decide +kernel)) (gm 1318 (by decide +kernel) (by decide +kernel)) (gm 1320 (by decide +kernel) (by decide +kernel)) (gm 1321 (by decide +kernel) (by decide +kernel)) ⟨Nat.le_of_ble_eq_true rfl, Nat.le_of_ble_eq_true rfl⟩ (m_Jx29ce0_ordinal (k9 := 1) (by decide)) dX11_carryOut_4 (rfl : 4 + 3 = 7) (kEn_O (k9 := 1) (by decide)) rfl ⟨Nat.le_of_ble_eq_true rfl, Nat.le_of_ble_eq_true rfl⟩ ?_
  refine k_sald (id9 := 1002) (vs := kSw) (by decide) dX11_carryOut_7 (rfl : 7 + 1 = 8) (vp_in_iff.mpr (by decide)) ?_
  refine k_tableIn (tgt := 75) dX11_carryOut_8 (by decide) (by decide) rfl (by decide) ?_
  refine k_aload_n (i := 0) dX11_carryOut_75 (rfl : 75 + 1 = 76) rfl rfl ?_
  refine k_iload_n (i := 2) dX11_carryOut_76 (rfl : 76 + 1 = 77) rfl rfl ?_
  refine k_iload_n (i := 3) dX11_carryOut_77 (rfl : 77 + 1 = 78) rfl rfl ?_
  refine k_iconst (v := 0) dX11_carryOut_78 (rfl : 78 + 1 = 79) (by decide) ?_
  refine k_callVd3 cv_X11_88 ⟨Nat.le_of_ble_eq_true rfl, Nat.le_of_ble_eq_true rfl⟩ (m_X11_plant) dX11_carryOut_79 (rfl : 79 + 3 = 82) (Nat.le_of_ble_eq_true rfl) rfl rfl rfl ⟨Nat.le_of_ble_eq_true rfl, Nat.le_of_ble_eq_true rfl⟩ ?_
  refine k_pop dX11_carryOut_82 (rfl : 82 + 1 = 83) rfl ?_
  refine k_goto (tgt := 165) dX11_carryOut_83 (by decide) ?_
  refine k_vret rfl dX11_carryOut_165 (Nat.le_of_ble_eq_true rfl) (Nat.le_of_ble_eq_true rfl) ?_
  exact kRt_of rfl rfl
def g_X11_carryOut_2 (x : kK) (a2 : Int32) (a3 : Int32) (a4 : Int32) : kK := (g_X11_placeBench x a2 a3)
set_option maxRecDepth 100000 in
set_option maxHeartbeats 4000000 in
theorem m_X11_carryOut_2 {x : kK} {r : kH} {a2 : Int32} {a3 : Int32} {a4 : Int32} : kMet kX11_carryOut false 0 0 [.ref 0, .ref (1010 + 2), .int a2, .int a3, .int a4] (kTp (kHc x) r) 130 (kRt (none) (kTp (kHc (g_X11_carryOut_2 x a2 a3 a4)) r) 130) := by
  refine kMet.in (by decide) rfl rfl _ rfl ?_
  refine k_gets (Cn := "BoomerangCourt$1") (n := "$SwitchMap$BoomerangCourt$Command") (d := "[I") (id9 := 1002) (by decide) (gm 1315 (by decide +kernel) (by decide +kernel)) dX11_carryOut_0 (rfl : 0 + 3 = 3) ?_
  refine k_aload_n (i := 1) dX11_carryOut_3 (rfl : 3 + 1 = 4) rfl rfl ?_
  refine k_callUd0 (Cx := "BoomerangCourt$Command") nm_Jx29ce0_ordinal_8abf5 rfl (gm 1317 (by decide +kernel) (by decide +kernel)) (gm 1318 (by decide +kernel) (by decide +kernel)) (gm 1320 (by decide +kernel) (by decide +kernel)) (gm 1321 (by decide +kernel) (by decide +kernel)) ⟨Nat.le_of_ble_eq_true rfl, Nat.le_of_ble_eq_true rfl⟩ (m_Jx29ce0_ordinal (k9 := 2) (by decide)) dX11_carryOut_4 (rfl : 4 + 3 = 7) (kEn_O (k9 := 2) (by decide)) rfl ⟨Nat.le_of_ble_eq_true rfl, Nat.le_of_ble_eq_true rfl⟩ ?_
  refine k_sald (id9 := 1002) (vs := kSw) (by decide) dX11_carryOut_7 (rfl : 7 + 1 = 8) (vp_in_iff.mpr (by decide)) ?_
  refine k_tableIn (tgt := 86) dX11_carryOut_8 (by decide) (by decide) rfl (by decide) ?_
  refine k_aload_n (i := 0) dX11_carryOut_86 (rfl : 86 + 1 = 87) rfl rfl ?_
  refine k_iload_n (i := 2) dX11_carryOut_87 (rfl : 87 + 1 = 88) rfl rfl ?_
  refine k_iload_n (i := 3) dX11_carryOut_88 (rfl : 88 + 1 = 89) rfl rfl ?_
  refine k_callVd2 cv_X11_97 ⟨Nat.le_of_ble_eq_true rfl, Nat.le_of_ble_eq_true rfl⟩ (m_X11_placeBench) dX11_carryOut_89 (rfl : 89 + 3 = 92) (Nat.le_of_ble_eq_true rfl) rfl rfl rfl ⟨Nat.le_of_ble_eq_true rfl, Nat.le_of_ble_eq_true rfl⟩ ?_
  refine k_pop dX11_carryOut_92 (rfl : 92 + 1 = 93) rfl ?_
  refine k_goto (tgt := 165) dX11_carryOut_93 (by decide) ?_
  refine k_vret rfl dX11_carryOut_165 (Nat.le_of_ble_eq_true rfl) (Nat.le_of_ble_eq_true rfl) ?_
  exact kRt_of rfl rfl
def g_X11_carryOut_3 (x : kK) (a2 : Int32) (a3 : Int32) (a4 : Int32) : kK := (g_X11_seatParty x a2 a3)
set_option maxRecDepth 100000 in
set_option maxHeartbeats 4000000 in
theorem m_X11_carryOut_3 {x : kK} {r : kH} {a2 : Int32} {a3 : Int32} {a4 : Int32} (iv : kIv (x.1 0)) : kMet kX11_carryOut false 0 0 [.ref 0, .ref (1010 + 3), .int a2, .int a3, .int a4] (kTp (kHc x) r) 130 (kRt (none) (kTp (kHc (g_X11_carryOut_3 x a2 a3 a4)) r) 130) := by
  refine kMet.in (by decide) rfl rfl _ rfl ?_
  refine k_gets (Cn := "BoomerangCourt$1") (n := "$SwitchMap$BoomerangCourt$Command") (d := "[I") (id9 := 1002) (by decide) (gm 1315 (by decide +kernel) (by decide +kernel)) dX11_carryOut_0 (rfl : 0 + 3 = 3) ?_
  refine k_aload_n (i := 1) dX11_carryOut_3 (rfl : 3 + 1 = 4) rfl rfl ?_
  refine k_callUd0 (Cx := "BoomerangCourt$Command") nm_Jx29ce0_ordinal_8abf5 rfl (gm 1317 (by decide +kernel) (by decide +kernel)) (gm 1318 (by decide +kernel) (by decide +kernel)) (gm 1320 (by decide +kernel) (by decide +kernel)) (gm 1321 (by decide +kernel) (by decide +kernel)) ⟨Nat.le_of_ble_eq_true rfl, Nat.le_of_ble_eq_true rfl⟩ (m_Jx29ce0_ordinal (k9 := 3) (by decide)) dX11_carryOut_4 (rfl : 4 + 3 = 7) (kEn_O (k9 := 3) (by decide)) rfl ⟨Nat.le_of_ble_eq_true rfl, Nat.le_of_ble_eq_true rfl⟩ ?_
  refine k_sald (id9 := 1002) (vs := kSw) (by decide) dX11_carryOut_7 (rfl : 7 + 1 = 8) (vp_in_iff.mpr (by decide)) ?_
  refine k_tableIn (tgt := 96) dX11_carryOut_8 (by decide) (by decide) rfl (by decide) ?_
  refine k_aload_n (i := 0) dX11_carryOut_96 (rfl : 96 + 1 = 97) rfl rfl ?_
  refine k_iload_n (i := 2) dX11_carryOut_97 (rfl : 97 + 1 = 98) rfl rfl ?_
  refine k_iload_n (i := 3) dX11_carryOut_98 (rfl : 98 + 1 = 99) rfl rfl ?_
  refine k_callVd2 cv_X11_155 ⟨Nat.le_of_ble_eq_true rfl, Nat.le_of_ble_eq_true rfl⟩ (m_X11_seatParty iv) dX11_carryOut_99 (rfl : 99 + 3 = 102) (Nat.le_of_ble_eq_true rfl) rfl rfl rfl ⟨Nat.le_of_ble_eq_true rfl, Nat.le_of_ble_eq_true rfl⟩ ?_
  refine k_pop dX11_carryOut_102 (rfl : 102 + 1 = 103) rfl ?_
  refine k_goto (tgt := 165) dX11_carryOut_103 (by decide) ?_
  refine k_vret rfl dX11_carryOut_165 (Nat.le_of_ble_eq_true rfl) (Nat.le_of_ble_eq_true rfl) ?_
  exact kRt_of rfl rfl
def g_X11_carryOut_4 (x : kK) (a2 : Int32) (a3 : Int32) (a4 : Int32) : kK := (g_X11_shiftParty x a2 a3 a4)
set_option maxRecDepth 100000 in
set_option maxHeartbeats 4000000 in
theorem m_X11_carryOut_4 {x : kK} {r : kH} {a2 : Int32} {a3 : Int32} {a4 : Int32} (h8 : vp_in a2 8) : kMet kX11_carryOut false 0 0 [.ref 0, .ref (1010 + 4), .int a2, .int a3, .int a4] (kTp (kHc x) r) 130 (kRt (none) (kTp (kHc (g_X11_carryOut_4 x a2 a3 a4)) r) 130) := by
  refine kMet.in (by decide) rfl rfl _ rfl ?_
  refine k_gets (Cn := "BoomerangCourt$1") (n := "$SwitchMap$BoomerangCourt$Command") (d := "[I") (id9 := 1002) (by decide) (gm 1315 (by decide +kernel) (by decide +kernel)) dX11_carryOut_0 (rfl : 0 + 3 = 3) ?_
  refine k_aload_n (i := 1) dX11_carryOut_3 (rfl : 3 + 1 = 4) rfl rfl ?_
  refine k_callUd0 (Cx := "BoomerangCourt$Command") nm_Jx29ce0_ordinal_8abf5 rfl (gm 1317 (by decide +kernel) (by decide +kernel)) (gm 1318 (by decide +kernel) (by decide +kernel)) (gm 1320 (by decide +kernel) (by decide +kernel)) (gm 1321 (by decide +kernel) (by decide +kernel)) ⟨Nat.le_of_ble_eq_true rfl, Nat.le_of_ble_eq_true rfl⟩ (m_Jx29ce0_ordinal (k9 := 4) (by decide)) dX11_carryOut_4 (rfl : 4 + 3 = 7) (kEn_O (k9 := 4) (by decide)) rfl ⟨Nat.le_of_ble_eq_true rfl, Nat.le_of_ble_eq_true rfl⟩ ?_
  refine k_sald (id9 := 1002) (vs := kSw) (by decide) dX11_carryOut_7 (rfl : 7 + 1 = 8) (vp_in_iff.mpr (by decide)) ?_
  refine k_tableIn (tgt := 106) dX11_carryOut_8 (by decide) (by decide) rfl (by decide) ?_
  refine k_aload_n (i := 0) dX11_carryOut_106 (rfl : 106 + 1 = 107) rfl rfl ?_
  refine k_iload_n (i := 2) dX11_carryOut_107 (rfl : 107 + 1 = 108) rfl rfl ?_
  refine k_iload_n (i := 3) dX11_carryOut_108 (rfl : 108 + 1 = 109) rfl rfl ?_
  refine k_iload (i := 4) dX11_carryOut_109 (rfl : 109 + 2 = 111) rfl ?_
  refine k_callVd3 cv_X11_166 ⟨Nat.le_of_ble_eq_true rfl, Nat.le_of_ble_eq_true rfl⟩ (m_X11_shiftParty h8) dX11_carryOut_111 (rfl : 111 + 3 = 114) (Nat.le_of_ble_eq_true rfl) rfl rfl rfl ⟨Nat.le_of_ble_eq_true rfl, Nat.le_of_ble_eq_true rfl⟩ ?_
  refine k_pop dX11_carryOut_114 (rfl : 114 + 1 = 115) rfl ?_
  refine k_goto (tgt := 165) dX11_carryOut_115 (by decide) ?_
  refine k_vret rfl dX11_carryOut_165 (Nat.le_of_ble_eq_true rfl) (Nat.le_of_ble_eq_true rfl) ?_
  exact kRt_of rfl rfl
def g_X11_carryOut_5 (x : kK) (a2 : Int32) (a3 : Int32) (a4 : Int32) : kK := (g_X11_turnWind x a2 a3)
set_option maxRecDepth 100000 in
set_option maxHeartbeats 4000000 in
theorem m_X11_carryOut_5 {x : kK} {r : kH} {a2 : Int32} {a3 : Int32} {a4 : Int32} : kMet kX11_carryOut false 0 0 [.ref 0, .ref (1010 + 5), .int a2, .int a3, .int a4] (kTp (kHc x) r) 130 (kRt (none) (kTp (kHc (g_X11_carryOut_5 x a2 a3 a4)) r) 130) := by
  refine kMet.in (by decide) rfl rfl _ rfl ?_
  refine k_gets (Cn := "BoomerangCourt$1") (n := "$SwitchMap$BoomerangCourt$Command") (d := "[I") (id9 := 1002) (by decide) (gm 1315 (by decide +kernel) (by decide +kernel)) dX11_carryOut_0 (rfl : 0 + 3 = 3) ?_
  refine k_aload_n (i := 1) dX11_carryOut_3 (rfl : 3 + 1 = 4) rfl rfl ?_
  refine k_callUd0 (Cx := "BoomerangCourt$Command") nm_Jx29ce0_ordinal_8abf5 rfl (gm 1317 (by decide +kernel) (by decide +kernel)) (gm 1318 (by decide +kernel) (by decide +kernel)) (gm 1320 (by decide +kernel) (by decide +kernel)) (gm 1321 (by decide +kernel) (by decide +kernel)) ⟨Nat.le_of_ble_eq_true rfl, Nat.le_of_ble_eq_true rfl⟩ (m_Jx29ce0_ordinal (k9 := 5) (by decide)) dX11_carryOut_4 (rfl : 4 + 3 = 7) (kEn_O (k9 := 5) (by decide)) rfl ⟨Nat.le_of_ble_eq_true rfl, Nat.le_of_ble_eq_true rfl⟩ ?_
  refine k_sald (id9 := 1002) (vs := kSw) (by decide) dX11_carryOut_7 (rfl : 7 + 1 = 8) (vp_in_iff.mpr (by decide)) ?_
  refine k_tableIn (tgt := 118) dX11_carryOut_8 (by decide) (by decide) rfl (by decide) ?_
  refine k_aload_n (i := 0) dX11_carryOut_118 (rfl : 118 + 1 = 119) rfl rfl ?_
  refine k_iload_n (i := 2) dX11_carryOut_119 (rfl : 119 + 1 = 120) rfl rfl ?_
  refine k_iload_n (i := 3) dX11_carryOut_120 (rfl : 120 + 1 = 121) rfl rfl ?_
  refine k_callVd2 cv_X11_139 ⟨Nat.le_of_ble_eq_true rfl, Nat.le_of_ble_eq_true rfl⟩ (m_X11_turnWind) dX11_carryOut_121 (rfl : 121 + 3 = 124) (Nat.le_of_ble_eq_true rfl) rfl rfl rfl ⟨Nat.le_of_ble_eq_true rfl, Nat.le_of_ble_eq_true rfl⟩ ?_
  refine k_pop dX11_carryOut_124 (rfl : 124 + 1 = 125) rfl ?_
  refine k_goto (tgt := 165) dX11_carryOut_125 (by decide) ?_
  refine k_vret rfl dX11_carryOut_165 (Nat.le_of_ble_eq_true rfl) (Nat.le_of_ble_eq_true rfl) ?_
  exact kRt_of rfl rfl
def g_X11_carryOut_6 (x : kK) (a2 : Int32) (a3 : Int32) (a4 : Int32) : kK := (g_X11_throwAt x a2 a3)
set_option maxRecDepth 100000 in
set_option maxHeartbeats 4000000 in
theorem m_X11_carryOut_6 {x : kK} {r : kH} {a2 : Int32} {a3 : Int32} {a4 : Int32} (iv : kIv (x.1 0)) (ht : ¬ f_X11_isThrow a3 = 0) (h8 : vp_in a2 8) : kMet kX11_carryOut false 0 0 [.ref 0, .ref (1010 + 6), .int a2, .int a3, .int a4] (kTp (kHc x) r) 130 (kRt (none) (kTp (kHc (g_X11_carryOut_6 x a2 a3 a4)) r) 130) := by
  refine kMet.in (by decide) rfl rfl _ rfl ?_
  refine k_gets (Cn := "BoomerangCourt$1") (n := "$SwitchMap$BoomerangCourt$Command") (d := "[I") (id9 := 1002) (by decide) (gm 1315 (by decide +kernel) (by decide +kernel)) dX11_carryOut_0 (rfl : 0 + 3 = 3) ?_
  refine k_aload_n (i := 1) dX11_carryOut_3 (rfl : 3 + 1 = 4) rfl rfl ?_
  refine k_callUd0 (Cx := "BoomerangCourt$Command") nm_Jx29ce0_ordinal_8abf5 rfl (gm 1317 (by decide +kernel) (by decide +kernel)) (gm 1318 (by decide +kernel) (by decide +kernel)) (gm 1320 (by decide +kernel) (by decide +kernel)) (gm 1321 (by decide +kernel) (by decide +kernel)) ⟨Nat.le_of_ble_eq_true rfl, Nat.le_of_ble_eq_true rfl⟩ (m_Jx29ce0_ordinal (k9 := 6) (by decide)) dX11_carryOut_4 (rfl : 4 + 3 = 7) (kEn_O (k9 := 6) (by decide)) rfl ⟨Nat.le_of_ble_eq_true rfl, Nat.le_of_ble_eq_true rfl⟩ ?_
  refine k_sald (id9 := 1002) (vs := kSw) (by decide) dX11_carryOut_7 (rfl : 7 + 1 = 8) (vp_in_iff.mpr (by decide)) ?_
  refine k_tableIn (tgt := 128) dX11_carryOut_8 (by decide) (by decide) rfl (by decide) ?_
  refine k_aload_n (i := 0) dX11_carryOut_128 (rfl : 128 + 1 = 129) rfl rfl ?_
  refine k_iload_n (i := 2) dX11_carryOut_129 (rfl : 129 + 1 = 130) rfl rfl ?_
  refine k_iload_n (i := 3) dX11_carryOut_130 (rfl : 130 + 1 = 131) rfl rfl ?_
  refine k_callVd2 cv_X11_239 ⟨Nat.le_of_ble_eq_true rfl, Nat.le_of_ble_eq_true rfl⟩ (m_X11_throwAt iv ht h8) dX11_carryOut_131 (rfl : 131 + 3 = 134) (Nat.le_of_ble_eq_true rfl) rfl rfl rfl ⟨Nat.le_of_ble_eq_true rfl, Nat.le_of_ble_eq_true rfl⟩ ?_
  refine k_pop dX11_carryOut_134 (rfl : 134 + 1 = 135) rfl ?_
  refine k_goto (tgt := 165) dX11_carryOut_135 (by decide) ?_
  refine k_vret rfl dX11_carryOut_165 (Nat.le_of_ble_eq_true rfl) (Nat.le_of_ble_eq_true rfl) ?_
  exact kRt_of rfl rfl
def g_X11_carryOut_7 (x : kK) (a2 : Int32) (a3 : Int32) (a4 : Int32) : kK := (g_X11_purchase x a2)
set_option maxRecDepth 100000 in
set_option maxHeartbeats 4000000 in
theorem m_X11_carryOut_7 {x : kK} {r : kH} {a2 : Int32} {a3 : Int32} {a4 : Int32} : kMet kX11_carryOut false 0 0 [.ref 0, .ref (1010 + 7), .int a2, .int a3, .int a4] (kTp (kHc x) r) 130 (kRt (none) (kTp (kHc (g_X11_carryOut_7 x a2 a3 a4)) r) 130) := by
  refine kMet.in (by decide) rfl rfl _ rfl ?_
  refine k_gets (Cn := "BoomerangCourt$1") (n := "$SwitchMap$BoomerangCourt$Command") (d := "[I") (id9 := 1002) (by decide) (gm 1315 (by decide +kernel) (by decide +kernel)) dX11_carryOut_0 (rfl : 0 + 3 = 3) ?_
  refine k_aload_n (i := 1) dX11_carryOut_3 (rfl : 3 + 1 = 4) rfl rfl ?_
  refine k_callUd0 (Cx := "BoomerangCourt$Command") nm_Jx29ce0_ordinal_8abf5 rfl (gm 1317 (by decide +kernel) (by decide +kernel)) (gm 1318 (by decide +kernel) (by decide +kernel)) (gm 1320 (by decide +kernel) (by decide +kernel)) (gm 1321 (by decide +kernel) (by decide +kernel)) ⟨Nat.le_of_ble_eq_true rfl, Nat.le_of_ble_eq_true rfl⟩ (m_Jx29ce0_ordinal (k9 := 7) (by decide)) dX11_carryOut_4 (rfl : 4 + 3 = 7) (kEn_O (k9 := 7) (by decide)) rfl ⟨Nat.le_of_ble_eq_true rfl, Nat.le_of_ble_eq_true rfl⟩ ?_
  refine k_sald (id9 := 1002) (vs := kSw) (by decide) dX11_carryOut_7 (rfl : 7 + 1 = 8) (vp_in_iff.mpr (by decide)) ?_
  refine k_tableIn (tgt := 138) dX11_carryOut_8 (by decide) (by decide) rfl (by decide) ?_
  refine k_aload_n (i := 0) dX11_carryOut_138 (rfl : 138 + 1 = 139) rfl rfl ?_
  refine k_iload_n (i := 2) dX11_carryOut_139 (rfl : 139 + 1 = 140) rfl rfl ?_
  refine k_callVd1 cv_X11_249 ⟨Nat.le_of_ble_eq_true rfl, Nat.le_of_ble_eq_true rfl⟩ (m_X11_purchase) dX11_carryOut_140 (rfl : 140 + 3 = 143) (Nat.le_of_ble_eq_true rfl) rfl rfl rfl ⟨Nat.le_of_ble_eq_true rfl, Nat.le_of_ble_eq_true rfl⟩ ?_
  refine k_pop dX11_carryOut_143 (rfl : 143 + 1 = 144) rfl ?_
  refine k_goto (tgt := 165) dX11_carryOut_144 (by decide) ?_
  refine k_vret rfl dX11_carryOut_165 (Nat.le_of_ble_eq_true rfl) (Nat.le_of_ble_eq_true rfl) ?_
  exact kRt_of rfl rfl
def g_X11_carryOut_8 (x : kK) (a2 : Int32) (a3 : Int32) (a4 : Int32) : kK := (g_X11_holdHearing x a2)
set_option maxRecDepth 100000 in
set_option maxHeartbeats 4000000 in
theorem m_X11_carryOut_8 {x : kK} {r : kH} {a2 : Int32} {a3 : Int32} {a4 : Int32} (iv : kIv (x.1 0)) (hp : ¬ f_X3_hasPlea x a2 = 0) : kMet kX11_carryOut false 0 0 [.ref 0, .ref (1010 + 8), .int a2, .int a3, .int a4] (kTp (kHc x) r) 130 (kRt (none) (kTp (kHc (g_X11_carryOut_8 x a2 a3 a4)) r) 130) := by
  refine kMet.in (by decide) rfl rfl _ rfl ?_
  refine k_gets (Cn := "BoomerangCourt$1") (n := "$SwitchMap$BoomerangCourt$Command") (d := "[I") (id9 := 1002) (by decide) (gm 1315 (by decide +kernel) (by decide +kernel)) dX11_carryOut_0 (rfl : 0 + 3 = 3) ?_
  refine k_aload_n (i := 1) dX11_carryOut_3 (rfl : 3 + 1 = 4) rfl rfl ?_
  refine k_callUd0 (Cx := "BoomerangCourt$Command") nm_Jx29ce0_ordinal_8abf5 rfl (gm 1317 (by decide +kernel) (by decide +kernel)) (gm 1318 (by decide +kernel) (by decide +kernel)) (gm 1320 (by decide +kernel) (by decide +kernel)) (gm 1321 (by decide +kernel) (by decide +kernel)) ⟨Nat.le_of_ble_eq_true rfl, Nat.le_of_ble_eq_true rfl⟩ (m_Jx29ce0_ordinal (k9 := 8) (by decide)) dX11_carryOut_4 (rfl : 4 + 3 = 7) (kEn_O (k9 := 8) (by decide)) rfl ⟨Nat.le_of_ble_eq_true rfl, Nat.le_of_ble_eq_true rfl⟩ ?_
  refine k_sald (id9 := 1002) (vs := kSw) (by decide) dX11_carryOut_7 (rfl : 7 + 1 = 8) (vp_in_iff.mpr (by decide)) ?_
  refine k_tableIn (tgt := 147) dX11_carryOut_8 (by decide) (by decide) rfl (by decide) ?_
  refine k_aload_n (i := 0) dX11_carryOut_147 (rfl : 147 + 1 = 148) rfl rfl ?_
  refine k_iload_n (i := 2) dX11_carryOut_148 (rfl : 148 + 1 = 149) rfl rfl ?_
  refine k_callVd1 cv_X11_293 ⟨Nat.le_of_ble_eq_true rfl, Nat.le_of_ble_eq_true rfl⟩ (m_X11_holdHearing iv hp) dX11_carryOut_149 (rfl : 149 + 3 = 152) (Nat.le_of_ble_eq_true rfl) rfl rfl rfl ⟨Nat.le_of_ble_eq_true rfl, Nat.le_of_ble_eq_true rfl⟩ ?_
  refine k_pop dX11_carryOut_152 (rfl : 152 + 1 = 153) rfl ?_
  refine k_goto (tgt := 165) dX11_carryOut_153 (by decide) ?_
  refine k_vret rfl dX11_carryOut_165 (Nat.le_of_ble_eq_true rfl) (Nat.le_of_ble_eq_true rfl) ?_
  exact kRt_of rfl rfl
def g_X11_carryOut_9 (x : kK) (a2 : Int32) (a3 : Int32) (a4 : Int32) : kK := (g_X11_passHours x a2)
set_option maxRecDepth 100000 in
set_option maxHeartbeats 4000000 in
theorem m_X11_carryOut_9 {x : kK} {r : kH} {a2 : Int32} {a3 : Int32} {a4 : Int32} (iv : kIv (x.1 0)) : kMet kX11_carryOut false 0 0 [.ref 0, .ref (1010 + 9), .int a2, .int a3, .int a4] (kTp (kHc x) r) 130 (kRt (none) (kTp (kHc (g_X11_carryOut_9 x a2 a3 a4)) r) 130) := by
  refine kMet.in (by decide) rfl rfl _ rfl ?_
  refine k_gets (Cn := "BoomerangCourt$1") (n := "$SwitchMap$BoomerangCourt$Command") (d := "[I") (id9 := 1002) (by decide) (gm 1315 (by decide +kernel) (by decide +kernel)) dX11_carryOut_0 (rfl : 0 + 3 = 3) ?_
  refine k_aload_n (i := 1) dX11_carryOut_3 (rfl : 3 + 1 = 4) rfl rfl ?_
  refine k_callUd0 (Cx := "BoomerangCourt$Command") nm_Jx29ce0_ordinal_8abf5 rfl (gm 1317 (by decide +kernel) (by decide +kernel)) (gm 1318 (by decide +kernel) (by decide +kernel)) (gm 1320 (by decide +kernel) (by decide +kernel)) (gm 1321 (by decide +kernel) (by decide +kernel)) ⟨Nat.le_of_ble_eq_true rfl, Nat.le_of_ble_eq_true rfl⟩ (m_Jx29ce0_ordinal (k9 := 9) (by decide)) dX11_carryOut_4 (rfl : 4 + 3 = 7) (kEn_O (k9 := 9) (by decide)) rfl ⟨Nat.le_of_ble_eq_true rfl, Nat.le_of_ble_eq_true rfl⟩ ?_
  refine k_sald (id9 := 1002) (vs := kSw) (by decide) dX11_carryOut_7 (rfl : 7 + 1 = 8) (vp_in_iff.mpr (by decide)) ?_
  refine k_tableIn (tgt := 156) dX11_carryOut_8 (by decide) (by decide) rfl (by decide) ?_
  refine k_aload_n (i := 0) dX11_carryOut_156 (rfl : 156 + 1 = 157) rfl rfl ?_
  refine k_iload_n (i := 2) dX11_carryOut_157 (rfl : 157 + 1 = 158) rfl rfl ?_
  refine k_callVd1 cv_X11_306 ⟨Nat.le_of_ble_eq_true rfl, Nat.le_of_ble_eq_true rfl⟩ (m_X11_passHours iv) dX11_carryOut_158 (rfl : 158 + 3 = 161) (Nat.le_of_ble_eq_true rfl) rfl rfl rfl ⟨Nat.le_of_ble_eq_true rfl, Nat.le_of_ble_eq_true rfl⟩ ?_
  refine k_pop dX11_carryOut_161 (rfl : 161 + 1 = 162) rfl ?_
  refine k_goto (tgt := 165) dX11_carryOut_162 (by decide) ?_
  refine k_vret rfl dX11_carryOut_165 (Nat.le_of_ble_eq_true rfl) (Nat.le_of_ble_eq_true rfl) ?_
  exact kRt_of rfl rfl
def f_cc (x : kK) (k : Nat) (a b c : Int32) : Int32 :=
  match k with
  | 0 => f_X11_checkCommand_0 x a b c
  | 1 => f_X11_checkCommand_1 x a b c
  | 2 => f_X11_checkCommand_2 x a b c
  | 3 => f_X11_checkCommand_3 x a b c
  | 4 => f_X11_checkCommand_4 x a b c
  | 5 => f_X11_checkCommand_5 x a b c
  | 6 => f_X11_checkCommand_6 x a b c
  | 7 => f_X11_checkCommand_7 x a b c
  | 8 => f_X11_checkCommand_8 x a b c
  | _ => f_X11_checkCommand_9 x a b c
def g_cc (x : kK) (k : Nat) (a b c : Int32) : kK :=
  match k with
  | 0 => g_X11_checkCommand_0 x a b c
  | 1 => g_X11_checkCommand_1 x a b c
  | 2 => g_X11_checkCommand_2 x a b c
  | 3 => g_X11_checkCommand_3 x a b c
  | 4 => g_X11_checkCommand_4 x a b c
  | 5 => x
  | 6 => g_X11_checkCommand_6 x a b c
  | 7 => x
  | 8 => g_X11_checkCommand_8 x a b c
  | _ => x
def g_co (x : kK) (k : Nat) (a b c : Int32) : kK :=
  match k with
  | 0 => g_X11_carryOut_0 x a b c
  | 1 => g_X11_carryOut_1 x a b c
  | 2 => g_X11_carryOut_2 x a b c
  | 3 => g_X11_carryOut_3 x a b c
  | 4 => g_X11_carryOut_4 x a b c
  | 5 => g_X11_carryOut_5 x a b c
  | 6 => g_X11_carryOut_6 x a b c
  | 7 => g_X11_carryOut_7 x a b c
  | 8 => g_X11_carryOut_8 x a b c
  | _ => g_X11_carryOut_9 x a b c
theorem g_co_0 {x : kK} {a b c : Int32} : g_co x 0 a b c = (g_X11_plant x a b 1) := rfl
theorem g_co_1 {x : kK} {a b c : Int32} : g_co x 1 a b c = (g_X11_plant x a b 0) := rfl
theorem g_co_2 {x : kK} {a b c : Int32} : g_co x 2 a b c = (g_X11_placeBench x a b) := rfl
theorem g_co_3 {x : kK} {a b c : Int32} : g_co x 3 a b c = (g_X11_seatParty x a b) := rfl
theorem g_co_4 {x : kK} {a b c : Int32} : g_co x 4 a b c = (g_X11_shiftParty x a b c) := rfl
theorem g_co_5 {x : kK} {a b c : Int32} : g_co x 5 a b c = (g_X11_turnWind x a b) := rfl
theorem g_co_6 {x : kK} {a b c : Int32} : g_co x 6 a b c = (g_X11_throwAt x a b) := rfl
theorem g_co_7 {x : kK} {a b c : Int32} : g_co x 7 a b c = (g_X11_purchase x a) := rfl
theorem g_co_8 {x : kK} {a b c : Int32} : g_co x 8 a b c = (g_X11_holdHearing x a) := rfl
theorem g_co_9 {x : kK} {a b c : Int32} : g_co x 9 a b c = (g_X11_passHours x a) := rfl
theorem m_cc {x : kK} {r : kH} {k : Nat} {a b c : Int32} (hk : k < 10) (iv : kIv (x.1 0)) : kMet kX11_checkCommand false 0 0 [.ref 0, .ref (1010 + k), .int a, .int b, .int c] (kTp (kHc x) r) 130 (kRt (some (.int (f_cc x k a b c))) (kTp (kHc (g_cc x k a b c)) r) 130) :=
  match k, hk with
  | 0, _ => m_X11_checkCommand_0 iv
  | 1, _ => m_X11_checkCommand_1 iv
  | 2, _ => m_X11_checkCommand_2 iv
  | 3, _ => m_X11_checkCommand_3 iv
  | 4, _ => m_X11_checkCommand_4 iv
  | 5, _ => m_X11_checkCommand_5
  | 6, _ => m_X11_checkCommand_6 iv
  | 7, _ => m_X11_checkCommand_7
  | 8, _ => m_X11_checkCommand_8 iv
  | 9, _ => m_X11_checkCommand_9
theorem cc_ok {x : kK} {k : Nat} {a b c : Int32} (hk : k < 10) (iv : kIv (x.1 0)) (h : f_cc x k a b c = 0) : g_cc x k a b c = x :=
  match k, hk, h with
  | 0, _, h => (ok_tree h).1
  | 1, _, h => (ok_tree h).1
  | 2, _, h => (ok_bench h).1
  | 3, _, h => (ok_newParty h).1
  | 4, _, h => (ok_move iv h).1
  | 5, _, h => rfl
  | 6, _, h => (ok_summons iv h).1
  | 7, _, h => rfl
  | 8, _, h => (ok_hearing h).1
  | 9, _, h => rfl
theorem m_co {x : kK} {r : kH} {k : Nat} {a b c : Int32} (hk : k < 10) (iv : kIv (x.1 0)) (h : f_cc x k a b c = 0) : kMet kX11_carryOut false 0 0 [.ref 0, .ref (1010 + k), .int a, .int b, .int c] (kTp (kHc x) r) 130 (kRt none (kTp (kHc (g_co x k a b c)) r) 130) :=
  match k, hk, h with
  | 0, _, h => m_X11_carryOut_0
  | 1, _, h => m_X11_carryOut_1
  | 2, _, h => m_X11_carryOut_2
  | 3, _, h => m_X11_carryOut_3 iv
  | 4, _, h => m_X11_carryOut_4 (ok_move iv h).2.1
  | 5, _, h => m_X11_carryOut_5
  | 6, _, h => m_X11_carryOut_6 iv (ok_summons iv h).2.1 (ok_summons iv h).2.2.1
  | 7, _, h => m_X11_carryOut_7
  | 8, _, h => m_X11_carryOut_8 iv (ok_hearing h).2.1
  | 9, _, h => m_X11_carryOut_9 iv
theorem iv_co {x : kK} {k : Nat} {a b c : Int32} (hk : k < 10) (iv : kIv (x.1 0)) (h : f_cc x k a b c = 0) : kIv ((g_co x k a b c).1 0) :=
  match k, hk, h with
  | 0, _, h => by rw [g_co_0]; exact iv_plant iv
  | 1, _, h => by rw [g_co_1]; exact iv_plant iv
  | 2, _, h => by rw [g_co_2]; exact iv_place iv (ok_bench h).2.1
  | 3, _, h => by rw [g_co_3]; exact iv_seat iv
  | 4, _, h => by rw [g_co_4]; exact iv_shift iv
  | 5, _, h => by rw [g_co_5]; exact iv_wind iv (ok_wind h)
  | 6, _, h => by rw [g_co_6]; exact iv_throwAt iv
  | 7, _, h => by rw [g_co_7]; exact iv_buy iv
  | 8, _, h => by rw [g_co_8]; exact iv_hold iv (ok_hearing h).2.1
  | 9, _, h => by rw [g_co_9]; exact iv_passH iv
/-- a change of the present court, and of the flight -/
def kKq (x y : kK) : Prop := (∀ k, k ≠ 0 → y.1 k = x.1 k) ∧ (∀ k, k ≠ 2 → k ≠ 3 → y.2.1 k = x.2.1 k) ∧ (∀ k, k ≠ 0 → y.2.2.1 k = x.2.2.1 k) ∧ y.2.2.2 = x.2.2.2
theorem kKq_r {x : kK} : kKq x x := ⟨fun _ _ => rfl, fun _ _ _ => rfl, fun _ _ => rfl, rfl⟩
theorem kKq_t {x y z : kK} (h1 : kKq x y) (h2 : kKq y z) : kKq x z := ⟨fun k a => (h2.1 k a).trans (h1.1 k a), fun k a b => (h2.2.1 k a b).trans (h1.2.1 k a b), fun k a => (h2.2.2.1 k a).trans (h1.2.2.1 k a), h2.2.2.2.trans h1.2.2.2⟩
theorem kKq_T {x : kK} {v : Int64} : kKq x (nT x v) := ⟨fun k h => if_neg h, fun _ _ _ => rfl, fun _ _ => rfl, rfl⟩
theorem kKq_S {x : kK} {n : Nat} {v : Int32} : kKq x (nS x n v) := ⟨fun k h => if_neg h, fun _ _ _ => rfl, fun _ _ => rfl, rfl⟩
theorem kKq_R {x : kK} {n : Nat} {v : Nat → Int32} : kKq x (nR x n v) := ⟨fun k h => if_neg h, fun _ _ _ => rfl, fun _ _ => rfl, rfl⟩
theorem kKq_s2 {x : kK} {v : Int32} : kKq x (kkS x 2 v) := ⟨fun _ _ => rfl, fun k h _ => if_neg h, fun _ _ => rfl, rfl⟩
theorem kKq_s3 {x : kK} {v : Int32} : kKq x (kkS x 3 v) := ⟨fun _ _ => rfl, fun k _ h => if_neg h, fun _ _ => rfl, rfl⟩
theorem kKq_x0 {x : kK} {v : Nat → Int32} : kKq x (kkR x 0 v) := ⟨fun _ _ => rfl, fun _ _ _ => rfl, fun k h => if_neg h, rfl⟩
theorem q_step {x : kK} {d : Int32} : kKq x (g_X4_step x d) := by
  unfold g_X4_step
  repeat' split
  all_goals first
    | exact kKq_r
    | exact kKq_t kKq_s2 kKq_x0
theorem q_flA {d : Int32} {k : Nat} : ∀ {x : kK} {f : Int32}, kKq x (flA d k x f).1 := by
  induction k with
  | zero => intro x f; exact kKq_r
  | succ k ih =>
    intro x f
    rw [flA]
    split
    · exact kKq_r
    · exact kKq_t q_step ih
theorem q_flW {j : Nat} {y : kK × Int32} : kKq y.1 (flW j y).1 := by
  unfold flW
  repeat' split
  all_goals first
    | exact kKq_r
    | exact q_step
theorem q_flP {m : Nat} {t : Int32} {k : Nat} : ∀ {j : Nat} {d : Int32} {y : kK × Int32}, kKq y.1 (flP m t k j d y).1 := by
  induction k with
  | zero => intro j d y; exact kKq_r
  | succ k ih =>
    intro j d y
    rw [flP]
    split
    · exact kKq_r
    · exact kKq_t (kKq_t q_flA q_flW) ih
theorem q_fly {x : kK} {a : Int32} : kKq x (g_X4_fly x a) := kKq_t (kKq_t (kKq_t kKq_x0 kKq_s2) q_flP) kKq_s3
theorem q_enterThrow {x : kK} {a b c : Int32} : kKq x (g_X7_enterThrow x a b c) := by
  unfold g_X7_enterThrow
  split
  all_goals exact kKq_t (kKq_t (kKq_t (kKq_t kKq_S kKq_S) kKq_S) kKq_S) kKq_S
theorem q_enterPlea {x : kK} {a b c : Int32} : kKq x (g_X3_enterPlea x a b c) := by
  unfold g_X3_enterPlea
  split
  · exact kKq_r
  · exact kKq_t (kKq_t (kKq_t kKq_R kKq_R) kKq_R) kKq_S
theorem q_throwAt {x : kK} {a b : Int32} : kKq x (g_X11_throwAt x a b) := by
  unfold g_X11_throwAt
  split
  · split
    · exact kKq_t q_fly q_enterThrow
    · exact kKq_t q_fly q_enterThrow
  · exact kKq_t (kKq_t (kKq_t q_fly q_enterThrow) kKq_R) q_enterPlea
theorem q_movePlea {x : kK} {a b : Int32} : kKq x (g_X3_movePlea x a b) := by
  unfold g_X3_movePlea
  exact kKq_t (kKq_t kKq_R kKq_R) kKq_R
theorem q_skL {k : Nat} : ∀ {x : kK} {j : Nat}, kKq x (skL x k j) := by
  induction k with
  | zero => intro x j; exact kKq_r
  | succ k ih =>
    intro x j
    rw [skL]
    exact kKq_t q_movePlea ih
theorem q_strike {x : kK} {a : Int32} : kKq x (g_X3_strike x a) := kKq_t q_skL kKq_S
theorem q_phL {hr : Int32} {k : Nat} : ∀ {x : kK} {j p : Nat}, kKq x (phL hr k x j p).1 := by
  induction k with
  | zero => intro x j p; exact kKq_r
  | succ k ih =>
    intro x j p
    rw [phL]
    split
    · exact ih
    · exact kKq_t q_movePlea ih
theorem q_passHour {x : kK} : kKq x (g_X3_passHour x) := kKq_t (kKq_t kKq_S q_phL) kKq_S
theorem q_hold {x : kK} {a : Int32} : kKq x (g_X11_holdHearing x a) := kKq_t (kKq_t (kKq_t kKq_S kKq_S) q_strike) q_passHour
theorem q_paL {a : Int32} {k : Nat} : ∀ {x : kK} {j : Nat} {s : Int32}, kKq x (paL a k x j s).1 := by
  induction k with
  | zero => intro x j s; exact kKq_r
  | succ k ih =>
    intro x j s
    rw [paL]
    exact kKq_t q_passHour ih
theorem q_plant {x : kK} {a b c : Int32} : kKq x (g_X11_plant x a b c) := by
  unfold g_X11_plant
  split
  all_goals exact kKq_T
theorem q_seat {x : kK} {a b : Int32} : kKq x (g_X11_seatParty x a b) := by
  unfold g_X11_seatParty
  split
  · exact kKq_r
  · exact kKq_t kKq_R kKq_S
theorem q_co {x : kK} {k : Nat} {a b c : Int32} (hk : k < 10) : kKq x (g_co x k a b c) :=
  match k, hk with
  | 0, _ => by rw [g_co_0]; exact q_plant
  | 1, _ => by rw [g_co_1]; exact q_plant
  | 2, _ => by rw [g_co_2]; exact kKq_S
  | 3, _ => by rw [g_co_3]; exact q_seat
  | 4, _ => by rw [g_co_4]; exact kKq_R
  | 5, _ => by rw [g_co_5]; exact kKq_t kKq_S kKq_S
  | 6, _ => by rw [g_co_6]; exact q_throwAt
  | 7, _ => by rw [g_co_7]; exact kKq_t (kKq_t kKq_S kKq_S) kKq_S
  | 8, _ => by rw [g_co_8]; exact q_hold
  | 9, _ => by rw [g_co_9]; exact q_paL
theorem m_commandAt {x : kK} {r : kH} {c j : Nat} (hn : x.2.1 6 = nI c) (hc : kCn x c) (hj : j < c) (h11 : c ≤ 11) : kMet kX2_commandAt false 0 0 [.ref 109, .int (nI j)] (kTp (kHc x) r) 130 (kRt (some (.ref (1010 + kCd x (nI j)))) (kTp (kHc x) r) 130) :=
  m_X2_commandAt (vp_in_nI (by omega) (by omega)) (nI_nlt0 (by omega)) (by rw [hn]; exact nI_ge hj (by omega)) (kCd_of hc hj (by omega)).2
