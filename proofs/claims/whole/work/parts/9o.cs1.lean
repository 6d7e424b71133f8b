set_option maxRecDepth 100000 in
set_option maxHeartbeats 4000000 in
theorem lcs_14 {nm : String} {tb : List (Nat × Nat × Nat × Nat)} {b L i t cs ss : Nat} {xs : Nat → Int32} {x : kK} {y : kY} {f : Nat → Int64} {d : Nat → UInt64} (X : RX t x y) (ht : t + 11 < 2 ^ 20) (hi : i + 4 ≤ L) (hL : L ≤ 2048) (hc : cs + 1 ≤ 603072) (hs : ss + 6 ≤ 7182442) (go : LG nm tb b L xs i (t + 11) (cs + 1) (ss + 6)) : kEv (kLw nm tb) RW (FL b L xs) false 990 [.ref 2000, .ref 0, .ref 116, .ref 128, .ref 129, .int (nI i), .retAddr 0, .retAddr 0, .retAddr 0] [] (h4 x y f d) 130 cs ss := by
  obtain ⟨X2, alt⟩ := q_servedCount X (a := (xs (i + 1)))
  have hK := m_X11_servedCount (x := x) (r := kHr y (kJ 1 f, kDb 1 d)) (a1 := (xs (i + 1))) X.R.iv
  rcases alt with ⟨eo, e0⟩ | ⟨eo, e0⟩
  · rw [eo] at hK
    have hm := v_L_servedCount (h2 := h4 x y f d) hK rfl rfl
    rw [h4_f] at hm
    refine k_aload_n (i := 1) dL_law_990 (rfl : 990 + 1 = 991) rfl rfl ?_
    refine k_aload_n (i := 0) dL_law_991 (rfl : 991 + 1 = 992) rfl rfl ?_
    refine k_iload (i := 5) dL_law_992 (rfl : 992 + 2 = 994) rfl ?_
    refine k_iconst (v := 1) dL_law_994 (rfl : 994 + 1 = 995) (by decide) ?_
    refine k_iadd dL_law_995 (rfl : 995 + 1 = 996) ?_
    refine k_sld (j := i + 1) dL_law_996 (rfl : 996 + 1 = 997) (nI_add i 1) (by omega) (by omega) ?_
    refine k_aload_n (i := 3) dL_law_997 (rfl : 997 + 1 = 998) rfl rfl ?_
    refine k_callSTd3 cv_L_212 ⟨Nat.le_of_ble_eq_true rfl, Nat.le_of_ble_eq_true rfl⟩ hm dL_law_998 (rfl : 998 + 3 = 1001) rfl (lc1 hc hs) rfl ?_
    refine k_istore (i := 6) dL_law_1001 (rfl : 1001 + 2 = 1003) (Nat.le_of_ble_eq_true rfl) ?_
    refine k_ls (ls2 := [.ref 2000, .ref 0, .ref 116, .ref 128, .ref 129, .int (nI i), .int 0, .retAddr 0, .retAddr 0]) rfl ?_
    refine k_aload_n (i := 2) dL_law_1003 (rfl : 1003 + 1 = 1004) rfl rfl ?_
    refine k_aload_n (i := 0) dL_law_1004 (rfl : 1004 + 1 = 1005) rfl rfl ?_
    refine k_iload (i := 5) dL_law_1005 (rfl : 1005 + 2 = 1007) rfl ?_
    refine k_iconst (v := 1) dL_law_1007 (rfl : 1007 + 1 = 1008) (by decide) ?_
    refine k_iadd dL_law_1008 (rfl : 1008 + 1 = 1009) ?_
    refine k_sld (j := i + 1) dL_law_1009 (rfl : 1009 + 1 = 1010) (nI_add i 1) (by omega) (by omega) ?_
    refine k_callVd1 cv_L_214 ⟨Nat.le_of_ble_eq_true rfl, Nat.le_of_ble_eq_true rfl⟩ (m_X12_servedCount (x := y) (a1 := (xs (i + 1))) X.R.mv) dL_law_1010 (rfl : 1010 + 3 = 1013) (Nat.le_of_ble_eq_true rfl) rfl rfl rfl (lc1 hc hs) ?_
    refine k_istore (i := 7) dL_law_1013 (rfl : 1013 + 2 = 1015) (Nat.le_of_ble_eq_true rfl) ?_
    refine k_ls (ls2 := [.ref 2000, .ref 0, .ref 116, .ref 128, .ref 129, .int (nI i), .int 0, .int (f_X12_servedCount y (xs (i + 1))), .retAddr 0]) rfl ?_
    refine k_aload_n (i := 2) dL_law_1015 (rfl : 1015 + 1 = 1016) rfl rfl ?_
    refine k_callVd0 cv_L_161 ⟨Nat.le_of_ble_eq_true rfl, Nat.le_of_ble_eq_true rfl⟩ (m_X12_thrown (x := (g_X12_servedCount y (xs (i + 1))))) dL_law_1016 (rfl : 1016 + 3 = 1019) (Nat.le_of_ble_eq_true rfl) rfl rfl rfl (lc1 hc hs) ?_
    refine k_iload (i := 6) dL_law_1019 (rfl : 1019 + 2 = 1021) rfl ?_
    refine k_icmp_eq (tgt := 1026) dL_law_1021 (rfl : 1021 + 3 = 1024) (by decide) (fun _ => ?_) (fun b => absurd e0 b)
    refine k_iload (i := 6) dL_law_1026 (rfl : 1026 + 2 = 1028) rfl ?_
    refine k_if_ne (tgt := 1043) dL_law_1028 (rfl : 1028 + 3 = 1031) (by decide) (fun b => absurd b (by decide)) (fun _ => ?_)
    refine k_aload_n (i := 3) dL_law_1031 (rfl : 1031 + 1 = 1032) rfl rfl ?_
    refine k_iconst (v := 0) dL_law_1032 (rfl : 1032 + 1 = 1033) (by decide) ?_
    refine k_lald dL_law_1033 (rfl : 1033 + 1 = 1034) (Nat.le_of_ble_eq_true rfl) rfl vp_00 ?_
    refine k_iload (i := 7) dL_law_1034 (rfl : 1034 + 2 = 1036) rfl ?_
    refine k_i2l dL_law_1036 (rfl : 1036 + 1 = 1037) ?_
    refine k_lcmp dL_law_1037 (rfl : 1037 + 1 = 1038) ?_
    refine k_if_eq (tgt := 1043) dL_law_1038 (rfl : 1038 + 3 = 1041) (by decide) (fun _ => ?_) (fun b => absurd (lg_cmp_0.2 uL0) b)
    refine k_goto (tgt := 2815) dL_law_1043 (by decide) ?_
    exact l_go go X2 (by omega) (Nat.le_refl _) (Nat.le_refl _)
  · rw [eo] at hK
    have hm := x1_L_servedCount (h2 := h4 x y f d) hK rfl
    refine k_aload_n (i := 1) dL_law_990 (rfl : 990 + 1 = 991) rfl rfl ?_
    refine k_aload_n (i := 0) dL_law_991 (rfl : 991 + 1 = 992) rfl rfl ?_
    refine k_iload (i := 5) dL_law_992 (rfl : 992 + 2 = 994) rfl ?_
    refine k_iconst (v := 1) dL_law_994 (rfl : 994 + 1 = 995) (by decide) ?_
    refine k_iadd dL_law_995 (rfl : 995 + 1 = 996) ?_
    refine k_sld (j := i + 1) dL_law_996 (rfl : 996 + 1 = 997) (nI_add i 1) (by omega) (by omega) ?_
    refine k_aload_n (i := 3) dL_law_997 (rfl : 997 + 1 = 998) rfl rfl ?_
    refine k_callSTd3 cv_L_212 ⟨Nat.le_of_ble_eq_true rfl, Nat.le_of_ble_eq_true rfl⟩ hm dL_law_998 (rfl : 998 + 3 = 1001) rfl (lc1 hc hs) rfl ?_
    refine k_istore (i := 6) dL_law_1001 (rfl : 1001 + 2 = 1003) (Nat.le_of_ble_eq_true rfl) ?_
    refine k_ls (ls2 := [.ref 2000, .ref 0, .ref 116, .ref 128, .ref 129, .int (nI i), .int 1, .retAddr 0, .retAddr 0]) rfl ?_
    refine k_aload_n (i := 2) dL_law_1003 (rfl : 1003 + 1 = 1004) rfl rfl ?_
    refine k_aload_n (i := 0) dL_law_1004 (rfl : 1004 + 1 = 1005) rfl rfl ?_
    refine k_iload (i := 5) dL_law_1005 (rfl : 1005 + 2 = 1007) rfl ?_
    refine k_iconst (v := 1) dL_law_1007 (rfl : 1007 + 1 = 1008) (by decide) ?_
    refine k_iadd dL_law_1008 (rfl : 1008 + 1 = 1009) ?_
    refine k_sld (j := i + 1) dL_law_1009 (rfl : 1009 + 1 = 1010) (nI_add i 1) (by omega) (by omega) ?_
    refine k_callVd1 cv_L_214 ⟨Nat.le_of_ble_eq_true rfl, Nat.le_of_ble_eq_true rfl⟩ (m_X12_servedCount (x := y) (a1 := (xs (i + 1))) X.R.mv) dL_law_1010 (rfl : 1010 + 3 = 1013) (Nat.le_of_ble_eq_true rfl) rfl rfl rfl (lc1 hc hs) ?_
    refine k_istore (i := 7) dL_law_1013 (rfl : 1013 + 2 = 1015) (Nat.le_of_ble_eq_true rfl) ?_
    refine k_ls (ls2 := [.ref 2000, .ref 0, .ref 116, .ref 128, .ref 129, .int (nI i), .int 1, .int (f_X12_servedCount y (xs (i + 1))), .retAddr 0]) rfl ?_
    refine k_aload_n (i := 2) dL_law_1015 (rfl : 1015 + 1 = 1016) rfl rfl ?_
    refine k_callVd0 cv_L_161 ⟨Nat.le_of_ble_eq_true rfl, Nat.le_of_ble_eq_true rfl⟩ (m_X12_thrown (x := (g_X12_servedCount y (xs (i + 1))))) dL_law_1016 (rfl : 1016 + 3 = 1019) (Nat.le_of_ble_eq_true rfl) rfl rfl rfl (lc1 hc hs) ?_
    refine k_iload (i := 6) dL_law_1019 (rfl : 1019 + 2 = 1021) rfl ?_
    refine k_icmp_eq (tgt := 1026) dL_law_1021 (rfl : 1021 + 3 = 1024) (by decide) (fun _ => ?_) (fun b => absurd e0 b)
    refine k_iload (i := 6) dL_law_1026 (rfl : 1026 + 2 = 1028) rfl ?_
    refine k_if_ne (tgt := 1043) dL_law_1028 (rfl : 1028 + 3 = 1031) (by decide) (fun _ => ?_) (fun b => absurd b (by decide))
    refine k_goto (tgt := 2815) dL_law_1043 (by decide) ?_
    exact l_go go X2 (by omega) (Nat.le_refl _) (Nat.le_refl _)
set_option maxRecDepth 100000 in
set_option maxHeartbeats 4000000 in
theorem lcs_15 {nm : String} {tb : List (Nat × Nat × Nat × Nat)} {b L i t cs ss : Nat} {xs : Nat → Int32} {x : kK} {y : kY} {f : Nat → Int64} {d : Nat → UInt64} (X : RX t x y) (ht : t + 11 < 2 ^ 20) (hi : i + 4 ≤ L) (hL : L ≤ 2048) (hc : cs + 1 ≤ 603072) (hs : ss + 6 ≤ 7182442) (go : LG nm tb b L xs i (t + 11) (cs + 1) (ss + 6)) : kEv (kLw nm tb) RW (FL b L xs) false 1046 [.ref 2000, .ref 0, .ref 116, .ref 128, .ref 129, .int (nI i), .retAddr 0, .retAddr 0, .retAddr 0] [] (h4 x y f d) 130 cs ss := by
  obtain ⟨X2, alt⟩ := q_flightLength X (a := (xs (i + 1)))
  have hK := m_X11_flightLength (x := x) (r := kHr y (kJ 1 f, kDb 1 d)) (a1 := (xs (i + 1)))
  rcases alt with ⟨eo, e0⟩ | ⟨eo, e0⟩
  · rw [eo] at hK
    have hm := v_L_flightLength (h2 := h4 (g_X11_flightLength x (xs (i + 1))) y f d) hK rfl rfl
    rw [h4_f] at hm
    refine k_aload_n (i := 1) dL_law_1046 (rfl : 1046 + 1 = 1047) rfl rfl ?_
    refine k_aload_n (i := 0) dL_law_1047 (rfl : 1047 + 1 = 1048) rfl rfl ?_
    refine k_iload (i := 5) dL_law_1048 (rfl : 1048 + 2 = 1050) rfl ?_
    refine k_iconst (v := 1) dL_law_1050 (rfl : 1050 + 1 = 1051) (by decide) ?_
    refine k_iadd dL_law_1051 (rfl : 1051 + 1 = 1052) ?_
    refine k_sld (j := i + 1) dL_law_1052 (rfl : 1052 + 1 = 1053) (nI_add i 1) (by omega) (by omega) ?_
    refine k_aload_n (i := 3) dL_law_1053 (rfl : 1053 + 1 = 1054) rfl rfl ?_
    refine k_callSTd3 cv_L_215 ⟨Nat.le_of_ble_eq_true rfl, Nat.le_of_ble_eq_true rfl⟩ hm dL_law_1054 (rfl : 1054 + 3 = 1057) rfl (lc1 hc hs) rfl ?_
    refine k_istore (i := 6) dL_law_1057 (rfl : 1057 + 2 = 1059) (Nat.le_of_ble_eq_true rfl) ?_
    refine k_ls (ls2 := [.ref 2000, .ref 0, .ref 116, .ref 128, .ref 129, .int (nI i), .int 0, .retAddr 0, .retAddr 0]) rfl ?_
    refine k_aload_n (i := 2) dL_law_1059 (rfl : 1059 + 1 = 1060) rfl rfl ?_
    refine k_aload_n (i := 0) dL_law_1060 (rfl : 1060 + 1 = 1061) rfl rfl ?_
    refine k_iload (i := 5) dL_law_1061 (rfl : 1061 + 2 = 1063) rfl ?_
    refine k_iconst (v := 1) dL_law_1063 (rfl : 1063 + 1 = 1064) (by decide) ?_
    refine k_iadd dL_law_1064 (rfl : 1064 + 1 = 1065) ?_
    refine k_sld (j := i + 1) dL_law_1065 (rfl : 1065 + 1 = 1066) (nI_add i 1) (by omega) (by omega) ?_
    refine k_callVd1 cv_L_217 ⟨Nat.le_of_ble_eq_true rfl, Nat.le_of_ble_eq_true rfl⟩ (m_X12_flightLength (x := y) (a1 := (xs (i + 1))) X.R.mv) dL_law_1066 (rfl : 1066 + 3 = 1069) (Nat.le_of_ble_eq_true rfl) rfl rfl rfl (lc1 hc hs) ?_
    refine k_istore (i := 7) dL_law_1069 (rfl : 1069 + 2 = 1071) (Nat.le_of_ble_eq_true rfl) ?_
    refine k_ls (ls2 := [.ref 2000, .ref 0, .ref 116, .ref 128, .ref 129, .int (nI i), .int 0, .int (f_X12_flightLength y (xs (i + 1))), .retAddr 0]) rfl ?_
    refine k_aload_n (i := 2) dL_law_1071 (rfl : 1071 + 1 = 1072) rfl rfl ?_
    refine k_callVd0 cv_L_161 ⟨Nat.le_of_ble_eq_true rfl, Nat.le_of_ble_eq_true rfl⟩ (m_X12_thrown (x := (g_X12_flightLength y (xs (i + 1))))) dL_law_1072 (rfl : 1072 + 3 = 1075) (Nat.le_of_ble_eq_true rfl) rfl rfl rfl (lc1 hc hs) ?_
    refine k_iload (i := 6) dL_law_1075 (rfl : 1075 + 2 = 1077) rfl ?_
    refine k_icmp_eq (tgt := 1082) dL_law_1077 (rfl : 1077 + 3 = 1080) (by decide) (fun _ => ?_) (fun b => absurd e0 b)
    refine k_iload (i := 6) dL_law_1082 (rfl : 1082 + 2 = 1084) rfl ?_
    refine k_if_ne (tgt := 1099) dL_law_1084 (rfl : 1084 + 3 = 1087) (by decide) (fun b => absurd b (by decide)) (fun _ => ?_)
    refine k_aload_n (i := 3) dL_law_1087 (rfl : 1087 + 1 = 1088) rfl rfl ?_
    refine k_iconst (v := 0) dL_law_1088 (rfl : 1088 + 1 = 1089) (by decide) ?_
    refine k_lald dL_law_1089 (rfl : 1089 + 1 = 1090) (Nat.le_of_ble_eq_true rfl) rfl vp_00 ?_
    refine k_iload (i := 7) dL_law_1090 (rfl : 1090 + 2 = 1092) rfl ?_
    refine k_i2l dL_law_1092 (rfl : 1092 + 1 = 1093) ?_
    refine k_lcmp dL_law_1093 (rfl : 1093 + 1 = 1094) ?_
    refine k_if_eq (tgt := 1099) dL_law_1094 (rfl : 1094 + 3 = 1097) (by decide) (fun _ => ?_) (fun b => absurd (lg_cmp_0.2 uL0) b)
    refine k_goto (tgt := 2815) dL_law_1099 (by decide) ?_
    exact l_go go X2 (by omega) (Nat.le_refl _) (Nat.le_refl _)
  · rw [eo] at hK
    have hm := x1_L_flightLength (h2 := h4 (g_X11_flightLength x (xs (i + 1))) y f d) hK rfl
    refine k_aload_n (i := 1) dL_law_1046 (rfl : 1046 + 1 = 1047) rfl rfl ?_
    refine k_aload_n (i := 0) dL_law_1047 (rfl : 1047 + 1 = 1048) rfl rfl ?_
    refine k_iload (i := 5) dL_law_1048 (rfl : 1048 + 2 = 1050) rfl ?_
    refine k_iconst (v := 1) dL_law_1050 (rfl : 1050 + 1 = 1051) (by decide) ?_
    refine k_iadd dL_law_1051 (rfl : 1051 + 1 = 1052) ?_
    refine k_sld (j := i + 1) dL_law_1052 (rfl : 1052 + 1 = 1053) (nI_add i 1) (by omega) (by omega) ?_
    refine k_aload_n (i := 3) dL_law_1053 (rfl : 1053 + 1 = 1054) rfl rfl ?_
    refine k_callSTd3 cv_L_215 ⟨Nat.le_of_ble_eq_true rfl, Nat.le_of_ble_eq_true rfl⟩ hm dL_law_1054 (rfl : 1054 + 3 = 1057) rfl (lc1 hc hs) rfl ?_
    refine k_istore (i := 6) dL_law_1057 (rfl : 1057 + 2 = 1059) (Nat.le_of_ble_eq_true rfl) ?_
    refine k_ls (ls2 := [.ref 2000, .ref 0, .ref 116, .ref 128, .ref 129, .int (nI i), .int 1, .retAddr 0, .retAddr 0]) rfl ?_
    refine k_aload_n (i := 2) dL_law_1059 (rfl : 1059 + 1 = 1060) rfl rfl ?_
    refine k_aload_n (i := 0) dL_law_1060 (rfl : 1060 + 1 = 1061) rfl rfl ?_
    refine k_iload (i := 5) dL_law_1061 (rfl : 1061 + 2 = 1063) rfl ?_
    refine k_iconst (v := 1) dL_law_1063 (rfl : 1063 + 1 = 1064) (by decide) ?_
    refine k_iadd dL_law_1064 (rfl : 1064 + 1 = 1065) ?_
    refine k_sld (j := i + 1) dL_law_1065 (rfl : 1065 + 1 = 1066) (nI_add i 1) (by omega) (by omega) ?_
    refine k_callVd1 cv_L_217 ⟨Nat.le_of_ble_eq_true rfl, Nat.le_of_ble_eq_true rfl⟩ (m_X12_flightLength (x := y) (a1 := (xs (i + 1))) X.R.mv) dL_law_1066 (rfl : 1066 + 3 = 1069) (Nat.le_of_ble_eq_true rfl) rfl rfl rfl (lc1 hc hs) ?_
    refine k_istore (i := 7) dL_law_1069 (rfl : 1069 + 2 = 1071) (Nat.le_of_ble_eq_true rfl) ?_
    refine k_ls (ls2 := [.ref 2000, .ref 0, .ref 116, .ref 128, .ref 129, .int (nI i), .int 1, .int (f_X12_flightLength y (xs (i + 1))), .retAddr 0]) rfl ?_
    refine k_aload_n (i := 2) dL_law_1071 (rfl : 1071 + 1 = 1072) rfl rfl ?_
    refine k_callVd0 cv_L_161 ⟨Nat.le_of_ble_eq_true rfl, Nat.le_of_ble_eq_true rfl⟩ (m_X12_thrown (x := (g_X12_flightLength y (xs (i + 1))))) dL_law_1072 (rfl : 1072 + 3 = 1075) (Nat.le_of_ble_eq_true rfl) rfl rfl rfl (lc1 hc hs) ?_
    refine k_iload (i := 6) dL_law_1075 (rfl : 1075 + 2 = 1077) rfl ?_
    refine k_icmp_eq (tgt := 1082) dL_law_1077 (rfl : 1077 + 3 = 1080) (by decide) (fun _ => ?_) (fun b => absurd e0 b)
    refine k_iload (i := 6) dL_law_1082 (rfl : 1082 + 2 = 1084) rfl ?_
    refine k_if_ne (tgt := 1099) dL_law_1084 (rfl : 1084 + 3 = 1087) (by decide) (fun _ => ?_) (fun b => absurd b (by decide))
    refine k_goto (tgt := 2815) dL_law_1099 (by decide) ?_
    exact l_go go X2 (by omega) (Nat.le_refl _) (Nat.le_refl _)
set_option maxRecDepth 100000 in
set_option maxHeartbeats 4000000 in
theorem lcs_16 {nm : String} {tb : List (Nat × Nat × Nat × Nat)} {b L i t cs ss : Nat} {xs : Nat → Int32} {x : kK} {y : kY} {f : Nat → Int64} {d : Nat → UInt64} (X : RX t x y) (ht : t + 11 < 2 ^ 20) (hi : i + 4 ≤ L) (hL : L ≤ 2048) (hc : cs + 1 ≤ 603072) (hs : ss + 6 ≤ 7182442) (go : LG nm tb b L xs i (t + 11) (cs + 1) (ss + 6)) : kEv (kLw nm tb) RW (FL b L xs) false 1102 [.ref 2000, .ref 0, .ref 116, .ref 128, .ref 129, .int (nI i), .retAddr 0, .retAddr 0, .retAddr 0] [] (h4 x y f d) 130 cs ss := by
  obtain ⟨X2, alt⟩ := q_flightCell X (a := (xs (i + 1))) (b := (xs (i + 2)))
  have hK := m_X11_flightCell (x := x) (r := kHr y (kJ 1 f, kDb 1 d)) (a1 := (xs (i + 1))) (a2 := (xs (i + 2)))
  rcases alt with ⟨eo, e0⟩ | ⟨eo, e0⟩ | ⟨eo, e0⟩
  · rw [eo] at hK
    have hm := v_L_flightCell (h2 := h4 (g_X11_flightCell x (xs (i + 1)) (xs (i + 2))) y f d) hK rfl rfl
    rw [h4_f] at hm
    refine k_aload_n (i := 1) dL_law_1102 (rfl : 1102 + 1 = 1103) rfl rfl ?_
    refine k_aload_n (i := 0) dL_law_1103 (rfl : 1103 + 1 = 1104) rfl rfl ?_
    refine k_iload (i := 5) dL_law_1104 (rfl : 1104 + 2 = 1106) rfl ?_
    refine k_iconst (v := 1) dL_law_1106 (rfl : 1106 + 1 = 1107) (by decide) ?_
    refine k_iadd dL_law_1107 (rfl : 1107 + 1 = 1108) ?_
    refine k_sld (j := i + 1) dL_law_1108 (rfl : 1108 + 1 = 1109) (nI_add i 1) (by omega) (by omega) ?_
    refine k_aload_n (i := 0) dL_law_1109 (rfl : 1109 + 1 = 1110) rfl rfl ?_
    refine k_iload (i := 5) dL_law_1110 (rfl : 1110 + 2 = 1112) rfl ?_
    refine k_iconst (v := 2) dL_law_1112 (rfl : 1112 + 1 = 1113) (by decide) ?_
    refine k_iadd dL_law_1113 (rfl : 1113 + 1 = 1114) ?_
    refine k_sld (j := i + 2) dL_law_1114 (rfl : 1114 + 1 = 1115) (nI_add i 2) (by omega) (by omega) ?_
    refine k_aload_n (i := 3) dL_law_1115 (rfl : 1115 + 1 = 1116) rfl rfl ?_
    refine k_callSTd4 cv_L_218 ⟨Nat.le_of_ble_eq_true rfl, Nat.le_of_ble_eq_true rfl⟩ hm dL_law_1116 (rfl : 1116 + 3 = 1119) rfl (lc1 hc hs) rfl ?_
    refine k_istore (i := 6) dL_law_1119 (rfl : 1119 + 2 = 1121) (Nat.le_of_ble_eq_true rfl) ?_
    refine k_ls (ls2 := [.ref 2000, .ref 0, .ref 116, .ref 128, .ref 129, .int (nI i), .int 0, .retAddr 0, .retAddr 0]) rfl ?_
    refine k_aload_n (i := 2) dL_law_1121 (rfl : 1121 + 1 = 1122) rfl rfl ?_
    refine k_aload_n (i := 0) dL_law_1122 (rfl : 1122 + 1 = 1123) rfl rfl ?_
    refine k_iload (i := 5) dL_law_1123 (rfl : 1123 + 2 = 1125) rfl ?_
    refine k_iconst (v := 1) dL_law_1125 (rfl : 1125 + 1 = 1126) (by decide) ?_
    refine k_iadd dL_law_1126 (rfl : 1126 + 1 = 1127) ?_
    refine k_sld (j := i + 1) dL_law_1127 (rfl : 1127 + 1 = 1128) (nI_add i 1) (by omega) (by omega) ?_
    refine k_aload_n (i := 0) dL_law_1128 (rfl : 1128 + 1 = 1129) rfl rfl ?_
    refine k_iload (i := 5) dL_law_1129 (rfl : 1129 + 2 = 1131) rfl ?_
    refine k_iconst (v := 2) dL_law_1131 (rfl : 1131 + 1 = 1132) (by decide) ?_
    refine k_iadd dL_law_1132 (rfl : 1132 + 1 = 1133) ?_
    refine k_sld (j := i + 2) dL_law_1133 (rfl : 1133 + 1 = 1134) (nI_add i 2) (by omega) (by omega) ?_
    refine k_callVd2 cv_L_220 ⟨Nat.le_of_ble_eq_true rfl, Nat.le_of_ble_eq_true rfl⟩ (m_X12_flightCell (x := y) (a1 := (xs (i + 1))) (a2 := (xs (i + 2))) X.R.mv) dL_law_1134 (rfl : 1134 + 3 = 1137) (Nat.le_of_ble_eq_true rfl) rfl rfl rfl (lc1 hc hs) ?_
    refine k_istore (i := 7) dL_law_1137 (rfl : 1137 + 2 = 1139) (Nat.le_of_ble_eq_true rfl) ?_
    refine k_ls (ls2 := [.ref 2000, .ref 0, .ref 116, .ref 128, .ref 129, .int (nI i), .int 0, .int (f_X12_flightCell y (xs (i + 1)) (xs (i + 2))), .retAddr 0]) rfl ?_
    refine k_aload_n (i := 2) dL_law_1139 (rfl : 1139 + 1 = 1140) rfl rfl ?_
    refine k_callVd0 cv_L_161 ⟨Nat.le_of_ble_eq_true rfl, Nat.le_of_ble_eq_true rfl⟩ (m_X12_thrown (x := (g_X12_flightCell y (xs (i + 1)) (xs (i + 2))))) dL_law_1140 (rfl : 1140 + 3 = 1143) (Nat.le_of_ble_eq_true rfl) rfl rfl rfl (lc1 hc hs) ?_
    refine k_iload (i := 6) dL_law_1143 (rfl : 1143 + 2 = 1145) rfl ?_
    refine k_icmp_eq (tgt := 1150) dL_law_1145 (rfl : 1145 + 3 = 1148) (by decide) (fun _ => ?_) (fun b => absurd e0 b)
    refine k_iload (i := 6) dL_law_1150 (rfl : 1150 + 2 = 1152) rfl ?_
    refine k_if_ne (tgt := 1167) dL_law_1152 (rfl : 1152 + 3 = 1155) (by decide) (fun b => absurd b (by decide)) (fun _ => ?_)
    refine k_aload_n (i := 3) dL_law_1155 (rfl : 1155 + 1 = 1156) rfl rfl ?_
    refine k_iconst (v := 0) dL_law_1156 (rfl : 1156 + 1 = 1157) (by decide) ?_
    refine k_lald dL_law_1157 (rfl : 1157 + 1 = 1158) (Nat.le_of_ble_eq_true rfl) rfl vp_00 ?_
    refine k_iload (i := 7) dL_law_1158 (rfl : 1158 + 2 = 1160) rfl ?_
    refine k_i2l dL_law_1160 (rfl : 1160 + 1 = 1161) ?_
    refine k_lcmp dL_law_1161 (rfl : 1161 + 1 = 1162) ?_
    refine k_if_eq (tgt := 1167) dL_law_1162 (rfl : 1162 + 3 = 1165) (by decide) (fun _ => ?_) (fun b => absurd (lg_cmp_0.2 uL0) b)
    refine k_goto (tgt := 2815) dL_law_1167 (by decide) ?_
    exact l_go go X2 (by omega) (Nat.le_refl _) (Nat.le_refl _)
  · rw [eo] at hK
    have hm := x1_L_flightCell (h2 := h4 (g_X11_flightCell x (xs (i + 1)) (xs (i + 2))) y f d) hK rfl
    refine k_aload_n (i := 1) dL_law_1102 (rfl : 1102 + 1 = 1103) rfl rfl ?_
    refine k_aload_n (i := 0) dL_law_1103 (rfl : 1103 + 1 = 1104) rfl rfl ?_
    refine k_iload (i := 5) dL_law_1104 (rfl : 1104 + 2 = 1106) rfl ?_
    refine k_iconst (v := 1) dL_law_1106 (rfl : 1106 + 1 = 1107) (by decide) ?_
    refine k_iadd dL_law_1107 (rfl : 1107 + 1 = 1108) ?_
    refine k_sld (j := i + 1) dL_law_1108 (rfl : 1108 + 1 = 1109) (nI_add i 1) (by omega) (by omega) ?_
    refine k_aload_n (i := 0) dL_law_1109 (rfl : 1109 + 1 = 1110) rfl rfl ?_
    refine k_iload (i := 5) dL_law_1110 (rfl : 1110 + 2 = 1112) rfl ?_
    refine k_iconst (v := 2) dL_law_1112 (rfl : 1112 + 1 = 1113) (by decide) ?_
    refine k_iadd dL_law_1113 (rfl : 1113 + 1 = 1114) ?_
    refine k_sld (j := i + 2) dL_law_1114 (rfl : 1114 + 1 = 1115) (nI_add i 2) (by omega) (by omega) ?_
    refine k_aload_n (i := 3) dL_law_1115 (rfl : 1115 + 1 = 1116) rfl rfl ?_
    refine k_callSTd4 cv_L_218 ⟨Nat.le_of_ble_eq_true rfl, Nat.le_of_ble_eq_true rfl⟩ hm dL_law_1116 (rfl : 1116 + 3 = 1119) rfl (lc1 hc hs) rfl ?_
    refine k_istore (i := 6) dL_law_1119 (rfl : 1119 + 2 = 1121) (Nat.le_of_ble_eq_true rfl) ?_
    refine k_ls (ls2 := [.ref 2000, .ref 0, .ref 116, .ref 128, .ref 129, .int (nI i), .int 1, .retAddr 0, .retAddr 0]) rfl ?_
    refine k_aload_n (i := 2) dL_law_1121 (rfl : 1121 + 1 = 1122) rfl rfl ?_
    refine k_aload_n (i := 0) dL_law_1122 (rfl : 1122 + 1 = 1123) rfl rfl ?_
    refine k_iload (i := 5) dL_law_1123 (rfl : 1123 + 2 = 1125) rfl ?_
    refine k_iconst (v := 1) dL_law_1125 (rfl : 1125 + 1 = 1126) (by decide) ?_
    refine k_iadd dL_law_1126 (rfl : 1126 + 1 = 1127) ?_
    refine k_sld (j := i + 1) dL_law_1127 (rfl : 1127 + 1 = 1128) (nI_add i 1) (by omega) (by omega) ?_
    refine k_aload_n (i := 0) dL_law_1128 (rfl : 1128 + 1 = 1129) rfl rfl ?_
    refine k_iload (i := 5) dL_law_1129 (rfl : 1129 + 2 = 1131) rfl ?_
    refine k_iconst (v := 2) dL_law_1131 (rfl : 1131 + 1 = 1132) (by decide) ?_
    refine k_iadd dL_law_1132 (rfl : 1132 + 1 = 1133) ?_
    refine k_sld (j := i + 2) dL_law_1133 (rfl : 1133 + 1 = 1134) (nI_add i 2) (by omega) (by omega) ?_
    refine k_callVd2 cv_L_220 ⟨Nat.le_of_ble_eq_true rfl, Nat.le_of_ble_eq_true rfl⟩ (m_X12_flightCell (x := y) (a1 := (xs (i + 1))) (a2 := (xs (i + 2))) X.R.mv) dL_law_1134 (rfl : 1134 + 3 = 1137) (Nat.le_of_ble_eq_true rfl) rfl rfl rfl (lc1 hc hs) ?_
    refine k_istore (i := 7) dL_law_1137 (rfl : 1137 + 2 = 1139) (Nat.le_of_ble_eq_true rfl) ?_
    refine k_ls (ls2 := [.ref 2000, .ref 0, .ref 116, .ref 128, .ref 129, .int (nI i), .int 1, .int (f_X12_flightCell y (xs (i + 1)) (xs (i + 2))), .retAddr 0]) rfl ?_
    refine k_aload_n (i := 2) dL_law_1139 (rfl : 1139 + 1 = 1140) rfl rfl ?_
    refine k_callVd0 cv_L_161 ⟨Nat.le_of_ble_eq_true rfl, Nat.le_of_ble_eq_true rfl⟩ (m_X12_thrown (x := (g_X12_flightCell y (xs (i + 1)) (xs (i + 2))))) dL_law_1140 (rfl : 1140 + 3 = 1143) (Nat.le_of_ble_eq_true rfl) rfl rfl rfl (lc1 hc hs) ?_
    refine k_iload (i := 6) dL_law_1143 (rfl : 1143 + 2 = 1145) rfl ?_
    refine k_icmp_eq (tgt := 1150) dL_law_1145 (rfl : 1145 + 3 = 1148) (by decide) (fun _ => ?_) (fun b => absurd e0 b)
    refine k_iload (i := 6) dL_law_1150 (rfl : 1150 + 2 = 1152) rfl ?_
    refine k_if_ne (tgt := 1167) dL_law_1152 (rfl : 1152 + 3 = 1155) (by decide) (fun _ => ?_) (fun b => absurd b (by decide))
    refine k_goto (tgt := 2815) dL_law_1167 (by decide) ?_
    exact l_go go X2 (by omega) (Nat.le_refl _) (Nat.le_refl _)
  · rw [eo] at hK
    have hm := x2_L_flightCell (h2 := h4 (g_X11_flightCell x (xs (i + 1)) (xs (i + 2))) y f d) hK rfl
    refine k_aload_n (i := 1) dL_law_1102 (rfl : 1102 + 1 = 1103) rfl rfl ?_
    refine k_aload_n (i := 0) dL_law_1103 (rfl : 1103 + 1 = 1104) rfl rfl ?_
    refine k_iload (i := 5) dL_law_1104 (rfl : 1104 + 2 = 1106) rfl ?_
    refine k_iconst (v := 1) dL_law_1106 (rfl : 1106 + 1 = 1107) (by decide) ?_
    refine k_iadd dL_law_1107 (rfl : 1107 + 1 = 1108) ?_
    refine k_sld (j := i + 1) dL_law_1108 (rfl : 1108 + 1 = 1109) (nI_add i 1) (by omega) (by omega) ?_
    refine k_aload_n (i := 0) dL_law_1109 (rfl : 1109 + 1 = 1110) rfl rfl ?_
    refine k_iload (i := 5) dL_law_1110 (rfl : 1110 + 2 = 1112) rfl ?_
    refine k_iconst (v := 2) dL_law_1112 (rfl : 1112 + 1 = 1113) (by decide) ?_
    refine k_iadd dL_law_1113 (rfl : 1113 + 1 = 1114) ?_
    refine k_sld (j := i + 2) dL_law_1114 (rfl : 1114 + 1 = 1115) (nI_add i 2) (by omega) (by omega) ?_
    refine k_aload_n (i := 3) dL_law_1115 (rfl : 1115 + 1 = 1116) rfl rfl ?_
    refine k_callSTd4 cv_L_218 ⟨Nat.le_of_ble_eq_true rfl, Nat.le_of_ble_eq_true rfl⟩ hm dL_law_1116 (rfl : 1116 + 3 = 1119) rfl (lc1 hc hs) rfl ?_
    refine k_istore (i := 6) dL_law_1119 (rfl : 1119 + 2 = 1121) (Nat.le_of_ble_eq_true rfl) ?_
    refine k_ls (ls2 := [.ref 2000, .ref 0, .ref 116, .ref 128, .ref 129, .int (nI i), .int 2, .retAddr 0, .retAddr 0]) rfl ?_
    refine k_aload_n (i := 2) dL_law_1121 (rfl : 1121 + 1 = 1122) rfl rfl ?_
    refine k_aload_n (i := 0) dL_law_1122 (rfl : 1122 + 1 = 1123) rfl rfl ?_
    refine k_iload (i := 5) dL_law_1123 (rfl : 1123 + 2 = 1125) rfl ?_
    refine k_iconst (v := 1) dL_law_1125 (rfl : 1125 + 1 = 1126) (by decide) ?_
    refine k_iadd dL_law_1126 (rfl : 1126 + 1 = 1127) ?_
    refine k_sld (j := i + 1) dL_law_1127 (rfl : 1127 + 1 = 1128) (nI_add i 1) (by omega) (by omega) ?_
    refine k_aload_n (i := 0) dL_law_1128 (rfl : 1128 + 1 = 1129) rfl rfl ?_
    refine k_iload (i := 5) dL_law_1129 (rfl : 1129 + 2 = 1131) rfl ?_
    refine k_iconst (v := 2) dL_law_1131 (rfl : 1131 + 1 = 1132) (by decide) ?_
    refine k_iadd dL_law_1132 (rfl : 1132 + 1 = 1133) ?_
    refine k_sld (j := i + 2) dL_law_1133 (rfl : 1133 + 1 = 1134) (nI_add i 2) (by omega) (by omega) ?_
    refine k_callVd2 cv_L_220 ⟨Nat.le_of_ble_eq_true rfl, Nat.le_of_ble_eq_true rfl⟩ (m_X12_flightCell (x := y) (a1 := (xs (i + 1))) (a2 := (xs (i + 2))) X.R.mv) dL_law_1134 (rfl : 1134 + 3 = 1137) (Nat.le_of_ble_eq_true rfl) rfl rfl rfl (lc1 hc hs) ?_
    refine k_istore (i := 7) dL_law_1137 (rfl : 1137 + 2 = 1139) (Nat.le_of_ble_eq_true rfl) ?_
    refine k_ls (ls2 := [.ref 2000, .ref 0, .ref 116, .ref 128, .ref 129, .int (nI i), .int 2, .int (f_X12_flightCell y (xs (i + 1)) (xs (i + 2))), .retAddr 0]) rfl ?_
    refine k_aload_n (i := 2) dL_law_1139 (rfl : 1139 + 1 = 1140) rfl rfl ?_
    refine k_callVd0 cv_L_161 ⟨Nat.le_of_ble_eq_true rfl, Nat.le_of_ble_eq_true rfl⟩ (m_X12_thrown (x := (g_X12_flightCell y (xs (i + 1)) (xs (i + 2))))) dL_law_1140 (rfl : 1140 + 3 = 1143) (Nat.le_of_ble_eq_true rfl) rfl rfl rfl (lc1 hc hs) ?_
    refine k_iload (i := 6) dL_law_1143 (rfl : 1143 + 2 = 1145) rfl ?_
    refine k_icmp_eq (tgt := 1150) dL_law_1145 (rfl : 1145 + 3 = 1148) (by decide) (fun _ => ?_) (fun b => absurd e0 b)
    refine k_iload (i := 6) dL_law_1150 (rfl : 1150 + 2 = 1152) rfl ?_
    refine k_if_ne (tgt := 1167) dL_law_1152 (rfl : 1152 + 3 = 1155) (by decide) (fun _ => ?_) (fun b => absurd b (by decide))
    refine k_goto (tgt := 2815) dL_law_1167 (by decide) ?_
    exact l_go go X2 (by omega) (Nat.le_refl _) (Nat.le_refl _)
set_option maxRecDepth 100000 in
set_option maxHeartbeats 4000000 in
theorem lcs_17 {nm : String} {tb : List (Nat × Nat × Nat × Nat)} {b L i t cs ss : Nat} {xs : Nat → Int32} {x : kK} {y : kY} {f : Nat → Int64} {d : Nat → UInt64} (X : RX t x y) (ht : t + 11 < 2 ^ 20) (hi : i + 4 ≤ L) (hL : L ≤ 2048) (hc : cs + 1 ≤ 603072) (hs : ss + 6 ≤ 7182442) (go : LG nm tb b L xs i (t + 11) (cs + 1) (ss + 6)) : kEv (kLw nm tb) RW (FL b L xs) false 1170 [.ref 2000, .ref 0, .ref 116, .ref 128, .ref 129, .int (nI i), .retAddr 0, .retAddr 0, .retAddr 0] [] (h4 x y f d) 130 cs ss := by
  obtain ⟨X2, alt⟩ := q_flightEnd X (a := (xs (i + 1)))
  have hK := m_X11_flightEnd (x := x) (r := kHr y (kJ 1 f, kDb 1 d)) (a1 := (xs (i + 1)))
  rcases alt with ⟨eo, e0⟩ | ⟨eo, e0⟩
  · rw [eo] at hK
    have hm := v_L_flightEnd (h2 := h4 (g_X11_flightEnd x (xs (i + 1))) y f d) hK rfl rfl
    rw [h4_f] at hm
    refine k_aload_n (i := 1) dL_law_1170 (rfl : 1170 + 1 = 1171) rfl rfl ?_
    refine k_aload_n (i := 0) dL_law_1171 (rfl : 1171 + 1 = 1172) rfl rfl ?_
    refine k_iload (i := 5) dL_law_1172 (rfl : 1172 + 2 = 1174) rfl ?_
    refine k_iconst (v := 1) dL_law_1174 (rfl : 1174 + 1 = 1175) (by decide) ?_
    refine k_iadd dL_law_1175 (rfl : 1175 + 1 = 1176) ?_
    refine k_sld (j := i + 1) dL_law_1176 (rfl : 1176 + 1 = 1177) (nI_add i 1) (by omega) (by omega) ?_
    refine k_aload_n (i := 3) dL_law_1177 (rfl : 1177 + 1 = 1178) rfl rfl ?_
    refine k_callSTd3 cv_L_221 ⟨Nat.le_of_ble_eq_true rfl, Nat.le_of_ble_eq_true rfl⟩ hm dL_law_1178 (rfl : 1178 + 3 = 1181) rfl (lc1 hc hs) rfl ?_
    refine k_istore (i := 6) dL_law_1181 (rfl : 1181 + 2 = 1183) (Nat.le_of_ble_eq_true rfl) ?_
    refine k_ls (ls2 := [.ref 2000, .ref 0, .ref 116, .ref 128, .ref 129, .int (nI i), .int 0, .retAddr 0, .retAddr 0]) rfl ?_
    refine k_aload_n (i := 2) dL_law_1183 (rfl : 1183 + 1 = 1184) rfl rfl ?_
    refine k_aload_n (i := 0) dL_law_1184 (rfl : 1184 + 1 = 1185) rfl rfl ?_
    refine k_iload (i := 5) dL_law_1185 (rfl : 1185 + 2 = 1187) rfl ?_
    refine k_iconst (v := 1) dL_law_1187 (rfl : 1187 + 1 = 1188) (by decide) ?_
    refine k_iadd dL_law_1188 (rfl : 1188 + 1 = 1189) ?_
    refine k_sld (j := i + 1) dL_law_1189 (rfl : 1189 + 1 = 1190) (nI_add i 1) (by omega) (by omega) ?_
    refine k_callVd1 cv_L_223 ⟨Nat.le_of_ble_eq_true rfl, Nat.le_of_ble_eq_true rfl⟩ (m_X12_flightEnd (x := y) (a1 := (xs (i + 1))) X.R.mv) dL_law_1190 (rfl : 1190 + 3 = 1193) (Nat.le_of_ble_eq_true rfl) rfl rfl rfl (lc1 hc hs) ?_
    refine k_istore (i := 7) dL_law_1193 (rfl : 1193 + 2 = 1195) (Nat.le_of_ble_eq_true rfl) ?_
    refine k_ls (ls2 := [.ref 2000, .ref 0, .ref 116, .ref 128, .ref 129, .int (nI i), .int 0, .int (f_X12_flightEnd y (xs (i + 1))), .retAddr 0]) rfl ?_
    refine k_aload_n (i := 2) dL_law_1195 (rfl : 1195 + 1 = 1196) rfl rfl ?_
    refine k_callVd0 cv_L_161 ⟨Nat.le_of_ble_eq_true rfl, Nat.le_of_ble_eq_true rfl⟩ (m_X12_thrown (x := (g_X12_flightEnd y (xs (i + 1))))) dL_law_1196 (rfl : 1196 + 3 = 1199) (Nat.le_of_ble_eq_true rfl) rfl rfl rfl (lc1 hc hs) ?_
    refine k_iload (i := 6) dL_law_1199 (rfl : 1199 + 2 = 1201) rfl ?_
    refine k_icmp_eq (tgt := 1206) dL_law_1201 (rfl : 1201 + 3 = 1204) (by decide) (fun _ => ?_) (fun b => absurd e0 b)
    refine k_iload (i := 6) dL_law_1206 (rfl : 1206 + 2 = 1208) rfl ?_
    refine k_if_ne (tgt := 1223) dL_law_1208 (rfl : 1208 + 3 = 1211) (by decide) (fun b => absurd b (by decide)) (fun _ => ?_)
    refine k_aload_n (i := 3) dL_law_1211 (rfl : 1211 + 1 = 1212) rfl rfl ?_
    refine k_iconst (v := 0) dL_law_1212 (rfl : 1212 + 1 = 1213) (by decide) ?_
    refine k_lald dL_law_1213 (rfl : 1213 + 1 = 1214) (Nat.le_of_ble_eq_true rfl) rfl vp_00 ?_
    refine k_iload (i := 7) dL_law_1214 (rfl : 1214 + 2 = 1216) rfl ?_
    refine k_i2l dL_law_1216 (rfl : 1216 + 1 = 1217) ?_
    refine k_lcmp dL_law_1217 (rfl : 1217 + 1 = 1218) ?_
    refine k_if_eq (tgt := 1223) dL_law_1218 (rfl : 1218 + 3 = 1221) (by decide) (fun _ => ?_) (fun b => absurd (lg_cmp_0.2 uL0) b)
    refine k_goto (tgt := 2815) dL_law_1223 (by decide) ?_
    exact l_go go X2 (by omega) (Nat.le_refl _) (Nat.le_refl _)
  · rw [eo] at hK
    have hm := x1_L_flightEnd (h2 := h4 (g_X11_flightEnd x (xs (i + 1))) y f d) hK rfl
    refine k_aload_n (i := 1) dL_law_1170 (rfl : 1170 + 1 = 1171) rfl rfl ?_
    refine k_aload_n (i := 0) dL_law_1171 (rfl : 1171 + 1 = 1172) rfl rfl ?_
    refine k_iload (i := 5) dL_law_1172 (rfl : 1172 + 2 = 1174) rfl ?_
    refine k_iconst (v := 1) dL_law_1174 (rfl : 1174 + 1 = 1175) (by decide) ?_
    refine k_iadd dL_law_1175 (rfl : 1175 + 1 = 1176) ?_
    refine k_sld (j := i + 1) dL_law_1176 (rfl : 1176 + 1 = 1177) (nI_add i 1) (by omega) (by omega) ?_
    refine k_aload_n (i := 3) dL_law_1177 (rfl : 1177 + 1 = 1178) rfl rfl ?_
    refine k_callSTd3 cv_L_221 ⟨Nat.le_of_ble_eq_true rfl, Nat.le_of_ble_eq_true rfl⟩ hm dL_law_1178 (rfl : 1178 + 3 = 1181) rfl (lc1 hc hs) rfl ?_
    refine k_istore (i := 6) dL_law_1181 (rfl : 1181 + 2 = 1183) (Nat.le_of_ble_eq_true rfl) ?_
    refine k_ls (ls2 := [.ref 2000, .ref 0, .ref 116, .ref 128, .ref 129, .int (nI i), .int 1, .retAddr 0, .retAddr 0]) rfl ?_
    refine k_aload_n (i := 2) dL_law_1183 (rfl : 1183 + 1 = 1184) rfl rfl ?_
    refine k_aload_n (i := 0) dL_law_1184 (rfl : 1184 + 1 = 1185) rfl rfl ?_
    refine k_iload (i := 5) dL_law_1185 (rfl : 1185 + 2 = 1187) rfl ?_
    refine k_iconst (v := 1) dL_law_1187 (rfl : 1187 + 1 = 1188) (by decide) ?_
    refine k_iadd dL_law_1188 (rfl : 1188 + 1 = 1189) ?_
    refine k_sld (j := i + 1) dL_law_1189 (rfl : 1189 + 1 = 1190) (nI_add i 1) (by omega) (by omega) ?_
    refine k_callVd1 cv_L_223 ⟨Nat.le_of_ble_eq_true rfl, Nat.le_of_ble_eq_true rfl⟩ (m_X12_flightEnd (x := y) (a1 := (xs (i + 1))) X.R.mv) dL_law_1190 (rfl : 1190 + 3 = 1193) (Nat.le_of_ble_eq_true rfl) rfl rfl rfl (lc1 hc hs) ?_
    refine k_istore (i := 7) dL_law_1193 (rfl : 1193 + 2 = 1195) (Nat.le_of_ble_eq_true rfl) ?_
    refine k_ls (ls2 := [.ref 2000, .ref 0, .ref 116, .ref 128, .ref 129, .int (nI i), .int 1, .int (f_X12_flightEnd y (xs (i + 1))), .retAddr 0]) rfl ?_
    refine k_aload_n (i := 2) dL_law_1195 (rfl : 1195 + 1 = 1196) rfl rfl ?_
    refine k_callVd0 cv_L_161 ⟨Nat.le_of_ble_eq_true rfl, Nat.le_of_ble_eq_true rfl⟩ (m_X12_thrown (x := (g_X12_flightEnd y (xs (i + 1))))) dL_law_1196 (rfl : 1196 + 3 = 1199) (Nat.le_of_ble_eq_true rfl) rfl rfl rfl (lc1 hc hs) ?_
    refine k_iload (i := 6) dL_law_1199 (rfl : 1199 + 2 = 1201) rfl ?_
    refine k_icmp_eq (tgt := 1206) dL_law_1201 (rfl : 1201 + 3 = 1204) (by decide) (fun _ => ?_) (fun b => absurd e0 b)
    refine k_iload (i := 6) dL_law_1206 (rfl : 1206 + 2 = 1208) rfl ?_
    refine k_if_ne (tgt := 1223) dL_law_1208 (rfl : 1208 + 3 = 1211) (by decide) (fun _ => ?_) (fun b => absurd b (by decide))
    refine k_goto (tgt := 2815) dL_law_1223 (by decide) ?_
    exact l_go go X2 (by omega) (Nat.le_refl _) (Nat.le_refl _)
set_option maxRecDepth 100000 in
set_option maxHeartbeats 4000000 in
theorem lcs_18 {nm : String} {tb : List (Nat × Nat × Nat × Nat)} {b L i t cs ss : Nat} {xs : Nat → Int32} {x : kK} {y : kY} {f : Nat → Int64} {d : Nat → UInt64} (X : RX t x y) (ht : t + 11 < 2 ^ 20) (hi : i + 4 ≤ L) (hL : L ≤ 2048) (hc : cs + 1 ≤ 603072) (hs : ss + 6 ≤ 7182442) (go : LG nm tb b L xs i (t + 11) (cs + 1) (ss + 6)) : kEv (kLw nm tb) RW (FL b L xs) false 1226 [.ref 2000, .ref 0, .ref 116, .ref 128, .ref 129, .int (nI i), .retAddr 0, .retAddr 0, .retAddr 0] [] (h4 x y f d) 130 cs ss := by
  obtain ⟨X2, alt⟩ := q_flightBits X (a := (xs (i + 1)))
  have hK := m_X11_flightBits (x := x) (r := kHr y (kJ 1 f, kDb 1 d)) (a1 := (xs (i + 1)))
  rcases alt with ⟨eo, e0⟩ | ⟨eo, e0⟩
  · rw [eo] at hK
    have hm := v_L_flightBits (h2 := h4 (g_X11_flightBits x (xs (i + 1))) y f d) hK rfl rfl
    rw [h4_f] at hm
    refine k_aload_n (i := 1) dL_law_1226 (rfl : 1226 + 1 = 1227) rfl rfl ?_
    refine k_aload_n (i := 0) dL_law_1227 (rfl : 1227 + 1 = 1228) rfl rfl ?_
    refine k_iload (i := 5) dL_law_1228 (rfl : 1228 + 2 = 1230) rfl ?_
    refine k_iconst (v := 1) dL_law_1230 (rfl : 1230 + 1 = 1231) (by decide) ?_
    refine k_iadd dL_law_1231 (rfl : 1231 + 1 = 1232) ?_
    refine k_sld (j := i + 1) dL_law_1232 (rfl : 1232 + 1 = 1233) (nI_add i 1) (by omega) (by omega) ?_
    refine k_aload_n (i := 3) dL_law_1233 (rfl : 1233 + 1 = 1234) rfl rfl ?_
    refine k_callSTd3 cv_L_224 ⟨Nat.le_of_ble_eq_true rfl, Nat.le_of_ble_eq_true rfl⟩ hm dL_law_1234 (rfl : 1234 + 3 = 1237) rfl (lc1 hc hs) rfl ?_
    refine k_istore (i := 6) dL_law_1237 (rfl : 1237 + 2 = 1239) (Nat.le_of_ble_eq_true rfl) ?_
    refine k_ls (ls2 := [.ref 2000, .ref 0, .ref 116, .ref 128, .ref 129, .int (nI i), .int 0, .retAddr 0, .retAddr 0]) rfl ?_
    refine k_aload_n (i := 2) dL_law_1239 (rfl : 1239 + 1 = 1240) rfl rfl ?_
    refine k_aload_n (i := 0) dL_law_1240 (rfl : 1240 + 1 = 1241) rfl rfl ?_
    refine k_iload (i := 5) dL_law_1241 (rfl : 1241 + 2 = 1243) rfl ?_
    refine k_iconst (v := 1) dL_law_1243 (rfl : 1243 + 1 = 1244) (by decide) ?_
    refine k_iadd dL_law_1244 (rfl : 1244 + 1 = 1245) ?_
    refine k_sld (j := i + 1) dL_law_1245 (rfl : 1245 + 1 = 1246) (nI_add i 1) (by omega) (by omega) ?_
    refine k_callVd1 cv_L_226 ⟨Nat.le_of_ble_eq_true rfl, Nat.le_of_ble_eq_true rfl⟩ (m_X12_flightBits (x := y) (a1 := (xs (i + 1))) X.R.mv) dL_law_1246 (rfl : 1246 + 3 = 1249) (Nat.le_of_ble_eq_true rfl) rfl rfl rfl (lc1 hc hs) ?_
    refine k_lstore (i := 7) dL_law_1249 (rfl : 1249 + 2 = 1251) (Nat.le_of_ble_eq_true rfl) ?_
    refine k_ls (ls2 := [.ref 2000, .ref 0, .ref 116, .ref 128, .ref 129, .int (nI i), .int 0, .long (f_X12_flightBits y (xs (i + 1))), .retAddr 0]) rfl ?_
    refine k_aload_n (i := 2) dL_law_1251 (rfl : 1251 + 1 = 1252) rfl rfl ?_
    refine k_callVd0 cv_L_161 ⟨Nat.le_of_ble_eq_true rfl, Nat.le_of_ble_eq_true rfl⟩ (m_X12_thrown (x := (g_X12_flightBits y (xs (i + 1))))) dL_law_1252 (rfl : 1252 + 3 = 1255) (Nat.le_of_ble_eq_true rfl) rfl rfl rfl (lc1 hc hs) ?_
    refine k_iload (i := 6) dL_law_1255 (rfl : 1255 + 2 = 1257) rfl ?_
    refine k_icmp_eq (tgt := 1262) dL_law_1257 (rfl : 1257 + 3 = 1260) (by decide) (fun _ => ?_) (fun b => absurd e0 b)
    refine k_iload (i := 6) dL_law_1262 (rfl : 1262 + 2 = 1264) rfl ?_
    refine k_if_ne (tgt := 1278) dL_law_1264 (rfl : 1264 + 3 = 1267) (by decide) (fun b => absurd b (by decide)) (fun _ => ?_)
    refine k_aload_n (i := 3) dL_law_1267 (rfl : 1267 + 1 = 1268) rfl rfl ?_
    refine k_iconst (v := 0) dL_law_1268 (rfl : 1268 + 1 = 1269) (by decide) ?_
    refine k_lald dL_law_1269 (rfl : 1269 + 1 = 1270) (Nat.le_of_ble_eq_true rfl) rfl vp_00 ?_
    refine k_lload (i := 7) dL_law_1270 (rfl : 1270 + 2 = 1272) rfl ?_
    refine k_lcmp dL_law_1272 (rfl : 1272 + 1 = 1273) ?_
    refine k_if_eq (tgt := 1278) dL_law_1273 (rfl : 1273 + 3 = 1276) (by decide) (fun _ => ?_) (fun b => absurd (lg_cmp_0.2 uL0) b)
    refine k_goto (tgt := 2815) dL_law_1278 (by decide) ?_
    exact l_go go X2 (by omega) (Nat.le_refl _) (Nat.le_refl _)
  · rw [eo] at hK
    have hm := x1_L_flightBits (h2 := h4 (g_X11_flightBits x (xs (i + 1))) y f d) hK rfl
    refine k_aload_n (i := 1) dL_law_1226 (rfl : 1226 + 1 = 1227) rfl rfl ?_
    refine k_aload_n (i := 0) dL_law_1227 (rfl : 1227 + 1 = 1228) rfl rfl ?_
    refine k_iload (i := 5) dL_law_1228 (rfl : 1228 + 2 = 1230) rfl ?_
    refine k_iconst (v := 1) dL_law_1230 (rfl : 1230 + 1 = 1231) (by decide) ?_
    refine k_iadd dL_law_1231 (rfl : 1231 + 1 = 1232) ?_
    refine k_sld (j := i + 1) dL_law_1232 (rfl : 1232 + 1 = 1233) (nI_add i 1) (by omega) (by omega) ?_
    refine k_aload_n (i := 3) dL_law_1233 (rfl : 1233 + 1 = 1234) rfl rfl ?_
    refine k_callSTd3 cv_L_224 ⟨Nat.le_of_ble_eq_true rfl, Nat.le_of_ble_eq_true rfl⟩ hm dL_law_1234 (rfl : 1234 + 3 = 1237) rfl (lc1 hc hs) rfl ?_
    refine k_istore (i := 6) dL_law_1237 (rfl : 1237 + 2 = 1239) (Nat.le_of_ble_eq_true rfl) ?_
    refine k_ls (ls2 := [.ref 2000, .ref 0, .ref 116, .ref 128, .ref 129, .int (nI i), .int 1, .retAddr 0, .retAddr 0]) rfl ?_
    refine k_aload_n (i := 2) dL_law_1239 (rfl : 1239 + 1 = 1240) rfl rfl ?_
    refine k_aload_n (i := 0) dL_law_1240 (rfl : 1240 + 1 = 1241) rfl rfl ?_
    refine k_iload (i := 5) dL_law_1241 (rfl : 1241 + 2 = 1243) rfl ?_
    refine k_iconst (v := 1) dL_law_1243 (rfl : 1243 + 1 = 1244) (by decide) ?_
    refine k_iadd dL_law_1244 (rfl : 1244 + 1 = 1245) ?_
    refine k_sld (j := i + 1) dL_law_1245 (rfl : 1245 + 1 = 1246) (nI_add i 1) (by omega) (by omega) ?_
    refine k_callVd1 cv_L_226 ⟨Nat.le_of_ble_eq_true rfl, Nat.le_of_ble_eq_true rfl⟩ (m_X12_flightBits (x := y) (a1 := (xs (i + 1))) X.R.mv) dL_law_1246 (rfl : 1246 + 3 = 1249) (Nat.le_of_ble_eq_true rfl) rfl rfl rfl (lc1 hc hs) ?_
    refine k_lstore (i := 7) dL_law_1249 (rfl : 1249 + 2 = 1251) (Nat.le_of_ble_eq_true rfl) ?_
    refine k_ls (ls2 := [.ref 2000, .ref 0, .ref 116, .ref 128, .ref 129, .int (nI i), .int 1, .long (f_X12_flightBits y (xs (i + 1))), .retAddr 0]) rfl ?_
    refine k_aload_n (i := 2) dL_law_1251 (rfl : 1251 + 1 = 1252) rfl rfl ?_
    refine k_callVd0 cv_L_161 ⟨Nat.le_of_ble_eq_true rfl, Nat.le_of_ble_eq_true rfl⟩ (m_X12_thrown (x := (g_X12_flightBits y (xs (i + 1))))) dL_law_1252 (rfl : 1252 + 3 = 1255) (Nat.le_of_ble_eq_true rfl) rfl rfl rfl (lc1 hc hs) ?_
    refine k_iload (i := 6) dL_law_1255 (rfl : 1255 + 2 = 1257) rfl ?_
    refine k_icmp_eq (tgt := 1262) dL_law_1257 (rfl : 1257 + 3 = 1260) (by decide) (fun _ => ?_) (fun b => absurd e0 b)
    refine k_iload (i := 6) dL_law_1262 (rfl : 1262 + 2 = 1264) rfl ?_
    refine k_if_ne (tgt := 1278) dL_law_1264 (rfl : 1264 + 3 = 1267) (by decide) (fun _ => ?_) (fun b => absurd b (by decide))
    refine k_goto (tgt := 2815) dL_law_1278 (by decide) ?_
    exact l_go go X2 (by omega) (Nat.le_refl _) (Nat.le_refl _)
set_option maxRecDepth 100000 in
set_option maxHeartbeats 4000000 in
theorem lcs_19 {nm : String} {tb : List (Nat × Nat × Nat × Nat)} {b L i t cs ss : Nat} {xs : Nat → Int32} {x : kK} {y : kY} {f : Nat → Int64} {d : Nat → UInt64} (X : RX t x y) (ht : t + 11 < 2 ^ 20) (hi : i + 4 ≤ L) (hL : L ≤ 2048) (hc : cs + 1 ≤ 603072) (hs : ss + 6 ≤ 7182442) (go : LG nm tb b L xs i (t + 11) (cs + 1) (ss + 6)) : kEv (kLw nm tb) RW (FL b L xs) false 1281 [.ref 2000, .ref 0, .ref 116, .ref 128, .ref 129, .int (nI i), .retAddr 0, .retAddr 0, .retAddr 0] [] (h4 x y f d) 130 cs ss := by
  obtain ⟨X2, alt⟩ := q_servingThrows X (a := (xs (i + 1)))
  have hK := m_X11_servingThrows (x := x) (r := kHr y (kJ 1 f, kDb 1 d)) (a1 := (xs (i + 1))) X.R.iv
  rcases alt with ⟨eo, e0⟩ | ⟨eo, e0⟩
  · rw [eo] at hK
    have hm := v_L_servingThrows (h2 := h4 (g_X11_servingThrows x (xs (i + 1))) y f d) hK rfl rfl
    rw [h4_f] at hm
    refine k_aload_n (i := 1) dL_law_1281 (rfl : 1281 + 1 = 1282) rfl rfl ?_
    refine k_aload_n (i := 0) dL_law_1282 (rfl : 1282 + 1 = 1283) rfl rfl ?_
    refine k_iload (i := 5) dL_law_1283 (rfl : 1283 + 2 = 1285) rfl ?_
    refine k_iconst (v := 1) dL_law_1285 (rfl : 1285 + 1 = 1286) (by decide) ?_
    refine k_iadd dL_law_1286 (rfl : 1286 + 1 = 1287) ?_
    refine k_sld (j := i + 1) dL_law_1287 (rfl : 1287 + 1 = 1288) (nI_add i 1) (by omega) (by omega) ?_
    refine k_aload_n (i := 3) dL_law_1288 (rfl : 1288 + 1 = 1289) rfl rfl ?_
    refine k_callSTd3 cv_L_227 ⟨Nat.le_of_ble_eq_true rfl, Nat.le_of_ble_eq_true rfl⟩ hm dL_law_1289 (rfl : 1289 + 3 = 1292) rfl (lc1 hc hs) rfl ?_
    refine k_istore (i := 6) dL_law_1292 (rfl : 1292 + 2 = 1294) (Nat.le_of_ble_eq_true rfl) ?_
    refine k_ls (ls2 := [.ref 2000, .ref 0, .ref 116, .ref 128, .ref 129, .int (nI i), .int 0, .retAddr 0, .retAddr 0]) rfl ?_
    refine k_aload_n (i := 2) dL_law_1294 (rfl : 1294 + 1 = 1295) rfl rfl ?_
    refine k_aload_n (i := 0) dL_law_1295 (rfl : 1295 + 1 = 1296) rfl rfl ?_
    refine k_iload (i := 5) dL_law_1296 (rfl : 1296 + 2 = 1298) rfl ?_
    refine k_iconst (v := 1) dL_law_1298 (rfl : 1298 + 1 = 1299) (by decide) ?_
    refine k_iadd dL_law_1299 (rfl : 1299 + 1 = 1300) ?_
    refine k_sld (j := i + 1) dL_law_1300 (rfl : 1300 + 1 = 1301) (nI_add i 1) (by omega) (by omega) ?_
    refine k_callVd1 cv_L_229 ⟨Nat.le_of_ble_eq_true rfl, Nat.le_of_ble_eq_true rfl⟩ (m_X12_servingThrows (x := y) (a1 := (xs (i + 1))) X.R.mv) dL_law_1301 (rfl : 1301 + 3 = 1304) (Nat.le_of_ble_eq_true rfl) rfl rfl rfl (lc1 hc hs) ?_
    refine k_lstore (i := 7) dL_law_1304 (rfl : 1304 + 2 = 1306) (Nat.le_of_ble_eq_true rfl) ?_
    refine k_ls (ls2 := [.ref 2000, .ref 0, .ref 116, .ref 128, .ref 129, .int (nI i), .int 0, .long (f_X12_servingThrows y (xs (i + 1))), .retAddr 0]) rfl ?_
    refine k_aload_n (i := 2) dL_law_1306 (rfl : 1306 + 1 = 1307) rfl rfl ?_
    refine k_callVd0 cv_L_161 ⟨Nat.le_of_ble_eq_true rfl, Nat.le_of_ble_eq_true rfl⟩ (m_X12_thrown (x := (g_X12_servingThrows y (xs (i + 1))))) dL_law_1307 (rfl : 1307 + 3 = 1310) (Nat.le_of_ble_eq_true rfl) rfl rfl rfl (lc1 hc hs) ?_
    refine k_iload (i := 6) dL_law_1310 (rfl : 1310 + 2 = 1312) rfl ?_
    refine k_icmp_eq (tgt := 1317) dL_law_1312 (rfl : 1312 + 3 = 1315) (by decide) (fun _ => ?_) (fun b => absurd e0 b)
    refine k_iload (i := 6) dL_law_1317 (rfl : 1317 + 2 = 1319) rfl ?_
    refine k_if_ne (tgt := 1333) dL_law_1319 (rfl : 1319 + 3 = 1322) (by decide) (fun b => absurd b (by decide)) (fun _ => ?_)
    refine k_aload_n (i := 3) dL_law_1322 (rfl : 1322 + 1 = 1323) rfl rfl ?_
    refine k_iconst (v := 0) dL_law_1323 (rfl : 1323 + 1 = 1324) (by decide) ?_
    refine k_lald dL_law_1324 (rfl : 1324 + 1 = 1325) (Nat.le_of_ble_eq_true rfl) rfl vp_00 ?_
    refine k_lload (i := 7) dL_law_1325 (rfl : 1325 + 2 = 1327) rfl ?_
    refine k_lcmp dL_law_1327 (rfl : 1327 + 1 = 1328) ?_
    refine k_if_eq (tgt := 1333) dL_law_1328 (rfl : 1328 + 3 = 1331) (by decide) (fun _ => ?_) (fun b => absurd (lg_cmp_0.2 uL0) b)
    refine k_goto (tgt := 2815) dL_law_1333 (by decide) ?_
    exact l_go go X2 (by omega) (Nat.le_refl _) (Nat.le_refl _)
  · rw [eo] at hK
    have hm := x1_L_servingThrows (h2 := h4 (g_X11_servingThrows x (xs (i + 1))) y f d) hK rfl
    refine k_aload_n (i := 1) dL_law_1281 (rfl : 1281 + 1 = 1282) rfl rfl ?_
    refine k_aload_n (i := 0) dL_law_1282 (rfl : 1282 + 1 = 1283) rfl rfl ?_
    refine k_iload (i := 5) dL_law_1283 (rfl : 1283 + 2 = 1285) rfl ?_
    refine k_iconst (v := 1) dL_law_1285 (rfl : 1285 + 1 = 1286) (by decide) ?_
    refine k_iadd dL_law_1286 (rfl : 1286 + 1 = 1287) ?_
    refine k_sld (j := i + 1) dL_law_1287 (rfl : 1287 + 1 = 1288) (nI_add i 1) (by omega) (by omega) ?_
    refine k_aload_n (i := 3) dL_law_1288 (rfl : 1288 + 1 = 1289) rfl rfl ?_
    refine k_callSTd3 cv_L_227 ⟨Nat.le_of_ble_eq_true rfl, Nat.le_of_ble_eq_true rfl⟩ hm dL_law_1289 (rfl : 1289 + 3 = 1292) rfl (lc1 hc hs) rfl ?_
    refine k_istore (i := 6) dL_law_1292 (rfl : 1292 + 2 = 1294) (Nat.le_of_ble_eq_true rfl) ?_
    refine k_ls (ls2 := [.ref 2000, .ref 0, .ref 116, .ref 128, .ref 129, .int (nI i), .int 1, .retAddr 0, .retAddr 0]) rfl ?_
    refine k_aload_n (i := 2) dL_law_1294 (rfl : 1294 + 1 = 1295) rfl rfl ?_
    refine k_aload_n (i := 0) dL_law_1295 (rfl : 1295 + 1 = 1296) rfl rfl ?_
    refine k_iload (i := 5) dL_law_1296 (rfl : 1296 + 2 = 1298) rfl ?_
    refine k_iconst (v := 1) dL_law_1298 (rfl : 1298 + 1 = 1299) (by decide) ?_
    refine k_iadd dL_law_1299 (rfl : 1299 + 1 = 1300) ?_
    refine k_sld (j := i + 1) dL_law_1300 (rfl : 1300 + 1 = 1301) (nI_add i 1) (by omega) (by omega) ?_
    refine k_callVd1 cv_L_229 ⟨Nat.le_of_ble_eq_true rfl, Nat.le_of_ble_eq_true rfl⟩ (m_X12_servingThrows (x := y) (a1 := (xs (i + 1))) X.R.mv) dL_law_1301 (rfl : 1301 + 3 = 1304) (Nat.le_of_ble_eq_true rfl) rfl rfl rfl (lc1 hc hs) ?_
    refine k_lstore (i := 7) dL_law_1304 (rfl : 1304 + 2 = 1306) (Nat.le_of_ble_eq_true rfl) ?_
    refine k_ls (ls2 := [.ref 2000, .ref 0, .ref 116, .ref 128, .ref 129, .int (nI i), .int 1, .long (f_X12_servingThrows y (xs (i + 1))), .retAddr 0]) rfl ?_
    refine k_aload_n (i := 2) dL_law_1306 (rfl : 1306 + 1 = 1307) rfl rfl ?_
    refine k_callVd0 cv_L_161 ⟨Nat.le_of_ble_eq_true rfl, Nat.le_of_ble_eq_true rfl⟩ (m_X12_thrown (x := (g_X12_servingThrows y (xs (i + 1))))) dL_law_1307 (rfl : 1307 + 3 = 1310) (Nat.le_of_ble_eq_true rfl) rfl rfl rfl (lc1 hc hs) ?_
    refine k_iload (i := 6) dL_law_1310 (rfl : 1310 + 2 = 1312) rfl ?_
    refine k_icmp_eq (tgt := 1317) dL_law_1312 (rfl : 1312 + 3 = 1315) (by decide) (fun _ => ?_) (fun b => absurd e0 b)
    refine k_iload (i := 6) dL_law_1317 (rfl : 1317 + 2 = 1319) rfl ?_
    refine k_if_ne (tgt := 1333) dL_law_1319 (rfl : 1319 + 3 = 1322) (by decide) (fun _ => ?_) (fun b => absurd b (by decide))
    refine k_goto (tgt := 2815) dL_law_1333 (by decide) ?_
    exact l_go go X2 (by omega) (Nat.le_refl _) (Nat.le_refl _)
set_option maxRecDepth 100000 in
set_option maxHeartbeats 4000000 in
theorem lcs_20 {nm : String} {tb : List (Nat × Nat × Nat × Nat)} {b L i t cs ss : Nat} {xs : Nat → Int32} {x : kK} {y : kY} {f : Nat → Int64} {d : Nat → UInt64} (X : RX t x y) (ht : t + 11 < 2 ^ 20) (hi : i + 4 ≤ L) (hL : L ≤ 2048) (hc : cs + 1 ≤ 603072) (hs : ss + 6 ≤ 7182442) (go : LG nm tb b L xs i (t + 11) (cs + 1) (ss + 6)) : kEv (kLw nm tb) RW (FL b L xs) false 1336 [.ref 2000, .ref 0, .ref 116, .ref 128, .ref 129, .int (nI i), .retAddr 0, .retAddr 0, .retAddr 0] [] (h4 x y f d) 130 cs ss := by
  obtain ⟨X2, alt⟩ := q_servingThrowsBySets X (a := (xs (i + 1)))
  have hK := m_X11_servingThrowsBySets (x := x) (r := kHr y (kJ 1 f, kDb 1 d)) (a1 := (xs (i + 1))) X.R.iv
  rcases alt with ⟨eo, e0⟩ | ⟨eo, e0⟩
  · rw [eo] at hK
    have hm := v_L_servingThrowsBySets (h2 := h4 (g_X11_servingThrowsBySets x (xs (i + 1))) y f d) hK rfl rfl
    rw [h4_f] at hm
    refine k_aload_n (i := 1) dL_law_1336 (rfl : 1336 + 1 = 1337) rfl rfl ?_
    refine k_aload_n (i := 0) dL_law_1337 (rfl : 1337 + 1 = 1338) rfl rfl ?_
    refine k_iload (i := 5) dL_law_1338 (rfl : 1338 + 2 = 1340) rfl ?_
    refine k_iconst (v := 1) dL_law_1340 (rfl : 1340 + 1 = 1341) (by decide) ?_
    refine k_iadd dL_law_1341 (rfl : 1341 + 1 = 1342) ?_
    refine k_sld (j := i + 1) dL_law_1342 (rfl : 1342 + 1 = 1343) (nI_add i 1) (by omega) (by omega) ?_
    refine k_aload_n (i := 3) dL_law_1343 (rfl : 1343 + 1 = 1344) rfl rfl ?_
    refine k_callSTd3 cv_L_230 ⟨Nat.le_of_ble_eq_true rfl, Nat.le_of_ble_eq_true rfl⟩ hm dL_law_1344 (rfl : 1344 + 3 = 1347) rfl (lc1 hc hs) rfl ?_
    refine k_istore (i := 6) dL_law_1347 (rfl : 1347 + 2 = 1349) (Nat.le_of_ble_eq_true rfl) ?_
    refine k_ls (ls2 := [.ref 2000, .ref 0, .ref 116, .ref 128, .ref 129, .int (nI i), .int 0, .retAddr 0, .retAddr 0]) rfl ?_
    refine k_aload_n (i := 2) dL_law_1349 (rfl : 1349 + 1 = 1350) rfl rfl ?_
    refine k_aload_n (i := 0) dL_law_1350 (rfl : 1350 + 1 = 1351) rfl rfl ?_
    refine k_iload (i := 5) dL_law_1351 (rfl : 1351 + 2 = 1353) rfl ?_
    refine k_iconst (v := 1) dL_law_1353 (rfl : 1353 + 1 = 1354) (by decide) ?_
    refine k_iadd dL_law_1354 (rfl : 1354 + 1 = 1355) ?_
    refine k_sld (j := i + 1) dL_law_1355 (rfl : 1355 + 1 = 1356) (nI_add i 1) (by omega) (by omega) ?_
    refine k_callVd1 cv_L_232 ⟨Nat.le_of_ble_eq_true rfl, Nat.le_of_ble_eq_true rfl⟩ (m_X12_servingThrowsBySets (x := y) (a1 := (xs (i + 1))) X.R.mv) dL_law_1356 (rfl : 1356 + 3 = 1359) (Nat.le_of_ble_eq_true rfl) rfl rfl rfl (lc1 hc hs) ?_
    refine k_lstore (i := 7) dL_law_1359 (rfl : 1359 + 2 = 1361) (Nat.le_of_ble_eq_true rfl) ?_
    refine k_ls (ls2 := [.ref 2000, .ref 0, .ref 116, .ref 128, .ref 129, .int (nI i), .int 0, .long (f_X12_servingThrowsBySets y (xs (i + 1))), .retAddr 0]) rfl ?_
    refine k_aload_n (i := 2) dL_law_1361 (rfl : 1361 + 1 = 1362) rfl rfl ?_
    refine k_callVd0 cv_L_161 ⟨Nat.le_of_ble_eq_true rfl, Nat.le_of_ble_eq_true rfl⟩ (m_X12_thrown (x := (g_X12_servingThrowsBySets y (xs (i + 1))))) dL_law_1362 (rfl : 1362 + 3 = 1365) (Nat.le_of_ble_eq_true rfl) rfl rfl rfl (lc1 hc hs) ?_
    refine k_iload (i := 6) dL_law_1365 (rfl : 1365 + 2 = 1367) rfl ?_
    refine k_icmp_eq (tgt := 1372) dL_law_1367 (rfl : 1367 + 3 = 1370) (by decide) (fun _ => ?_) (fun b => absurd e0 b)
    refine k_iload (i := 6) dL_law_1372 (rfl : 1372 + 2 = 1374) rfl ?_
    refine k_if_ne (tgt := 1388) dL_law_1374 (rfl : 1374 + 3 = 1377) (by decide) (fun b => absurd b (by decide)) (fun _ => ?_)
    refine k_aload_n (i := 3) dL_law_1377 (rfl : 1377 + 1 = 1378) rfl rfl ?_
    refine k_iconst (v := 0) dL_law_1378 (rfl : 1378 + 1 = 1379) (by decide) ?_
    refine k_lald dL_law_1379 (rfl : 1379 + 1 = 1380) (Nat.le_of_ble_eq_true rfl) rfl vp_00 ?_
    refine k_lload (i := 7) dL_law_1380 (rfl : 1380 + 2 = 1382) rfl ?_
    refine k_lcmp dL_law_1382 (rfl : 1382 + 1 = 1383) ?_
    refine k_if_eq (tgt := 1388) dL_law_1383 (rfl : 1383 + 3 = 1386) (by decide) (fun _ => ?_) (fun b => absurd (lg_cmp_0.2 uL0) b)
    refine k_goto (tgt := 2815) dL_law_1388 (by decide) ?_
    exact l_go go X2 (by omega) (Nat.le_refl _) (Nat.le_refl _)
  · rw [eo] at hK
    have hm := x1_L_servingThrowsBySets (h2 := h4 (g_X11_servingThrowsBySets x (xs (i + 1))) y f d) hK rfl
    refine k_aload_n (i := 1) dL_law_1336 (rfl : 1336 + 1 = 1337) rfl rfl ?_
    refine k_aload_n (i := 0) dL_law_1337 (rfl : 1337 + 1 = 1338) rfl rfl ?_
    refine k_iload (i := 5) dL_law_1338 (rfl : 1338 + 2 = 1340) rfl ?_
    refine k_iconst (v := 1) dL_law_1340 (rfl : 1340 + 1 = 1341) (by decide) ?_
    refine k_iadd dL_law_1341 (rfl : 1341 + 1 = 1342) ?_
    refine k_sld (j := i + 1) dL_law_1342 (rfl : 1342 + 1 = 1343) (nI_add i 1) (by omega) (by omega) ?_
    refine k_aload_n (i := 3) dL_law_1343 (rfl : 1343 + 1 = 1344) rfl rfl ?_
    refine k_callSTd3 cv_L_230 ⟨Nat.le_of_ble_eq_true rfl, Nat.le_of_ble_eq_true rfl⟩ hm dL_law_1344 (rfl : 1344 + 3 = 1347) rfl (lc1 hc hs) rfl ?_
    refine k_istore (i := 6) dL_law_1347 (rfl : 1347 + 2 = 1349) (Nat.le_of_ble_eq_true rfl) ?_
    refine k_ls (ls2 := [.ref 2000, .ref 0, .ref 116, .ref 128, .ref 129, .int (nI i), .int 1, .retAddr 0, .retAddr 0]) rfl ?_
    refine k_aload_n (i := 2) dL_law_1349 (rfl : 1349 + 1 = 1350) rfl rfl ?_
    refine k_aload_n (i := 0) dL_law_1350 (rfl : 1350 + 1 = 1351) rfl rfl ?_
    refine k_iload (i := 5) dL_law_1351 (rfl : 1351 + 2 = 1353) rfl ?_
    refine k_iconst (v := 1) dL_law_1353 (rfl : 1353 + 1 = 1354) (by decide) ?_
    refine k_iadd dL_law_1354 (rfl : 1354 + 1 = 1355) ?_
    refine k_sld (j := i + 1) dL_law_1355 (rfl : 1355 + 1 = 1356) (nI_add i 1) (by omega) (by omega) ?_
    refine k_callVd1 cv_L_232 ⟨Nat.le_of_ble_eq_true rfl, Nat.le_of_ble_eq_true rfl⟩ (m_X12_servingThrowsBySets (x := y) (a1 := (xs (i + 1))) X.R.mv) dL_law_1356 (rfl : 1356 + 3 = 1359) (Nat.le_of_ble_eq_true rfl) rfl rfl rfl (lc1 hc hs) ?_
    refine k_lstore (i := 7) dL_law_1359 (rfl : 1359 + 2 = 1361) (Nat.le_of_ble_eq_true rfl) ?_
    refine k_ls (ls2 := [.ref 2000, .ref 0, .ref 116, .ref 128, .ref 129, .int (nI i), .int 1, .long (f_X12_servingThrowsBySets y (xs (i + 1))), .retAddr 0]) rfl ?_
    refine k_aload_n (i := 2) dL_law_1361 (rfl : 1361 + 1 = 1362) rfl rfl ?_
    refine k_callVd0 cv_L_161 ⟨Nat.le_of_ble_eq_true rfl, Nat.le_of_ble_eq_true rfl⟩ (m_X12_thrown (x := (g_X12_servingThrowsBySets y (xs (i + 1))))) dL_law_1362 (rfl : 1362 + 3 = 1365) (Nat.le_of_ble_eq_true rfl) rfl rfl rfl (lc1 hc hs) ?_
    refine k_iload (i := 6) dL_law_1365 (rfl : 1365 + 2 = 1367) rfl ?_
    refine k_icmp_eq (tgt := 1372) dL_law_1367 (rfl : 1367 + 3 = 1370) (by decide) (fun _ => ?_) (fun b => absurd e0 b)
    refine k_iload (i := 6) dL_law_1372 (rfl : 1372 + 2 = 1374) rfl ?_
    refine k_if_ne (tgt := 1388) dL_law_1374 (rfl : 1374 + 3 = 1377) (by decide) (fun _ => ?_) (fun b => absurd b (by decide))
    refine k_goto (tgt := 2815) dL_law_1388 (by decide) ?_
    exact l_go go X2 (by omega) (Nat.le_refl _) (Nat.le_refl _)
set_option maxRecDepth 100000 in
set_option maxHeartbeats 4000000 in
theorem lcs_21 {nm : String} {tb : List (Nat × Nat × Nat × Nat)} {b L i t cs ss : Nat} {xs : Nat → Int32} {x : kK} {y : kY} {f : Nat → Int64} {d : Nat → UInt64} (X : RX t x y) (ht : t + 11 < 2 ^ 20) (hi : i + 4 ≤ L) (hL : L ≤ 2048) (hc : cs + 1 ≤ 603072) (hs : ss + 6 ≤ 7182442) (go : LG nm tb b L xs i (t + 11) (cs + 1) (ss + 6)) : kEv (kLw nm tb) RW (FL b L xs) false 1391 [.ref 2000, .ref 0, .ref 116, .ref 128, .ref 129, .int (nI i), .retAddr 0, .retAddr 0, .retAddr 0] [] (h4 x y f d) 130 cs ss := by
  obtain ⟨X2, alt⟩ := q_bestThrow X (a := (xs (i + 1)))
  have hK := m_X11_bestThrow (x := x) (r := kHr y (kJ 1 f, kDb 1 d)) (a1 := (xs (i + 1))) X.R.iv
  rcases alt with ⟨eo, e0⟩ | ⟨eo, e0⟩ | ⟨eo, e0⟩
  · rw [eo] at hK
    have hm := v_L_bestThrow (h2 := h4 (g_X11_bestThrow x (xs (i + 1))) y f d) hK rfl rfl
    rw [h4_f] at hm
    refine k_aload_n (i := 1) dL_law_1391 (rfl : 1391 + 1 = 1392) rfl rfl ?_
    refine k_aload_n (i := 0) dL_law_1392 (rfl : 1392 + 1 = 1393) rfl rfl ?_
    refine k_iload (i := 5) dL_law_1393 (rfl : 1393 + 2 = 1395) rfl ?_
    refine k_iconst (v := 1) dL_law_1395 (rfl : 1395 + 1 = 1396) (by decide) ?_
    refine k_iadd dL_law_1396 (rfl : 1396 + 1 = 1397) ?_
    refine k_sld (j := i + 1) dL_law_1397 (rfl : 1397 + 1 = 1398) (nI_add i 1) (by omega) (by omega) ?_
    refine k_aload_n (i := 3) dL_law_1398 (rfl : 1398 + 1 = 1399) rfl rfl ?_
    refine k_callSTd3 cv_L_233 ⟨Nat.le_of_ble_eq_true rfl, Nat.le_of_ble_eq_true rfl⟩ hm dL_law_1399 (rfl : 1399 + 3 = 1402) rfl (lc1 hc hs) rfl ?_
    refine k_istore (i := 6) dL_law_1402 (rfl : 1402 + 2 = 1404) (Nat.le_of_ble_eq_true rfl) ?_
    refine k_ls (ls2 := [.ref 2000, .ref 0, .ref 116, .ref 128, .ref 129, .int (nI i), .int 0, .retAddr 0, .retAddr 0]) rfl ?_
    refine k_aload_n (i := 2) dL_law_1404 (rfl : 1404 + 1 = 1405) rfl rfl ?_
    refine k_aload_n (i := 0) dL_law_1405 (rfl : 1405 + 1 = 1406) rfl rfl ?_
    refine k_iload (i := 5) dL_law_1406 (rfl : 1406 + 2 = 1408) rfl ?_
    refine k_iconst (v := 1) dL_law_1408 (rfl : 1408 + 1 = 1409) (by decide) ?_
    refine k_iadd dL_law_1409 (rfl : 1409 + 1 = 1410) ?_
    refine k_sld (j := i + 1) dL_law_1410 (rfl : 1410 + 1 = 1411) (nI_add i 1) (by omega) (by omega) ?_
    refine k_callVd1 cv_L_235 ⟨Nat.le_of_ble_eq_true rfl, Nat.le_of_ble_eq_true rfl⟩ (m_X12_bestThrow (x := y) (a1 := (xs (i + 1))) X.R.mv) dL_law_1411 (rfl : 1411 + 3 = 1414) (Nat.le_of_ble_eq_true rfl) rfl rfl rfl (lc1 hc hs) ?_
    refine k_istore (i := 7) dL_law_1414 (rfl : 1414 + 2 = 1416) (Nat.le_of_ble_eq_true rfl) ?_
    refine k_ls (ls2 := [.ref 2000, .ref 0, .ref 116, .ref 128, .ref 129, .int (nI i), .int 0, .int (f_X12_bestThrow y (xs (i + 1))), .retAddr 0]) rfl ?_
    refine k_aload_n (i := 2) dL_law_1416 (rfl : 1416 + 1 = 1417) rfl rfl ?_
    refine k_callVd0 cv_L_161 ⟨Nat.le_of_ble_eq_true rfl, Nat.le_of_ble_eq_true rfl⟩ (m_X12_thrown (x := (g_X12_bestThrow y (xs (i + 1))))) dL_law_1417 (rfl : 1417 + 3 = 1420) (Nat.le_of_ble_eq_true rfl) rfl rfl rfl (lc1 hc hs) ?_
    refine k_iload (i := 6) dL_law_1420 (rfl : 1420 + 2 = 1422) rfl ?_
    refine k_icmp_eq (tgt := 1427) dL_law_1422 (rfl : 1422 + 3 = 1425) (by decide) (fun _ => ?_) (fun b => absurd e0 b)
    refine k_iload (i := 6) dL_law_1427 (rfl : 1427 + 2 = 1429) rfl ?_
    refine k_if_ne (tgt := 1444) dL_law_1429 (rfl : 1429 + 3 = 1432) (by decide) (fun b => absurd b (by decide)) (fun _ => ?_)
    refine k_aload_n (i := 3) dL_law_1432 (rfl : 1432 + 1 = 1433) rfl rfl ?_
    refine k_iconst (v := 0) dL_law_1433 (rfl : 1433 + 1 = 1434) (by decide) ?_
    refine k_lald dL_law_1434 (rfl : 1434 + 1 = 1435) (Nat.le_of_ble_eq_true rfl) rfl vp_00 ?_
    refine k_iload (i := 7) dL_law_1435 (rfl : 1435 + 2 = 1437) rfl ?_
    refine k_i2l dL_law_1437 (rfl : 1437 + 1 = 1438) ?_
    refine k_lcmp dL_law_1438 (rfl : 1438 + 1 = 1439) ?_
    refine k_if_eq (tgt := 1444) dL_law_1439 (rfl : 1439 + 3 = 1442) (by decide) (fun _ => ?_) (fun b => absurd (lg_cmp_0.2 uL0) b)
    refine k_goto (tgt := 2815) dL_law_1444 (by decide) ?_
    exact l_go go X2 (by omega) (Nat.le_refl _) (Nat.le_refl _)
  · rw [eo] at hK
    have hm := x1_L_bestThrow (h2 := h4 (g_X11_bestThrow x (xs (i + 1))) y f d) hK rfl
    refine k_aload_n (i := 1) dL_law_1391 (rfl : 1391 + 1 = 1392) rfl rfl ?_
    refine k_aload_n (i := 0) dL_law_1392 (rfl : 1392 + 1 = 1393) rfl rfl ?_
    refine k_iload (i := 5) dL_law_1393 (rfl : 1393 + 2 = 1395) rfl ?_
    refine k_iconst (v := 1) dL_law_1395 (rfl : 1395 + 1 = 1396) (by decide) ?_
    refine k_iadd dL_law_1396 (rfl : 1396 + 1 = 1397) ?_
    refine k_sld (j := i + 1) dL_law_1397 (rfl : 1397 + 1 = 1398) (nI_add i 1) (by omega) (by omega) ?_
    refine k_aload_n (i := 3) dL_law_1398 (rfl : 1398 + 1 = 1399) rfl rfl ?_
    refine k_callSTd3 cv_L_233 ⟨Nat.le_of_ble_eq_true rfl, Nat.le_of_ble_eq_true rfl⟩ hm dL_law_1399 (rfl : 1399 + 3 = 1402) rfl (lc1 hc hs) rfl ?_
    refine k_istore (i := 6) dL_law_1402 (rfl : 1402 + 2 = 1404) (Nat.le_of_ble_eq_true rfl) ?_
    refine k_ls (ls2 := [.ref 2000, .ref 0, .ref 116, .ref 128, .ref 129, .int (nI i), .int 1, .retAddr 0, .retAddr 0]) rfl ?_
    refine k_aload_n (i := 2) dL_law_1404 (rfl : 1404 + 1 = 1405) rfl rfl ?_
    refine k_aload_n (i := 0) dL_law_1405 (rfl : 1405 + 1 = 1406) rfl rfl ?_
    refine k_iload (i := 5) dL_law_1406 (rfl : 1406 + 2 = 1408) rfl ?_
    refine k_iconst (v := 1) dL_law_1408 (rfl : 1408 + 1 = 1409) (by decide) ?_
    refine k_iadd dL_law_1409 (rfl : 1409 + 1 = 1410) ?_
    refine k_sld (j := i + 1) dL_law_1410 (rfl : 1410 + 1 = 1411) (nI_add i 1) (by omega) (by omega) ?_
    refine k_callVd1 cv_L_235 ⟨Nat.le_of_ble_eq_true rfl, Nat.le_of_ble_eq_true rfl⟩ (m_X12_bestThrow (x := y) (a1 := (xs (i + 1))) X.R.mv) dL_law_1411 (rfl : 1411 + 3 = 1414) (Nat.le_of_ble_eq_true rfl) rfl rfl rfl (lc1 hc hs) ?_
    refine k_istore (i := 7) dL_law_1414 (rfl : 1414 + 2 = 1416) (Nat.le_of_ble_eq_true rfl) ?_
    refine k_ls (ls2 := [.ref 2000, .ref 0, .ref 116, .ref 128, .ref 129, .int (nI i), .int 1, .int (f_X12_bestThrow y (xs (i + 1))), .retAddr 0]) rfl ?_
    refine k_aload_n (i := 2) dL_law_1416 (rfl : 1416 + 1 = 1417) rfl rfl ?_
    refine k_callVd0 cv_L_161 ⟨Nat.le_of_ble_eq_true rfl, Nat.le_of_ble_eq_true rfl⟩ (m_X12_thrown (x := (g_X12_bestThrow y (xs (i + 1))))) dL_law_1417 (rfl : 1417 + 3 = 1420) (Nat.le_of_ble_eq_true rfl) rfl rfl rfl (lc1 hc hs) ?_
    refine k_iload (i := 6) dL_law_1420 (rfl : 1420 + 2 = 1422) rfl ?_
    refine k_icmp_eq (tgt := 1427) dL_law_1422 (rfl : 1422 + 3 = 1425) (by decide) (fun _ => ?_) (fun b => absurd e0 b)
    refine k_iload (i := 6) dL_law_1427 (rfl : 1427 + 2 = 1429) rfl ?_
    refine k_if_ne (tgt := 1444) dL_law_1429 (rfl : 1429 + 3 = 1432) (by decide) (fun _ => ?_) (fun b => absurd b (by decide))
    refine k_goto (tgt := 2815) dL_law_1444 (by decide) ?_
    exact l_go go X2 (by omega) (Nat.le_refl _) (Nat.le_refl _)
  · rw [eo] at hK
    have hm := x2_L_bestThrow (h2 := h4 (g_X11_bestThrow x (xs (i + 1))) y f d) hK rfl
    refine k_aload_n (i := 1) dL_law_1391 (rfl : 1391 + 1 = 1392) rfl rfl ?_
    refine k_aload_n (i := 0) dL_law_1392 (rfl : 1392 + 1 = 1393) rfl rfl ?_
    refine k_iload (i := 5) dL_law_1393 (rfl : 1393 + 2 = 1395) rfl ?_
    refine k_iconst (v := 1) dL_law_1395 (rfl : 1395 + 1 = 1396) (by decide) ?_
    refine k_iadd dL_law_1396 (rfl : 1396 + 1 = 1397) ?_
    refine k_sld (j := i + 1) dL_law_1397 (rfl : 1397 + 1 = 1398) (nI_add i 1) (by omega) (by omega) ?_
    refine k_aload_n (i := 3) dL_law_1398 (rfl : 1398 + 1 = 1399) rfl rfl ?_
    refine k_callSTd3 cv_L_233 ⟨Nat.le_of_ble_eq_true rfl, Nat.le_of_ble_eq_true rfl⟩ hm dL_law_1399 (rfl : 1399 + 3 = 1402) rfl (lc1 hc hs) rfl ?_
    refine k_istore (i := 6) dL_law_1402 (rfl : 1402 + 2 = 1404) (Nat.le_of_ble_eq_true rfl) ?_
    refine k_ls (ls2 := [.ref 2000, .ref 0, .ref 116, .ref 128, .ref 129, .int (nI i), .int 2, .retAddr 0, .retAddr 0]) rfl ?_
    refine k_aload_n (i := 2) dL_law_1404 (rfl : 1404 + 1 = 1405) rfl rfl ?_
    refine k_aload_n (i := 0) dL_law_1405 (rfl : 1405 + 1 = 1406) rfl rfl ?_
    refine k_iload (i := 5) dL_law_1406 (rfl : 1406 + 2 = 1408) rfl ?_
    refine k_iconst (v := 1) dL_law_1408 (rfl : 1408 + 1 = 1409) (by decide) ?_
    refine k_iadd dL_law_1409 (rfl : 1409 + 1 = 1410) ?_
    refine k_sld (j := i + 1) dL_law_1410 (rfl : 1410 + 1 = 1411) (nI_add i 1) (by omega) (by omega) ?_
    refine k_callVd1 cv_L_235 ⟨Nat.le_of_ble_eq_true rfl, Nat.le_of_ble_eq_true rfl⟩ (m_X12_bestThrow (x := y) (a1 := (xs (i + 1))) X.R.mv) dL_law_1411 (rfl : 1411 + 3 = 1414) (Nat.le_of_ble_eq_true rfl) rfl rfl rfl (lc1 hc hs) ?_
    refine k_istore (i := 7) dL_law_1414 (rfl : 1414 + 2 = 1416) (Nat.le_of_ble_eq_true rfl) ?_
    refine k_ls (ls2 := [.ref 2000, .ref 0, .ref 116, .ref 128, .ref 129, .int (nI i), .int 2, .int (f_X12_bestThrow y (xs (i + 1))), .retAddr 0]) rfl ?_
    refine k_aload_n (i := 2) dL_law_1416 (rfl : 1416 + 1 = 1417) rfl rfl ?_
    refine k_callVd0 cv_L_161 ⟨Nat.le_of_ble_eq_true rfl, Nat.le_of_ble_eq_true rfl⟩ (m_X12_thrown (x := (g_X12_bestThrow y (xs (i + 1))))) dL_law_1417 (rfl : 1417 + 3 = 1420) (Nat.le_of_ble_eq_true rfl) rfl rfl rfl (lc1 hc hs) ?_
    refine k_iload (i := 6) dL_law_1420 (rfl : 1420 + 2 = 1422) rfl ?_
    refine k_icmp_eq (tgt := 1427) dL_law_1422 (rfl : 1422 + 3 = 1425) (by decide) (fun _ => ?_) (fun b => absurd e0 b)
    refine k_iload (i := 6) dL_law_1427 (rfl : 1427 + 2 = 1429) rfl ?_
    refine k_if_ne (tgt := 1444) dL_law_1429 (rfl : 1429 + 3 = 1432) (by decide) (fun _ => ?_) (fun b => absurd b (by decide))
    refine k_goto (tgt := 2815) dL_law_1444 (by decide) ?_
    exact l_go go X2 (by omega) (Nat.le_refl _) (Nat.le_refl _)
set_option maxRecDepth 100000 in
set_option maxHeartbeats 4000000 in
theorem lcs_22 {nm : String} {tb : List (Nat × Nat × Nat × Nat)} {b L i t cs ss : Nat} {xs : Nat → Int32} {x : kK} {y : kY} {f : Nat → Int64} {d : Nat → UInt64} (X : RX t x y) (ht : t + 11 < 2 ^ 20) (hi : i + 4 ≤ L) (hL : L ≤ 2048) (hc : cs + 1 ≤ 603072) (hs : ss + 6 ≤ 7182442) (go : LG nm tb b L xs i (t + 11) (cs + 1) (ss + 6)) : kEv (kLw nm tb) RW (FL b L xs) false 1447 [.ref 2000, .ref 0, .ref 116, .ref 128, .ref 129, .int (nI i), .retAddr 0, .retAddr 0, .retAddr 0] [] (h4 x y f d) 130 cs ss := by
  obtain ⟨X2, alt⟩ := s_summon X (by omega) (a := (xs (i + 1))) (b := (xs (i + 2)))
  have hK := m_X11_summon (x := x) (r := kHr y (kJ 1 f, kDb 1 d)) (a1 := (xs (i + 1))) (a2 := (xs (i + 2))) X.R.iv X.hi
  rcases alt with ⟨eo, e0⟩ | ⟨eo, e0⟩ | ⟨eo, e0⟩ | ⟨eo, e0⟩
  · rw [eo] at hK
    have hm := v_L_summon (h2 := h4 (g_X11_summon x (xs (i + 1)) (xs (i + 2))) y f d) hK rfl rfl
    rw [h4_f] at hm
    refine k_aload_n (i := 1) dL_law_1447 (rfl : 1447 + 1 = 1448) rfl rfl ?_
    refine k_aload_n (i := 0) dL_law_1448 (rfl : 1448 + 1 = 1449) rfl rfl ?_
    refine k_iload (i := 5) dL_law_1449 (rfl : 1449 + 2 = 1451) rfl ?_
    refine k_iconst (v := 1) dL_law_1451 (rfl : 1451 + 1 = 1452) (by decide) ?_
    refine k_iadd dL_law_1452 (rfl : 1452 + 1 = 1453) ?_
    refine k_sld (j := i + 1) dL_law_1453 (rfl : 1453 + 1 = 1454) (nI_add i 1) (by omega) (by omega) ?_
    refine k_aload_n (i := 0) dL_law_1454 (rfl : 1454 + 1 = 1455) rfl rfl ?_
    refine k_iload (i := 5) dL_law_1455 (rfl : 1455 + 2 = 1457) rfl ?_
    refine k_iconst (v := 2) dL_law_1457 (rfl : 1457 + 1 = 1458) (by decide) ?_
    refine k_iadd dL_law_1458 (rfl : 1458 + 1 = 1459) ?_
    refine k_sld (j := i + 2) dL_law_1459 (rfl : 1459 + 1 = 1460) (nI_add i 2) (by omega) (by omega) ?_
    refine k_aload_n (i := 3) dL_law_1460 (rfl : 1460 + 1 = 1461) rfl rfl ?_
    refine k_callSTd4 cv_L_236 ⟨Nat.le_of_ble_eq_true rfl, Nat.le_of_ble_eq_true rfl⟩ hm dL_law_1461 (rfl : 1461 + 3 = 1464) rfl (lc1 hc hs) rfl ?_
    refine k_istore (i := 6) dL_law_1464 (rfl : 1464 + 2 = 1466) (Nat.le_of_ble_eq_true rfl) ?_
    refine k_ls (ls2 := [.ref 2000, .ref 0, .ref 116, .ref 128, .ref 129, .int (nI i), .int 0, .retAddr 0, .retAddr 0]) rfl ?_
    refine k_aload_n (i := 2) dL_law_1466 (rfl : 1466 + 1 = 1467) rfl rfl ?_
    refine k_aload_n (i := 0) dL_law_1467 (rfl : 1467 + 1 = 1468) rfl rfl ?_
    refine k_iload (i := 5) dL_law_1468 (rfl : 1468 + 2 = 1470) rfl ?_
    refine k_iconst (v := 1) dL_law_1470 (rfl : 1470 + 1 = 1471) (by decide) ?_
    refine k_iadd dL_law_1471 (rfl : 1471 + 1 = 1472) ?_
    refine k_sld (j := i + 1) dL_law_1472 (rfl : 1472 + 1 = 1473) (nI_add i 1) (by omega) (by omega) ?_
    refine k_aload_n (i := 0) dL_law_1473 (rfl : 1473 + 1 = 1474) rfl rfl ?_
    refine k_iload (i := 5) dL_law_1474 (rfl : 1474 + 2 = 1476) rfl ?_
    refine k_iconst (v := 2) dL_law_1476 (rfl : 1476 + 1 = 1477) (by decide) ?_
    refine k_iadd dL_law_1477 (rfl : 1477 + 1 = 1478) ?_
    refine k_sld (j := i + 2) dL_law_1478 (rfl : 1478 + 1 = 1479) (nI_add i 2) (by omega) (by omega) ?_
    refine k_callVd2 cv_L_238 ⟨Nat.le_of_ble_eq_true rfl, Nat.le_of_ble_eq_true rfl⟩ (m_X12_summon (x := y) (a1 := (xs (i + 1))) (a2 := (xs (i + 2))) X.ch X.R.mv (rm1_of X.R)) dL_law_1479 (rfl : 1479 + 3 = 1482) (Nat.le_of_ble_eq_true rfl) rfl rfl rfl (lc1 hc hs) ?_
    refine k_istore (i := 7) dL_law_1482 (rfl : 1482 + 2 = 1484) (Nat.le_of_ble_eq_true rfl) ?_
    refine k_ls (ls2 := [.ref 2000, .ref 0, .ref 116, .ref 128, .ref 129, .int (nI i), .int 0, .int (f_X12_summon y (xs (i + 1)) (xs (i + 2))), .retAddr 0]) rfl ?_
    refine k_aload_n (i := 2) dL_law_1484 (rfl : 1484 + 1 = 1485) rfl rfl ?_
    refine k_callVd0 cv_L_161 ⟨Nat.le_of_ble_eq_true rfl, Nat.le_of_ble_eq_true rfl⟩ (m_X12_thrown (x := (g_X12_summon y (xs (i + 1)) (xs (i + 2))))) dL_law_1485 (rfl : 1485 + 3 = 1488) (Nat.le_of_ble_eq_true rfl) rfl rfl rfl (lc1 hc hs) ?_
    refine k_iload (i := 6) dL_law_1488 (rfl : 1488 + 2 = 1490) rfl ?_
    refine k_icmp_eq (tgt := 1495) dL_law_1490 (rfl : 1490 + 3 = 1493) (by decide) (fun _ => ?_) (fun b => absurd e0 b)
    refine k_iload (i := 6) dL_law_1495 (rfl : 1495 + 2 = 1497) rfl ?_
    refine k_if_ne (tgt := 1519) dL_law_1497 (rfl : 1497 + 3 = 1500) (by decide) (fun b => absurd b (by decide)) (fun _ => ?_)
    refine k_aload_n (i := 3) dL_law_1500 (rfl : 1500 + 1 = 1501) rfl rfl ?_
    refine k_iconst (v := 0) dL_law_1501 (rfl : 1501 + 1 = 1502) (by decide) ?_
    refine k_lald dL_law_1502 (rfl : 1502 + 1 = 1503) (Nat.le_of_ble_eq_true rfl) rfl vp_00 ?_
    refine k_iload (i := 7) dL_law_1503 (rfl : 1503 + 2 = 1505) rfl ?_
    refine k_if_eq (tgt := 1512) dL_law_1505 (rfl : 1505 + 3 = 1508) (by decide) (fun b9 => ?_) (fun b9 => ?_)
    · have eb := b9
      refine k_lconst (v := 0) dL_law_1512 (rfl : 1512 + 1 = 1513) (by decide) ?_
      refine k_lcmp dL_law_1513 (rfl : 1513 + 1 = 1514) ?_
      refine k_if_eq (tgt := 1519) dL_law_1514 (rfl : 1514 + 3 = 1517) (by decide) (fun _ => ?_) (fun b => absurd (lg_cmp_0.2 (uL0.trans (if_pos eb))) b)
      refine k_goto (tgt := 2815) dL_law_1519 (by decide) ?_
      exact l_go go X2 (by omega) (Nat.le_refl _) (Nat.le_refl _)
    · have eb := b9
      refine k_lconst (v := 1) dL_law_1508 (rfl : 1508 + 1 = 1509) (by decide) ?_
      refine k_goto (tgt := 1513) dL_law_1509 (by decide) ?_
      refine k_lcmp dL_law_1513 (rfl : 1513 + 1 = 1514) ?_
      refine k_if_eq (tgt := 1519) dL_law_1514 (rfl : 1514 + 3 = 1517) (by decide) (fun _ => ?_) (fun b => absurd (lg_cmp_0.2 (uL0.trans (if_neg eb))) b)
      refine k_goto (tgt := 2815) dL_law_1519 (by decide) ?_
      exact l_go go X2 (by omega) (Nat.le_refl _) (Nat.le_refl _)
  · rw [eo] at hK
    have hm := x1_L_summon (h2 := h4 (g_X11_summon x (xs (i + 1)) (xs (i + 2))) y f d) hK rfl
    refine k_aload_n (i := 1) dL_law_1447 (rfl : 1447 + 1 = 1448) rfl rfl ?_
    refine k_aload_n (i := 0) dL_law_1448 (rfl : 1448 + 1 = 1449) rfl rfl ?_
    refine k_iload (i := 5) dL_law_1449 (rfl : 1449 + 2 = 1451) rfl ?_
    refine k_iconst (v := 1) dL_law_1451 (rfl : 1451 + 1 = 1452) (by decide) ?_
    refine k_iadd dL_law_1452 (rfl : 1452 + 1 = 1453) ?_
    refine k_sld (j := i + 1) dL_law_1453 (rfl : 1453 + 1 = 1454) (nI_add i 1) (by omega) (by omega) ?_
    refine k_aload_n (i := 0) dL_law_1454 (rfl : 1454 + 1 = 1455) rfl rfl ?_
    refine k_iload (i := 5) dL_law_1455 (rfl : 1455 + 2 = 1457) rfl ?_
    refine k_iconst (v := 2) dL_law_1457 (rfl : 1457 + 1 = 1458) (by decide) ?_
    refine k_iadd dL_law_1458 (rfl : 1458 + 1 = 1459) ?_
    refine k_sld (j := i + 2) dL_law_1459 (rfl : 1459 + 1 = 1460) (nI_add i 2) (by omega) (by omega) ?_
    refine k_aload_n (i := 3) dL_law_1460 (rfl : 1460 + 1 = 1461) rfl rfl ?_
    refine k_callSTd4 cv_L_236 ⟨Nat.le_of_ble_eq_true rfl, Nat.le_of_ble_eq_true rfl⟩ hm dL_law_1461 (rfl : 1461 + 3 = 1464) rfl (lc1 hc hs) rfl ?_
    refine k_istore (i := 6) dL_law_1464 (rfl : 1464 + 2 = 1466) (Nat.le_of_ble_eq_true rfl) ?_
    refine k_ls (ls2 := [.ref 2000, .ref 0, .ref 116, .ref 128, .ref 129, .int (nI i), .int 1, .retAddr 0, .retAddr 0]) rfl ?_
    refine k_aload_n (i := 2) dL_law_1466 (rfl : 1466 + 1 = 1467) rfl rfl ?_
    refine k_aload_n (i := 0) dL_law_1467 (rfl : 1467 + 1 = 1468) rfl rfl ?_
    refine k_iload (i := 5) dL_law_1468 (rfl : 1468 + 2 = 1470) rfl ?_
    refine k_iconst (v := 1) dL_law_1470 (rfl : 1470 + 1 = 1471) (by decide) ?_
    refine k_iadd dL_law_1471 (rfl : 1471 + 1 = 1472) ?_
    refine k_sld (j := i + 1) dL_law_1472 (rfl : 1472 + 1 = 1473) (nI_add i 1) (by omega) (by omega) ?_
    refine k_aload_n (i := 0) dL_law_1473 (rfl : 1473 + 1 = 1474) rfl rfl ?_
    refine k_iload (i := 5) dL_law_1474 (rfl : 1474 + 2 = 1476) rfl ?_
    refine k_iconst (v := 2) dL_law_1476 (rfl : 1476 + 1 = 1477) (by decide) ?_
    refine k_iadd dL_law_1477 (rfl : 1477 + 1 = 1478) ?_
    refine k_sld (j := i + 2) dL_law_1478 (rfl : 1478 + 1 = 1479) (nI_add i 2) (by omega) (by omega) ?_
    refine k_callVd2 cv_L_238 ⟨Nat.le_of_ble_eq_true rfl, Nat.le_of_ble_eq_true rfl⟩ (m_X12_summon (x := y) (a1 := (xs (i + 1))) (a2 := (xs (i + 2))) X.ch X.R.mv (rm1_of X.R)) dL_law_1479 (rfl : 1479 + 3 = 1482) (Nat.le_of_ble_eq_true rfl) rfl rfl rfl (lc1 hc hs) ?_
    refine k_istore (i := 7) dL_law_1482 (rfl : 1482 + 2 = 1484) (Nat.le_of_ble_eq_true rfl) ?_
    refine k_ls (ls2 := [.ref 2000, .ref 0, .ref 116, .ref 128, .ref 129, .int (nI i), .int 1, .int (f_X12_summon y (xs (i + 1)) (xs (i + 2))), .retAddr 0]) rfl ?_
    refine k_aload_n (i := 2) dL_law_1484 (rfl : 1484 + 1 = 1485) rfl rfl ?_
    refine k_callVd0 cv_L_161 ⟨Nat.le_of_ble_eq_true rfl, Nat.le_of_ble_eq_true rfl⟩ (m_X12_thrown (x := (g_X12_summon y (xs (i + 1)) (xs (i + 2))))) dL_law_1485 (rfl : 1485 + 3 = 1488) (Nat.le_of_ble_eq_true rfl) rfl rfl rfl (lc1 hc hs) ?_
    refine k_iload (i := 6) dL_law_1488 (rfl : 1488 + 2 = 1490) rfl ?_
    refine k_icmp_eq (tgt := 1495) dL_law_1490 (rfl : 1490 + 3 = 1493) (by decide) (fun _ => ?_) (fun b => absurd e0 b)
    refine k_iload (i := 6) dL_law_1495 (rfl : 1495 + 2 = 1497) rfl ?_
    refine k_if_ne (tgt := 1519) dL_law_1497 (rfl : 1497 + 3 = 1500) (by decide) (fun _ => ?_) (fun b => absurd b (by decide))
    refine k_goto (tgt := 2815) dL_law_1519 (by decide) ?_
    exact l_go go X2 (by omega) (Nat.le_refl _) (Nat.le_refl _)
  · rw [eo] at hK
    have hm := x2_L_summon (h2 := h4 (g_X11_summon x (xs (i + 1)) (xs (i + 2))) y f d) hK rfl
    refine k_aload_n (i := 1) dL_law_1447 (rfl : 1447 + 1 = 1448) rfl rfl ?_
    refine k_aload_n (i := 0) dL_law_1448 (rfl : 1448 + 1 = 1449) rfl rfl ?_
    refine k_iload (i := 5) dL_law_1449 (rfl : 1449 + 2 = 1451) rfl ?_
    refine k_iconst (v := 1) dL_law_1451 (rfl : 1451 + 1 = 1452) (by decide) ?_
    refine k_iadd dL_law_1452 (rfl : 1452 + 1 = 1453) ?_
    refine k_sld (j := i + 1) dL_law_1453 (rfl : 1453 + 1 = 1454) (nI_add i 1) (by omega) (by omega) ?_
    refine k_aload_n (i := 0) dL_law_1454 (rfl : 1454 + 1 = 1455) rfl rfl ?_
    refine k_iload (i := 5) dL_law_1455 (rfl : 1455 + 2 = 1457) rfl ?_
    refine k_iconst (v := 2) dL_law_1457 (rfl : 1457 + 1 = 1458) (by decide) ?_
    refine k_iadd dL_law_1458 (rfl : 1458 + 1 = 1459) ?_
    refine k_sld (j := i + 2) dL_law_1459 (rfl : 1459 + 1 = 1460) (nI_add i 2) (by omega) (by omega) ?_
    refine k_aload_n (i := 3) dL_law_1460 (rfl : 1460 + 1 = 1461) rfl rfl ?_
    refine k_callSTd4 cv_L_236 ⟨Nat.le_of_ble_eq_true rfl, Nat.le_of_ble_eq_true rfl⟩ hm dL_law_1461 (rfl : 1461 + 3 = 1464) rfl (lc1 hc hs) rfl ?_
    refine k_istore (i := 6) dL_law_1464 (rfl : 1464 + 2 = 1466) (Nat.le_of_ble_eq_true rfl) ?_
    refine k_ls (ls2 := [.ref 2000, .ref 0, .ref 116, .ref 128, .ref 129, .int (nI i), .int 2, .retAddr 0, .retAddr 0]) rfl ?_
    refine k_aload_n (i := 2) dL_law_1466 (rfl : 1466 + 1 = 1467) rfl rfl ?_
    refine k_aload_n (i := 0) dL_law_1467 (rfl : 1467 + 1 = 1468) rfl rfl ?_
    refine k_iload (i := 5) dL_law_1468 (rfl : 1468 + 2 = 1470) rfl ?_
    refine k_iconst (v := 1) dL_law_1470 (rfl : 1470 + 1 = 1471) (by decide) ?_
    refine k_iadd dL_law_1471 (rfl : 1471 + 1 = 1472) ?_
    refine k_sld (j := i + 1) dL_law_1472 (rfl : 1472 + 1 = 1473) (nI_add i 1) (by omega) (by omega) ?_
    refine k_aload_n (i := 0) dL_law_1473 (rfl : 1473 + 1 = 1474) rfl rfl ?_
    refine k_iload (i := 5) dL_law_1474 (rfl : 1474 + 2 = 1476) rfl ?_
    refine k_iconst (v := 2) dL_law_1476 (rfl : 1476 + 1 = 1477) (by decide) ?_
    refine k_iadd dL_law_1477 (rfl : 1477 + 1 = 1478) ?_
    refine k_sld (j := i + 2) dL_law_1478 (rfl : 1478 + 1 = 1479) (nI_add i 2) (by omega) (by omega) ?_
    refine k_callVd2 cv_L_238 ⟨Nat.le_of_ble_eq_true rfl, Nat.le_of_ble_eq_true rfl⟩ (m_X12_summon (x := y) (a1 := (xs (i + 1))) (a2 := (xs (i + 2))) X.ch X.R.mv (rm1_of X.R)) dL_law_1479 (rfl : 1479 + 3 = 1482) (Nat.le_of_ble_eq_true rfl) rfl rfl rfl (lc1 hc hs) ?_
    refine k_istore (i := 7) dL_law_1482 (rfl : 1482 + 2 = 1484) (Nat.le_of_ble_eq_true rfl) ?_
    refine k_ls (ls2 := [.ref 2000, .ref 0, .ref 116, .ref 128, .ref 129, .int (nI i), .int 2, .int (f_X12_summon y (xs (i + 1)) (xs (i + 2))), .retAddr 0]) rfl ?_
    refine k_aload_n (i := 2) dL_law_1484 (rfl : 1484 + 1 = 1485) rfl rfl ?_
    refine k_callVd0 cv_L_161 ⟨Nat.le_of_ble_eq_true rfl, Nat.le_of_ble_eq_true rfl⟩ (m_X12_thrown (x := (g_X12_summon y (xs (i + 1)) (xs (i + 2))))) dL_law_1485 (rfl : 1485 + 3 = 1488) (Nat.le_of_ble_eq_true rfl) rfl rfl rfl (lc1 hc hs) ?_
    refine k_iload (i := 6) dL_law_1488 (rfl : 1488 + 2 = 1490) rfl ?_
    refine k_icmp_eq (tgt := 1495) dL_law_1490 (rfl : 1490 + 3 = 1493) (by decide) (fun _ => ?_) (fun b => absurd e0 b)
    refine k_iload (i := 6) dL_law_1495 (rfl : 1495 + 2 = 1497) rfl ?_
    refine k_if_ne (tgt := 1519) dL_law_1497 (rfl : 1497 + 3 = 1500) (by decide) (fun _ => ?_) (fun b => absurd b (by decide))
    refine k_goto (tgt := 2815) dL_law_1519 (by decide) ?_
    exact l_go go X2 (by omega) (Nat.le_refl _) (Nat.le_refl _)
  · rw [eo] at hK
    have hm := x3_L_summon (h2 := h4 (g_X11_summon x (xs (i + 1)) (xs (i + 2))) y f d) hK rfl
    refine k_aload_n (i := 1) dL_law_1447 (rfl : 1447 + 1 = 1448) rfl rfl ?_
    refine k_aload_n (i := 0) dL_law_1448 (rfl : 1448 + 1 = 1449) rfl rfl ?_
    refine k_iload (i := 5) dL_law_1449 (rfl : 1449 + 2 = 1451) rfl ?_
    refine k_iconst (v := 1) dL_law_1451 (rfl : 1451 + 1 = 1452) (by decide) ?_
    refine k_iadd dL_law_1452 (rfl : 1452 + 1 = 1453) ?_
    refine k_sld (j := i + 1) dL_law_1453 (rfl : 1453 + 1 = 1454) (nI_add i 1) (by omega) (by omega) ?_
    refine k_aload_n (i := 0) dL_law_1454 (rfl : 1454 + 1 = 1455) rfl rfl ?_
    refine k_iload (i := 5) dL_law_1455 (rfl : 1455 + 2 = 1457) rfl ?_
    refine k_iconst (v := 2) dL_law_1457 (rfl : 1457 + 1 = 1458) (by decide) ?_
    refine k_iadd dL_law_1458 (rfl : 1458 + 1 = 1459) ?_
    refine k_sld (j := i + 2) dL_law_1459 (rfl : 1459 + 1 = 1460) (nI_add i 2) (by omega) (by omega) ?_
    refine k_aload_n (i := 3) dL_law_1460 (rfl : 1460 + 1 = 1461) rfl rfl ?_
    refine k_callSTd4 cv_L_236 ⟨Nat.le_of_ble_eq_true rfl, Nat.le_of_ble_eq_true rfl⟩ hm dL_law_1461 (rfl : 1461 + 3 = 1464) rfl (lc1 hc hs) rfl ?_
    refine k_istore (i := 6) dL_law_1464 (rfl : 1464 + 2 = 1466) (Nat.le_of_ble_eq_true rfl) ?_
    refine k_ls (ls2 := [.ref 2000, .ref 0, .ref 116, .ref 128, .ref 129, .int (nI i), .int 3, .retAddr 0, .retAddr 0]) rfl ?_
    refine k_aload_n (i := 2) dL_law_1466 (rfl : 1466 + 1 = 1467) rfl rfl ?_
    refine k_aload_n (i := 0) dL_law_1467 (rfl : 1467 + 1 = 1468) rfl rfl ?_
    refine k_iload (i := 5) dL_law_1468 (rfl : 1468 + 2 = 1470) rfl ?_
    refine k_iconst (v := 1) dL_law_1470 (rfl : 1470 + 1 = 1471) (by decide) ?_
    refine k_iadd dL_law_1471 (rfl : 1471 + 1 = 1472) ?_
    refine k_sld (j := i + 1) dL_law_1472 (rfl : 1472 + 1 = 1473) (nI_add i 1) (by omega) (by omega) ?_
    refine k_aload_n (i := 0) dL_law_1473 (rfl : 1473 + 1 = 1474) rfl rfl ?_
    refine k_iload (i := 5) dL_law_1474 (rfl : 1474 + 2 = 1476) rfl ?_
    refine k_iconst (v := 2) dL_law_1476 (rfl : 1476 + 1 = 1477) (by decide) ?_
    refine k_iadd dL_law_1477 (rfl : 1477 + 1 = 1478) ?_
    refine k_sld (j := i + 2) dL_law_1478 (rfl : 1478 + 1 = 1479) (nI_add i 2) (by omega) (by omega) ?_
    refine k_callVd2 cv_L_238 ⟨Nat.le_of_ble_eq_true rfl, Nat.le_of_ble_eq_true rfl⟩ (m_X12_summon (x := y) (a1 := (xs (i + 1))) (a2 := (xs (i + 2))) X.ch X.R.mv (rm1_of X.R)) dL_law_1479 (rfl : 1479 + 3 = 1482) (Nat.le_of_ble_eq_true rfl) rfl rfl rfl (lc1 hc hs) ?_
    refine k_istore (i := 7) dL_law_1482 (rfl : 1482 + 2 = 1484) (Nat.le_of_ble_eq_true rfl) ?_
    refine k_ls (ls2 := [.ref 2000, .ref 0, .ref 116, .ref 128, .ref 129, .int (nI i), .int 3, .int (f_X12_summon y (xs (i + 1)) (xs (i + 2))), .retAddr 0]) rfl ?_
    refine k_aload_n (i := 2) dL_law_1484 (rfl : 1484 + 1 = 1485) rfl rfl ?_
    refine k_callVd0 cv_L_161 ⟨Nat.le_of_ble_eq_true rfl, Nat.le_of_ble_eq_true rfl⟩ (m_X12_thrown (x := (g_X12_summon y (xs (i + 1)) (xs (i + 2))))) dL_law_1485 (rfl : 1485 + 3 = 1488) (Nat.le_of_ble_eq_true rfl) rfl rfl rfl (lc1 hc hs) ?_
    refine k_iload (i := 6) dL_law_1488 (rfl : 1488 + 2 = 1490) rfl ?_
    refine k_icmp_eq (tgt := 1495) dL_law_1490 (rfl : 1490 + 3 = 1493) (by decide) (fun _ => ?_) (fun b => absurd e0 b)
    refine k_iload (i := 6) dL_law_1495 (rfl : 1495 + 2 = 1497) rfl ?_
    refine k_if_ne (tgt := 1519) dL_law_1497 (rfl : 1497 + 3 = 1500) (by decide) (fun _ => ?_) (fun b => absurd b (by decide))
    refine k_goto (tgt := 2815) dL_law_1519 (by decide) ?_
    exact l_go go X2 (by omega) (Nat.le_refl _) (Nat.le_refl _)
set_option maxRecDepth 100000 in
set_option maxHeartbeats 4000000 in
theorem lcs_23 {nm : String} {tb : List (Nat × Nat × Nat × Nat)} {b L i t cs ss : Nat} {xs : Nat → Int32} {x : kK} {y : kY} {f : Nat → Int64} {d : Nat → UInt64} (X : RX t x y) (ht : t + 11 < 2 ^ 20) (hi : i + 4 ≤ L) (hL : L ≤ 2048) (hc : cs + 1 ≤ 603072) (hs : ss + 6 ≤ 7182442) (go : LG nm tb b L xs i (t + 11) (cs + 1) (ss + 6)) : kEv (kLw nm tb) RW (FL b L xs) false 1522 [.ref 2000, .ref 0, .ref 116, .ref 128, .ref 129, .int (nI i), .retAddr 0, .retAddr 0, .retAddr 0] [] (h4 x y f d) 130 cs ss := by
  obtain ⟨X2, alt⟩ := s_buyBoomerangs X (by omega) (a := (xs (i + 1)))
  have hK := m_X11_buyBoomerangs (x := x) (r := kHr y (kJ 1 f, kDb 1 d)) (a1 := (xs (i + 1))) X.hi
  rcases alt with ⟨eo, e0⟩ | ⟨eo, e0⟩ | ⟨eo, e0⟩
  · rw [eo] at hK
    have hm := v_L_buyBoomerangs (h2 := h4 (g_X11_buyBoomerangs x (xs (i + 1))) y f d) hK rfl rfl
    rw [h4_f] at hm
    refine k_aload_n (i := 1) dL_law_1522 (rfl : 1522 + 1 = 1523) rfl rfl ?_
    refine k_aload_n (i := 0) dL_law_1523 (rfl : 1523 + 1 = 1524) rfl rfl ?_
    refine k_iload (i := 5) dL_law_1524 (rfl : 1524 + 2 = 1526) rfl ?_
    refine k_iconst (v := 1) dL_law_1526 (rfl : 1526 + 1 = 1527) (by decide) ?_
    refine k_iadd dL_law_1527 (rfl : 1527 + 1 = 1528) ?_
    refine k_sld (j := i + 1) dL_law_1528 (rfl : 1528 + 1 = 1529) (nI_add i 1) (by omega) (by omega) ?_
    refine k_aload_n (i := 3) dL_law_1529 (rfl : 1529 + 1 = 1530) rfl rfl ?_
    refine k_callSTd3 cv_L_239 ⟨Nat.le_of_ble_eq_true rfl, Nat.le_of_ble_eq_true rfl⟩ hm dL_law_1530 (rfl : 1530 + 3 = 1533) rfl (lc1 hc hs) rfl ?_
    refine k_istore (i := 6) dL_law_1533 (rfl : 1533 + 2 = 1535) (Nat.le_of_ble_eq_true rfl) ?_
    refine k_ls (ls2 := [.ref 2000, .ref 0, .ref 116, .ref 128, .ref 129, .int (nI i), .int 0, .retAddr 0, .retAddr 0]) rfl ?_
    refine k_aload_n (i := 2) dL_law_1535 (rfl : 1535 + 1 = 1536) rfl rfl ?_
    refine k_aload_n (i := 0) dL_law_1536 (rfl : 1536 + 1 = 1537) rfl rfl ?_
    refine k_iload (i := 5) dL_law_1537 (rfl : 1537 + 2 = 1539) rfl ?_
    refine k_iconst (v := 1) dL_law_1539 (rfl : 1539 + 1 = 1540) (by decide) ?_
    refine k_iadd dL_law_1540 (rfl : 1540 + 1 = 1541) ?_
    refine k_sld (j := i + 1) dL_law_1541 (rfl : 1541 + 1 = 1542) (nI_add i 1) (by omega) (by omega) ?_
    refine k_callVd1 cv_L_241 ⟨Nat.le_of_ble_eq_true rfl, Nat.le_of_ble_eq_true rfl⟩ (m_X12_buyBoomerangs (x := y) (a1 := (xs (i + 1))) X.ch) dL_law_1542 (rfl : 1542 + 3 = 1545) (Nat.le_of_ble_eq_true rfl) rfl rfl rfl (lc1 hc hs) ?_
    refine k_istore (i := 7) dL_law_1545 (rfl : 1545 + 2 = 1547) (Nat.le_of_ble_eq_true rfl) ?_
    refine k_ls (ls2 := [.ref 2000, .ref 0, .ref 116, .ref 128, .ref 129, .int (nI i), .int 0, .int (f_X12_buyBoomerangs y (xs (i + 1))), .retAddr 0]) rfl ?_
    refine k_aload_n (i := 2) dL_law_1547 (rfl : 1547 + 1 = 1548) rfl rfl ?_
    refine k_callVd0 cv_L_161 ⟨Nat.le_of_ble_eq_true rfl, Nat.le_of_ble_eq_true rfl⟩ (m_X12_thrown (x := (g_X12_buyBoomerangs y (xs (i + 1))))) dL_law_1548 (rfl : 1548 + 3 = 1551) (Nat.le_of_ble_eq_true rfl) rfl rfl rfl (lc1 hc hs) ?_
    refine k_iload (i := 6) dL_law_1551 (rfl : 1551 + 2 = 1553) rfl ?_
    refine k_icmp_eq (tgt := 1558) dL_law_1553 (rfl : 1553 + 3 = 1556) (by decide) (fun _ => ?_) (fun b => absurd e0 b)
    refine k_iload (i := 6) dL_law_1558 (rfl : 1558 + 2 = 1560) rfl ?_
    refine k_if_ne (tgt := 1575) dL_law_1560 (rfl : 1560 + 3 = 1563) (by decide) (fun b => absurd b (by decide)) (fun _ => ?_)
    refine k_aload_n (i := 3) dL_law_1563 (rfl : 1563 + 1 = 1564) rfl rfl ?_
    refine k_iconst (v := 0) dL_law_1564 (rfl : 1564 + 1 = 1565) (by decide) ?_
    refine k_lald dL_law_1565 (rfl : 1565 + 1 = 1566) (Nat.le_of_ble_eq_true rfl) rfl vp_00 ?_
    refine k_iload (i := 7) dL_law_1566 (rfl : 1566 + 2 = 1568) rfl ?_
    refine k_i2l dL_law_1568 (rfl : 1568 + 1 = 1569) ?_
    refine k_lcmp dL_law_1569 (rfl : 1569 + 1 = 1570) ?_
    refine k_if_eq (tgt := 1575) dL_law_1570 (rfl : 1570 + 3 = 1573) (by decide) (fun _ => ?_) (fun b => absurd (lg_cmp_0.2 uL0) b)
    refine k_goto (tgt := 2815) dL_law_1575 (by decide) ?_
    exact l_go go X2 (by omega) (Nat.le_refl _) (Nat.le_refl _)
  · rw [eo] at hK
    have hm := x1_L_buyBoomerangs (h2 := h4 (g_X11_buyBoomerangs x (xs (i + 1))) y f d) hK rfl
    refine k_aload_n (i := 1) dL_law_1522 (rfl : 1522 + 1 = 1523) rfl rfl ?_
    refine k_aload_n (i := 0) dL_law_1523 (rfl : 1523 + 1 = 1524) rfl rfl ?_
    refine k_iload (i := 5) dL_law_1524 (rfl : 1524 + 2 = 1526) rfl ?_
    refine k_iconst (v := 1) dL_law_1526 (rfl : 1526 + 1 = 1527) (by decide) ?_
    refine k_iadd dL_law_1527 (rfl : 1527 + 1 = 1528) ?_
    refine k_sld (j := i + 1) dL_law_1528 (rfl : 1528 + 1 = 1529) (nI_add i 1) (by omega) (by omega) ?_
    refine k_aload_n (i := 3) dL_law_1529 (rfl : 1529 + 1 = 1530) rfl rfl ?_
    refine k_callSTd3 cv_L_239 ⟨Nat.le_of_ble_eq_true rfl, Nat.le_of_ble_eq_true rfl⟩ hm dL_law_1530 (rfl : 1530 + 3 = 1533) rfl (lc1 hc hs) rfl ?_
    refine k_istore (i := 6) dL_law_1533 (rfl : 1533 + 2 = 1535) (Nat.le_of_ble_eq_true rfl) ?_
    refine k_ls (ls2 := [.ref 2000, .ref 0, .ref 116, .ref 128, .ref 129, .int (nI i), .int 1, .retAddr 0, .retAddr 0]) rfl ?_
    refine k_aload_n (i := 2) dL_law_1535 (rfl : 1535 + 1 = 1536) rfl rfl ?_
    refine k_aload_n (i := 0) dL_law_1536 (rfl : 1536 + 1 = 1537) rfl rfl ?_
    refine k_iload (i := 5) dL_law_1537 (rfl : 1537 + 2 = 1539) rfl ?_
    refine k_iconst (v := 1) dL_law_1539 (rfl : 1539 + 1 = 1540) (by decide) ?_
    refine k_iadd dL_law_1540 (rfl : 1540 + 1 = 1541) ?_
    refine k_sld (j := i + 1) dL_law_1541 (rfl : 1541 + 1 = 1542) (nI_add i 1) (by omega) (by omega) ?_
    refine k_callVd1 cv_L_241 ⟨Nat.le_of_ble_eq_true rfl, Nat.le_of_ble_eq_true rfl⟩ (m_X12_buyBoomerangs (x := y) (a1 := (xs (i + 1))) X.ch) dL_law_1542 (rfl : 1542 + 3 = 1545) (Nat.le_of_ble_eq_true rfl) rfl rfl rfl (lc1 hc hs) ?_
    refine k_istore (i := 7) dL_law_1545 (rfl : 1545 + 2 = 1547) (Nat.le_of_ble_eq_true rfl) ?_
    refine k_ls (ls2 := [.ref 2000, .ref 0, .ref 116, .ref 128, .ref 129, .int (nI i), .int 1, .int (f_X12_buyBoomerangs y (xs (i + 1))), .retAddr 0]) rfl ?_
    refine k_aload_n (i := 2) dL_law_1547 (rfl : 1547 + 1 = 1548) rfl rfl ?_
    refine k_callVd0 cv_L_161 ⟨Nat.le_of_ble_eq_true rfl, Nat.le_of_ble_eq_true rfl⟩ (m_X12_thrown (x := (g_X12_buyBoomerangs y (xs (i + 1))))) dL_law_1548 (rfl : 1548 + 3 = 1551) (Nat.le_of_ble_eq_true rfl) rfl rfl rfl (lc1 hc hs) ?_
    refine k_iload (i := 6) dL_law_1551 (rfl : 1551 + 2 = 1553) rfl ?_
    refine k_icmp_eq (tgt := 1558) dL_law_1553 (rfl : 1553 + 3 = 1556) (by decide) (fun _ => ?_) (fun b => absurd e0 b)
    refine k_iload (i := 6) dL_law_1558 (rfl : 1558 + 2 = 1560) rfl ?_
    refine k_if_ne (tgt := 1575) dL_law_1560 (rfl : 1560 + 3 = 1563) (by decide) (fun _ => ?_) (fun b => absurd b (by decide))
    refine k_goto (tgt := 2815) dL_law_1575 (by decide) ?_
    exact l_go go X2 (by omega) (Nat.le_refl _) (Nat.le_refl _)
  · rw [eo] at hK
    have hm := x2_L_buyBoomerangs (h2 := h4 (g_X11_buyBoomerangs x (xs (i + 1))) y f d) hK rfl
    refine k_aload_n (i := 1) dL_law_1522 (rfl : 1522 + 1 = 1523) rfl rfl ?_
    refine k_aload_n (i := 0) dL_law_1523 (rfl : 1523 + 1 = 1524) rfl rfl ?_
    refine k_iload (i := 5) dL_law_1524 (rfl : 1524 + 2 = 1526) rfl ?_
    refine k_iconst (v := 1) dL_law_1526 (rfl : 1526 + 1 = 1527) (by decide) ?_
    refine k_iadd dL_law_1527 (rfl : 1527 + 1 = 1528) ?_
    refine k_sld (j := i + 1) dL_law_1528 (rfl : 1528 + 1 = 1529) (nI_add i 1) (by omega) (by omega) ?_
    refine k_aload_n (i := 3) dL_law_1529 (rfl : 1529 + 1 = 1530) rfl rfl ?_
    refine k_callSTd3 cv_L_239 ⟨Nat.le_of_ble_eq_true rfl, Nat.le_of_ble_eq_true rfl⟩ hm dL_law_1530 (rfl : 1530 + 3 = 1533) rfl (lc1 hc hs) rfl ?_
    refine k_istore (i := 6) dL_law_1533 (rfl : 1533 + 2 = 1535) (Nat.le_of_ble_eq_true rfl) ?_
    refine k_ls (ls2 := [.ref 2000, .ref 0, .ref 116, .ref 128, .ref 129, .int (nI i), .int 2, .retAddr 0, .retAddr 0]) rfl ?_
    refine k_aload_n (i := 2) dL_law_1535 (rfl : 1535 + 1 = 1536) rfl rfl ?_
    refine k_aload_n (i := 0) dL_law_1536 (rfl : 1536 + 1 = 1537) rfl rfl ?_
    refine k_iload (i := 5) dL_law_1537 (rfl : 1537 + 2 = 1539) rfl ?_
    refine k_iconst (v := 1) dL_law_1539 (rfl : 1539 + 1 = 1540) (by decide) ?_
    refine k_iadd dL_law_1540 (rfl : 1540 + 1 = 1541) ?_
    refine k_sld (j := i + 1) dL_law_1541 (rfl : 1541 + 1 = 1542) (nI_add i 1) (by omega) (by omega) ?_
    refine k_callVd1 cv_L_241 ⟨Nat.le_of_ble_eq_true rfl, Nat.le_of_ble_eq_true rfl⟩ (m_X12_buyBoomerangs (x := y) (a1 := (xs (i + 1))) X.ch) dL_law_1542 (rfl : 1542 + 3 = 1545) (Nat.le_of_ble_eq_true rfl) rfl rfl rfl (lc1 hc hs) ?_
    refine k_istore (i := 7) dL_law_1545 (rfl : 1545 + 2 = 1547) (Nat.le_of_ble_eq_true rfl) ?_
    refine k_ls (ls2 := [.ref 2000, .ref 0, .ref 116, .ref 128, .ref 129, .int (nI i), .int 2, .int (f_X12_buyBoomerangs y (xs (i + 1))), .retAddr 0]) rfl ?_
    refine k_aload_n (i := 2) dL_law_1547 (rfl : 1547 + 1 = 1548) rfl rfl ?_
    refine k_callVd0 cv_L_161 ⟨Nat.le_of_ble_eq_true rfl, Nat.le_of_ble_eq_true rfl⟩ (m_X12_thrown (x := (g_X12_buyBoomerangs y (xs (i + 1))))) dL_law_1548 (rfl : 1548 + 3 = 1551) (Nat.le_of_ble_eq_true rfl) rfl rfl rfl (lc1 hc hs) ?_
    refine k_iload (i := 6) dL_law_1551 (rfl : 1551 + 2 = 1553) rfl ?_
    refine k_icmp_eq (tgt := 1558) dL_law_1553 (rfl : 1553 + 3 = 1556) (by decide) (fun _ => ?_) (fun b => absurd e0 b)
    refine k_iload (i := 6) dL_law_1558 (rfl : 1558 + 2 = 1560) rfl ?_
    refine k_if_ne (tgt := 1575) dL_law_1560 (rfl : 1560 + 3 = 1563) (by decide) (fun _ => ?_) (fun b => absurd b (by decide))
    refine k_goto (tgt := 2815) dL_law_1575 (by decide) ?_
    exact l_go go X2 (by omega) (Nat.le_refl _) (Nat.le_refl _)
set_option maxRecDepth 100000 in
set_option maxHeartbeats 4000000 in
theorem lcs_24 {nm : String} {tb : List (Nat × Nat × Nat × Nat)} {b L i t cs ss : Nat} {xs : Nat → Int32} {x : kK} {y : kY} {f : Nat → Int64} {d : Nat → UInt64} (X : RX t x y) (ht : t + 11 < 2 ^ 20) (hi : i + 4 ≤ L) (hL : L ≤ 2048) (hc : cs + 1 ≤ 603072) (hs : ss + 6 ≤ 7182442) (go : LG nm tb b L xs i (t + 11) (cs + 1) (ss + 6)) : kEv (kLw nm tb) RW (FL b L xs) false 1578 [.ref 2000, .ref 0, .ref 116, .ref 128, .ref 129, .int (nI i), .retAddr 0, .retAddr 0, .retAddr 0] [] (h4 x y f d) 130 cs ss := by
  obtain ⟨X2, qe, -⟩ := q_boomerangs X
  refine k_aload_n (i := 1) dL_law_1578 (rfl : 1578 + 1 = 1579) rfl rfl ?_
  refine k_callVd0 cv_L_242 ⟨Nat.le_of_ble_eq_true rfl, Nat.le_of_ble_eq_true rfl⟩ (m_X11_boomerangs (x := x)) dL_law_1579 (rfl : 1579 + 3 = 1582) (Nat.le_of_ble_eq_true rfl) rfl rfl rfl (lc0 hc hs) ?_
  refine k_aload_n (i := 2) dL_law_1582 (rfl : 1582 + 1 = 1583) rfl rfl ?_
  refine k_callVd0 cv_L_245 ⟨Nat.le_of_ble_eq_true rfl, Nat.le_of_ble_eq_true rfl⟩ (m_X12_boomerangs (x := y)) dL_law_1583 (rfl : 1583 + 3 = 1586) (Nat.le_of_ble_eq_true rfl) rfl rfl rfl (lc0 hc hs) ?_
  refine k_icmp_eq (tgt := 2815) dL_law_1586 (rfl : 1586 + 3 = 1589) (by decide) (fun _ => ?_) (fun b => absurd qe b)
  exact l_go go X2 (by omega) (show cs ≤ cs + 1 by omega) (show ss ≤ ss + 6 by omega)
set_option maxRecDepth 100000 in
set_option maxHeartbeats 4000000 in
theorem lcs_25 {nm : String} {tb : List (Nat × Nat × Nat × Nat)} {b L i t cs ss : Nat} {xs : Nat → Int32} {x : kK} {y : kY} {f : Nat → Int64} {d : Nat → UInt64} (X : RX t x y) (ht : t + 11 < 2 ^ 20) (hi : i + 4 ≤ L) (hL : L ≤ 2048) (hc : cs + 1 ≤ 603072) (hs : ss + 6 ≤ 7182442) (go : LG nm tb b L xs i (t + 11) (cs + 1) (ss + 6)) : kEv (kLw nm tb) RW (FL b L xs) false 1591 [.ref 2000, .ref 0, .ref 116, .ref 128, .ref 129, .int (nI i), .retAddr 0, .retAddr 0, .retAddr 0] [] (h4 x y f d) 130 cs ss := by
  obtain ⟨X2, qe, -⟩ := q_throwCount X
  refine k_aload_n (i := 1) dL_law_1591 (rfl : 1591 + 1 = 1592) rfl rfl ?_
  refine k_callVd0 cv_L_246 ⟨Nat.le_of_ble_eq_true rfl, Nat.le_of_ble_eq_true rfl⟩ (m_X11_throwCount (x := x)) dL_law_1592 (rfl : 1592 + 3 = 1595) (Nat.le_of_ble_eq_true rfl) rfl rfl rfl (lc0 hc hs) ?_
  refine k_aload_n (i := 2) dL_law_1595 (rfl : 1595 + 1 = 1596) rfl rfl ?_
  refine k_callVd0 cv_L_249 ⟨Nat.le_of_ble_eq_true rfl, Nat.le_of_ble_eq_true rfl⟩ (m_X12_throwCount (x := y)) dL_law_1596 (rfl : 1596 + 3 = 1599) (Nat.le_of_ble_eq_true rfl) rfl rfl rfl (lc0 hc hs) ?_
  refine k_icmp_eq (tgt := 2815) dL_law_1599 (rfl : 1599 + 3 = 1602) (by decide) (fun _ => ?_) (fun b => absurd qe b)
  exact l_go go X2 (by omega) (show cs ≤ cs + 1 by omega) (show ss ≤ ss + 6 by omega)
set_option maxRecDepth 100000 in
set_option maxHeartbeats 4000000 in
theorem lcs_26 {nm : String} {tb : List (Nat × Nat × Nat × Nat)} {b L i t cs ss : Nat} {xs : Nat → Int32} {x : kK} {y : kY} {f : Nat → Int64} {d : Nat → UInt64} (X : RX t x y) (ht : t + 11 < 2 ^ 20) (hi : i + 4 ≤ L) (hL : L ≤ 2048) (hc : cs + 1 ≤ 603072) (hs : ss + 6 ≤ 7182442) (go : LG nm tb b L xs i (t + 11) (cs + 1) (ss + 6)) : kEv (kLw nm tb) RW (FL b L xs) false 1604 [.ref 2000, .ref 0, .ref 116, .ref 128, .ref 129, .int (nI i), .retAddr 0, .retAddr 0, .retAddr 0] [] (h4 x y f d) 130 cs ss := by
  by_cases eb : xs (i + 2) = 0
  · obtain ⟨X2, alt⟩ := s_setSitting X (a := (xs (i + 1))) (b := 0)
    have hK := m_X11_setSitting (x := x) (r := kHr y (kJ 1 f, kDb 1 d)) (a1 := (xs (i + 1))) (a2 := 0) X.hi
    rcases alt with ⟨eo, e0⟩ | ⟨eo, e0⟩
    · rw [eo] at hK
      have hm := v_L_setSitting (h2 := h4 (g_X11_setSitting x (xs (i + 1)) 0) y f d) hK rfl rfl
      rw [h4_f] at hm
      refine k_aload_n (i := 1) dL_law_1604 (rfl : 1604 + 1 = 1605) rfl rfl ?_
      refine k_aload_n (i := 0) dL_law_1605 (rfl : 1605 + 1 = 1606) rfl rfl ?_
      refine k_iload (i := 5) dL_law_1606 (rfl : 1606 + 2 = 1608) rfl ?_
      refine k_iconst (v := 1) dL_law_1608 (rfl : 1608 + 1 = 1609) (by decide) ?_
      refine k_iadd dL_law_1609 (rfl : 1609 + 1 = 1610) ?_
      refine k_sld (j := i + 1) dL_law_1610 (rfl : 1610 + 1 = 1611) (nI_add i 1) (by omega) (by omega) ?_
      refine k_aload_n (i := 0) dL_law_1611 (rfl : 1611 + 1 = 1612) rfl rfl ?_
      refine k_iload (i := 5) dL_law_1612 (rfl : 1612 + 2 = 1614) rfl ?_
      refine k_iconst (v := 2) dL_law_1614 (rfl : 1614 + 1 = 1615) (by decide) ?_
      refine k_iadd dL_law_1615 (rfl : 1615 + 1 = 1616) ?_
      refine k_sld (j := i + 2) dL_law_1616 (rfl : 1616 + 1 = 1617) (nI_add i 2) (by omega) (by omega) ?_
      refine k_if_eq (tgt := 1624) dL_law_1617 (rfl : 1617 + 3 = 1620) (by decide) (fun _ => ?_) (fun b => absurd eb b)
      refine k_iconst (v := 0) dL_law_1624 (rfl : 1624 + 1 = 1625) (by decide) ?_
      refine k_aload_n (i := 3) dL_law_1625 (rfl : 1625 + 1 = 1626) rfl rfl ?_
      refine k_callSTd4 cv_L_250 ⟨Nat.le_of_ble_eq_true rfl, Nat.le_of_ble_eq_true rfl⟩ hm dL_law_1626 (rfl : 1626 + 3 = 1629) rfl (lc1 hc hs) rfl ?_
      refine k_istore (i := 6) dL_law_1629 (rfl : 1629 + 2 = 1631) (Nat.le_of_ble_eq_true rfl) ?_
      refine k_ls (ls2 := [.ref 2000, .ref 0, .ref 116, .ref 128, .ref 129, .int (nI i), .int 0, .retAddr 0, .retAddr 0]) rfl ?_
      refine k_aload_n (i := 2) dL_law_1631 (rfl : 1631 + 1 = 1632) rfl rfl ?_
      refine k_aload_n (i := 0) dL_law_1632 (rfl : 1632 + 1 = 1633) rfl rfl ?_
      refine k_iload (i := 5) dL_law_1633 (rfl : 1633 + 2 = 1635) rfl ?_
      refine k_iconst (v := 1) dL_law_1635 (rfl : 1635 + 1 = 1636) (by decide) ?_
      refine k_iadd dL_law_1636 (rfl : 1636 + 1 = 1637) ?_
      refine k_sld (j := i + 1) dL_law_1637 (rfl : 1637 + 1 = 1638) (nI_add i 1) (by omega) (by omega) ?_
      refine k_aload_n (i := 0) dL_law_1638 (rfl : 1638 + 1 = 1639) rfl rfl ?_
      refine k_iload (i := 5) dL_law_1639 (rfl : 1639 + 2 = 1641) rfl ?_
      refine k_iconst (v := 2) dL_law_1641 (rfl : 1641 + 1 = 1642) (by decide) ?_
      refine k_iadd dL_law_1642 (rfl : 1642 + 1 = 1643) ?_
      refine k_sld (j := i + 2) dL_law_1643 (rfl : 1643 + 1 = 1644) (nI_add i 2) (by omega) (by omega) ?_
      refine k_if_eq (tgt := 1651) dL_law_1644 (rfl : 1644 + 3 = 1647) (by decide) (fun _ => ?_) (fun b => absurd eb b)
      refine k_iconst (v := 0) dL_law_1651 (rfl : 1651 + 1 = 1652) (by decide) ?_
      refine k_callVd2 cv_L_253 ⟨Nat.le_of_ble_eq_true rfl, Nat.le_of_ble_eq_true rfl⟩ (m_X12_setSitting (x := y) (a1 := (xs (i + 1))) (a2 := 0) X.ch) dL_law_1652 (rfl : 1652 + 3 = 1655) (Nat.le_of_ble_eq_true rfl) rfl rfl rfl (lc1 hc hs) ?_
      refine k_istore (i := 7) dL_law_1655 (rfl : 1655 + 2 = 1657) (Nat.le_of_ble_eq_true rfl) ?_
      refine k_ls (ls2 := [.ref 2000, .ref 0, .ref 116, .ref 128, .ref 129, .int (nI i), .int 0, .int (f_X12_setSitting y (xs (i + 1)) 0), .retAddr 0]) rfl ?_
      refine k_aload_n (i := 2) dL_law_1657 (rfl : 1657 + 1 = 1658) rfl rfl ?_
      refine k_callVd0 cv_L_161 ⟨Nat.le_of_ble_eq_true rfl, Nat.le_of_ble_eq_true rfl⟩ (m_X12_thrown (x := (g_X12_setSitting y (xs (i + 1)) 0))) dL_law_1658 (rfl : 1658 + 3 = 1661) (Nat.le_of_ble_eq_true rfl) rfl rfl rfl (lc1 hc hs) ?_
      refine k_iload (i := 6) dL_law_1661 (rfl : 1661 + 2 = 1663) rfl ?_
      refine k_icmp_eq (tgt := 1668) dL_law_1663 (rfl : 1663 + 3 = 1666) (by decide) (fun _ => ?_) (fun b => absurd e0 b)
      refine k_iload (i := 6) dL_law_1668 (rfl : 1668 + 2 = 1670) rfl ?_
      refine k_if_ne (tgt := 1692) dL_law_1670 (rfl : 1670 + 3 = 1673) (by decide) (fun b => absurd b (by decide)) (fun _ => ?_)
      refine k_aload_n (i := 3) dL_law_1673 (rfl : 1673 + 1 = 1674) rfl rfl ?_
      refine k_iconst (v := 0) dL_law_1674 (rfl : 1674 + 1 = 1675) (by decide) ?_
      refine k_lald dL_law_1675 (rfl : 1675 + 1 = 1676) (Nat.le_of_ble_eq_true rfl) rfl vp_00 ?_
      refine k_iload (i := 7) dL_law_1676 (rfl : 1676 + 2 = 1678) rfl ?_
      refine k_if_eq (tgt := 1685) dL_law_1678 (rfl : 1678 + 3 = 1681) (by decide) (fun b9 => ?_) (fun b9 => ?_)
      · have eb := b9
        refine k_lconst (v := 0) dL_law_1685 (rfl : 1685 + 1 = 1686) (by decide) ?_
        refine k_lcmp dL_law_1686 (rfl : 1686 + 1 = 1687) ?_
        refine k_if_eq (tgt := 1692) dL_law_1687 (rfl : 1687 + 3 = 1690) (by decide) (fun _ => ?_) (fun b => absurd (lg_cmp_0.2 (uL0.trans (if_pos eb))) b)
        refine k_goto (tgt := 2815) dL_law_1692 (by decide) ?_
        exact l_go go X2 (by omega) (Nat.le_refl _) (Nat.le_refl _)
      · have eb := b9
        refine k_lconst (v := 1) dL_law_1681 (rfl : 1681 + 1 = 1682) (by decide) ?_
        refine k_goto (tgt := 1686) dL_law_1682 (by decide) ?_
        refine k_lcmp dL_law_1686 (rfl : 1686 + 1 = 1687) ?_
        refine k_if_eq (tgt := 1692) dL_law_1687 (rfl : 1687 + 3 = 1690) (by decide) (fun _ => ?_) (fun b => absurd (lg_cmp_0.2 (uL0.trans (if_neg eb))) b)
        refine k_goto (tgt := 2815) dL_law_1692 (by decide) ?_
        exact l_go go X2 (by omega) (Nat.le_refl _) (Nat.le_refl _)
    · rw [eo] at hK
      have hm := x1_L_setSitting (h2 := h4 (g_X11_setSitting x (xs (i + 1)) 0) y f d) hK rfl
      refine k_aload_n (i := 1) dL_law_1604 (rfl : 1604 + 1 = 1605) rfl rfl ?_
      refine k_aload_n (i := 0) dL_law_1605 (rfl : 1605 + 1 = 1606) rfl rfl ?_
      refine k_iload (i := 5) dL_law_1606 (rfl : 1606 + 2 = 1608) rfl ?_
      refine k_iconst (v := 1) dL_law_1608 (rfl : 1608 + 1 = 1609) (by decide) ?_
      refine k_iadd dL_law_1609 (rfl : 1609 + 1 = 1610) ?_
      refine k_sld (j := i + 1) dL_law_1610 (rfl : 1610 + 1 = 1611) (nI_add i 1) (by omega) (by omega) ?_
      refine k_aload_n (i := 0) dL_law_1611 (rfl : 1611 + 1 = 1612) rfl rfl ?_
      refine k_iload (i := 5) dL_law_1612 (rfl : 1612 + 2 = 1614) rfl ?_
      refine k_iconst (v := 2) dL_law_1614 (rfl : 1614 + 1 = 1615) (by decide) ?_
      refine k_iadd dL_law_1615 (rfl : 1615 + 1 = 1616) ?_
      refine k_sld (j := i + 2) dL_law_1616 (rfl : 1616 + 1 = 1617) (nI_add i 2) (by omega) (by omega) ?_
      refine k_if_eq (tgt := 1624) dL_law_1617 (rfl : 1617 + 3 = 1620) (by decide) (fun _ => ?_) (fun b => absurd eb b)
      refine k_iconst (v := 0) dL_law_1624 (rfl : 1624 + 1 = 1625) (by decide) ?_
      refine k_aload_n (i := 3) dL_law_1625 (rfl : 1625 + 1 = 1626) rfl rfl ?_
      refine k_callSTd4 cv_L_250 ⟨Nat.le_of_ble_eq_true rfl, Nat.le_of_ble_eq_true rfl⟩ hm dL_law_1626 (rfl : 1626 + 3 = 1629) rfl (lc1 hc hs) rfl ?_
      refine k_istore (i := 6) dL_law_1629 (rfl : 1629 + 2 = 1631) (Nat.le_of_ble_eq_true rfl) ?_
      refine k_ls (ls2 := [.ref 2000, .ref 0, .ref 116, .ref 128, .ref 129, .int (nI i), .int 1, .retAddr 0, .retAddr 0]) rfl ?_
      refine k_aload_n (i := 2) dL_law_1631 (rfl : 1631 + 1 = 1632) rfl rfl ?_
      refine k_aload_n (i := 0) dL_law_1632 (rfl : 1632 + 1 = 1633) rfl rfl ?_
      refine k_iload (i := 5) dL_law_1633 (rfl : 1633 + 2 = 1635) rfl ?_
      refine k_iconst (v := 1) dL_law_1635 (rfl : 1635 + 1 = 1636) (by decide) ?_
      refine k_iadd dL_law_1636 (rfl : 1636 + 1 = 1637) ?_
      refine k_sld (j := i + 1) dL_law_1637 (rfl : 1637 + 1 = 1638) (nI_add i 1) (by omega) (by omega) ?_
      refine k_aload_n (i := 0) dL_law_1638 (rfl : 1638 + 1 = 1639) rfl rfl ?_
      refine k_iload (i := 5) dL_law_1639 (rfl : 1639 + 2 = 1641) rfl ?_
      refine k_iconst (v := 2) dL_law_1641 (rfl : 1641 + 1 = 1642) (by decide) ?_
      refine k_iadd dL_law_1642 (rfl : 1642 + 1 = 1643) ?_
      refine k_sld (j := i + 2) dL_law_1643 (rfl : 1643 + 1 = 1644) (nI_add i 2) (by omega) (by omega) ?_
      refine k_if_eq (tgt := 1651) dL_law_1644 (rfl : 1644 + 3 = 1647) (by decide) (fun _ => ?_) (fun b => absurd eb b)
      refine k_iconst (v := 0) dL_law_1651 (rfl : 1651 + 1 = 1652) (by decide) ?_
      refine k_callVd2 cv_L_253 ⟨Nat.le_of_ble_eq_true rfl, Nat.le_of_ble_eq_true rfl⟩ (m_X12_setSitting (x := y) (a1 := (xs (i + 1))) (a2 := 0) X.ch) dL_law_1652 (rfl : 1652 + 3 = 1655) (Nat.le_of_ble_eq_true rfl) rfl rfl rfl (lc1 hc hs) ?_
      refine k_istore (i := 7) dL_law_1655 (rfl : 1655 + 2 = 1657) (Nat.le_of_ble_eq_true rfl) ?_
      refine k_ls (ls2 := [.ref 2000, .ref 0, .ref 116, .ref 128, .ref 129, .int (nI i), .int 1, .int (f_X12_setSitting y (xs (i + 1)) 0), .retAddr 0]) rfl ?_
      refine k_aload_n (i := 2) dL_law_1657 (rfl : 1657 + 1 = 1658) rfl rfl ?_
      refine k_callVd0 cv_L_161 ⟨Nat.le_of_ble_eq_true rfl, Nat.le_of_ble_eq_true rfl⟩ (m_X12_thrown (x := (g_X12_setSitting y (xs (i + 1)) 0))) dL_law_1658 (rfl : 1658 + 3 = 1661) (Nat.le_of_ble_eq_true rfl) rfl rfl rfl (lc1 hc hs) ?_
      refine k_iload (i := 6) dL_law_1661 (rfl : 1661 + 2 = 1663) rfl ?_
      refine k_icmp_eq (tgt := 1668) dL_law_1663 (rfl : 1663 + 3 = 1666) (by decide) (fun _ => ?_) (fun b => absurd e0 b)
      refine k_iload (i := 6) dL_law_1668 (rfl : 1668 + 2 = 1670) rfl ?_
      refine k_if_ne (tgt := 1692) dL_law_1670 (rfl : 1670 + 3 = 1673) (by decide) (fun _ => ?_) (fun b => absurd b (by decide))
      refine k_goto (tgt := 2815) dL_law_1692 (by decide) ?_
      exact l_go go X2 (by omega) (Nat.le_refl _) (Nat.le_refl _)
  · obtain ⟨X2, alt⟩ := s_setSitting X (a := (xs (i + 1))) (b := 1)
    have hK := m_X11_setSitting (x := x) (r := kHr y (kJ 1 f, kDb 1 d)) (a1 := (xs (i + 1))) (a2 := 1) X.hi
    rcases alt with ⟨eo, e0⟩ | ⟨eo, e0⟩
    · rw [eo] at hK
      have hm := v_L_setSitting (h2 := h4 (g_X11_setSitting x (xs (i + 1)) 1) y f d) hK rfl rfl
      rw [h4_f] at hm
      refine k_aload_n (i := 1) dL_law_1604 (rfl : 1604 + 1 = 1605) rfl rfl ?_
      refine k_aload_n (i := 0) dL_law_1605 (rfl : 1605 + 1 = 1606) rfl rfl ?_
      refine k_iload (i := 5) dL_law_1606 (rfl : 1606 + 2 = 1608) rfl ?_
      refine k_iconst (v := 1) dL_law_1608 (rfl : 1608 + 1 = 1609) (by decide) ?_
      refine k_iadd dL_law_1609 (rfl : 1609 + 1 = 1610) ?_
      refine k_sld (j := i + 1) dL_law_1610 (rfl : 1610 + 1 = 1611) (nI_add i 1) (by omega) (by omega) ?_
      refine k_aload_n (i := 0) dL_law_1611 (rfl : 1611 + 1 = 1612) rfl rfl ?_
      refine k_iload (i := 5) dL_law_1612 (rfl : 1612 + 2 = 1614) rfl ?_
      refine k_iconst (v := 2) dL_law_1614 (rfl : 1614 + 1 = 1615) (by decide) ?_
      refine k_iadd dL_law_1615 (rfl : 1615 + 1 = 1616) ?_
      refine k_sld (j := i + 2) dL_law_1616 (rfl : 1616 + 1 = 1617) (nI_add i 2) (by omega) (by omega) ?_
      refine k_if_eq (tgt := 1624) dL_law_1617 (rfl : 1617 + 3 = 1620) (by decide) (fun b => absurd b eb) (fun _ => ?_)
      refine k_iconst (v := 1) dL_law_1620 (rfl : 1620 + 1 = 1621) (by decide) ?_
      refine k_goto (tgt := 1625) dL_law_1621 (by decide) ?_
      refine k_aload_n (i := 3) dL_law_1625 (rfl : 1625 + 1 = 1626) rfl rfl ?_
      refine k_callSTd4 cv_L_250 ⟨Nat.le_of_ble_eq_true rfl, Nat.le_of_ble_eq_true rfl⟩ hm dL_law_1626 (rfl : 1626 + 3 = 1629) rfl (lc1 hc hs) rfl ?_
      refine k_istore (i := 6) dL_law_1629 (rfl : 1629 + 2 = 1631) (Nat.le_of_ble_eq_true rfl) ?_
      refine k_ls (ls2 := [.ref 2000, .ref 0, .ref 116, .ref 128, .ref 129, .int (nI i), .int 0, .retAddr 0, .retAddr 0]) rfl ?_
      refine k_aload_n (i := 2) dL_law_1631 (rfl : 1631 + 1 = 1632) rfl rfl ?_
      refine k_aload_n (i := 0) dL_law_1632 (rfl : 1632 + 1 = 1633) rfl rfl ?_
      refine k_iload (i := 5) dL_law_1633 (rfl : 1633 + 2 = 1635) rfl ?_
      refine k_iconst (v := 1) dL_law_1635 (rfl : 1635 + 1 = 1636) (by decide) ?_
      refine k_iadd dL_law_1636 (rfl : 1636 + 1 = 1637) ?_
      refine k_sld (j := i + 1) dL_law_1637 (rfl : 1637 + 1 = 1638) (nI_add i 1) (by omega) (by omega) ?_
      refine k_aload_n (i := 0) dL_law_1638 (rfl : 1638 + 1 = 1639) rfl rfl ?_
      refine k_iload (i := 5) dL_law_1639 (rfl : 1639 + 2 = 1641) rfl ?_
      refine k_iconst (v := 2) dL_law_1641 (rfl : 1641 + 1 = 1642) (by decide) ?_
      refine k_iadd dL_law_1642 (rfl : 1642 + 1 = 1643) ?_
      refine k_sld (j := i + 2) dL_law_1643 (rfl : 1643 + 1 = 1644) (nI_add i 2) (by omega) (by omega) ?_
      refine k_if_eq (tgt := 1651) dL_law_1644 (rfl : 1644 + 3 = 1647) (by decide) (fun b => absurd b eb) (fun _ => ?_)
      refine k_iconst (v := 1) dL_law_1647 (rfl : 1647 + 1 = 1648) (by decide) ?_
      refine k_goto (tgt := 1652) dL_law_1648 (by decide) ?_
      refine k_callVd2 cv_L_253 ⟨Nat.le_of_ble_eq_true rfl, Nat.le_of_ble_eq_true rfl⟩ (m_X12_setSitting (x := y) (a1 := (xs (i + 1))) (a2 := 1) X.ch) dL_law_1652 (rfl : 1652 + 3 = 1655) (Nat.le_of_ble_eq_true rfl) rfl rfl rfl (lc1 hc hs) ?_
      refine k_istore (i := 7) dL_law_1655 (rfl : 1655 + 2 = 1657) (Nat.le_of_ble_eq_true rfl) ?_
      refine k_ls (ls2 := [.ref 2000, .ref 0, .ref 116, .ref 128, .ref 129, .int (nI i), .int 0, .int (f_X12_setSitting y (xs (i + 1)) 1), .retAddr 0]) rfl ?_
      refine k_aload_n (i := 2) dL_law_1657 (rfl : 1657 + 1 = 1658) rfl rfl ?_
      refine k_callVd0 cv_L_161 ⟨Nat.le_of_ble_eq_true rfl, Nat.le_of_ble_eq_true rfl⟩ (m_X12_thrown (x := (g_X12_setSitting y (xs (i + 1)) 1))) dL_law_1658 (rfl : 1658 + 3 = 1661) (Nat.le_of_ble_eq_true rfl) rfl rfl rfl (lc1 hc hs) ?_
      refine k_iload (i := 6) dL_law_1661 (rfl : 1661 + 2 = 1663) rfl ?_
      refine k_icmp_eq (tgt := 1668) dL_law_1663 (rfl : 1663 + 3 = 1666) (by decide) (fun _ => ?_) (fun b => absurd e0 b)
      refine k_iload (i := 6) dL_law_1668 (rfl : 1668 + 2 = 1670) rfl ?_
      refine k_if_ne (tgt := 1692) dL_law_1670 (rfl : 1670 + 3 = 1673) (by decide) (fun b => absurd b (by decide)) (fun _ => ?_)
      refine k_aload_n (i := 3) dL_law_1673 (rfl : 1673 + 1 = 1674) rfl rfl ?_
      refine k_iconst (v := 0) dL_law_1674 (rfl : 1674 + 1 = 1675) (by decide) ?_
      refine k_lald dL_law_1675 (rfl : 1675 + 1 = 1676) (Nat.le_of_ble_eq_true rfl) rfl vp_00 ?_
      refine k_iload (i := 7) dL_law_1676 (rfl : 1676 + 2 = 1678) rfl ?_
      refine k_if_eq (tgt := 1685) dL_law_1678 (rfl : 1678 + 3 = 1681) (by decide) (fun b9 => ?_) (fun b9 => ?_)
      · have eb := b9
        refine k_lconst (v := 0) dL_law_1685 (rfl : 1685 + 1 = 1686) (by decide) ?_
        refine k_lcmp dL_law_1686 (rfl : 1686 + 1 = 1687) ?_
        refine k_if_eq (tgt := 1692) dL_law_1687 (rfl : 1687 + 3 = 1690) (by decide) (fun _ => ?_) (fun b => absurd (lg_cmp_0.2 (uL0.trans (if_pos eb))) b)
        refine k_goto (tgt := 2815) dL_law_1692 (by decide) ?_
        exact l_go go X2 (by omega) (Nat.le_refl _) (Nat.le_refl _)
      · have eb := b9
        refine k_lconst (v := 1) dL_law_1681 (rfl : 1681 + 1 = 1682) (by decide) ?_
        refine k_goto (tgt := 1686) dL_law_1682 (by decide) ?_
        refine k_lcmp dL_law_1686 (rfl : 1686 + 1 = 1687) ?_
        refine k_if_eq (tgt := 1692) dL_law_1687 (rfl : 1687 + 3 = 1690) (by decide) (fun _ => ?_) (fun b => absurd (lg_cmp_0.2 (uL0.trans (if_neg eb))) b)
        refine k_goto (tgt := 2815) dL_law_1692 (by decide) ?_
        exact l_go go X2 (by omega) (Nat.le_refl _) (Nat.le_refl _)
    · rw [eo] at hK
      have hm := x1_L_setSitting (h2 := h4 (g_X11_setSitting x (xs (i + 1)) 1) y f d) hK rfl
      refine k_aload_n (i := 1) dL_law_1604 (rfl : 1604 + 1 = 1605) rfl rfl ?_
      refine k_aload_n (i := 0) dL_law_1605 (rfl : 1605 + 1 = 1606) rfl rfl ?_
      refine k_iload (i := 5) dL_law_1606 (rfl : 1606 + 2 = 1608) rfl ?_
      refine k_iconst (v := 1) dL_law_1608 (rfl : 1608 + 1 = 1609) (by decide) ?_
      refine k_iadd dL_law_1609 (rfl : 1609 + 1 = 1610) ?_
      refine k_sld (j := i + 1) dL_law_1610 (rfl : 1610 + 1 = 1611) (nI_add i 1) (by omega) (by omega) ?_
      refine k_aload_n (i := 0) dL_law_1611 (rfl : 1611 + 1 = 1612) rfl rfl ?_
      refine k_iload (i := 5) dL_law_1612 (rfl : 1612 + 2 = 1614) rfl ?_
      refine k_iconst (v := 2) dL_law_1614 (rfl : 1614 + 1 = 1615) (by decide) ?_
      refine k_iadd dL_law_1615 (rfl : 1615 + 1 = 1616) ?_
      refine k_sld (j := i + 2) dL_law_1616 (rfl : 1616 + 1 = 1617) (nI_add i 2) (by omega) (by omega) ?_
      refine k_if_eq (tgt := 1624) dL_law_1617 (rfl : 1617 + 3 = 1620) (by decide) (fun b => absurd b eb) (fun _ => ?_)
      refine k_iconst (v := 1) dL_law_1620 (rfl : 1620 + 1 = 1621) (by decide) ?_
      refine k_goto (tgt := 1625) dL_law_1621 (by decide) ?_
      refine k_aload_n (i := 3) dL_law_1625 (rfl : 1625 + 1 = 1626) rfl rfl ?_
      refine k_callSTd4 cv_L_250 ⟨Nat.le_of_ble_eq_true rfl, Nat.le_of_ble_eq_true rfl⟩ hm dL_law_1626 (rfl : 1626 + 3 = 1629) rfl (lc1 hc hs) rfl ?_
      refine k_istore (i := 6) dL_law_1629 (rfl : 1629 + 2 = 1631) (Nat.le_of_ble_eq_true rfl) ?_
      refine k_ls (ls2 := [.ref 2000, .ref 0, .ref 116, .ref 128, .ref 129, .int (nI i), .int 1, .retAddr 0, .retAddr 0]) rfl ?_
      refine k_aload_n (i := 2) dL_law_1631 (rfl : 1631 + 1 = 1632) rfl rfl ?_
      refine k_aload_n (i := 0) dL_law_1632 (rfl : 1632 + 1 = 1633) rfl rfl ?_
      refine k_iload (i := 5) dL_law_1633 (rfl : 1633 + 2 = 1635) rfl ?_
      refine k_iconst (v := 1) dL_law_1635 (rfl : 1635 + 1 = 1636) (by decide) ?_
      refine k_iadd dL_law_1636 (rfl : 1636 + 1 = 1637) ?_
      refine k_sld (j := i + 1) dL_law_1637 (rfl : 1637 + 1 = 1638) (nI_add i 1) (by omega) (by omega) ?_
      refine k_aload_n (i := 0) dL_law_1638 (rfl : 1638 + 1 = 1639) rfl rfl ?_
      refine k_iload (i := 5) dL_law_1639 (rfl : 1639 + 2 = 1641) rfl ?_
      refine k_iconst (v := 2) dL_law_1641 (rfl : 1641 + 1 = 1642) (by decide) ?_
      refine k_iadd dL_law_1642 (rfl : 1642 + 1 = 1643) ?_
      refine k_sld (j := i + 2) dL_law_1643 (rfl : 1643 + 1 = 1644) (nI_add i 2) (by omega) (by omega) ?_
      refine k_if_eq (tgt := 1651) dL_law_1644 (rfl : 1644 + 3 = 1647) (by decide) (fun b => absurd b eb) (fun _ => ?_)
      refine k_iconst (v := 1) dL_law_1647 (rfl : 1647 + 1 = 1648) (by decide) ?_
      refine k_goto (tgt := 1652) dL_law_1648 (by decide) ?_
      refine k_callVd2 cv_L_253 ⟨Nat.le_of_ble_eq_true rfl, Nat.le_of_ble_eq_true rfl⟩ (m_X12_setSitting (x := y) (a1 := (xs (i + 1))) (a2 := 1) X.ch) dL_law_1652 (rfl : 1652 + 3 = 1655) (Nat.le_of_ble_eq_true rfl) rfl rfl rfl (lc1 hc hs) ?_
      refine k_istore (i := 7) dL_law_1655 (rfl : 1655 + 2 = 1657) (Nat.le_of_ble_eq_true rfl) ?_
      refine k_ls (ls2 := [.ref 2000, .ref 0, .ref 116, .ref 128, .ref 129, .int (nI i), .int 1, .int (f_X12_setSitting y (xs (i + 1)) 1), .retAddr 0]) rfl ?_
      refine k_aload_n (i := 2) dL_law_1657 (rfl : 1657 + 1 = 1658) rfl rfl ?_
      refine k_callVd0 cv_L_161 ⟨Nat.le_of_ble_eq_true rfl, Nat.le_of_ble_eq_true rfl⟩ (m_X12_thrown (x := (g_X12_setSitting y (xs (i + 1)) 1))) dL_law_1658 (rfl : 1658 + 3 = 1661) (Nat.le_of_ble_eq_true rfl) rfl rfl rfl (lc1 hc hs) ?_
      refine k_iload (i := 6) dL_law_1661 (rfl : 1661 + 2 = 1663) rfl ?_
      refine k_icmp_eq (tgt := 1668) dL_law_1663 (rfl : 1663 + 3 = 1666) (by decide) (fun _ => ?_) (fun b => absurd e0 b)
      refine k_iload (i := 6) dL_law_1668 (rfl : 1668 + 2 = 1670) rfl ?_
      refine k_if_ne (tgt := 1692) dL_law_1670 (rfl : 1670 + 3 = 1673) (by decide) (fun _ => ?_) (fun b => absurd b (by decide))
      refine k_goto (tgt := 2815) dL_law_1692 (by decide) ?_
      exact l_go go X2 (by omega) (Nat.le_refl _) (Nat.le_refl _)
set_option maxRecDepth 100000 in
set_option maxHeartbeats 4000000 in
theorem lcs_27 {nm : String} {tb : List (Nat × Nat × Nat × Nat)} {b L i t cs ss : Nat} {xs : Nat → Int32} {x : kK} {y : kY} {f : Nat → Int64} {d : Nat → UInt64} (X : RX t x y) (ht : t + 11 < 2 ^ 20) (hi : i + 4 ≤ L) (hL : L ≤ 2048) (hc : cs + 1 ≤ 603072) (hs : ss + 6 ≤ 7182442) (go : LG nm tb b L xs i (t + 11) (cs + 1) (ss + 6)) : kEv (kLw nm tb) RW (FL b L xs) false 1695 [.ref 2000, .ref 0, .ref 116, .ref 128, .ref 129, .int (nI i), .retAddr 0, .retAddr 0, .retAddr 0] [] (h4 x y f d) 130 cs ss := by
  obtain ⟨X2, qe, -⟩ := q_sittingBits X
  refine k_aload_n (i := 1) dL_law_1695 (rfl : 1695 + 1 = 1696) rfl rfl ?_
  refine k_callVd0 cv_L_254 ⟨Nat.le_of_ble_eq_true rfl, Nat.le_of_ble_eq_true rfl⟩ (m_X11_sittingBits (x := x)) dL_law_1696 (rfl : 1696 + 3 = 1699) (Nat.le_of_ble_eq_true rfl) rfl rfl rfl (lc0 hc hs) ?_
  refine k_aload_n (i := 2) dL_law_1699 (rfl : 1699 + 1 = 1700) rfl rfl ?_
  refine k_callVd0 cv_L_257 ⟨Nat.le_of_ble_eq_true rfl, Nat.le_of_ble_eq_true rfl⟩ (m_X12_sittingBits (x := y)) dL_law_1700 (rfl : 1700 + 3 = 1703) (Nat.le_of_ble_eq_true rfl) rfl rfl rfl (lc0 hc hs) ?_
  refine k_icmp_eq (tgt := 2815) dL_law_1703 (rfl : 1703 + 3 = 1706) (by decide) (fun _ => ?_) (fun b => absurd qe b)
  exact l_go go X2 (by omega) (show cs ≤ cs + 1 by omega) (show ss ≤ ss + 6 by omega)
