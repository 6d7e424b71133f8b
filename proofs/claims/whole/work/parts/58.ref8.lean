def g_cmd (x : kY) (k : Nat) : kY :=
  match k with
  | 0 => g_cmd_0 x
  | 1 => g_cmd_1 x
  | 2 => g_cmd_2 x
  | 3 => g_cmd_3 x
  | 4 => g_cmd_4 x
  | 5 => g_cmd_5 x
  | 6 => g_cmd_6 x
  | 7 => g_cmd_7 x
  | 8 => g_cmd_8 x
  | _ => g_cmd_9 x
theorem l_cmd {x : kY} {a9 : kH} {z9 : kE × kE} {k : Nat} (hk : k < 10) (ok : kOk x) : kEv kX12_command (kRm kX12_command 0 0) (kFm false 0 0 ((kRt none (kTp a9 (kHr (g_cmd x k) z9)) 130))) false 17 [.ref 116, .int (nI k), .int 0, .int 0, .retAddr 0, .retAddr 0] [] (kTp a9 (kHr x z9)) 130 0 0 :=
  match k, hk with
  | 0, _ => l_cmd_0 ok
  | 1, _ => l_cmd_1 ok
  | 2, _ => l_cmd_2 ok
  | 3, _ => l_cmd_3 ok
  | 4, _ => l_cmd_4 ok
  | 5, _ => l_cmd_5 ok
  | 6, _ => l_cmd_6 ok
  | 7, _ => l_cmd_7 ok
  | 8, _ => l_cmd_8 ok
  | 9, _ => l_cmd_9 ok
def g_X12_command (x : kY) : kY := if (g_X12_word x).1 13 = 0 then g_cmd (g_X12_word x) (Int32.toNatClampNeg (f_X12_word x)) else g_X12_word x
set_option maxRecDepth 100000 in
set_option maxHeartbeats 4000000 in
theorem m_X12_command {x : kY} {a9 : kH} {z9 : kE × kE} (ok : kOk x) : kMet kX12_command false 0 0 [.ref 116] (kTp a9 (kHr x z9)) 130 (kRt none (kTp a9 (kHr (g_X12_command x) z9)) 130) := by
  refine kMet.in (by decide) rfl rfl _ rfl ?_
  refine k_aload_n (i := 0) dX12_command_0 (rfl : 0 + 1 = 1) rfl rfl ?_
  refine k_callVd0 cv_X12_249 ⟨Nat.le_of_ble_eq_true rfl, Nat.le_of_ble_eq_true rfl⟩ (m_X12_word ok.2.2.1 ok.1 ok.2.1) dX12_command_1 (rfl : 1 + 3 = 4) (Nat.le_of_ble_eq_true rfl) rfl rfl rfl ⟨Nat.le_of_ble_eq_true rfl, Nat.le_of_ble_eq_true rfl⟩ ?_
  generalize hg1 : (g_X12_word x ) = y1
  refine k_istore_n (i := 1) dX12_command_4 (rfl : 4 + 1 = 5) rfl (Nat.le_of_ble_eq_true rfl) ?_
  refine k_ls (ls2 := [.ref 116, .int (f_X12_word x ), .retAddr 0, .retAddr 0, .retAddr 0, .retAddr 0]) rfl ?_
  refine k_iconst (v := 0) dX12_command_5 (rfl : 5 + 1 = 6) (by decide) ?_
  refine k_istore_n (i := 2) dX12_command_6 (rfl : 6 + 1 = 7) rfl (Nat.le_of_ble_eq_true rfl) ?_
  refine k_ls (ls2 := [.ref 116, .int (f_X12_word x ), .int 0, .retAddr 0, .retAddr 0, .retAddr 0]) rfl ?_
  refine k_iconst (v := 0) dX12_command_7 (rfl : 7 + 1 = 8) (by decide) ?_
  refine k_istore_n (i := 3) dX12_command_8 (rfl : 8 + 1 = 9) rfl (Nat.le_of_ble_eq_true rfl) ?_
  refine k_ls (ls2 := [.ref 116, .int (f_X12_word x ), .int 0, .int 0, .retAddr 0, .retAddr 0]) rfl ?_
  refine k_aload_n (i := 0) dX12_command_9 (rfl : 9 + 1 = 10) rfl rfl ?_
  refine k_get 12 24 fg_X12_237 dX12_command_10 (rfl : 10 + 3 = 13) (Nat.le_of_ble_eq_true rfl) rfl rfl ?_
  refine k_if_eq (tgt := 17) dX12_command_13 (rfl : 13 + 3 = 16) (by decide) (fun b13 => ?_) (fun b13 => ?_)
  · have hk := wd_k ok.2.2.1 ok.1 ok.2.1 (by rw [hg1]; exact b13)
    obtain ⟨k, hk1, hk2, hk3⟩ := hk
    rw [hk2]
    have e9 : g_X12_command x = g_cmd y1 k := by unfold g_X12_command; rw [hg1, if_pos b13, hk3]
    rw [e9]
    exact l_cmd hk1 (by rw [← hg1]; exact ok_w ok (wd_ok ok.2.2.1 ok.1 ok.2.1).1)
  · refine k_vret rfl dX12_command_16 (Nat.le_of_ble_eq_true rfl) (Nat.le_of_ble_eq_true rfl) ?_
    subst hg1
    exact kRt_of rfl (by unfold g_X12_command; rw [if_neg b13])
/-- one command more -/
def bodC (x : kY) : kY := if (g_X12_expects x 59).1 13 = 0 then g_X12_command (g_X12_expects x 59) else g_X12_expects x 59
/-- what the commands need, one after the other -/
def okC : Nat → kY → Prop
  | 0, x => x.1 13 = 0 → x.1 0 = 0 → x.1 11 ≤ x.1 10
  | k + 1, x => x.1 13 = 0 → x.1 0 = 0 → ¬ x.1 11 ≤ x.1 10 → kOk x ∧ okC k (bodC x)
theorem ex_w {x : kY} (h : kOk x) : kOk (g_X12_expects x 59) := ok_w h (kRw_x (ex_x (by decide)))
def cmL : Nat → kY → Nat → Int32 → kY × Int32
  | 0, x, j, n => if (x.1 13) = 0 then (if (x.1 0) = 0 then (x, n) else (x, n)) else (x, n)
  | k + 1, x, j, n => if (x.1 13) = 0 then (if (x.1 0) = 0 then (if (x.1 11) ≤ (x.1 10) then (x, n) else (if ((g_X12_expects x 59).1 13) = 0 then (cmL k (g_X12_command (g_X12_expects x 59)) (j + 1) (n + Int32.ofInt 1)) else (cmL k (g_X12_expects x 59) (j + 1) (n + Int32.ofInt 1)))) else (x, n)) else (x, n)
set_option maxRecDepth 100000 in
set_option maxHeartbeats 4000000 in
theorem lcmL {a9 : kH} {z9 : kE × kE} {Q : kQ} {n0 : Nat}  : ∀ (k : Nat) (x : kY) (j : Nat) (n : Int32), j + k = n0 → okC k x → (kEv kX12_commands (kRm kX12_commands 0 0) (kFm false 0 0 (Q)) false 64 [.ref 116, .int (cmL k x j n).2] [] (kTp a9 (kHr (cmL k x j n).1 z9)) 130 0 0) → kEv kX12_commands (kRm kX12_commands 0 0) (kFm false 0 0 (Q)) false 16 [.ref 116, .int n] [] (kTp a9 (kHr x z9)) 130 0 0 := by
  intro k
  induction k with
  | zero =>
    intro x j n hj ho hx
    refine k_aload_n (i := 0) dX12_commands_16 (rfl : 16 + 1 = 17) rfl rfl ?_
    refine k_get 12 24 fg_X12_237 dX12_commands_17 (rfl : 17 + 3 = 20) (Nat.le_of_ble_eq_true rfl) rfl rfl ?_
    refine k_if_ne (tgt := 64) dX12_commands_20 (rfl : 20 + 3 = 23) (by decide) (fun b20 => ?_) (fun b20 => ?_)
    · rw [cmL, if_neg (show ¬ ((x.1 13) = 0) from b20)] at hx
      exact hx
    · refine k_aload_n (i := 0) dX12_commands_23 (rfl : 23 + 1 = 24) rfl rfl ?_
      refine k_get 12 0 fg_X12_50 dX12_commands_24 (rfl : 24 + 3 = 27) (Nat.le_of_ble_eq_true rfl) rfl rfl ?_
      refine k_if_ne (tgt := 64) dX12_commands_27 (rfl : 27 + 3 = 30) (by decide) (fun b27 => ?_) (fun b27 => ?_)
      · rw [cmL, if_pos (show (x.1 13) = 0 from b20), if_neg (show ¬ ((x.1 0) = 0) from b27)] at hx
        exact hx
      · refine k_aload_n (i := 0) dX12_commands_30 (rfl : 30 + 1 = 31) rfl rfl ?_
        refine k_get 12 21 fg_X12_231 dX12_commands_31 (rfl : 31 + 3 = 34) (Nat.le_of_ble_eq_true rfl) rfl rfl ?_
        refine k_aload_n (i := 0) dX12_commands_34 (rfl : 34 + 1 = 35) rfl rfl ?_
        refine k_get 12 22 fg_X12_234 dX12_commands_35 (rfl : 35 + 3 = 38) (Nat.le_of_ble_eq_true rfl) rfl rfl ?_
        refine k_icmp_ge (tgt := 64) dX12_commands_38 (rfl : 38 + 3 = 41) (by decide) (fun b38 => ?_) (fun b38 => by exact absurd (ho b20 b27) b38)
        rw [cmL, if_pos (show (x.1 13) = 0 from b20), if_pos (show (x.1 0) = 0 from b27)] at hx
        exact hx
  | succ k ih =>
    intro x j n hj ho hx
    refine k_aload_n (i := 0) dX12_commands_16 (rfl : 16 + 1 = 17) rfl rfl ?_
    refine k_get 12 24 fg_X12_237 dX12_commands_17 (rfl : 17 + 3 = 20) (Nat.le_of_ble_eq_true rfl) rfl rfl ?_
    refine k_if_ne (tgt := 64) dX12_commands_20 (rfl : 20 + 3 = 23) (by decide) (fun b20 => ?_) (fun b20 => ?_)
    · rw [cmL, if_neg (show ¬ ((x.1 13) = 0) from b20)] at hx
      exact hx
    · refine k_aload_n (i := 0) dX12_commands_23 (rfl : 23 + 1 = 24) rfl rfl ?_
      refine k_get 12 0 fg_X12_50 dX12_commands_24 (rfl : 24 + 3 = 27) (Nat.le_of_ble_eq_true rfl) rfl rfl ?_
      refine k_if_ne (tgt := 64) dX12_commands_27 (rfl : 27 + 3 = 30) (by decide) (fun b27 => ?_) (fun b27 => ?_)
      · rw [cmL, if_pos (show (x.1 13) = 0 from b20), if_neg (show ¬ ((x.1 0) = 0) from b27)] at hx
        exact hx
      · refine k_aload_n (i := 0) dX12_commands_30 (rfl : 30 + 1 = 31) rfl rfl ?_
        refine k_get 12 21 fg_X12_231 dX12_commands_31 (rfl : 31 + 3 = 34) (Nat.le_of_ble_eq_true rfl) rfl rfl ?_
        refine k_aload_n (i := 0) dX12_commands_34 (rfl : 34 + 1 = 35) rfl rfl ?_
        refine k_get 12 22 fg_X12_234 dX12_commands_35 (rfl : 35 + 3 = 38) (Nat.le_of_ble_eq_true rfl) rfl rfl ?_
        refine k_icmp_ge (tgt := 64) dX12_commands_38 (rfl : 38 + 3 = 41) (by decide) (fun b38 => ?_) (fun b38 => ?_)
        · rw [cmL, if_pos (show (x.1 13) = 0 from b20), if_pos (show (x.1 0) = 0 from b27), if_pos (show (x.1 11) ≤ (x.1 10) from b38)] at hx
          exact hx
        · refine k_aload_n (i := 0) dX12_commands_41 (rfl : 41 + 1 = 42) rfl rfl ?_
          refine k_bipush (v := 59) dX12_commands_42 (rfl : 42 + 2 = 44) (by decide) ?_
          refine k_callVv1 cv_X12_243 ⟨Nat.le_of_ble_eq_true rfl, Nat.le_of_ble_eq_true rfl⟩ (m_X12_expects (ho b20 b27 b38).1.1) dX12_commands_44 (rfl : 44 + 3 = 47) (Nat.le_of_ble_eq_true rfl) rfl rfl rfl ⟨Nat.le_of_ble_eq_true rfl, Nat.le_of_ble_eq_true rfl⟩ ?_
          refine k_aload_n (i := 0) dX12_commands_47 (rfl : 47 + 1 = 48) rfl rfl ?_
          refine k_get 12 24 fg_X12_237 dX12_commands_48 (rfl : 48 + 3 = 51) (Nat.le_of_ble_eq_true rfl) rfl rfl ?_
          refine k_if_ne (tgt := 58) dX12_commands_51 (rfl : 51 + 3 = 54) (by decide) (fun b51 => ?_) (fun b51 => ?_)
          · refine k_iinc (i := 1) dX12_commands_58 (rfl : 58 + 3 = 61) rfl (Nat.le_of_ble_eq_true rfl) rfl ?_
            refine k_ls (ls2 := [.ref 116, .int (n + Int32.ofInt 1)]) rfl ?_
            refine k_goto (tgt := 16) dX12_commands_61 (by decide) ?_
            rw [cmL, if_pos (show (x.1 13) = 0 from b20), if_pos (show (x.1 0) = 0 from b27), if_neg (show ¬ ((x.1 11) ≤ (x.1 10)) from b38), if_neg (show ¬ (((g_X12_expects x 59).1 13) = 0) from b51)] at hx
            exact ih (g_X12_expects x 59) (j + 1) (n + Int32.ofInt 1) (by omega) (by have h9 := (ho b20 b27 b38).2; unfold bodC at h9; rw [if_neg b51] at h9; exact h9) hx
          · refine k_aload_n (i := 0) dX12_commands_54 (rfl : 54 + 1 = 55) rfl rfl ?_
            refine k_callVv0 cv_X12_262 ⟨Nat.le_of_ble_eq_true rfl, Nat.le_of_ble_eq_true rfl⟩ (m_X12_command (ex_w (ho b20 b27 b38).1)) dX12_commands_55 (rfl : 55 + 3 = 58) (Nat.le_of_ble_eq_true rfl) rfl rfl rfl ⟨Nat.le_of_ble_eq_true rfl, Nat.le_of_ble_eq_true rfl⟩ ?_
            refine k_iinc (i := 1) dX12_commands_58 (rfl : 58 + 3 = 61) rfl (Nat.le_of_ble_eq_true rfl) rfl ?_
            refine k_ls (ls2 := [.ref 116, .int (n + Int32.ofInt 1)]) rfl ?_
            refine k_goto (tgt := 16) dX12_commands_61 (by decide) ?_
            rw [cmL, if_pos (show (x.1 13) = 0 from b20), if_pos (show (x.1 0) = 0 from b27), if_neg (show ¬ ((x.1 11) ≤ (x.1 10)) from b38), if_pos (show ((g_X12_expects x 59).1 13) = 0 from b51)] at hx
            exact ih (g_X12_command (g_X12_expects x 59)) (j + 1) (n + Int32.ofInt 1) (by omega) (by have h9 := (ho b20 b27 b38).2; unfold bodC at h9; rw [if_pos b51] at h9; exact h9) hx
def f_X12_commands (x : kY)  : Int32 := (cmL 60 (g_X12_command (yS (yS x 10 0) 13 0)) 0 1).2
def g_X12_commands (x : kY)  : kY := (cmL 60 (g_X12_command (yS (yS x 10 0) 13 0)) 0 1).1
set_option maxRecDepth 100000 in
set_option maxHeartbeats 4000000 in
theorem m_X12_commands {x : kY} {a9 : kH} {z9 : kE × kE} (ok : kOk (yS (yS x 10 0) 13 0)) (ho : okC 60 (g_X12_command (yS (yS x 10 0) 13 0))) : kMet kX12_commands false 0 0 [.ref 116] (kTp a9 (kHr x z9)) 130 (kRt (some (.int (f_X12_commands x ))) (kTp a9 (kHr (g_X12_commands x ) z9)) 130) := by
  refine kMet.in (by decide) rfl rfl _ rfl ?_
  refine k_aload_n (i := 0) dX12_commands_0 (rfl : 0 + 1 = 1) rfl rfl ?_
  refine k_iconst (v := 0) dX12_commands_1 (rfl : 1 + 1 = 2) (by decide) ?_
  refine k_put 12 21 fp_X12_231 dX12_commands_2 (rfl : 2 + 3 = 5) (Nat.le_of_ble_eq_true rfl) rfl (Nat.le_of_ble_eq_true rfl) rfl rfl ?_
  refine kf_Y10 (v := 0) rfl ?_
  refine k_aload_n (i := 0) dX12_commands_5 (rfl : 5 + 1 = 6) rfl rfl ?_
  refine k_iconst (v := 0) dX12_commands_6 (rfl : 6 + 1 = 7) (by decide) ?_
  refine k_put 12 24 fp_X12_237 dX12_commands_7 (rfl : 7 + 3 = 10) (Nat.le_of_ble_eq_true rfl) rfl (Nat.le_of_ble_eq_true rfl) rfl rfl ?_
  refine kf_Y13 (v := 0) rfl ?_
  refine k_iconst (v := 1) dX12_commands_10 (rfl : 10 + 1 = 11) (by decide) ?_
  refine k_istore_n (i := 1) dX12_commands_11 (rfl : 11 + 1 = 12) rfl (Nat.le_of_ble_eq_true rfl) ?_
  refine k_ls (ls2 := [.ref 116, .int 1]) rfl ?_
  refine k_aload_n (i := 0) dX12_commands_12 (rfl : 12 + 1 = 13) rfl rfl ?_
  refine k_callVv0 cv_X12_262 ⟨Nat.le_of_ble_eq_true rfl, Nat.le_of_ble_eq_true rfl⟩ (m_X12_command ok) dX12_commands_13 (rfl : 13 + 3 = 16) (Nat.le_of_ble_eq_true rfl) rfl rfl rfl ⟨Nat.le_of_ble_eq_true rfl, Nat.le_of_ble_eq_true rfl⟩ ?_
  refine lcmL (n0 := 60) 60 (g_X12_command (yS (yS x 10 0) 13 0)) 0 1 (by omega) ho (?_)
  generalize hw16 : (cmL 60 (g_X12_command (yS (yS x 10 0) 13 0)) 0 1) = w16
  refine k_iload_n (i := 1) dX12_commands_64 (rfl : 64 + 1 = 65) rfl rfl ?_
  refine k_iret rfl rfl dX12_commands_65 (Nat.le_of_ble_eq_true rfl) (Nat.le_of_ble_eq_true rfl) ?_
  subst hw16
  exact kRt_of rfl rfl
def run1 (x : kY) : kY := yS (yS (yS (g_X12_begins x) 11 ((g_X12_begins x).1 9)) 9 0) 14 0
theorem be_v {x : kY} : (g_X12_begins x).2 0 = x.2 0 := rfl
def f_X12_run (x : kY)  : Int32 := if ((g_X12_commands (yS (yS (yS (g_X12_begins x ) 11 ((g_X12_begins x ).1 9)) 9 0) 14 0) ).1 13) = 0 then (if ((g_X12_commands (yS (g_X12_commands (yS (yS (yS (g_X12_begins x ) 11 ((g_X12_begins x ).1 9)) 9 0) 14 0) ) 14 1) ).1 0) = 0 then (f_X12_ends (g_X12_commands (yS (g_X12_commands (yS (yS (yS (g_X12_begins x ) 11 ((g_X12_begins x ).1 9)) 9 0) 14 0) ) 14 1) ) (f_X12_commands (yS (g_X12_commands (yS (yS (yS (g_X12_begins x ) 11 ((g_X12_begins x ).1 9)) 9 0) 14 0) ) 14 1) )) else (f_X12_ends (yS (yS (g_X12_commands (yS (g_X12_commands (yS (yS (yS (g_X12_begins x ) 11 ((g_X12_begins x ).1 9)) 9 0) 14 0) ) 14 1) ) 3 ((f_X12_commands (yS (g_X12_commands (yS (yS (yS (g_X12_begins x ) 11 ((g_X12_begins x ).1 9)) 9 0) 14 0) ) 14 1) ) - 1)) 0 2) (f_X12_commands (yS (g_X12_commands (yS (yS (yS (g_X12_begins x ) 11 ((g_X12_begins x ).1 9)) 9 0) 14 0) ) 14 1) ))) else (f_X12_fail (yS (g_X12_commands (yS (yS (yS (g_X12_begins x ) 11 ((g_X12_begins x ).1 9)) 9 0) 14 0) ) 2 ((g_X12_commands (yS (yS (yS (g_X12_begins x ) 11 ((g_X12_begins x ).1 9)) 9 0) 14 0) ).1 10)) 1)
def g_X12_run (x : kY)  : kY := if ((g_X12_commands (yS (yS (yS (g_X12_begins x ) 11 ((g_X12_begins x ).1 9)) 9 0) 14 0) ).1 13) = 0 then (if ((g_X12_commands (yS (g_X12_commands (yS (yS (yS (g_X12_begins x ) 11 ((g_X12_begins x ).1 9)) 9 0) 14 0) ) 14 1) ).1 0) = 0 then (g_X12_ends (g_X12_commands (yS (g_X12_commands (yS (yS (yS (g_X12_begins x ) 11 ((g_X12_begins x ).1 9)) 9 0) 14 0) ) 14 1) ) (f_X12_commands (yS (g_X12_commands (yS (yS (yS (g_X12_begins x ) 11 ((g_X12_begins x ).1 9)) 9 0) 14 0) ) 14 1) )) else (g_X12_ends (yS (yS (g_X12_commands (yS (g_X12_commands (yS (yS (yS (g_X12_begins x ) 11 ((g_X12_begins x ).1 9)) 9 0) 14 0) ) 14 1) ) 3 ((f_X12_commands (yS (g_X12_commands (yS (yS (yS (g_X12_begins x ) 11 ((g_X12_begins x ).1 9)) 9 0) 14 0) ) 14 1) ) - 1)) 0 2) (f_X12_commands (yS (g_X12_commands (yS (yS (yS (g_X12_begins x ) 11 ((g_X12_begins x ).1 9)) 9 0) 14 0) ) 14 1) ))) else (g_X12_fail (yS (g_X12_commands (yS (yS (yS (g_X12_begins x ) 11 ((g_X12_begins x ).1 9)) 9 0) 14 0) ) 2 ((g_X12_commands (yS (yS (yS (g_X12_begins x ) 11 ((g_X12_begins x ).1 9)) 9 0) 14 0) ).1 10)) 1)
set_option maxRecDepth 100000 in
set_option maxHeartbeats 4000000 in
theorem m_X12_run {x : kY} {a9 : kH} {z9 : kE × kE} (o1 : kOk (yS (yS (yS (yS (yS (g_X12_begins x) 11 ((g_X12_begins x).1 9)) 9 0) 14 0) 10 0) 13 0)) (h1 : okC 60 (g_X12_command (yS (yS (yS (yS (yS (g_X12_begins x) 11 ((g_X12_begins x).1 9)) 9 0) 14 0) 10 0) 13 0))) (o2 : (g_X12_commands (yS (yS (yS (g_X12_begins x) 11 ((g_X12_begins x).1 9)) 9 0) 14 0)).1 13 = 0 → kOk (yS (yS (yS (g_X12_commands (yS (yS (yS (g_X12_begins x) 11 ((g_X12_begins x).1 9)) 9 0) 14 0)) 14 1) 10 0) 13 0)) (h2 : (g_X12_commands (yS (yS (yS (g_X12_begins x) 11 ((g_X12_begins x).1 9)) 9 0) 14 0)).1 13 = 0 → okC 60 (g_X12_command (yS (yS (yS (g_X12_commands (yS (yS (yS (g_X12_begins x) 11 ((g_X12_begins x).1 9)) 9 0) 14 0)) 14 1) 10 0) 13 0))) (hc : (g_X12_commands (yS (yS (yS (g_X12_begins x) 11 ((g_X12_begins x).1 9)) 9 0) 14 0)).1 13 = 0 → ∃ c, c ≤ 8 ∧ (g_X12_commands (yS (g_X12_commands (yS (yS (yS (g_X12_begins x) 11 ((g_X12_begins x).1 9)) 9 0) 14 0)) 14 1)).1 1 = nI c) : kMet kX12_run false 0 0 [.ref 116] (kTp a9 (kHr x z9)) 130 (kRt (some (.int (f_X12_run x ))) (kTp a9 (kHr (g_X12_run x ) z9)) 130) := by
  refine kMet.in (by decide) rfl rfl _ rfl ?_
  refine k_aload_n (i := 0) dX12_run_0 (rfl : 0 + 1 = 1) rfl rfl ?_
  refine k_callVv0 cv_X12_96 ⟨Nat.le_of_ble_eq_true rfl, Nat.le_of_ble_eq_true rfl⟩ (m_X12_begins) dX12_run_1 (rfl : 1 + 3 = 4) (Nat.le_of_ble_eq_true rfl) rfl rfl rfl ⟨Nat.le_of_ble_eq_true rfl, Nat.le_of_ble_eq_true rfl⟩ ?_
  refine k_aload_n (i := 0) dX12_run_4 (rfl : 4 + 1 = 5) rfl rfl ?_
  refine k_aload_n (i := 0) dX12_run_5 (rfl : 5 + 1 = 6) rfl rfl ?_
  refine k_get 12 20 fg_X12_228 dX12_run_6 (rfl : 6 + 3 = 9) (Nat.le_of_ble_eq_true rfl) rfl rfl ?_
  refine k_put 12 22 fp_X12_234 dX12_run_9 (rfl : 9 + 3 = 12) (Nat.le_of_ble_eq_true rfl) rfl (Nat.le_of_ble_eq_true rfl) rfl rfl ?_
  refine kf_Y11 (v := ((g_X12_begins x ).1 9)) rfl ?_
  refine k_aload_n (i := 0) dX12_run_12 (rfl : 12 + 1 = 13) rfl rfl ?_
  refine k_iconst (v := 0) dX12_run_13 (rfl : 13 + 1 = 14) (by decide) ?_
  refine k_put 12 20 fp_X12_228 dX12_run_14 (rfl : 14 + 3 = 17) (Nat.le_of_ble_eq_true rfl) rfl (Nat.le_of_ble_eq_true rfl) rfl rfl ?_
  refine kf_Y9 (v := 0) rfl ?_
  refine k_aload_n (i := 0) dX12_run_17 (rfl : 17 + 1 = 18) rfl rfl ?_
  refine k_iconst (v := 0) dX12_run_18 (rfl : 18 + 1 = 19) (by decide) ?_
  refine k_put 12 25 fp_X12_255 dX12_run_19 (rfl : 19 + 3 = 22) (Nat.le_of_ble_eq_true rfl) rfl (Nat.le_of_ble_eq_true rfl) rfl rfl ?_
  refine kf_Y14 (v := 0) rfl ?_
  refine k_aload_n (i := 0) dX12_run_22 (rfl : 22 + 1 = 23) rfl rfl ?_
  refine k_callVd0 cv_X12_265 ⟨Nat.le_of_ble_eq_true rfl, Nat.le_of_ble_eq_true rfl⟩ (m_X12_commands o1 h1) dX12_run_23 (rfl : 23 + 3 = 26) (Nat.le_of_ble_eq_true rfl) rfl rfl rfl ⟨Nat.le_of_ble_eq_true rfl, Nat.le_of_ble_eq_true rfl⟩ ?_
  generalize hg1 : (g_X12_commands (yS (yS (yS (g_X12_begins x ) 11 ((g_X12_begins x ).1 9)) 9 0) 14 0) ) = y1 at o2 h2 hc ⊢
  refine k_istore_n (i := 1) dX12_run_26 (rfl : 26 + 1 = 27) rfl (Nat.le_of_ble_eq_true rfl) ?_
  refine k_ls (ls2 := [.ref 116, .int (f_X12_commands (yS (yS (yS (g_X12_begins x ) 11 ((g_X12_begins x ).1 9)) 9 0) 14 0) )]) rfl ?_
  refine k_aload_n (i := 0) dX12_run_27 (rfl : 27 + 1 = 28) rfl rfl ?_
  refine k_get 12 24 fg_X12_237 dX12_run_28 (rfl : 28 + 3 = 31) (Nat.le_of_ble_eq_true rfl) rfl rfl ?_
  refine k_if_eq (tgt := 48) dX12_run_31 (rfl : 31 + 3 = 34) (by decide) (fun b31 => ?_) (fun b31 => ?_)
  · refine k_aload_n (i := 0) dX12_run_48 (rfl : 48 + 1 = 49) rfl rfl ?_
    refine k_iconst (v := 1) dX12_run_49 (rfl : 49 + 1 = 50) (by decide) ?_
    refine k_put 12 25 fp_X12_255 dX12_run_50 (rfl : 50 + 3 = 53) (Nat.le_of_ble_eq_true rfl) rfl (Nat.le_of_ble_eq_true rfl) rfl rfl ?_
    refine kf_Y14 (v := 1) rfl ?_
    refine k_aload_n (i := 0) dX12_run_53 (rfl : 53 + 1 = 54) rfl rfl ?_
    refine k_callVd0 cv_X12_265 ⟨Nat.le_of_ble_eq_true rfl, Nat.le_of_ble_eq_true rfl⟩ (m_X12_commands (o2 b31) (h2 b31)) dX12_run_54 (rfl : 54 + 3 = 57) (Nat.le_of_ble_eq_true rfl) rfl rfl rfl ⟨Nat.le_of_ble_eq_true rfl, Nat.le_of_ble_eq_true rfl⟩ ?_
    generalize hg2 : (g_X12_commands (yS y1 14 1) ) = y2 at hc ⊢
    refine k_istore_n (i := 1) dX12_run_57 (rfl : 57 + 1 = 58) rfl (Nat.le_of_ble_eq_true rfl) ?_
    refine k_ls (ls2 := [.ref 116, .int (f_X12_commands (yS y1 14 1) )]) rfl ?_
    refine k_aload_n (i := 0) dX12_run_58 (rfl : 58 + 1 = 59) rfl rfl ?_
    refine k_get 12 0 fg_X12_50 dX12_run_59 (rfl : 59 + 3 = 62) (Nat.le_of_ble_eq_true rfl) rfl rfl ?_
    refine k_if_eq (tgt := 77) dX12_run_62 (rfl : 62 + 3 = 65) (by decide) (fun b62 => ?_) (fun b62 => ?_)
    · refine k_aload_n (i := 0) dX12_run_77 (rfl : 77 + 1 = 78) rfl rfl ?_
      refine k_iload_n (i := 1) dX12_run_78 (rfl : 78 + 1 = 79) rfl rfl ?_
      refine k_callVd1 cv_X12_103 ⟨Nat.le_of_ble_eq_true rfl, Nat.le_of_ble_eq_true rfl⟩ (m_X12_ends (hc b31)) dX12_run_79 (rfl : 79 + 3 = 82) (Nat.le_of_ble_eq_true rfl) rfl rfl rfl ⟨Nat.le_of_ble_eq_true rfl, Nat.le_of_ble_eq_true rfl⟩ ?_
      refine k_iret rfl rfl dX12_run_82 (Nat.le_of_ble_eq_true rfl) (Nat.le_of_ble_eq_true rfl) ?_
      subst hg2
      subst hg1
      exact kRt_of (congrArg (fun z => some (Value.int z)) (Eq.symm (Eq.trans (if_pos (show ((g_X12_commands (yS (yS (yS (g_X12_begins x ) 11 ((g_X12_begins x ).1 9)) 9 0) 14 0) ).1 13) = 0 from b31)) (if_pos (show ((g_X12_commands (yS (g_X12_commands (yS (yS (yS (g_X12_begins x ) 11 ((g_X12_begins x ).1 9)) 9 0) 14 0) ) 14 1) ).1 0) = 0 from b62))))) (congrArg (fun z => kTp a9 (kHr z z9)) (Eq.symm (Eq.trans (if_pos (show ((g_X12_commands (yS (yS (yS (g_X12_begins x ) 11 ((g_X12_begins x ).1 9)) 9 0) 14 0) ).1 13) = 0 from b31)) (if_pos (show ((g_X12_commands (yS (g_X12_commands (yS (yS (yS (g_X12_begins x ) 11 ((g_X12_begins x ).1 9)) 9 0) 14 0) ) 14 1) ).1 0) = 0 from b62)))))
    · refine k_aload_n (i := 0) dX12_run_65 (rfl : 65 + 1 = 66) rfl rfl ?_
      refine k_iload_n (i := 1) dX12_run_66 (rfl : 66 + 1 = 67) rfl rfl ?_
      refine k_iconst (v := 1) dX12_run_67 (rfl : 67 + 1 = 68) (by decide) ?_
      refine k_isub dX12_run_68 (rfl : 68 + 1 = 69) ?_
      refine k_put 12 3 fp_X12_13 dX12_run_69 (rfl : 69 + 3 = 72) (Nat.le_of_ble_eq_true rfl) rfl (Nat.le_of_ble_eq_true rfl) rfl rfl ?_
      refine kf_Y3 (v := ((f_X12_commands (yS y1 14 1) ) - 1)) rfl ?_
      refine k_aload_n (i := 0) dX12_run_72 (rfl : 72 + 1 = 73) rfl rfl ?_
      refine k_iconst (v := 2) dX12_run_73 (rfl : 73 + 1 = 74) (by decide) ?_
      refine k_put 12 0 fp_X12_50 dX12_run_74 (rfl : 74 + 3 = 77) (Nat.le_of_ble_eq_true rfl) rfl (Nat.le_of_ble_eq_true rfl) rfl rfl ?_
      refine kf_Y0 (v := 2) rfl ?_
      refine k_aload_n (i := 0) dX12_run_77 (rfl : 77 + 1 = 78) rfl rfl ?_
      refine k_iload_n (i := 1) dX12_run_78 (rfl : 78 + 1 = 79) rfl rfl ?_
      refine k_callVd1 cv_X12_103 ⟨Nat.le_of_ble_eq_true rfl, Nat.le_of_ble_eq_true rfl⟩ (m_X12_ends (hc b31)) dX12_run_79 (rfl : 79 + 3 = 82) (Nat.le_of_ble_eq_true rfl) rfl rfl rfl ⟨Nat.le_of_ble_eq_true rfl, Nat.le_of_ble_eq_true rfl⟩ ?_
      refine k_iret rfl rfl dX12_run_82 (Nat.le_of_ble_eq_true rfl) (Nat.le_of_ble_eq_true rfl) ?_
      subst hg2
      subst hg1
      exact kRt_of (congrArg (fun z => some (Value.int z)) (Eq.symm (Eq.trans (if_pos (show ((g_X12_commands (yS (yS (yS (g_X12_begins x ) 11 ((g_X12_begins x ).1 9)) 9 0) 14 0) ).1 13) = 0 from b31)) (if_neg (show ¬ (((g_X12_commands (yS (g_X12_commands (yS (yS (yS (g_X12_begins x ) 11 ((g_X12_begins x ).1 9)) 9 0) 14 0) ) 14 1) ).1 0) = 0) from b62))))) (congrArg (fun z => kTp a9 (kHr z z9)) (Eq.symm (Eq.trans (if_pos (show ((g_X12_commands (yS (yS (yS (g_X12_begins x ) 11 ((g_X12_begins x ).1 9)) 9 0) 14 0) ).1 13) = 0 from b31)) (if_neg (show ¬ (((g_X12_commands (yS (g_X12_commands (yS (yS (yS (g_X12_begins x ) 11 ((g_X12_begins x ).1 9)) 9 0) 14 0) ) 14 1) ).1 0) = 0) from b62)))))
  · refine k_aload_n (i := 0) dX12_run_34 (rfl : 34 + 1 = 35) rfl rfl ?_
    refine k_aload_n (i := 0) dX12_run_35 (rfl : 35 + 1 = 36) rfl rfl ?_
    refine k_get 12 21 fg_X12_231 dX12_run_36 (rfl : 36 + 3 = 39) (Nat.le_of_ble_eq_true rfl) rfl rfl ?_
    refine k_put 12 2 fp_X12_7 dX12_run_39 (rfl : 39 + 3 = 42) (Nat.le_of_ble_eq_true rfl) rfl (Nat.le_of_ble_eq_true rfl) rfl rfl ?_
    refine kf_Y2 (v := (y1.1 10)) rfl ?_
    refine k_aload_n (i := 0) dX12_run_42 (rfl : 42 + 1 = 43) rfl rfl ?_
    refine k_iconst (v := 1) dX12_run_43 (rfl : 43 + 1 = 44) (by decide) ?_
    refine k_callVd1 cv_X12_59 ⟨Nat.le_of_ble_eq_true rfl, Nat.le_of_ble_eq_true rfl⟩ (m_X12_fail) dX12_run_44 (rfl : 44 + 3 = 47) (Nat.le_of_ble_eq_true rfl) rfl rfl rfl ⟨Nat.le_of_ble_eq_true rfl, Nat.le_of_ble_eq_true rfl⟩ ?_
    refine k_iret rfl rfl dX12_run_47 (Nat.le_of_ble_eq_true rfl) (Nat.le_of_ble_eq_true rfl) ?_
    subst hg1
    exact kRt_of (congrArg (fun z => some (Value.int z)) (Eq.symm (if_neg (show ¬ (((g_X12_commands (yS (yS (yS (g_X12_begins x ) 11 ((g_X12_begins x ).1 9)) 9 0) 14 0) ).1 13) = 0) from b31)))) (congrArg (fun z => kTp a9 (kHr z z9)) (Eq.symm (if_neg (show ¬ (((g_X12_commands (yS (yS (yS (g_X12_begins x ) 11 ((g_X12_begins x ).1 9)) 9 0) 14 0) ).1 13) = 0) from b31))))
