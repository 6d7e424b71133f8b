theorem dX12_mostHearings_61 : decode cX12_mostHearings 61 = .ok (.iconst 1, 1) := by decide +kernel
theorem dX12_mostHearings_62 : decode cX12_mostHearings 62 = .ok (.if_icmp .eq 55, 3) := by decide +kernel
theorem dX12_mostHearings_65 : decode cX12_mostHearings 65 = .ok (.aload_n 0, 1) := by decide +kernel
theorem dX12_mostHearings_66 : decode cX12_mostHearings 66 = .ok (.getfield 16, 3) := by decide +kernel
theorem dX12_mostHearings_69 : decode cX12_mostHearings 69 = .ok (.iload 5, 2) := by decide +kernel
theorem dX12_mostHearings_71 : decode cX12_mostHearings 71 = .ok (.iconst 1, 1) := by decide +kernel
theorem dX12_mostHearings_72 : decode cX12_mostHearings 72 = .ok (.invokestatic 77, 3) := by decide +kernel
theorem dX12_mostHearings_75 : decode cX12_mostHearings 75 = .ok (.iaload, 1) := by decide +kernel
theorem dX12_mostHearings_76 : decode cX12_mostHearings 76 = .ok (.iload_n 3, 1) := by decide +kernel
theorem dX12_mostHearings_77 : decode cX12_mostHearings 77 = .ok (.if_icmp .gt 40, 3) := by decide +kernel
theorem dX12_mostHearings_80 : decode cX12_mostHearings 80 = .ok (.aload_n 0, 1) := by decide +kernel
theorem dX12_mostHearings_81 : decode cX12_mostHearings 81 = .ok (.iload 5, 2) := by decide +kernel
theorem dX12_mostHearings_83 : decode cX12_mostHearings 83 = .ok (.invokevirtual 197, 3) := by decide +kernel
theorem dX12_mostHearings_86 : decode cX12_mostHearings 86 = .ok (.iload_n 3, 1) := by decide +kernel
theorem dX12_mostHearings_87 : decode cX12_mostHearings 87 = .ok (.if_icmp .ge 6, 3) := by decide +kernel
theorem dX12_mostHearings_90 : decode cX12_mostHearings 90 = .ok (.goto 27, 3) := by decide +kernel
theorem dX12_mostHearings_93 : decode cX12_mostHearings 93 = .ok (.iload 4, 2) := by decide +kernel
theorem dX12_mostHearings_95 : decode cX12_mostHearings 95 = .ok (.ifCond .lt 18, 3) := by decide +kernel
theorem dX12_mostHearings_98 : decode cX12_mostHearings 98 = .ok (.aload_n 0, 1) := by decide +kernel
theorem dX12_mostHearings_99 : decode cX12_mostHearings 99 = .ok (.iload 5, 2) := by decide +kernel
theorem dX12_mostHearings_101 : decode cX12_mostHearings 101 = .ok (.invokevirtual 197, 3) := by decide +kernel
theorem dX12_mostHearings_104 : decode cX12_mostHearings 104 = .ok (.aload_n 0, 1) := by decide +kernel
theorem dX12_mostHearings_105 : decode cX12_mostHearings 105 = .ok (.iload 4, 2) := by decide +kernel
theorem dX12_mostHearings_107 : decode cX12_mostHearings 107 = .ok (.invokevirtual 197, 3) := by decide +kernel
theorem dX12_mostHearings_110 : decode cX12_mostHearings 110 = .ok (.if_icmp .ge 7, 3) := by decide +kernel
theorem dX12_mostHearings_113 : decode cX12_mostHearings 113 = .ok (.iload 5, 2) := by decide +kernel
theorem dX12_mostHearings_115 : decode cX12_mostHearings 115 = .ok (.istore 4, 2) := by decide +kernel
theorem dX12_mostHearings_117 : decode cX12_mostHearings 117 = .ok (.iinc 5 1, 3) := by decide +kernel
theorem dX12_mostHearings_120 : decode cX12_mostHearings 120 = .ok (.goto (-85), 3) := by decide +kernel
theorem dX12_mostHearings_123 : decode cX12_mostHearings 123 = .ok (.iload 4, 2) := by decide +kernel
theorem dX12_mostHearings_125 : decode cX12_mostHearings 125 = .ok (.ifCond .ge 6, 3) := by decide +kernel
theorem dX12_mostHearings_128 : decode cX12_mostHearings 128 = .ok (.goto 13, 3) := by decide +kernel
theorem dX12_mostHearings_131 : decode cX12_mostHearings 131 = .ok (.iload_n 1, 1) := by decide +kernel
theorem dX12_mostHearings_132 : decode cX12_mostHearings 132 = .ok (.iconst 1, 1) := by decide +kernel
theorem dX12_mostHearings_133 : decode cX12_mostHearings 133 = .ok (.iload 4, 2) := by decide +kernel
theorem dX12_mostHearings_135 : decode cX12_mostHearings 135 = .ok (.ishl, 1) := by decide +kernel
theorem dX12_mostHearings_136 : decode cX12_mostHearings 136 = .ok (.ior, 1) := by decide +kernel
theorem dX12_mostHearings_137 : decode cX12_mostHearings 137 = .ok (.istore_n 1, 1) := by decide +kernel
theorem dX12_mostHearings_138 : decode cX12_mostHearings 138 = .ok (.iinc 2 1, 3) := by decide +kernel
theorem dX12_mostHearings_141 : decode cX12_mostHearings 141 = .ok (.iinc 3 1, 3) := by decide +kernel
theorem dX12_mostHearings_144 : decode cX12_mostHearings 144 = .ok (.goto (-128), 3) := by decide +kernel
theorem dX12_mostHearings_147 : decode cX12_mostHearings 147 = .ok (.iload_n 2, 1) := by decide +kernel
theorem dX12_mostHearings_148 : decode cX12_mostHearings 148 = .ok (.ireturn, 1) := by decide +kernel
theorem dX12_mostHearingsByChains_0 : decode cX12_mostHearingsByChains 0 = .ok (.aload_n 0, 1) := by decide +kernel
theorem dX12_mostHearingsByChains_1 : decode cX12_mostHearingsByChains 1 = .ok (.invokevirtual 210, 3) := by decide +kernel
theorem dX12_mostHearingsByChains_4 : decode cX12_mostHearingsByChains 4 = .ok (.ireturn, 1) := by decide +kernel
theorem dX12_passes_0 : decode cX12_passes 0 = .ok (.iload_n 1, 1) := by decide +kernel
theorem dX12_passes_1 : decode cX12_passes 1 = .ok (.iconst 1, 1) := by decide +kernel
theorem dX12_passes_2 : decode cX12_passes 2 = .ok (.bipush 48, 2) := by decide +kernel
theorem dX12_passes_4 : decode cX12_passes 4 = .ok (.invokestatic 70, 3) := by decide +kernel
theorem dX12_passes_7 : decode cX12_passes 7 = .ok (.ifCond .ne 9, 3) := by decide +kernel
theorem dX12_passes_10 : decode cX12_passes 10 = .ok (.aload_n 0, 1) := by decide +kernel
theorem dX12_passes_11 : decode cX12_passes 11 = .ok (.iconst 1, 1) := by decide +kernel
theorem dX12_passes_12 : decode cX12_passes 12 = .ok (.invokevirtual 59, 3) := by decide +kernel
theorem dX12_passes_15 : decode cX12_passes 15 = .ok (.ireturn, 1) := by decide +kernel
theorem dX12_passes_16 : decode cX12_passes 16 = .ok (.iconst 0, 1) := by decide +kernel
theorem dX12_passes_17 : decode cX12_passes 17 = .ok (.istore_n 2, 1) := by decide +kernel
theorem dX12_passes_18 : decode cX12_passes 18 = .ok (.iconst 0, 1) := by decide +kernel
theorem dX12_passes_19 : decode cX12_passes 19 = .ok (.istore_n 3, 1) := by decide +kernel
theorem dX12_passes_20 : decode cX12_passes 20 = .ok (.iload_n 3, 1) := by decide +kernel
theorem dX12_passes_21 : decode cX12_passes 21 = .ok (.iload_n 1, 1) := by decide +kernel
theorem dX12_passes_22 : decode cX12_passes 22 = .ok (.if_icmp .ge 16, 3) := by decide +kernel
theorem dX12_passes_25 : decode cX12_passes 25 = .ok (.iload_n 2, 1) := by decide +kernel
theorem dX12_passes_26 : decode cX12_passes 26 = .ok (.aload_n 0, 1) := by decide +kernel
theorem dX12_passes_27 : decode cX12_passes 27 = .ok (.invokevirtual 204, 3) := by decide +kernel
theorem dX12_passes_30 : decode cX12_passes 30 = .ok (.iadd, 1) := by decide +kernel
theorem dX12_passes_31 : decode cX12_passes 31 = .ok (.istore_n 2, 1) := by decide +kernel
theorem dX12_passes_32 : decode cX12_passes 32 = .ok (.iinc 3 1, 3) := by decide +kernel
theorem dX12_passes_35 : decode cX12_passes 35 = .ok (.goto (-15), 3) := by decide +kernel
theorem dX12_passes_38 : decode cX12_passes 38 = .ok (.iload_n 2, 1) := by decide +kernel
theorem dX12_passes_39 : decode cX12_passes 39 = .ok (.ireturn, 1) := by decide +kernel
theorem dX12_pass_0 : decode cX12_pass 0 = .ok (.aload_n 0, 1) := by decide +kernel
theorem dX12_pass_1 : decode cX12_pass 1 = .ok (.invokevirtual 96, 3) := by decide +kernel
theorem dX12_pass_4 : decode cX12_pass 4 = .ok (.aload_n 0, 1) := by decide +kernel
theorem dX12_pass_5 : decode cX12_pass 5 = .ok (.aload_n 0, 1) := by decide +kernel
theorem dX12_pass_6 : decode cX12_pass 6 = .ok (.iload_n 1, 1) := by decide +kernel
theorem dX12_pass_7 : decode cX12_pass 7 = .ok (.invokevirtual 213, 3) := by decide +kernel
theorem dX12_pass_10 : decode cX12_pass 10 = .ok (.invokevirtual 103, 3) := by decide +kernel
theorem dX12_pass_13 : decode cX12_pass 13 = .ok (.ireturn, 1) := by decide +kernel
theorem dX12_hour_0 : decode cX12_hour 0 = .ok (.aload_n 0, 1) := by decide +kernel
theorem dX12_hour_1 : decode cX12_hour 1 = .ok (.iconst 0, 1) := by decide +kernel
theorem dX12_hour_2 : decode cX12_hour 2 = .ok (.invokevirtual 131, 3) := by decide +kernel
theorem dX12_hour_5 : decode cX12_hour 5 = .ok (.ireturn, 1) := by decide +kernel
theorem dX12_coins_0 : decode cX12_coins 0 = .ok (.aload_n 0, 1) := by decide +kernel
theorem dX12_coins_1 : decode cX12_coins 1 = .ok (.iconst 1, 1) := by decide +kernel
theorem dX12_coins_2 : decode cX12_coins 2 = .ok (.invokevirtual 131, 3) := by decide +kernel
theorem dX12_coins_5 : decode cX12_coins 5 = .ok (.ireturn, 1) := by decide +kernel
theorem dX12_coinsByAccounts_0 : decode cX12_coinsByAccounts 0 = .ok (.aload_n 0, 1) := by decide +kernel
theorem dX12_coinsByAccounts_1 : decode cX12_coinsByAccounts 1 = .ok (.iconst 1, 1) := by decide +kernel
theorem dX12_coinsByAccounts_2 : decode cX12_coinsByAccounts 2 = .ok (.invokevirtual 131, 3) := by decide +kernel
theorem dX12_coinsByAccounts_5 : decode cX12_coinsByAccounts 5 = .ok (.ireturn, 1) := by decide +kernel
theorem dX12_refusalReason_0 : decode cX12_refusalReason 0 = .ok (.aload_n 0, 1) := by decide +kernel
theorem dX12_refusalReason_1 : decode cX12_refusalReason 1 = .ok (.aload_n 0, 1) := by decide +kernel
theorem dX12_refusalReason_2 : decode cX12_refusalReason 2 = .ok (.getfield 53, 3) := by decide +kernel
theorem dX12_refusalReason_5 : decode cX12_refusalReason 5 = .ok (.ifCond .ne 7, 3) := by decide +kernel
theorem dX12_refusalReason_8 : decode cX12_refusalReason 8 = .ok (.iconst 1, 1) := by decide +kernel
theorem dX12_refusalReason_9 : decode cX12_refusalReason 9 = .ok (.goto 4, 3) := by decide +kernel
theorem dX12_refusalReason_12 : decode cX12_refusalReason 12 = .ok (.iconst 0, 1) := by decide +kernel
theorem dX12_refusalReason_13 : decode cX12_refusalReason 13 = .ok (.putfield 50, 3) := by decide +kernel
theorem dX12_refusalReason_16 : decode cX12_refusalReason 16 = .ok (.aload_n 0, 1) := by decide +kernel
theorem dX12_refusalReason_17 : decode cX12_refusalReason 17 = .ok (.getfield 53, 3) := by decide +kernel
theorem dX12_refusalReason_20 : decode cX12_refusalReason 20 = .ok (.ireturn, 1) := by decide +kernel
theorem dX12_refusalDetail_0 : decode cX12_refusalDetail 0 = .ok (.aload_n 0, 1) := by decide +kernel
theorem dX12_refusalDetail_1 : decode cX12_refusalDetail 1 = .ok (.aload_n 0, 1) := by decide +kernel
theorem dX12_refusalDetail_2 : decode cX12_refusalDetail 2 = .ok (.getfield 53, 3) := by decide +kernel
theorem dX12_refusalDetail_5 : decode cX12_refusalDetail 5 = .ok (.ifCond .ne 7, 3) := by decide +kernel
theorem dX12_refusalDetail_8 : decode cX12_refusalDetail 8 = .ok (.iconst 1, 1) := by decide +kernel
theorem dX12_refusalDetail_9 : decode cX12_refusalDetail 9 = .ok (.goto 4, 3) := by decide +kernel
theorem dX12_refusalDetail_12 : decode cX12_refusalDetail 12 = .ok (.iconst 0, 1) := by decide +kernel
theorem dX12_refusalDetail_13 : decode cX12_refusalDetail 13 = .ok (.putfield 50, 3) := by decide +kernel
theorem dX12_refusalDetail_16 : decode cX12_refusalDetail 16 = .ok (.aload_n 0, 1) := by decide +kernel
theorem dX12_refusalDetail_17 : decode cX12_refusalDetail 17 = .ok (.getfield 50, 3) := by decide +kernel
theorem dX12_refusalDetail_20 : decode cX12_refusalDetail 20 = .ok (.ifCond .ne 10, 3) := by decide +kernel
theorem dX12_refusalDetail_23 : decode cX12_refusalDetail 23 = .ok (.aload_n 0, 1) := by decide +kernel
theorem dX12_refusalDetail_24 : decode cX12_refusalDetail 24 = .ok (.getfield 56, 3) := by decide +kernel
theorem dX12_refusalDetail_27 : decode cX12_refusalDetail 27 = .ok (.goto 4, 3) := by decide +kernel
theorem dX12_refusalDetail_30 : decode cX12_refusalDetail 30 = .ok (.iconst 0, 1) := by decide +kernel
theorem dX12_refusalDetail_31 : decode cX12_refusalDetail 31 = .ok (.ireturn, 1) := by decide +kernel
theorem dX12_caughtShare_0 : decode cX12_caughtShare 0 = .ok (.aload_n 0, 1) := by decide +kernel
theorem dX12_caughtShare_1 : decode cX12_caughtShare 1 = .ok (.aload_n 0, 1) := by decide +kernel
theorem dX12_caughtShare_2 : decode cX12_caughtShare 2 = .ok (.getfield 16, 3) := by decide +kernel
theorem dX12_caughtShare_5 : decode cX12_caughtShare 5 = .ok (.bipush 9, 2) := by decide +kernel
theorem dX12_caughtShare_7 : decode cX12_caughtShare 7 = .ok (.iaload, 1) := by decide +kernel
theorem dX12_caughtShare_8 : decode cX12_caughtShare 8 = .ok (.ifCond .ne 7, 3) := by decide +kernel
theorem dX12_caughtShare_11 : decode cX12_caughtShare 11 = .ok (.iconst 1, 1) := by decide +kernel
theorem dX12_caughtShare_12 : decode cX12_caughtShare 12 = .ok (.goto 4, 3) := by decide +kernel
theorem dX12_caughtShare_15 : decode cX12_caughtShare 15 = .ok (.iconst 0, 1) := by decide +kernel
theorem dX12_caughtShare_16 : decode cX12_caughtShare 16 = .ok (.putfield 50, 3) := by decide +kernel
theorem dX12_caughtShare_19 : decode cX12_caughtShare 19 = .ok (.aload_n 0, 1) := by decide +kernel
theorem dX12_caughtShare_20 : decode cX12_caughtShare 20 = .ok (.getfield 50, 3) := by decide +kernel
theorem dX12_caughtShare_23 : decode cX12_caughtShare 23 = .ok (.ifCond .ne 23, 3) := by decide +kernel
theorem dX12_caughtShare_26 : decode cX12_caughtShare 26 = .ok (.aload_n 0, 1) := by decide +kernel
theorem dX12_caughtShare_27 : decode cX12_caughtShare 27 = .ok (.getfield 16, 3) := by decide +kernel
theorem dX12_caughtShare_30 : decode cX12_caughtShare 30 = .ok (.bipush 10, 2) := by decide +kernel
theorem dX12_caughtShare_32 : decode cX12_caughtShare 32 = .ok (.iaload, 1) := by decide +kernel
theorem dX12_caughtShare_33 : decode cX12_caughtShare 33 = .ok (.i2f, 1) := by decide +kernel
theorem dX12_caughtShare_34 : decode cX12_caughtShare 34 = .ok (.aload_n 0, 1) := by decide +kernel
theorem dX12_caughtShare_35 : decode cX12_caughtShare 35 = .ok (.getfield 16, 3) := by decide +kernel
theorem dX12_caughtShare_38 : decode cX12_caughtShare 38 = .ok (.bipush 9, 2) := by decide +kernel
theorem dX12_caughtShare_40 : decode cX12_caughtShare 40 = .ok (.iaload, 1) := by decide +kernel
theorem dX12_caughtShare_41 : decode cX12_caughtShare 41 = .ok (.i2f, 1) := by decide +kernel
theorem dX12_caughtShare_42 : decode cX12_caughtShare 42 = .ok (.fdiv, 1) := by decide +kernel
theorem dX12_caughtShare_43 : decode cX12_caughtShare 43 = .ok (.goto 4, 3) := by decide +kernel
theorem dX12_caughtShare_46 : decode cX12_caughtShare 46 = .ok (.fconst 0, 1) := by decide +kernel
theorem dX12_caughtShare_47 : decode cX12_caughtShare 47 = .ok (.freturn, 1) := by decide +kernel
theorem dX12_caughtShareBits_0 : decode cX12_caughtShareBits 0 = .ok (.aload_n 0, 1) := by decide +kernel
theorem dX12_caughtShareBits_1 : decode cX12_caughtShareBits 1 = .ok (.invokevirtual 216, 3) := by decide +kernel
theorem dX12_caughtShareBits_4 : decode cX12_caughtShareBits 4 = .ok (.fstore_n 1, 1) := by decide +kernel
theorem dX12_caughtShareBits_5 : decode cX12_caughtShareBits 5 = .ok (.aload_n 0, 1) := by decide +kernel
theorem dX12_caughtShareBits_6 : decode cX12_caughtShareBits 6 = .ok (.getfield 50, 3) := by decide +kernel
theorem dX12_caughtShareBits_9 : decode cX12_caughtShareBits 9 = .ok (.ifCond .ne 10, 3) := by decide +kernel
theorem dX12_caughtShareBits_12 : decode cX12_caughtShareBits 12 = .ok (.fload_n 1, 1) := by decide +kernel
theorem dX12_caughtShareBits_13 : decode cX12_caughtShareBits 13 = .ok (.invokestatic 220, 3) := by decide +kernel
theorem dX12_caughtShareBits_16 : decode cX12_caughtShareBits 16 = .ok (.goto 4, 3) := by decide +kernel
theorem dX12_caughtShareBits_19 : decode cX12_caughtShareBits 19 = .ok (.iconst 0, 1) := by decide +kernel
theorem dX12_caughtShareBits_20 : decode cX12_caughtShareBits 20 = .ok (.ireturn, 1) := by decide +kernel
theorem dX12_meanSteps_0 : decode cX12_meanSteps 0 = .ok (.aload_n 0, 1) := by decide +kernel
theorem dX12_meanSteps_1 : decode cX12_meanSteps 1 = .ok (.aload_n 0, 1) := by decide +kernel
theorem dX12_meanSteps_2 : decode cX12_meanSteps 2 = .ok (.getfield 16, 3) := by decide +kernel
theorem dX12_meanSteps_5 : decode cX12_meanSteps 5 = .ok (.bipush 9, 2) := by decide +kernel
theorem dX12_meanSteps_7 : decode cX12_meanSteps 7 = .ok (.iaload, 1) := by decide +kernel
theorem dX12_meanSteps_8 : decode cX12_meanSteps 8 = .ok (.ifCond .ne 7, 3) := by decide +kernel
theorem dX12_meanSteps_11 : decode cX12_meanSteps 11 = .ok (.iconst 1, 1) := by decide +kernel
theorem dX12_meanSteps_12 : decode cX12_meanSteps 12 = .ok (.goto 4, 3) := by decide +kernel
theorem dX12_meanSteps_15 : decode cX12_meanSteps 15 = .ok (.iconst 0, 1) := by decide +kernel
theorem dX12_meanSteps_16 : decode cX12_meanSteps 16 = .ok (.putfield 50, 3) := by decide +kernel
theorem dX12_meanSteps_19 : decode cX12_meanSteps 19 = .ok (.aload_n 0, 1) := by decide +kernel
theorem dX12_meanSteps_20 : decode cX12_meanSteps 20 = .ok (.getfield 50, 3) := by decide +kernel
theorem dX12_meanSteps_23 : decode cX12_meanSteps 23 = .ok (.ifCond .ne 23, 3) := by decide +kernel
theorem dX12_meanSteps_26 : decode cX12_meanSteps 26 = .ok (.aload_n 0, 1) := by decide +kernel
theorem dX12_meanSteps_27 : decode cX12_meanSteps 27 = .ok (.getfield 16, 3) := by decide +kernel
theorem dX12_meanSteps_30 : decode cX12_meanSteps 30 = .ok (.bipush 11, 2) := by decide +kernel
theorem dX12_meanSteps_32 : decode cX12_meanSteps 32 = .ok (.iaload, 1) := by decide +kernel
theorem dX12_meanSteps_33 : decode cX12_meanSteps 33 = .ok (.i2d, 1) := by decide +kernel
theorem dX12_meanSteps_34 : decode cX12_meanSteps 34 = .ok (.aload_n 0, 1) := by decide +kernel
theorem dX12_meanSteps_35 : decode cX12_meanSteps 35 = .ok (.getfield 16, 3) := by decide +kernel
theorem dX12_meanSteps_38 : decode cX12_meanSteps 38 = .ok (.bipush 9, 2) := by decide +kernel
theorem dX12_meanSteps_40 : decode cX12_meanSteps 40 = .ok (.iaload, 1) := by decide +kernel
theorem dX12_meanSteps_41 : decode cX12_meanSteps 41 = .ok (.i2d, 1) := by decide +kernel
theorem dX12_meanSteps_42 : decode cX12_meanSteps 42 = .ok (.ddiv, 1) := by decide +kernel
theorem dX12_meanSteps_43 : decode cX12_meanSteps 43 = .ok (.goto 4, 3) := by decide +kernel
theorem dX12_meanSteps_46 : decode cX12_meanSteps 46 = .ok (.dconst 0, 1) := by decide +kernel
theorem dX12_meanSteps_47 : decode cX12_meanSteps 47 = .ok (.dreturn, 1) := by decide +kernel
theorem dX12_signature_0 : decode cX12_signature 0 = .ok (.aload_n 0, 1) := by decide +kernel
theorem dX12_signature_1 : decode cX12_signature 1 = .ok (.iconst 0, 1) := by decide +kernel
theorem dX12_signature_2 : decode cX12_signature 2 = .ok (.putfield 50, 3) := by decide +kernel
theorem dX12_signature_5 : decode cX12_signature 5 = .ok (.aload_n 0, 1) := by decide +kernel
theorem dX12_signature_6 : decode cX12_signature 6 = .ok (.iconst 0, 1) := by decide +kernel
theorem dX12_signature_7 : decode cX12_signature 7 = .ok (.invokevirtual 113, 3) := by decide +kernel
theorem dX12_signature_10 : decode cX12_signature 10 = .ok (.ldc2_w 226, 3) := by decide +kernel
theorem dX12_signature_13 : decode cX12_signature 13 = .ok (.lmul, 1) := by decide +kernel
theorem dX12_signature_14 : decode cX12_signature 14 = .ok (.lstore_n 1, 1) := by decide +kernel
theorem dX12_signature_15 : decode cX12_signature 15 = .ok (.iconst 0, 1) := by decide +kernel
theorem dX12_signature_16 : decode cX12_signature 16 = .ok (.istore_n 3, 1) := by decide +kernel
theorem dX12_signature_17 : decode cX12_signature 17 = .ok (.iload_n 3, 1) := by decide +kernel
theorem dX12_signature_18 : decode cX12_signature 18 = .ok (.aload_n 0, 1) := by decide +kernel
theorem dX12_signature_19 : decode cX12_signature 19 = .ok (.getfield 16, 3) := by decide +kernel
theorem dX12_signature_22 : decode cX12_signature 22 = .ok (.bipush 6, 2) := by decide +kernel
theorem dX12_signature_24 : decode cX12_signature 24 = .ok (.iaload, 1) := by decide +kernel
theorem dX12_signature_25 : decode cX12_signature 25 = .ok (.if_icmp .ge 23, 3) := by decide +kernel
theorem dX12_signature_28 : decode cX12_signature 28 = .ok (.lload_n 1, 1) := by decide +kernel
theorem dX12_signature_29 : decode cX12_signature 29 = .ok (.lconst 1, 1) := by decide +kernel
theorem dX12_signature_30 : decode cX12_signature 30 = .ok (.aload_n 0, 1) := by decide +kernel
theorem dX12_signature_31 : decode cX12_signature 31 = .ok (.iload_n 3, 1) := by decide +kernel
theorem dX12_signature_32 : decode cX12_signature 32 = .ok (.invokevirtual 74, 3) := by decide +kernel
theorem dX12_signature_35 : decode cX12_signature 35 = .ok (.lshl, 1) := by decide +kernel
theorem dX12_signature_36 : decode cX12_signature 36 = .ok (.lxor, 1) := by decide +kernel
theorem dX12_signature_37 : decode cX12_signature 37 = .ok (.ldc2_w 226, 3) := by decide +kernel
theorem dX12_signature_40 : decode cX12_signature 40 = .ok (.lmul, 1) := by decide +kernel
theorem dX12_signature_41 : decode cX12_signature 41 = .ok (.lstore_n 1, 1) := by decide +kernel
theorem dX12_signature_42 : decode cX12_signature 42 = .ok (.iinc 3 1, 3) := by decide +kernel
theorem dX12_signature_45 : decode cX12_signature 45 = .ok (.goto (-28), 3) := by decide +kernel
theorem dX12_signature_48 : decode cX12_signature 48 = .ok (.lload_n 1, 1) := by decide +kernel
theorem dX12_signature_49 : decode cX12_signature 49 = .ok (.lreturn, 1) := by decide +kernel
theorem dX12_append_0 : decode cX12_append 0 = .ok (.aload_n 0, 1) := by decide +kernel
theorem dX12_append_1 : decode cX12_append 1 = .ok (.iload_n 1, 1) := by decide +kernel
theorem dX12_append_2 : decode cX12_append 2 = .ok (.bipush 32, 2) := by decide +kernel
theorem dX12_append_4 : decode cX12_append 4 = .ok (.bipush 126, 2) := by decide +kernel
theorem dX12_append_6 : decode cX12_append 6 = .ok (.invokestatic 70, 3) := by decide +kernel
theorem dX12_append_9 : decode cX12_append 9 = .ok (.ifCond .ne 7, 3) := by decide +kernel
theorem dX12_append_12 : decode cX12_append 12 = .ok (.iconst 1, 1) := by decide +kernel
theorem dX12_append_13 : decode cX12_append 13 = .ok (.goto 17, 3) := by decide +kernel
theorem dX12_append_16 : decode cX12_append 16 = .ok (.aload_n 0, 1) := by decide +kernel
theorem dX12_append_17 : decode cX12_append 17 = .ok (.getfield 228, 3) := by decide +kernel
theorem dX12_append_20 : decode cX12_append 20 = .ok (.bipush 60, 2) := by decide +kernel
theorem dX12_append_22 : decode cX12_append 22 = .ok (.if_icmp .ne 7, 3) := by decide +kernel
theorem dX12_append_25 : decode cX12_append 25 = .ok (.iconst 2, 1) := by decide +kernel
theorem dX12_append_26 : decode cX12_append 26 = .ok (.goto 4, 3) := by decide +kernel
theorem dX12_append_29 : decode cX12_append 29 = .ok (.iconst 0, 1) := by decide +kernel
theorem dX12_append_30 : decode cX12_append 30 = .ok (.putfield 50, 3) := by decide +kernel
theorem dX12_append_33 : decode cX12_append 33 = .ok (.aload_n 0, 1) := by decide +kernel
theorem dX12_append_34 : decode cX12_append 34 = .ok (.getfield 50, 3) := by decide +kernel
theorem dX12_append_37 : decode cX12_append 37 = .ok (.ifCond .eq 5, 3) := by decide +kernel
theorem dX12_append_40 : decode cX12_append 40 = .ok (.iconst 0, 1) := by decide +kernel
theorem dX12_append_41 : decode cX12_append 41 = .ok (.ireturn, 1) := by decide +kernel
theorem dX12_append_42 : decode cX12_append 42 = .ok (.aload_n 0, 1) := by decide +kernel
theorem dX12_append_43 : decode cX12_append 43 = .ok (.getfield 35, 3) := by decide +kernel
theorem dX12_append_46 : decode cX12_append 46 = .ok (.aload_n 0, 1) := by decide +kernel
theorem dX12_append_47 : decode cX12_append 47 = .ok (.getfield 228, 3) := by decide +kernel
theorem dX12_append_50 : decode cX12_append 50 = .ok (.iload_n 1, 1) := by decide +kernel
theorem dX12_append_51 : decode cX12_append 51 = .ok (.iastore, 1) := by decide +kernel
theorem dX12_append_52 : decode cX12_append 52 = .ok (.aload_n 0, 1) := by decide +kernel
theorem dX12_append_53 : decode cX12_append 53 = .ok (.dup, 1) := by decide +kernel
theorem dX12_append_54 : decode cX12_append 54 = .ok (.getfield 228, 3) := by decide +kernel
theorem dX12_append_57 : decode cX12_append 57 = .ok (.iconst 1, 1) := by decide +kernel
theorem dX12_append_58 : decode cX12_append 58 = .ok (.iadd, 1) := by decide +kernel
theorem dX12_append_59 : decode cX12_append 59 = .ok (.putfield 228, 3) := by decide +kernel
theorem dX12_append_62 : decode cX12_append 62 = .ok (.aload_n 0, 1) := by decide +kernel
theorem dX12_append_63 : decode cX12_append 63 = .ok (.getfield 228, 3) := by decide +kernel
theorem dX12_append_66 : decode cX12_append 66 = .ok (.ireturn, 1) := by decide +kernel
theorem dX12_sign_0 : decode cX12_sign 0 = .ok (.aload_n 0, 1) := by decide +kernel
theorem dX12_sign_1 : decode cX12_sign 1 = .ok (.getfield 231, 3) := by decide +kernel
theorem dX12_sign_4 : decode cX12_sign 4 = .ok (.aload_n 0, 1) := by decide +kernel
theorem dX12_sign_5 : decode cX12_sign 5 = .ok (.getfield 234, 3) := by decide +kernel
theorem dX12_sign_8 : decode cX12_sign 8 = .ok (.if_icmp .ge 15, 3) := by decide +kernel
theorem dX12_sign_11 : decode cX12_sign 11 = .ok (.aload_n 0, 1) := by decide +kernel
theorem dX12_sign_12 : decode cX12_sign 12 = .ok (.getfield 35, 3) := by decide +kernel
theorem dX12_sign_15 : decode cX12_sign 15 = .ok (.aload_n 0, 1) := by decide +kernel
theorem dX12_sign_16 : decode cX12_sign 16 = .ok (.getfield 231, 3) := by decide +kernel
theorem dX12_sign_19 : decode cX12_sign 19 = .ok (.iaload, 1) := by decide +kernel
theorem dX12_sign_20 : decode cX12_sign 20 = .ok (.goto 4, 3) := by decide +kernel
theorem dX12_sign_23 : decode cX12_sign 23 = .ok (.iconst (-1), 1) := by decide +kernel
theorem dX12_sign_24 : decode cX12_sign 24 = .ok (.ireturn, 1) := by decide +kernel
theorem dX12_expects_0 : decode cX12_expects 0 = .ok (.aload_n 0, 1) := by decide +kernel
theorem dX12_expects_1 : decode cX12_expects 1 = .ok (.getfield 237, 3) := by decide +kernel
theorem dX12_expects_4 : decode cX12_expects 4 = .ok (.ifCond .eq 4, 3) := by decide +kernel
theorem dX12_expects_7 : decode cX12_expects 7 = .ok (.return_, 1) := by decide +kernel
theorem dX12_expects_8 : decode cX12_expects 8 = .ok (.aload_n 0, 1) := by decide +kernel
theorem dX12_expects_9 : decode cX12_expects 9 = .ok (.aload_n 0, 1) := by decide +kernel
theorem dX12_expects_10 : decode cX12_expects 10 = .ok (.invokevirtual 240, 3) := by decide +kernel
theorem dX12_expects_13 : decode cX12_expects 13 = .ok (.iload_n 1, 1) := by decide +kernel
theorem dX12_expects_14 : decode cX12_expects 14 = .ok (.if_icmp .eq 7, 3) := by decide +kernel
theorem dX12_expects_17 : decode cX12_expects 17 = .ok (.iconst 1, 1) := by decide +kernel
theorem dX12_expects_18 : decode cX12_expects 18 = .ok (.goto 4, 3) := by decide +kernel
theorem dX12_expects_21 : decode cX12_expects 21 = .ok (.iconst 0, 1) := by decide +kernel
theorem dX12_expects_22 : decode cX12_expects 22 = .ok (.putfield 237, 3) := by decide +kernel
theorem dX12_expects_25 : decode cX12_expects 25 = .ok (.aload_n 0, 1) := by decide +kernel
theorem dX12_expects_26 : decode cX12_expects 26 = .ok (.dup, 1) := by decide +kernel
theorem dX12_expects_27 : decode cX12_expects 27 = .ok (.getfield 231, 3) := by decide +kernel
theorem dX12_expects_30 : decode cX12_expects 30 = .ok (.aload_n 0, 1) := by decide +kernel
theorem dX12_expects_31 : decode cX12_expects 31 = .ok (.getfield 237, 3) := by decide +kernel
theorem dX12_expects_34 : decode cX12_expects 34 = .ok (.ifCond .eq 7, 3) := by decide +kernel
theorem dX12_expects_37 : decode cX12_expects 37 = .ok (.iconst 0, 1) := by decide +kernel
theorem dX12_expects_38 : decode cX12_expects 38 = .ok (.goto 4, 3) := by decide +kernel
theorem dX12_expects_41 : decode cX12_expects 41 = .ok (.iconst 1, 1) := by decide +kernel
theorem dX12_expects_42 : decode cX12_expects 42 = .ok (.iadd, 1) := by decide +kernel
theorem dX12_expects_43 : decode cX12_expects 43 = .ok (.putfield 231, 3) := by decide +kernel
theorem dX12_expects_46 : decode cX12_expects 46 = .ok (.return_, 1) := by decide +kernel
theorem dX12_digits_0 : decode cX12_digits 0 = .ok (.iconst 0, 1) := by decide +kernel
theorem dX12_digits_1 : decode cX12_digits 1 = .ok (.istore_n 2, 1) := by decide +kernel
theorem dX12_digits_2 : decode cX12_digits 2 = .ok (.iconst 0, 1) := by decide +kernel
theorem dX12_digits_3 : decode cX12_digits 3 = .ok (.istore_n 3, 1) := by decide +kernel
theorem dX12_digits_4 : decode cX12_digits 4 = .ok (.aload_n 0, 1) := by decide +kernel
theorem dX12_digits_5 : decode cX12_digits 5 = .ok (.getfield 237, 3) := by decide +kernel
theorem dX12_digits_8 : decode cX12_digits 8 = .ok (.ifCond .ne 51, 3) := by decide +kernel
theorem dX12_digits_11 : decode cX12_digits 11 = .ok (.iload_n 3, 1) := by decide +kernel
theorem dX12_digits_12 : decode cX12_digits 12 = .ok (.iload_n 1, 1) := by decide +kernel
theorem dX12_digits_13 : decode cX12_digits 13 = .ok (.if_icmp .ge 46, 3) := by decide +kernel
theorem dX12_digits_16 : decode cX12_digits 16 = .ok (.aload_n 0, 1) := by decide +kernel
theorem dX12_digits_17 : decode cX12_digits 17 = .ok (.invokevirtual 240, 3) := by decide +kernel
theorem dX12_digits_20 : decode cX12_digits 20 = .ok (.bipush 48, 2) := by decide +kernel
theorem dX12_digits_22 : decode cX12_digits 22 = .ok (.bipush 57, 2) := by decide +kernel
theorem dX12_digits_24 : decode cX12_digits 24 = .ok (.invokestatic 70, 3) := by decide +kernel
theorem dX12_digits_27 : decode cX12_digits 27 = .ok (.ifCond .eq 32, 3) := by decide +kernel
theorem dX12_digits_30 : decode cX12_digits 30 = .ok (.bipush 10, 2) := by decide +kernel
theorem dX12_digits_32 : decode cX12_digits 32 = .ok (.iload_n 2, 1) := by decide +kernel
theorem dX12_digits_33 : decode cX12_digits 33 = .ok (.imul, 1) := by decide +kernel
theorem dX12_digits_34 : decode cX12_digits 34 = .ok (.aload_n 0, 1) := by decide +kernel
theorem dX12_digits_35 : decode cX12_digits 35 = .ok (.invokevirtual 240, 3) := by decide +kernel
theorem dX12_digits_38 : decode cX12_digits 38 = .ok (.iadd, 1) := by decide +kernel
theorem dX12_digits_39 : decode cX12_digits 39 = .ok (.bipush 48, 2) := by decide +kernel
theorem dX12_digits_41 : decode cX12_digits 41 = .ok (.isub, 1) := by decide +kernel
theorem dX12_digits_42 : decode cX12_digits 42 = .ok (.istore_n 2, 1) := by decide +kernel
theorem dX12_digits_43 : decode cX12_digits 43 = .ok (.aload_n 0, 1) := by decide +kernel
theorem dX12_digits_44 : decode cX12_digits 44 = .ok (.dup, 1) := by decide +kernel
theorem dX12_digits_45 : decode cX12_digits 45 = .ok (.getfield 231, 3) := by decide +kernel
theorem dX12_digits_48 : decode cX12_digits 48 = .ok (.iconst 1, 1) := by decide +kernel
theorem dX12_digits_49 : decode cX12_digits 49 = .ok (.iadd, 1) := by decide +kernel
theorem dX12_digits_50 : decode cX12_digits 50 = .ok (.putfield 231, 3) := by decide +kernel
theorem dX12_digits_53 : decode cX12_digits 53 = .ok (.iinc 3 1, 3) := by decide +kernel
theorem dX12_digits_56 : decode cX12_digits 56 = .ok (.goto (-52), 3) := by decide +kernel
theorem dX12_digits_59 : decode cX12_digits 59 = .ok (.aload_n 0, 1) := by decide +kernel
theorem dX12_digits_60 : decode cX12_digits 60 = .ok (.dup, 1) := by decide +kernel
theorem dX12_digits_61 : decode cX12_digits 61 = .ok (.getfield 237, 3) := by decide +kernel
theorem dX12_digits_64 : decode cX12_digits 64 = .ok (.iload_n 3, 1) := by decide +kernel
theorem dX12_digits_65 : decode cX12_digits 65 = .ok (.ifCond .ne 7, 3) := by decide +kernel
theorem dX12_digits_68 : decode cX12_digits 68 = .ok (.iconst 1, 1) := by decide +kernel
theorem dX12_digits_69 : decode cX12_digits 69 = .ok (.goto 4, 3) := by decide +kernel
theorem dX12_digits_72 : decode cX12_digits 72 = .ok (.iconst 0, 1) := by decide +kernel
theorem dX12_digits_73 : decode cX12_digits 73 = .ok (.ior, 1) := by decide +kernel
theorem dX12_digits_74 : decode cX12_digits 74 = .ok (.putfield 237, 3) := by decide +kernel
theorem dX12_digits_77 : decode cX12_digits 77 = .ok (.iload_n 2, 1) := by decide +kernel
theorem dX12_digits_78 : decode cX12_digits 78 = .ok (.ireturn, 1) := by decide +kernel
theorem dX12_behind_0 : decode cX12_behind 0 = .ok (.aload_n 0, 1) := by decide +kernel
theorem dX12_behind_1 : decode cX12_behind 1 = .ok (.iload_n 1, 1) := by decide +kernel
theorem dX12_behind_2 : decode cX12_behind 2 = .ok (.invokevirtual 243, 3) := by decide +kernel
theorem dX12_behind_5 : decode cX12_behind 5 = .ok (.aload_n 0, 1) := by decide +kernel
theorem dX12_behind_6 : decode cX12_behind 6 = .ok (.getfield 237, 3) := by decide +kernel
theorem dX12_behind_9 : decode cX12_behind 9 = .ok (.ifCond .eq 7, 3) := by decide +kernel
theorem dX12_behind_12 : decode cX12_behind 12 = .ok (.iconst 0, 1) := by decide +kernel
theorem dX12_behind_13 : decode cX12_behind 13 = .ok (.goto 8, 3) := by decide +kernel
theorem dX12_behind_16 : decode cX12_behind 16 = .ok (.aload_n 0, 1) := by decide +kernel
theorem dX12_behind_17 : decode cX12_behind 17 = .ok (.iload_n 2, 1) := by decide +kernel
theorem dX12_behind_18 : decode cX12_behind 18 = .ok (.invokevirtual 246, 3) := by decide +kernel
theorem dX12_behind_21 : decode cX12_behind 21 = .ok (.ireturn, 1) := by decide +kernel
theorem dX12_word_0 : decode cX12_word 0 = .ok (.iconst 0, 1) := by decide +kernel
theorem dX12_word_1 : decode cX12_word 1 = .ok (.istore_n 1, 1) := by decide +kernel
theorem dX12_word_2 : decode cX12_word 2 = .ok (.iload_n 1, 1) := by decide +kernel
theorem dX12_word_3 : decode cX12_word 3 = .ok (.bipush 10, 2) := by decide +kernel
theorem dX12_word_5 : decode cX12_word 5 = .ok (.if_icmp .ge 16, 3) := by decide +kernel
theorem dX12_word_8 : decode cX12_word 8 = .ok (.aload_n 0, 1) := by decide +kernel
theorem dX12_word_9 : decode cX12_word 9 = .ok (.getfield 41, 3) := by decide +kernel
theorem dX12_word_12 : decode cX12_word 12 = .ok (.iload_n 1, 1) := by decide +kernel
theorem dX12_word_13 : decode cX12_word 13 = .ok (.iconst 1, 1) := by decide +kernel
theorem dX12_word_14 : decode cX12_word 14 = .ok (.iastore, 1) := by decide +kernel
theorem dX12_word_15 : decode cX12_word 15 = .ok (.iinc 1 1, 3) := by decide +kernel
theorem dX12_word_18 : decode cX12_word 18 = .ok (.goto (-16), 3) := by decide +kernel
theorem dX12_word_21 : decode cX12_word 21 = .ok (.iconst 0, 1) := by decide +kernel
theorem dX12_word_22 : decode cX12_word 22 = .ok (.istore_n 1, 1) := by decide +kernel
theorem dX12_word_23 : decode cX12_word 23 = .ok (.iconst (-1), 1) := by decide +kernel
theorem dX12_word_24 : decode cX12_word 24 = .ok (.istore_n 2, 1) := by decide +kernel
theorem dX12_word_25 : decode cX12_word 25 = .ok (.iload_n 2, 1) := by decide +kernel
theorem dX12_word_26 : decode cX12_word 26 = .ok (.ifCond .ge 196, 3) := by decide +kernel
theorem dX12_word_29 : decode cX12_word 29 = .ok (.aload_n 0, 1) := by decide +kernel
theorem dX12_word_30 : decode cX12_word 30 = .ok (.getfield 237, 3) := by decide +kernel
theorem dX12_word_33 : decode cX12_word 33 = .ok (.ifCond .ne 189, 3) := by decide +kernel
theorem dX12_word_36 : decode cX12_word 36 = .ok (.iconst 0, 1) := by decide +kernel
theorem dX12_word_37 : decode cX12_word 37 = .ok (.istore_n 3, 1) := by decide +kernel
theorem dX12_word_38 : decode cX12_word 38 = .ok (.iconst 0, 1) := by decide +kernel
theorem dX12_word_39 : decode cX12_word 39 = .ok (.istore 4, 2) := by decide +kernel
theorem dX12_word_41 : decode cX12_word 41 = .ok (.iload 4, 2) := by decide +kernel
theorem dX12_word_43 : decode cX12_word 43 = .ok (.bipush 10, 2) := by decide +kernel
theorem dX12_word_45 : decode cX12_word 45 = .ok (.if_icmp .ge 85, 3) := by decide +kernel
theorem dX12_word_48 : decode cX12_word 48 = .ok (.aload_n 0, 1) := by decide +kernel
theorem dX12_word_49 : decode cX12_word 49 = .ok (.getfield 41, 3) := by decide +kernel
theorem dX12_word_52 : decode cX12_word 52 = .ok (.iload 4, 2) := by decide +kernel
theorem dX12_word_54 : decode cX12_word 54 = .ok (.dup2, 1) := by decide +kernel
theorem dX12_word_55 : decode cX12_word 55 = .ok (.iaload, 1) := by decide +kernel
theorem dX12_word_56 : decode cX12_word 56 = .ok (.aload_n 0, 1) := by decide +kernel
theorem dX12_word_57 : decode cX12_word 57 = .ok (.getfield 47, 3) := by decide +kernel
theorem dX12_word_60 : decode cX12_word 60 = .ok (.iload 4, 2) := by decide +kernel
theorem dX12_word_62 : decode cX12_word 62 = .ok (.iaload, 1) := by decide +kernel
theorem dX12_word_63 : decode cX12_word 63 = .ok (.iload_n 1, 1) := by decide +kernel
theorem dX12_word_64 : decode cX12_word 64 = .ok (.iadd, 1) := by decide +kernel
theorem dX12_word_65 : decode cX12_word 65 = .ok (.aload_n 0, 1) := by decide +kernel
theorem dX12_word_66 : decode cX12_word 66 = .ok (.getfield 47, 3) := by decide +kernel
theorem dX12_word_69 : decode cX12_word 69 = .ok (.iload 4, 2) := by decide +kernel
theorem dX12_word_71 : decode cX12_word 71 = .ok (.iconst 1, 1) := by decide +kernel
theorem dX12_word_72 : decode cX12_word 72 = .ok (.iadd, 1) := by decide +kernel
theorem dX12_word_73 : decode cX12_word 73 = .ok (.iaload, 1) := by decide +kernel
theorem dX12_word_74 : decode cX12_word 74 = .ok (.if_icmp .ge 28, 3) := by decide +kernel
theorem dX12_word_77 : decode cX12_word 77 = .ok (.aload_n 0, 1) := by decide +kernel
theorem dX12_word_78 : decode cX12_word 78 = .ok (.getfield 44, 3) := by decide +kernel
theorem dX12_word_81 : decode cX12_word 81 = .ok (.aload_n 0, 1) := by decide +kernel
theorem dX12_word_82 : decode cX12_word 82 = .ok (.getfield 47, 3) := by decide +kernel
theorem dX12_word_85 : decode cX12_word 85 = .ok (.iload 4, 2) := by decide +kernel
theorem dX12_word_87 : decode cX12_word 87 = .ok (.iaload, 1) := by decide +kernel
theorem dX12_word_88 : decode cX12_word 88 = .ok (.iload_n 1, 1) := by decide +kernel
theorem dX12_word_89 : decode cX12_word 89 = .ok (.iadd, 1) := by decide +kernel
theorem dX12_word_90 : decode cX12_word 90 = .ok (.iaload, 1) := by decide +kernel
theorem dX12_word_91 : decode cX12_word 91 = .ok (.aload_n 0, 1) := by decide +kernel
theorem dX12_word_92 : decode cX12_word 92 = .ok (.invokevirtual 240, 3) := by decide +kernel
theorem dX12_word_95 : decode cX12_word 95 = .ok (.if_icmp .ne 7, 3) := by decide +kernel
theorem dX12_word_98 : decode cX12_word 98 = .ok (.iconst 1, 1) := by decide +kernel
theorem dX12_word_99 : decode cX12_word 99 = .ok (.goto 4, 3) := by decide +kernel
theorem dX12_word_102 : decode cX12_word 102 = .ok (.iconst 0, 1) := by decide +kernel
theorem dX12_word_103 : decode cX12_word 103 = .ok (.iand, 1) := by decide +kernel
theorem dX12_word_104 : decode cX12_word 104 = .ok (.iastore, 1) := by decide +kernel
theorem dX12_word_105 : decode cX12_word 105 = .ok (.iload_n 3, 1) := by decide +kernel
theorem dX12_word_106 : decode cX12_word 106 = .ok (.aload_n 0, 1) := by decide +kernel
theorem dX12_word_107 : decode cX12_word 107 = .ok (.getfield 41, 3) := by decide +kernel
theorem dX12_word_110 : decode cX12_word 110 = .ok (.iload 4, 2) := by decide +kernel
theorem dX12_word_112 : decode cX12_word 112 = .ok (.iaload, 1) := by decide +kernel
theorem dX12_word_113 : decode cX12_word 113 = .ok (.iconst 1, 1) := by decide +kernel
theorem dX12_word_114 : decode cX12_word 114 = .ok (.if_icmp .ne 7, 3) := by decide +kernel
theorem dX12_word_117 : decode cX12_word 117 = .ok (.iconst 1, 1) := by decide +kernel
theorem dX12_word_118 : decode cX12_word 118 = .ok (.goto 4, 3) := by decide +kernel
theorem dX12_word_121 : decode cX12_word 121 = .ok (.iconst 0, 1) := by decide +kernel
theorem dX12_word_122 : decode cX12_word 122 = .ok (.ior, 1) := by decide +kernel
theorem dX12_word_123 : decode cX12_word 123 = .ok (.istore_n 3, 1) := by decide +kernel
theorem dX12_word_124 : decode cX12_word 124 = .ok (.iinc 4 1, 3) := by decide +kernel
theorem dX12_word_127 : decode cX12_word 127 = .ok (.goto (-86), 3) := by decide +kernel
theorem dX12_word_130 : decode cX12_word 130 = .ok (.aload_n 0, 1) := by decide +kernel
theorem dX12_word_131 : decode cX12_word 131 = .ok (.iload_n 3, 1) := by decide +kernel
theorem dX12_word_132 : decode cX12_word 132 = .ok (.ifCond .ne 7, 3) := by decide +kernel
theorem dX12_word_135 : decode cX12_word 135 = .ok (.iconst 1, 1) := by decide +kernel
theorem dX12_word_136 : decode cX12_word 136 = .ok (.goto 4, 3) := by decide +kernel
theorem dX12_word_139 : decode cX12_word 139 = .ok (.iconst 0, 1) := by decide +kernel
theorem dX12_word_140 : decode cX12_word 140 = .ok (.putfield 237, 3) := by decide +kernel
theorem dX12_word_143 : decode cX12_word 143 = .ok (.aload_n 0, 1) := by decide +kernel
theorem dX12_word_144 : decode cX12_word 144 = .ok (.dup, 1) := by decide +kernel
theorem dX12_word_145 : decode cX12_word 145 = .ok (.getfield 231, 3) := by decide +kernel
theorem dX12_word_148 : decode cX12_word 148 = .ok (.iload_n 3, 1) := by decide +kernel
theorem dX12_word_149 : decode cX12_word 149 = .ok (.ifCond .eq 7, 3) := by decide +kernel
theorem dX12_word_152 : decode cX12_word 152 = .ok (.iconst 1, 1) := by decide +kernel
theorem dX12_word_153 : decode cX12_word 153 = .ok (.goto 4, 3) := by decide +kernel
theorem dX12_word_156 : decode cX12_word 156 = .ok (.iconst 0, 1) := by decide +kernel
theorem dX12_word_157 : decode cX12_word 157 = .ok (.iadd, 1) := by decide +kernel
theorem dX12_word_158 : decode cX12_word 158 = .ok (.putfield 231, 3) := by decide +kernel
theorem dX12_word_161 : decode cX12_word 161 = .ok (.iinc 1 1, 3) := by decide +kernel
theorem dX12_word_164 : decode cX12_word 164 = .ok (.iconst 0, 1) := by decide +kernel
theorem dX12_word_165 : decode cX12_word 165 = .ok (.istore 4, 2) := by decide +kernel
theorem dX12_word_167 : decode cX12_word 167 = .ok (.iload 4, 2) := by decide +kernel
theorem dX12_word_169 : decode cX12_word 169 = .ok (.bipush 10, 2) := by decide +kernel
theorem dX12_word_171 : decode cX12_word 171 = .ok (.if_icmp .ge 48, 3) := by decide +kernel
theorem dX12_word_174 : decode cX12_word 174 = .ok (.aload_n 0, 1) := by decide +kernel
theorem dX12_word_175 : decode cX12_word 175 = .ok (.getfield 41, 3) := by decide +kernel
theorem dX12_word_178 : decode cX12_word 178 = .ok (.iload 4, 2) := by decide +kernel
theorem dX12_word_180 : decode cX12_word 180 = .ok (.iaload, 1) := by decide +kernel
theorem dX12_word_181 : decode cX12_word 181 = .ok (.iconst 1, 1) := by decide +kernel
theorem dX12_word_182 : decode cX12_word 182 = .ok (.if_icmp .ne 29, 3) := by decide +kernel
theorem dX12_word_185 : decode cX12_word 185 = .ok (.aload_n 0, 1) := by decide +kernel
theorem dX12_word_186 : decode cX12_word 186 = .ok (.getfield 47, 3) := by decide +kernel
theorem dX12_word_189 : decode cX12_word 189 = .ok (.iload 4, 2) := by decide +kernel
theorem dX12_word_191 : decode cX12_word 191 = .ok (.iaload, 1) := by decide +kernel
theorem dX12_word_192 : decode cX12_word 192 = .ok (.iload_n 1, 1) := by decide +kernel
theorem dX12_word_193 : decode cX12_word 193 = .ok (.iadd, 1) := by decide +kernel
theorem dX12_word_194 : decode cX12_word 194 = .ok (.aload_n 0, 1) := by decide +kernel
theorem dX12_word_195 : decode cX12_word 195 = .ok (.getfield 47, 3) := by decide +kernel
theorem dX12_word_198 : decode cX12_word 198 = .ok (.iload 4, 2) := by decide +kernel
theorem dX12_word_200 : decode cX12_word 200 = .ok (.iconst 1, 1) := by decide +kernel
theorem dX12_word_201 : decode cX12_word 201 = .ok (.iadd, 1) := by decide +kernel
theorem dX12_word_202 : decode cX12_word 202 = .ok (.iaload, 1) := by decide +kernel
theorem dX12_word_203 : decode cX12_word 203 = .ok (.if_icmp .ne 8, 3) := by decide +kernel
theorem dX12_word_206 : decode cX12_word 206 = .ok (.iload 4, 2) := by decide +kernel
theorem dX12_word_208 : decode cX12_word 208 = .ok (.goto 4, 3) := by decide +kernel
theorem dX12_word_211 : decode cX12_word 211 = .ok (.iload_n 2, 1) := by decide +kernel
theorem dX12_word_212 : decode cX12_word 212 = .ok (.istore_n 2, 1) := by decide +kernel
theorem dX12_word_213 : decode cX12_word 213 = .ok (.iinc 4 1, 3) := by decide +kernel
theorem dX12_word_216 : decode cX12_word 216 = .ok (.goto (-49), 3) := by decide +kernel
theorem dX12_word_219 : decode cX12_word 219 = .ok (.goto (-194), 3) := by decide +kernel
theorem dX12_word_222 : decode cX12_word 222 = .ok (.iload_n 2, 1) := by decide +kernel
theorem dX12_word_223 : decode cX12_word 223 = .ok (.ireturn, 1) := by decide +kernel
theorem dX12_does_0 : decode cX12_does 0 = .ok (.iload_n 1, 1) := by decide +kernel
theorem dX12_does_1 : decode cX12_does 1 = .ok (.tableswitch 116 0 8 #[51, 59, 67, 74, 81, 90, 97, 104, 110], 51) := by decide +kernel
theorem dX12_does_52 : decode cX12_does 52 = .ok (.aload_n 0, 1) := by decide +kernel
theorem dX12_does_53 : decode cX12_does 53 = .ok (.iload_n 2, 1) := by decide +kernel
theorem dX12_does_54 : decode cX12_does 54 = .ok (.iload_n 3, 1) := by decide +kernel
theorem dX12_does_55 : decode cX12_does 55 = .ok (.iconst 1, 1) := by decide +kernel
theorem dX12_does_56 : decode cX12_does 56 = .ok (.invokevirtual 99, 3) := by decide +kernel
theorem dX12_does_59 : decode cX12_does 59 = .ok (.ireturn, 1) := by decide +kernel
theorem dX12_does_60 : decode cX12_does 60 = .ok (.aload_n 0, 1) := by decide +kernel
theorem dX12_does_61 : decode cX12_does 61 = .ok (.iload_n 2, 1) := by decide +kernel
theorem dX12_does_62 : decode cX12_does 62 = .ok (.iload_n 3, 1) := by decide +kernel
theorem dX12_does_63 : decode cX12_does 63 = .ok (.iconst 0, 1) := by decide +kernel
theorem dX12_does_64 : decode cX12_does 64 = .ok (.invokevirtual 99, 3) := by decide +kernel
theorem dX12_does_67 : decode cX12_does 67 = .ok (.ireturn, 1) := by decide +kernel
theorem dX12_does_68 : decode cX12_does 68 = .ok (.aload_n 0, 1) := by decide +kernel
theorem dX12_does_69 : decode cX12_does 69 = .ok (.iload_n 2, 1) := by decide +kernel
theorem dX12_does_70 : decode cX12_does 70 = .ok (.iload_n 3, 1) := by decide +kernel
theorem dX12_does_71 : decode cX12_does 71 = .ok (.invokevirtual 110, 3) := by decide +kernel
theorem dX12_does_74 : decode cX12_does 74 = .ok (.ireturn, 1) := by decide +kernel
theorem dX12_does_75 : decode cX12_does 75 = .ok (.aload_n 0, 1) := by decide +kernel
theorem dX12_does_76 : decode cX12_does 76 = .ok (.iload_n 2, 1) := by decide +kernel
theorem dX12_does_77 : decode cX12_does 77 = .ok (.iload_n 3, 1) := by decide +kernel
theorem dX12_does_78 : decode cX12_does 78 = .ok (.invokevirtual 137, 3) := by decide +kernel
theorem dX12_does_81 : decode cX12_does 81 = .ok (.ireturn, 1) := by decide +kernel
theorem dX12_does_82 : decode cX12_does 82 = .ok (.aload_n 0, 1) := by decide +kernel
theorem dX12_does_83 : decode cX12_does 83 = .ok (.iload_n 2, 1) := by decide +kernel
theorem dX12_does_84 : decode cX12_does 84 = .ok (.iload_n 3, 1) := by decide +kernel
theorem dX12_does_85 : decode cX12_does 85 = .ok (.iload 4, 2) := by decide +kernel
theorem dX12_does_87 : decode cX12_does 87 = .ok (.invokevirtual 143, 3) := by decide +kernel
theorem dX12_does_90 : decode cX12_does 90 = .ok (.ireturn, 1) := by decide +kernel
theorem dX12_does_91 : decode cX12_does 91 = .ok (.aload_n 0, 1) := by decide +kernel
theorem dX12_does_92 : decode cX12_does 92 = .ok (.iload_n 2, 1) := by decide +kernel
theorem dX12_does_93 : decode cX12_does 93 = .ok (.iload_n 3, 1) := by decide +kernel
theorem dX12_does_94 : decode cX12_does 94 = .ok (.invokevirtual 128, 3) := by decide +kernel
theorem dX12_does_97 : decode cX12_does 97 = .ok (.ireturn, 1) := by decide +kernel
theorem dX12_does_98 : decode cX12_does 98 = .ok (.aload_n 0, 1) := by decide +kernel
theorem dX12_does_99 : decode cX12_does 99 = .ok (.iload_n 2, 1) := by decide +kernel
theorem dX12_does_100 : decode cX12_does 100 = .ok (.iload_n 3, 1) := by decide +kernel
theorem dX12_does_101 : decode cX12_does 101 = .ok (.invokevirtual 178, 3) := by decide +kernel
theorem dX12_does_104 : decode cX12_does 104 = .ok (.ireturn, 1) := by decide +kernel
theorem dX12_does_105 : decode cX12_does 105 = .ok (.aload_n 0, 1) := by decide +kernel
theorem dX12_does_106 : decode cX12_does 106 = .ok (.iload_n 2, 1) := by decide +kernel
theorem dX12_does_107 : decode cX12_does 107 = .ok (.invokevirtual 181, 3) := by decide +kernel
theorem dX12_does_110 : decode cX12_does 110 = .ok (.ireturn, 1) := by decide +kernel
theorem dX12_does_111 : decode cX12_does 111 = .ok (.aload_n 0, 1) := by decide +kernel
theorem dX12_does_112 : decode cX12_does 112 = .ok (.iload_n 2, 1) := by decide +kernel
theorem dX12_does_113 : decode cX12_does 113 = .ok (.invokevirtual 207, 3) := by decide +kernel
theorem dX12_does_116 : decode cX12_does 116 = .ok (.ireturn, 1) := by decide +kernel
theorem dX12_does_117 : decode cX12_does 117 = .ok (.aload_n 0, 1) := by decide +kernel
theorem dX12_does_118 : decode cX12_does 118 = .ok (.iload_n 2, 1) := by decide +kernel
theorem dX12_does_119 : decode cX12_does 119 = .ok (.invokevirtual 213, 3) := by decide +kernel
theorem dX12_does_122 : decode cX12_does 122 = .ok (.ireturn, 1) := by decide +kernel
theorem dX12_command_0 : decode cX12_command 0 = .ok (.aload_n 0, 1) := by decide +kernel
theorem dX12_command_1 : decode cX12_command 1 = .ok (.invokevirtual 249, 3) := by decide +kernel
theorem dX12_command_4 : decode cX12_command 4 = .ok (.istore_n 1, 1) := by decide +kernel
theorem dX12_command_5 : decode cX12_command 5 = .ok (.iconst 0, 1) := by decide +kernel
theorem dX12_command_6 : decode cX12_command 6 = .ok (.istore_n 2, 1) := by decide +kernel
theorem dX12_command_7 : decode cX12_command 7 = .ok (.iconst 0, 1) := by decide +kernel
theorem dX12_command_8 : decode cX12_command 8 = .ok (.istore_n 3, 1) := by decide +kernel
theorem dX12_command_9 : decode cX12_command 9 = .ok (.aload_n 0, 1) := by decide +kernel
theorem dX12_command_10 : decode cX12_command 10 = .ok (.getfield 237, 3) := by decide +kernel
theorem dX12_command_13 : decode cX12_command 13 = .ok (.ifCond .eq 4, 3) := by decide +kernel
theorem dX12_command_16 : decode cX12_command 16 = .ok (.return_, 1) := by decide +kernel
theorem dX12_command_17 : decode cX12_command 17 = .ok (.aload_n 0, 1) := by decide +kernel
theorem dX12_command_18 : decode cX12_command 18 = .ok (.iload_n 1, 1) := by decide +kernel
theorem dX12_command_19 : decode cX12_command 19 = .ok (.bipush 7, 2) := by decide +kernel
theorem dX12_command_21 : decode cX12_command 21 = .ok (.if_icmp .eq 9, 3) := by decide +kernel
theorem dX12_command_24 : decode cX12_command 24 = .ok (.iload_n 1, 1) := by decide +kernel
theorem dX12_command_25 : decode cX12_command 25 = .ok (.bipush 9, 2) := by decide +kernel
theorem dX12_command_27 : decode cX12_command 27 = .ok (.if_icmp .ne 7, 3) := by decide +kernel
theorem dX12_command_30 : decode cX12_command 30 = .ok (.iconst 2, 1) := by decide +kernel
theorem dX12_command_31 : decode cX12_command 31 = .ok (.goto 4, 3) := by decide +kernel
theorem dX12_command_34 : decode cX12_command 34 = .ok (.iconst 1, 1) := by decide +kernel
theorem dX12_command_35 : decode cX12_command 35 = .ok (.invokevirtual 246, 3) := by decide +kernel
theorem dX12_command_38 : decode cX12_command 38 = .ok (.istore 4, 2) := by decide +kernel
theorem dX12_command_40 : decode cX12_command 40 = .ok (.iload_n 1, 1) := by decide +kernel
theorem dX12_command_41 : decode cX12_command 41 = .ok (.iconst 4, 1) := by decide +kernel
theorem dX12_command_42 : decode cX12_command 42 = .ok (.if_icmp .lt 8, 3) := by decide +kernel
theorem dX12_command_45 : decode cX12_command 45 = .ok (.iload_n 1, 1) := by decide +kernel
theorem dX12_command_46 : decode cX12_command 46 = .ok (.iconst 5, 1) := by decide +kernel
theorem dX12_command_47 : decode cX12_command 47 = .ok (.if_icmp .ne 16, 3) := by decide +kernel
theorem dX12_command_50 : decode cX12_command 50 = .ok (.aload_n 0, 1) := by decide +kernel
theorem dX12_command_51 : decode cX12_command 51 = .ok (.getfield 237, 3) := by decide +kernel
theorem dX12_command_54 : decode cX12_command 54 = .ok (.ifCond .ne 9, 3) := by decide +kernel
theorem dX12_command_57 : decode cX12_command 57 = .ok (.aload_n 0, 1) := by decide +kernel
theorem dX12_command_58 : decode cX12_command 58 = .ok (.iconst 1, 1) := by decide +kernel
theorem dX12_command_59 : decode cX12_command 59 = .ok (.invokevirtual 246, 3) := by decide +kernel
theorem dX12_command_62 : decode cX12_command 62 = .ok (.istore_n 2, 1) := by decide +kernel
theorem dX12_command_63 : decode cX12_command 63 = .ok (.iload_n 1, 1) := by decide +kernel
theorem dX12_command_64 : decode cX12_command 64 = .ok (.iconst 4, 1) := by decide +kernel
theorem dX12_command_65 : decode cX12_command 65 = .ok (.if_icmp .ne 18, 3) := by decide +kernel
theorem dX12_command_68 : decode cX12_command 68 = .ok (.aload_n 0, 1) := by decide +kernel
theorem dX12_command_69 : decode cX12_command 69 = .ok (.getfield 237, 3) := by decide +kernel
theorem dX12_command_72 : decode cX12_command 72 = .ok (.ifCond .ne 11, 3) := by decide +kernel
theorem dX12_command_75 : decode cX12_command 75 = .ok (.aload_n 0, 1) := by decide +kernel
theorem dX12_command_76 : decode cX12_command 76 = .ok (.bipush 64, 2) := by decide +kernel
theorem dX12_command_78 : decode cX12_command 78 = .ok (.iconst 1, 1) := by decide +kernel
theorem dX12_command_79 : decode cX12_command 79 = .ok (.invokevirtual 252, 3) := by decide +kernel
theorem dX12_command_82 : decode cX12_command 82 = .ok (.istore_n 2, 1) := by decide +kernel
theorem dX12_command_83 : decode cX12_command 83 = .ok (.iload_n 1, 1) := by decide +kernel
theorem dX12_command_84 : decode cX12_command 84 = .ok (.iconst 4, 1) := by decide +kernel
theorem dX12_command_85 : decode cX12_command 85 = .ok (.if_icmp .ne 16, 3) := by decide +kernel
theorem dX12_command_88 : decode cX12_command 88 = .ok (.aload_n 0, 1) := by decide +kernel
theorem dX12_command_89 : decode cX12_command 89 = .ok (.getfield 237, 3) := by decide +kernel
theorem dX12_command_92 : decode cX12_command 92 = .ok (.ifCond .ne 9, 3) := by decide +kernel
theorem dX12_command_95 : decode cX12_command 95 = .ok (.aload_n 0, 1) := by decide +kernel
theorem dX12_command_96 : decode cX12_command 96 = .ok (.iconst 1, 1) := by decide +kernel
theorem dX12_command_97 : decode cX12_command 97 = .ok (.invokevirtual 246, 3) := by decide +kernel
theorem dX12_command_100 : decode cX12_command 100 = .ok (.istore_n 3, 1) := by decide +kernel
theorem dX12_command_101 : decode cX12_command 101 = .ok (.iload_n 1, 1) := by decide +kernel
theorem dX12_command_102 : decode cX12_command 102 = .ok (.bipush 6, 2) := by decide +kernel
theorem dX12_command_104 : decode cX12_command 104 = .ok (.if_icmp .ne 18, 3) := by decide +kernel
theorem dX12_command_107 : decode cX12_command 107 = .ok (.aload_n 0, 1) := by decide +kernel
theorem dX12_command_108 : decode cX12_command 108 = .ok (.getfield 237, 3) := by decide +kernel
theorem dX12_command_111 : decode cX12_command 111 = .ok (.ifCond .ne 11, 3) := by decide +kernel
theorem dX12_command_114 : decode cX12_command 114 = .ok (.aload_n 0, 1) := by decide +kernel
theorem dX12_command_115 : decode cX12_command 115 = .ok (.bipush 35, 2) := by decide +kernel
theorem dX12_command_117 : decode cX12_command 117 = .ok (.iconst 2, 1) := by decide +kernel
theorem dX12_command_118 : decode cX12_command 118 = .ok (.invokevirtual 252, 3) := by decide +kernel
theorem dX12_command_121 : decode cX12_command 121 = .ok (.istore_n 2, 1) := by decide +kernel
theorem dX12_command_122 : decode cX12_command 122 = .ok (.aload_n 0, 1) := by decide +kernel
theorem dX12_command_123 : decode cX12_command 123 = .ok (.getfield 237, 3) := by decide +kernel
theorem dX12_command_126 : decode cX12_command 126 = .ok (.ifCond .ne 10, 3) := by decide +kernel
theorem dX12_command_129 : decode cX12_command 129 = .ok (.aload_n 0, 1) := by decide +kernel
theorem dX12_command_130 : decode cX12_command 130 = .ok (.getfield 255, 3) := by decide +kernel
theorem dX12_command_133 : decode cX12_command 133 = .ok (.ifCond .ne 4, 3) := by decide +kernel
theorem dX12_command_136 : decode cX12_command 136 = .ok (.return_, 1) := by decide +kernel
theorem dX12_command_137 : decode cX12_command 137 = .ok (.aload_n 0, 1) := by decide +kernel
theorem dX12_command_138 : decode cX12_command 138 = .ok (.iload_n 1, 1) := by decide +kernel
theorem dX12_command_139 : decode cX12_command 139 = .ok (.iload 4, 2) := by decide +kernel
theorem dX12_command_141 : decode cX12_command 141 = .ok (.iload_n 2, 1) := by decide +kernel
theorem dX12_command_142 : decode cX12_command 142 = .ok (.iload_n 3, 1) := by decide +kernel
theorem dX12_command_143 : decode cX12_command 143 = .ok (.invokevirtual 258, 3) := by decide +kernel
theorem dX12_command_146 : decode cX12_command 146 = .ok (.istore 5, 2) := by decide +kernel
theorem dX12_command_148 : decode cX12_command 148 = .ok (.return_, 1) := by decide +kernel
theorem dX12_commands_0 : decode cX12_commands 0 = .ok (.aload_n 0, 1) := by decide +kernel
theorem dX12_commands_1 : decode cX12_commands 1 = .ok (.iconst 0, 1) := by decide +kernel
theorem dX12_commands_2 : decode cX12_commands 2 = .ok (.putfield 231, 3) := by decide +kernel
theorem dX12_commands_5 : decode cX12_commands 5 = .ok (.aload_n 0, 1) := by decide +kernel
theorem dX12_commands_6 : decode cX12_commands 6 = .ok (.iconst 0, 1) := by decide +kernel
theorem dX12_commands_7 : decode cX12_commands 7 = .ok (.putfield 237, 3) := by decide +kernel
theorem dX12_commands_10 : decode cX12_commands 10 = .ok (.iconst 1, 1) := by decide +kernel
theorem dX12_commands_11 : decode cX12_commands 11 = .ok (.istore_n 1, 1) := by decide +kernel
theorem dX12_commands_12 : decode cX12_commands 12 = .ok (.aload_n 0, 1) := by decide +kernel
theorem dX12_commands_13 : decode cX12_commands 13 = .ok (.invokevirtual 262, 3) := by decide +kernel
theorem dX12_commands_16 : decode cX12_commands 16 = .ok (.aload_n 0, 1) := by decide +kernel
theorem dX12_commands_17 : decode cX12_commands 17 = .ok (.getfield 237, 3) := by decide +kernel
theorem dX12_commands_20 : decode cX12_commands 20 = .ok (.ifCond .ne 44, 3) := by decide +kernel
theorem dX12_commands_23 : decode cX12_commands 23 = .ok (.aload_n 0, 1) := by decide +kernel
theorem dX12_commands_24 : decode cX12_commands 24 = .ok (.getfield 50, 3) := by decide +kernel
theorem dX12_commands_27 : decode cX12_commands 27 = .ok (.ifCond .ne 37, 3) := by decide +kernel
theorem dX12_commands_30 : decode cX12_commands 30 = .ok (.aload_n 0, 1) := by decide +kernel
theorem dX12_commands_31 : decode cX12_commands 31 = .ok (.getfield 231, 3) := by decide +kernel
theorem dX12_commands_34 : decode cX12_commands 34 = .ok (.aload_n 0, 1) := by decide +kernel
theorem dX12_commands_35 : decode cX12_commands 35 = .ok (.getfield 234, 3) := by decide +kernel
theorem dX12_commands_38 : decode cX12_commands 38 = .ok (.if_icmp .ge 26, 3) := by decide +kernel
theorem dX12_commands_41 : decode cX12_commands 41 = .ok (.aload_n 0, 1) := by decide +kernel
theorem dX12_commands_42 : decode cX12_commands 42 = .ok (.bipush 59, 2) := by decide +kernel
theorem dX12_commands_44 : decode cX12_commands 44 = .ok (.invokevirtual 243, 3) := by decide +kernel
theorem dX12_commands_47 : decode cX12_commands 47 = .ok (.aload_n 0, 1) := by decide +kernel
theorem dX12_commands_48 : decode cX12_commands 48 = .ok (.getfield 237, 3) := by decide +kernel
theorem dX12_commands_51 : decode cX12_commands 51 = .ok (.ifCond .ne 7, 3) := by decide +kernel
theorem dX12_commands_54 : decode cX12_commands 54 = .ok (.aload_n 0, 1) := by decide +kernel
theorem dX12_commands_55 : decode cX12_commands 55 = .ok (.invokevirtual 262, 3) := by decide +kernel
theorem dX12_commands_58 : decode cX12_commands 58 = .ok (.iinc 1 1, 3) := by decide +kernel
theorem dX12_commands_61 : decode cX12_commands 61 = .ok (.goto (-45), 3) := by decide +kernel
theorem dX12_commands_64 : decode cX12_commands 64 = .ok (.iload_n 1, 1) := by decide +kernel
theorem dX12_commands_65 : decode cX12_commands 65 = .ok (.ireturn, 1) := by decide +kernel
theorem dX12_run_0 : decode cX12_run 0 = .ok (.aload_n 0, 1) := by decide +kernel
theorem dX12_run_1 : decode cX12_run 1 = .ok (.invokevirtual 96, 3) := by decide +kernel
theorem dX12_run_4 : decode cX12_run 4 = .ok (.aload_n 0, 1) := by decide +kernel
theorem dX12_run_5 : decode cX12_run 5 = .ok (.aload_n 0, 1) := by decide +kernel
theorem dX12_run_6 : decode cX12_run 6 = .ok (.getfield 228, 3) := by decide +kernel
theorem dX12_run_9 : decode cX12_run 9 = .ok (.putfield 234, 3) := by decide +kernel
theorem dX12_run_12 : decode cX12_run 12 = .ok (.aload_n 0, 1) := by decide +kernel
theorem dX12_run_13 : decode cX12_run 13 = .ok (.iconst 0, 1) := by decide +kernel
theorem dX12_run_14 : decode cX12_run 14 = .ok (.putfield 228, 3) := by decide +kernel
theorem dX12_run_17 : decode cX12_run 17 = .ok (.aload_n 0, 1) := by decide +kernel
theorem dX12_run_18 : decode cX12_run 18 = .ok (.iconst 0, 1) := by decide +kernel
theorem dX12_run_19 : decode cX12_run 19 = .ok (.putfield 255, 3) := by decide +kernel
theorem dX12_run_22 : decode cX12_run 22 = .ok (.aload_n 0, 1) := by decide +kernel
theorem dX12_run_23 : decode cX12_run 23 = .ok (.invokevirtual 265, 3) := by decide +kernel
theorem dX12_run_26 : decode cX12_run 26 = .ok (.istore_n 1, 1) := by decide +kernel
theorem dX12_run_27 : decode cX12_run 27 = .ok (.aload_n 0, 1) := by decide +kernel
theorem dX12_run_28 : decode cX12_run 28 = .ok (.getfield 237, 3) := by decide +kernel
theorem dX12_run_31 : decode cX12_run 31 = .ok (.ifCond .eq 17, 3) := by decide +kernel
theorem dX12_run_34 : decode cX12_run 34 = .ok (.aload_n 0, 1) := by decide +kernel
theorem dX12_run_35 : decode cX12_run 35 = .ok (.aload_n 0, 1) := by decide +kernel
theorem dX12_run_36 : decode cX12_run 36 = .ok (.getfield 231, 3) := by decide +kernel
theorem dX12_run_39 : decode cX12_run 39 = .ok (.putfield 7, 3) := by decide +kernel
theorem dX12_run_42 : decode cX12_run 42 = .ok (.aload_n 0, 1) := by decide +kernel
theorem dX12_run_43 : decode cX12_run 43 = .ok (.iconst 1, 1) := by decide +kernel
theorem dX12_run_44 : decode cX12_run 44 = .ok (.invokevirtual 59, 3) := by decide +kernel
theorem dX12_run_47 : decode cX12_run 47 = .ok (.ireturn, 1) := by decide +kernel
theorem dX12_run_48 : decode cX12_run 48 = .ok (.aload_n 0, 1) := by decide +kernel
theorem dX12_run_49 : decode cX12_run 49 = .ok (.iconst 1, 1) := by decide +kernel
theorem dX12_run_50 : decode cX12_run 50 = .ok (.putfield 255, 3) := by decide +kernel
theorem dX12_run_53 : decode cX12_run 53 = .ok (.aload_n 0, 1) := by decide +kernel
theorem dX12_run_54 : decode cX12_run 54 = .ok (.invokevirtual 265, 3) := by decide +kernel
theorem dX12_run_57 : decode cX12_run 57 = .ok (.istore_n 1, 1) := by decide +kernel
theorem dX12_run_58 : decode cX12_run 58 = .ok (.aload_n 0, 1) := by decide +kernel
theorem dX12_run_59 : decode cX12_run 59 = .ok (.getfield 50, 3) := by decide +kernel
theorem dX12_run_62 : decode cX12_run 62 = .ok (.ifCond .eq 15, 3) := by decide +kernel
theorem dX12_run_65 : decode cX12_run 65 = .ok (.aload_n 0, 1) := by decide +kernel
theorem dX12_run_66 : decode cX12_run 66 = .ok (.iload_n 1, 1) := by decide +kernel
theorem dX12_run_67 : decode cX12_run 67 = .ok (.iconst 1, 1) := by decide +kernel
theorem dX12_run_68 : decode cX12_run 68 = .ok (.isub, 1) := by decide +kernel
theorem dX12_run_69 : decode cX12_run 69 = .ok (.putfield 13, 3) := by decide +kernel
theorem dX12_run_72 : decode cX12_run 72 = .ok (.aload_n 0, 1) := by decide +kernel
theorem dX12_run_73 : decode cX12_run 73 = .ok (.iconst 2, 1) := by decide +kernel
theorem dX12_run_74 : decode cX12_run 74 = .ok (.putfield 50, 3) := by decide +kernel
theorem dX12_run_77 : decode cX12_run 77 = .ok (.aload_n 0, 1) := by decide +kernel
theorem dX12_run_78 : decode cX12_run 78 = .ok (.iload_n 1, 1) := by decide +kernel
theorem dX12_run_79 : decode cX12_run 79 = .ok (.invokevirtual 103, 3) := by decide +kernel
theorem dX12_run_82 : decode cX12_run 82 = .ok (.ireturn, 1) := by decide +kernel
theorem dX12_errorPosition_0 : decode cX12_errorPosition 0 = .ok (.aload_n 0, 1) := by decide +kernel
theorem dX12_errorPosition_1 : decode cX12_errorPosition 1 = .ok (.aload_n 0, 1) := by decide +kernel
theorem dX12_errorPosition_2 : decode cX12_errorPosition 2 = .ok (.getfield 7, 3) := by decide +kernel
theorem dX12_errorPosition_5 : decode cX12_errorPosition 5 = .ok (.ifCond .ge 7, 3) := by decide +kernel
theorem dX12_errorPosition_8 : decode cX12_errorPosition 8 = .ok (.iconst 1, 1) := by decide +kernel
theorem dX12_errorPosition_9 : decode cX12_errorPosition 9 = .ok (.goto 4, 3) := by decide +kernel
theorem dX12_errorPosition_12 : decode cX12_errorPosition 12 = .ok (.iconst 0, 1) := by decide +kernel
theorem dX12_errorPosition_13 : decode cX12_errorPosition 13 = .ok (.putfield 50, 3) := by decide +kernel
theorem dX12_errorPosition_16 : decode cX12_errorPosition 16 = .ok (.aload_n 0, 1) := by decide +kernel
theorem dX12_errorPosition_17 : decode cX12_errorPosition 17 = .ok (.getfield 50, 3) := by decide +kernel
theorem dX12_errorPosition_20 : decode cX12_errorPosition 20 = .ok (.ifCond .ne 10, 3) := by decide +kernel
theorem dX12_errorPosition_23 : decode cX12_errorPosition 23 = .ok (.aload_n 0, 1) := by decide +kernel
theorem dX12_errorPosition_24 : decode cX12_errorPosition 24 = .ok (.getfield 7, 3) := by decide +kernel
theorem dX12_errorPosition_27 : decode cX12_errorPosition 27 = .ok (.goto 4, 3) := by decide +kernel
theorem dX12_errorPosition_30 : decode cX12_errorPosition 30 = .ok (.iconst 0, 1) := by decide +kernel
theorem dX12_errorPosition_31 : decode cX12_errorPosition 31 = .ok (.ireturn, 1) := by decide +kernel
theorem dX12_failedCommand_0 : decode cX12_failedCommand 0 = .ok (.aload_n 0, 1) := by decide +kernel
theorem dX12_failedCommand_1 : decode cX12_failedCommand 1 = .ok (.aload_n 0, 1) := by decide +kernel
theorem dX12_failedCommand_2 : decode cX12_failedCommand 2 = .ok (.getfield 13, 3) := by decide +kernel
theorem dX12_failedCommand_5 : decode cX12_failedCommand 5 = .ok (.ifCond .ge 7, 3) := by decide +kernel
theorem dX12_failedCommand_8 : decode cX12_failedCommand 8 = .ok (.iconst 1, 1) := by decide +kernel
theorem dX12_failedCommand_9 : decode cX12_failedCommand 9 = .ok (.goto 4, 3) := by decide +kernel
theorem dX12_failedCommand_12 : decode cX12_failedCommand 12 = .ok (.iconst 0, 1) := by decide +kernel
theorem dX12_failedCommand_13 : decode cX12_failedCommand 13 = .ok (.putfield 50, 3) := by decide +kernel
theorem dX12_failedCommand_16 : decode cX12_failedCommand 16 = .ok (.aload_n 0, 1) := by decide +kernel
theorem dX12_failedCommand_17 : decode cX12_failedCommand 17 = .ok (.getfield 50, 3) := by decide +kernel
theorem dX12_failedCommand_20 : decode cX12_failedCommand 20 = .ok (.ifCond .ne 10, 3) := by decide +kernel
theorem dX12_failedCommand_23 : decode cX12_failedCommand 23 = .ok (.aload_n 0, 1) := by decide +kernel
theorem dX12_failedCommand_24 : decode cX12_failedCommand 24 = .ok (.getfield 13, 3) := by decide +kernel
theorem dX12_failedCommand_27 : decode cX12_failedCommand 27 = .ok (.goto 4, 3) := by decide +kernel
theorem dX12_failedCommand_30 : decode cX12_failedCommand 30 = .ok (.iconst 0, 1) := by decide +kernel
theorem dX12_failedCommand_31 : decode cX12_failedCommand 31 = .ok (.ireturn, 1) := by decide +kernel
theorem dX12_writes_0 : decode cX12_writes 0 = .ok (.aload_n 0, 1) := by decide +kernel
theorem dX12_writes_1 : decode cX12_writes 1 = .ok (.getfield 38, 3) := by decide +kernel
theorem dX12_writes_4 : decode cX12_writes 4 = .ok (.aload_n 0, 1) := by decide +kernel
theorem dX12_writes_5 : decode cX12_writes 5 = .ok (.getfield 268, 3) := by decide +kernel
theorem dX12_writes_8 : decode cX12_writes 8 = .ok (.iload_n 1, 1) := by decide +kernel
theorem dX12_writes_9 : decode cX12_writes 9 = .ok (.iastore, 1) := by decide +kernel
theorem dX12_writes_10 : decode cX12_writes 10 = .ok (.aload_n 0, 1) := by decide +kernel
theorem dX12_writes_11 : decode cX12_writes 11 = .ok (.dup, 1) := by decide +kernel
theorem dX12_writes_12 : decode cX12_writes 12 = .ok (.getfield 268, 3) := by decide +kernel
theorem dX12_writes_15 : decode cX12_writes 15 = .ok (.iconst 1, 1) := by decide +kernel
theorem dX12_writes_16 : decode cX12_writes 16 = .ok (.iadd, 1) := by decide +kernel
theorem dX12_writes_17 : decode cX12_writes 17 = .ok (.putfield 268, 3) := by decide +kernel
theorem dX12_writes_20 : decode cX12_writes 20 = .ok (.return_, 1) := by decide +kernel
theorem dX12_writesNumber_0 : decode cX12_writesNumber 0 = .ok (.iconst 1, 1) := by decide +kernel
theorem dX12_writesNumber_1 : decode cX12_writesNumber 1 = .ok (.istore_n 2, 1) := by decide +kernel
theorem dX12_writesNumber_2 : decode cX12_writesNumber 2 = .ok (.iload_n 1, 1) := by decide +kernel
theorem dX12_writesNumber_3 : decode cX12_writesNumber 3 = .ok (.iload_n 2, 1) := by decide +kernel
theorem dX12_writesNumber_4 : decode cX12_writesNumber 4 = .ok (.idiv, 1) := by decide +kernel
theorem dX12_writesNumber_5 : decode cX12_writesNumber 5 = .ok (.bipush 10, 2) := by decide +kernel
theorem dX12_writesNumber_7 : decode cX12_writesNumber 7 = .ok (.if_icmp .lt 11, 3) := by decide +kernel
theorem dX12_writesNumber_10 : decode cX12_writesNumber 10 = .ok (.iload_n 2, 1) := by decide +kernel
theorem dX12_writesNumber_11 : decode cX12_writesNumber 11 = .ok (.bipush 10, 2) := by decide +kernel
theorem dX12_writesNumber_13 : decode cX12_writesNumber 13 = .ok (.imul, 1) := by decide +kernel
theorem dX12_writesNumber_14 : decode cX12_writesNumber 14 = .ok (.istore_n 2, 1) := by decide +kernel
theorem dX12_writesNumber_15 : decode cX12_writesNumber 15 = .ok (.goto (-13), 3) := by decide +kernel
theorem dX12_writesNumber_18 : decode cX12_writesNumber 18 = .ok (.iload_n 2, 1) := by decide +kernel
theorem dX12_writesNumber_19 : decode cX12_writesNumber 19 = .ok (.ifCond .le 24, 3) := by decide +kernel
theorem dX12_writesNumber_22 : decode cX12_writesNumber 22 = .ok (.aload_n 0, 1) := by decide +kernel
theorem dX12_writesNumber_23 : decode cX12_writesNumber 23 = .ok (.bipush 48, 2) := by decide +kernel
theorem dX12_writesNumber_25 : decode cX12_writesNumber 25 = .ok (.iload_n 1, 1) := by decide +kernel
theorem dX12_writesNumber_26 : decode cX12_writesNumber 26 = .ok (.iload_n 2, 1) := by decide +kernel
theorem dX12_writesNumber_27 : decode cX12_writesNumber 27 = .ok (.idiv, 1) := by decide +kernel
theorem dX12_writesNumber_28 : decode cX12_writesNumber 28 = .ok (.bipush 10, 2) := by decide +kernel
theorem dX12_writesNumber_30 : decode cX12_writesNumber 30 = .ok (.irem, 1) := by decide +kernel
theorem dX12_writesNumber_31 : decode cX12_writesNumber 31 = .ok (.iadd, 1) := by decide +kernel
theorem dX12_writesNumber_32 : decode cX12_writesNumber 32 = .ok (.invokevirtual 271, 3) := by decide +kernel
theorem dX12_writesNumber_35 : decode cX12_writesNumber 35 = .ok (.iload_n 2, 1) := by decide +kernel
theorem dX12_writesNumber_36 : decode cX12_writesNumber 36 = .ok (.bipush 10, 2) := by decide +kernel
theorem dX12_writesNumber_38 : decode cX12_writesNumber 38 = .ok (.idiv, 1) := by decide +kernel
theorem dX12_writesNumber_39 : decode cX12_writesNumber 39 = .ok (.istore_n 2, 1) := by decide +kernel
theorem dX12_writesNumber_40 : decode cX12_writesNumber 40 = .ok (.goto (-22), 3) := by decide +kernel
theorem dX12_writesNumber_43 : decode cX12_writesNumber 43 = .ok (.return_, 1) := by decide +kernel
theorem dX12_describeRow_0 : decode cX12_describeRow 0 = .ok (.aload_n 0, 1) := by decide +kernel
theorem dX12_describeRow_1 : decode cX12_describeRow 1 = .ok (.iload_n 1, 1) := by decide +kernel
theorem dX12_describeRow_2 : decode cX12_describeRow 2 = .ok (.iconst 0, 1) := by decide +kernel
theorem dX12_describeRow_3 : decode cX12_describeRow 3 = .ok (.bipush 7, 2) := by decide +kernel
theorem dX12_describeRow_5 : decode cX12_describeRow 5 = .ok (.invokestatic 70, 3) := by decide +kernel
theorem dX12_describeRow_8 : decode cX12_describeRow 8 = .ok (.ifCond .eq 7, 3) := by decide +kernel
theorem dX12_describeRow_11 : decode cX12_describeRow 11 = .ok (.iconst 0, 1) := by decide +kernel
theorem dX12_describeRow_12 : decode cX12_describeRow 12 = .ok (.goto 4, 3) := by decide +kernel
theorem dX12_describeRow_15 : decode cX12_describeRow 15 = .ok (.iconst 1, 1) := by decide +kernel
theorem dX12_describeRow_16 : decode cX12_describeRow 16 = .ok (.putfield 50, 3) := by decide +kernel
theorem dX12_describeRow_19 : decode cX12_describeRow 19 = .ok (.aload_n 0, 1) := by decide +kernel
theorem dX12_describeRow_20 : decode cX12_describeRow 20 = .ok (.getfield 50, 3) := by decide +kernel
theorem dX12_describeRow_23 : decode cX12_describeRow 23 = .ok (.ifCond .eq 5, 3) := by decide +kernel
theorem dX12_describeRow_26 : decode cX12_describeRow 26 = .ok (.iconst 0, 1) := by decide +kernel
theorem dX12_describeRow_27 : decode cX12_describeRow 27 = .ok (.ireturn, 1) := by decide +kernel
theorem dX12_describeRow_28 : decode cX12_describeRow 28 = .ok (.aload_n 0, 1) := by decide +kernel
theorem dX12_describeRow_29 : decode cX12_describeRow 29 = .ok (.iconst 0, 1) := by decide +kernel
theorem dX12_describeRow_30 : decode cX12_describeRow 30 = .ok (.putfield 268, 3) := by decide +kernel
theorem dX12_describeRow_33 : decode cX12_describeRow 33 = .ok (.bipush 8, 2) := by decide +kernel
theorem dX12_describeRow_35 : decode cX12_describeRow 35 = .ok (.iload_n 1, 1) := by decide +kernel
theorem dX12_describeRow_36 : decode cX12_describeRow 36 = .ok (.imul, 1) := by decide +kernel
theorem dX12_describeRow_37 : decode cX12_describeRow 37 = .ok (.istore_n 2, 1) := by decide +kernel
theorem dX12_describeRow_38 : decode cX12_describeRow 38 = .ok (.iload_n 2, 1) := by decide +kernel
theorem dX12_describeRow_39 : decode cX12_describeRow 39 = .ok (.bipush 8, 2) := by decide +kernel
theorem dX12_describeRow_41 : decode cX12_describeRow 41 = .ok (.iload_n 1, 1) := by decide +kernel
theorem dX12_describeRow_42 : decode cX12_describeRow 42 = .ok (.imul, 1) := by decide +kernel
theorem dX12_describeRow_43 : decode cX12_describeRow 43 = .ok (.bipush 8, 2) := by decide +kernel
theorem dX12_describeRow_45 : decode cX12_describeRow 45 = .ok (.iadd, 1) := by decide +kernel
theorem dX12_describeRow_46 : decode cX12_describeRow 46 = .ok (.if_icmp .ge 62, 3) := by decide +kernel
theorem dX12_describeRow_49 : decode cX12_describeRow 49 = .ok (.aload_n 0, 1) := by decide +kernel
theorem dX12_describeRow_50 : decode cX12_describeRow 50 = .ok (.aload_n 0, 1) := by decide +kernel
theorem dX12_describeRow_51 : decode cX12_describeRow 51 = .ok (.iload_n 2, 1) := by decide +kernel
theorem dX12_describeRow_52 : decode cX12_describeRow 52 = .ok (.invokevirtual 106, 3) := by decide +kernel
theorem dX12_describeRow_55 : decode cX12_describeRow 55 = .ok (.ifCond .eq 8, 3) := by decide +kernel
theorem dX12_describeRow_58 : decode cX12_describeRow 58 = .ok (.bipush 84, 2) := by decide +kernel
theorem dX12_describeRow_60 : decode cX12_describeRow 60 = .ok (.goto 39, 3) := by decide +kernel
theorem dX12_describeRow_63 : decode cX12_describeRow 63 = .ok (.aload_n 0, 1) := by decide +kernel
theorem dX12_describeRow_64 : decode cX12_describeRow 64 = .ok (.getfield 16, 3) := by decide +kernel
theorem dX12_describeRow_67 : decode cX12_describeRow 67 = .ok (.iconst 3, 1) := by decide +kernel
theorem dX12_describeRow_68 : decode cX12_describeRow 68 = .ok (.iaload, 1) := by decide +kernel
theorem dX12_describeRow_69 : decode cX12_describeRow 69 = .ok (.iload_n 2, 1) := by decide +kernel
theorem dX12_describeRow_70 : decode cX12_describeRow 70 = .ok (.if_icmp .ne 8, 3) := by decide +kernel
theorem dX12_describeRow_73 : decode cX12_describeRow 73 = .ok (.bipush 66, 2) := by decide +kernel
theorem dX12_describeRow_75 : decode cX12_describeRow 75 = .ok (.goto 24, 3) := by decide +kernel
theorem dX12_describeRow_78 : decode cX12_describeRow 78 = .ok (.aload_n 0, 1) := by decide +kernel
theorem dX12_describeRow_79 : decode cX12_describeRow 79 = .ok (.iload_n 2, 1) := by decide +kernel
theorem dX12_describeRow_80 : decode cX12_describeRow 80 = .ok (.invokevirtual 85, 3) := by decide +kernel
theorem dX12_describeRow_83 : decode cX12_describeRow 83 = .ok (.ifCond .lt 14, 3) := by decide +kernel
theorem dX12_describeRow_86 : decode cX12_describeRow 86 = .ok (.bipush 48, 2) := by decide +kernel
theorem dX12_describeRow_88 : decode cX12_describeRow 88 = .ok (.aload_n 0, 1) := by decide +kernel
theorem dX12_describeRow_89 : decode cX12_describeRow 89 = .ok (.iload_n 2, 1) := by decide +kernel
theorem dX12_describeRow_90 : decode cX12_describeRow 90 = .ok (.invokevirtual 85, 3) := by decide +kernel
theorem dX12_describeRow_93 : decode cX12_describeRow 93 = .ok (.iadd, 1) := by decide +kernel
theorem dX12_describeRow_94 : decode cX12_describeRow 94 = .ok (.goto 5, 3) := by decide +kernel
theorem dX12_describeRow_97 : decode cX12_describeRow 97 = .ok (.bipush 46, 2) := by decide +kernel
theorem dX12_describeRow_99 : decode cX12_describeRow 99 = .ok (.invokevirtual 271, 3) := by decide +kernel
theorem dX12_describeRow_102 : decode cX12_describeRow 102 = .ok (.iinc 2 1, 3) := by decide +kernel
theorem dX12_describeRow_105 : decode cX12_describeRow 105 = .ok (.goto (-67), 3) := by decide +kernel
theorem dX12_describeRow_108 : decode cX12_describeRow 108 = .ok (.aload_n 0, 1) := by decide +kernel
theorem dX12_describeRow_109 : decode cX12_describeRow 109 = .ok (.getfield 268, 3) := by decide +kernel
theorem dX12_describeRow_112 : decode cX12_describeRow 112 = .ok (.ireturn, 1) := by decide +kernel
theorem dX12_describePlea_0 : decode cX12_describePlea 0 = .ok (.aload_n 0, 1) := by decide +kernel
theorem dX12_describePlea_1 : decode cX12_describePlea 1 = .ok (.iload_n 1, 1) := by decide +kernel
theorem dX12_describePlea_2 : decode cX12_describePlea 2 = .ok (.invokevirtual 194, 3) := by decide +kernel
theorem dX12_describePlea_5 : decode cX12_describePlea 5 = .ok (.ifCond .ne 5, 3) := by decide +kernel
theorem dX12_describePlea_8 : decode cX12_describePlea 8 = .ok (.iconst 0, 1) := by decide +kernel
theorem dX12_describePlea_9 : decode cX12_describePlea 9 = .ok (.ireturn, 1) := by decide +kernel
theorem dX12_describePlea_10 : decode cX12_describePlea 10 = .ok (.aload_n 0, 1) := by decide +kernel
theorem dX12_describePlea_11 : decode cX12_describePlea 11 = .ok (.iconst 0, 1) := by decide +kernel
theorem dX12_describePlea_12 : decode cX12_describePlea 12 = .ok (.putfield 268, 3) := by decide +kernel
theorem dX12_describePlea_15 : decode cX12_describePlea 15 = .ok (.aload_n 0, 1) := by decide +kernel
theorem dX12_describePlea_16 : decode cX12_describePlea 16 = .ok (.bipush 112, 2) := by decide +kernel
theorem dX12_describePlea_18 : decode cX12_describePlea 18 = .ok (.invokevirtual 271, 3) := by decide +kernel
theorem dX12_describePlea_21 : decode cX12_describePlea 21 = .ok (.aload_n 0, 1) := by decide +kernel
theorem dX12_describePlea_22 : decode cX12_describePlea 22 = .ok (.aload_n 0, 1) := by decide +kernel
theorem dX12_describePlea_23 : decode cX12_describePlea 23 = .ok (.getfield 16, 3) := by decide +kernel
theorem dX12_describePlea_26 : decode cX12_describePlea 26 = .ok (.iload_n 1, 1) := by decide +kernel
theorem dX12_describePlea_27 : decode cX12_describePlea 27 = .ok (.iconst 0, 1) := by decide +kernel
theorem dX12_describePlea_28 : decode cX12_describePlea 28 = .ok (.invokestatic 77, 3) := by decide +kernel
theorem dX12_describePlea_31 : decode cX12_describePlea 31 = .ok (.iaload, 1) := by decide +kernel
theorem dX12_describePlea_32 : decode cX12_describePlea 32 = .ok (.invokevirtual 274, 3) := by decide +kernel
theorem dX12_describePlea_35 : decode cX12_describePlea 35 = .ok (.aload_n 0, 1) := by decide +kernel
theorem dX12_describePlea_36 : decode cX12_describePlea 36 = .ok (.bipush 58, 2) := by decide +kernel
theorem dX12_describePlea_38 : decode cX12_describePlea 38 = .ok (.invokevirtual 271, 3) := by decide +kernel
theorem dX12_describePlea_41 : decode cX12_describePlea 41 = .ok (.aload_n 0, 1) := by decide +kernel
theorem dX12_describePlea_42 : decode cX12_describePlea 42 = .ok (.aload_n 0, 1) := by decide +kernel
theorem dX12_describePlea_43 : decode cX12_describePlea 43 = .ok (.getfield 16, 3) := by decide +kernel
theorem dX12_describePlea_46 : decode cX12_describePlea 46 = .ok (.iload_n 1, 1) := by decide +kernel
theorem dX12_describePlea_47 : decode cX12_describePlea 47 = .ok (.iconst 1, 1) := by decide +kernel
theorem dX12_describePlea_48 : decode cX12_describePlea 48 = .ok (.invokestatic 77, 3) := by decide +kernel
theorem dX12_describePlea_51 : decode cX12_describePlea 51 = .ok (.iaload, 1) := by decide +kernel
theorem dX12_describePlea_52 : decode cX12_describePlea 52 = .ok (.invokevirtual 274, 3) := by decide +kernel
theorem dX12_describePlea_55 : decode cX12_describePlea 55 = .ok (.aload_n 0, 1) := by decide +kernel
theorem dX12_describePlea_56 : decode cX12_describePlea 56 = .ok (.bipush 45, 2) := by decide +kernel
theorem dX12_describePlea_58 : decode cX12_describePlea 58 = .ok (.invokevirtual 271, 3) := by decide +kernel
theorem dX12_describePlea_61 : decode cX12_describePlea 61 = .ok (.aload_n 0, 1) := by decide +kernel
theorem dX12_describePlea_62 : decode cX12_describePlea 62 = .ok (.aload_n 0, 1) := by decide +kernel
theorem dX12_describePlea_63 : decode cX12_describePlea 63 = .ok (.iload_n 1, 1) := by decide +kernel
theorem dX12_describePlea_64 : decode cX12_describePlea 64 = .ok (.invokevirtual 197, 3) := by decide +kernel
theorem dX12_describePlea_67 : decode cX12_describePlea 67 = .ok (.invokevirtual 274, 3) := by decide +kernel
theorem dX12_describePlea_70 : decode cX12_describePlea 70 = .ok (.aload_n 0, 1) := by decide +kernel
theorem dX12_describePlea_71 : decode cX12_describePlea 71 = .ok (.aload_n 0, 1) := by decide +kernel
theorem dX12_describePlea_72 : decode cX12_describePlea 72 = .ok (.getfield 16, 3) := by decide +kernel
theorem dX12_describePlea_75 : decode cX12_describePlea 75 = .ok (.iconst 0, 1) := by decide +kernel
theorem dX12_describePlea_76 : decode cX12_describePlea 76 = .ok (.iaload, 1) := by decide +kernel
theorem dX12_describePlea_77 : decode cX12_describePlea 77 = .ok (.invokevirtual 184, 3) := by decide +kernel
theorem dX12_describePlea_80 : decode cX12_describePlea 80 = .ok (.ifCond .eq 28, 3) := by decide +kernel
theorem dX12_describePlea_83 : decode cX12_describePlea 83 = .ok (.aload_n 0, 1) := by decide +kernel
theorem dX12_describePlea_84 : decode cX12_describePlea 84 = .ok (.getfield 16, 3) := by decide +kernel
theorem dX12_describePlea_87 : decode cX12_describePlea 87 = .ok (.iload_n 1, 1) := by decide +kernel
theorem dX12_describePlea_88 : decode cX12_describePlea 88 = .ok (.iconst 1, 1) := by decide +kernel
theorem dX12_describePlea_89 : decode cX12_describePlea 89 = .ok (.invokestatic 77, 3) := by decide +kernel
theorem dX12_describePlea_92 : decode cX12_describePlea 92 = .ok (.iaload, 1) := by decide +kernel
theorem dX12_describePlea_93 : decode cX12_describePlea 93 = .ok (.aload_n 0, 1) := by decide +kernel
theorem dX12_describePlea_94 : decode cX12_describePlea 94 = .ok (.getfield 16, 3) := by decide +kernel
theorem dX12_describePlea_97 : decode cX12_describePlea 97 = .ok (.iconst 0, 1) := by decide +kernel
theorem dX12_describePlea_98 : decode cX12_describePlea 98 = .ok (.iaload, 1) := by decide +kernel
theorem dX12_describePlea_99 : decode cX12_describePlea 99 = .ok (.if_icmp .gt 9, 3) := by decide +kernel
theorem dX12_describePlea_102 : decode cX12_describePlea 102 = .ok (.aload_n 0, 1) := by decide +kernel
theorem dX12_describePlea_103 : decode cX12_describePlea 103 = .ok (.bipush 42, 2) := by decide +kernel
theorem dX12_describePlea_105 : decode cX12_describePlea 105 = .ok (.invokevirtual 271, 3) := by decide +kernel
theorem dX12_describePlea_108 : decode cX12_describePlea 108 = .ok (.aload_n 0, 1) := by decide +kernel
theorem dX12_describePlea_109 : decode cX12_describePlea 109 = .ok (.getfield 268, 3) := by decide +kernel
theorem dX12_describePlea_112 : decode cX12_describePlea 112 = .ok (.ireturn, 1) := by decide +kernel
theorem dX12_lineAt_0 : decode cX12_lineAt 0 = .ok (.aload_n 0, 1) := by decide +kernel
theorem dX12_lineAt_1 : decode cX12_lineAt 1 = .ok (.iload_n 1, 1) := by decide +kernel
theorem dX12_lineAt_2 : decode cX12_lineAt 2 = .ok (.iconst 0, 1) := by decide +kernel
theorem dX12_lineAt_3 : decode cX12_lineAt 3 = .ok (.aload_n 0, 1) := by decide +kernel
theorem dX12_lineAt_4 : decode cX12_lineAt 4 = .ok (.getfield 268, 3) := by decide +kernel
theorem dX12_lineAt_7 : decode cX12_lineAt 7 = .ok (.iconst 1, 1) := by decide +kernel
theorem dX12_lineAt_8 : decode cX12_lineAt 8 = .ok (.isub, 1) := by decide +kernel
theorem dX12_lineAt_9 : decode cX12_lineAt 9 = .ok (.invokestatic 70, 3) := by decide +kernel
theorem dX12_lineAt_12 : decode cX12_lineAt 12 = .ok (.ifCond .eq 7, 3) := by decide +kernel
theorem dX12_lineAt_15 : decode cX12_lineAt 15 = .ok (.iconst 0, 1) := by decide +kernel
theorem dX12_lineAt_16 : decode cX12_lineAt 16 = .ok (.goto 4, 3) := by decide +kernel
theorem dX12_lineAt_19 : decode cX12_lineAt 19 = .ok (.iconst 1, 1) := by decide +kernel
theorem dX12_lineAt_20 : decode cX12_lineAt 20 = .ok (.putfield 50, 3) := by decide +kernel
theorem dX12_lineAt_23 : decode cX12_lineAt 23 = .ok (.aload_n 0, 1) := by decide +kernel
theorem dX12_lineAt_24 : decode cX12_lineAt 24 = .ok (.getfield 50, 3) := by decide +kernel
theorem dX12_lineAt_27 : decode cX12_lineAt 27 = .ok (.ifCond .ne 13, 3) := by decide +kernel
theorem dX12_lineAt_30 : decode cX12_lineAt 30 = .ok (.aload_n 0, 1) := by decide +kernel
theorem dX12_lineAt_31 : decode cX12_lineAt 31 = .ok (.getfield 38, 3) := by decide +kernel
theorem dX12_lineAt_34 : decode cX12_lineAt 34 = .ok (.iload_n 1, 1) := by decide +kernel
theorem dX12_lineAt_35 : decode cX12_lineAt 35 = .ok (.iaload, 1) := by decide +kernel
theorem dX12_lineAt_36 : decode cX12_lineAt 36 = .ok (.i2c, 1) := by decide +kernel
theorem dX12_lineAt_37 : decode cX12_lineAt 37 = .ok (.goto 5, 3) := by decide +kernel
theorem dX12_lineAt_40 : decode cX12_lineAt 40 = .ok (.bipush 97, 2) := by decide +kernel
theorem dX12_lineAt_42 : decode cX12_lineAt 42 = .ok (.ireturn, 1) := by decide +kernel
theorem dX12_isConsistent_0 : decode cX12_isConsistent 0 = .ok (.aload_n 0, 1) := by decide +kernel
theorem dX12_isConsistent_1 : decode cX12_isConsistent 1 = .ok (.iconst 0, 1) := by decide +kernel
theorem dX12_isConsistent_2 : decode cX12_isConsistent 2 = .ok (.putfield 50, 3) := by decide +kernel
theorem dX12_isConsistent_5 : decode cX12_isConsistent 5 = .ok (.iconst 0, 1) := by decide +kernel
theorem dX12_isConsistent_6 : decode cX12_isConsistent 6 = .ok (.istore_n 1, 1) := by decide +kernel
theorem dX12_isConsistent_7 : decode cX12_isConsistent 7 = .ok (.iload_n 1, 1) := by decide +kernel
theorem dX12_isConsistent_8 : decode cX12_isConsistent 8 = .ok (.aload_n 0, 1) := by decide +kernel
theorem dX12_isConsistent_9 : decode cX12_isConsistent 9 = .ok (.getfield 16, 3) := by decide +kernel
theorem dX12_isConsistent_12 : decode cX12_isConsistent 12 = .ok (.bipush 6, 2) := by decide +kernel
theorem dX12_isConsistent_14 : decode cX12_isConsistent 14 = .ok (.iaload, 1) := by decide +kernel
theorem dX12_isConsistent_15 : decode cX12_isConsistent 15 = .ok (.if_icmp .ge 37, 3) := by decide +kernel
theorem dX12_isConsistent_18 : decode cX12_isConsistent 18 = .ok (.aload_n 0, 1) := by decide +kernel
theorem dX12_isConsistent_19 : decode cX12_isConsistent 19 = .ok (.aload_n 0, 1) := by decide +kernel
theorem dX12_isConsistent_20 : decode cX12_isConsistent 20 = .ok (.iload_n 1, 1) := by decide +kernel
theorem dX12_isConsistent_21 : decode cX12_isConsistent 21 = .ok (.invokevirtual 74, 3) := by decide +kernel
theorem dX12_isConsistent_24 : decode cX12_isConsistent 24 = .ok (.invokevirtual 106, 3) := by decide +kernel
theorem dX12_isConsistent_27 : decode cX12_isConsistent 27 = .ok (.ifCond .ne 17, 3) := by decide +kernel
theorem dX12_isConsistent_30 : decode cX12_isConsistent 30 = .ok (.aload_n 0, 1) := by decide +kernel
theorem dX12_isConsistent_31 : decode cX12_isConsistent 31 = .ok (.iload_n 1, 1) := by decide +kernel
theorem dX12_isConsistent_32 : decode cX12_isConsistent 32 = .ok (.invokevirtual 74, 3) := by decide +kernel
theorem dX12_isConsistent_35 : decode cX12_isConsistent 35 = .ok (.aload_n 0, 1) := by decide +kernel
theorem dX12_isConsistent_36 : decode cX12_isConsistent 36 = .ok (.getfield 16, 3) := by decide +kernel
theorem dX12_isConsistent_39 : decode cX12_isConsistent 39 = .ok (.iconst 3, 1) := by decide +kernel
theorem dX12_isConsistent_40 : decode cX12_isConsistent 40 = .ok (.iaload, 1) := by decide +kernel
theorem dX12_isConsistent_41 : decode cX12_isConsistent 41 = .ok (.if_icmp .ne 5, 3) := by decide +kernel
theorem dX12_isConsistent_44 : decode cX12_isConsistent 44 = .ok (.iconst 0, 1) := by decide +kernel
theorem dX12_isConsistent_45 : decode cX12_isConsistent 45 = .ok (.ireturn, 1) := by decide +kernel
theorem dX12_isConsistent_46 : decode cX12_isConsistent 46 = .ok (.iinc 1 1, 3) := by decide +kernel
theorem dX12_isConsistent_49 : decode cX12_isConsistent 49 = .ok (.goto (-42), 3) := by decide +kernel
theorem dX12_isConsistent_52 : decode cX12_isConsistent 52 = .ok (.aload_n 0, 1) := by decide +kernel
theorem dX12_isConsistent_53 : decode cX12_isConsistent 53 = .ok (.aload_n 0, 1) := by decide +kernel
theorem dX12_isConsistent_54 : decode cX12_isConsistent 54 = .ok (.getfield 16, 3) := by decide +kernel
theorem dX12_isConsistent_57 : decode cX12_isConsistent 57 = .ok (.iconst 3, 1) := by decide +kernel
theorem dX12_isConsistent_58 : decode cX12_isConsistent 58 = .ok (.iaload, 1) := by decide +kernel
theorem dX12_isConsistent_59 : decode cX12_isConsistent 59 = .ok (.invokevirtual 106, 3) := by decide +kernel
theorem dX12_isConsistent_62 : decode cX12_isConsistent 62 = .ok (.ifCond .ne 7, 3) := by decide +kernel
theorem dX12_isConsistent_65 : decode cX12_isConsistent 65 = .ok (.iconst 1, 1) := by decide +kernel
theorem dX12_isConsistent_66 : decode cX12_isConsistent 66 = .ok (.goto 4, 3) := by decide +kernel
theorem dX12_isConsistent_69 : decode cX12_isConsistent 69 = .ok (.iconst 0, 1) := by decide +kernel
theorem dX12_isConsistent_70 : decode cX12_isConsistent 70 = .ok (.ireturn, 1) := by decide +kernel
theorem dX12_undo_0 : decode cX12_undo 0 = .ok (.aload_n 0, 1) := by decide +kernel
theorem dX12_undo_1 : decode cX12_undo 1 = .ok (.aload_n 0, 1) := by decide +kernel
theorem dX12_undo_2 : decode cX12_undo 2 = .ok (.getfield 67, 3) := by decide +kernel
theorem dX12_undo_5 : decode cX12_undo 5 = .ok (.ifCond .ne 7, 3) := by decide +kernel
theorem dX12_undo_8 : decode cX12_undo 8 = .ok (.iconst 1, 1) := by decide +kernel
theorem dX12_undo_9 : decode cX12_undo 9 = .ok (.goto 4, 3) := by decide +kernel
theorem dX12_undo_12 : decode cX12_undo 12 = .ok (.iconst 0, 1) := by decide +kernel
theorem dX12_undo_13 : decode cX12_undo 13 = .ok (.putfield 50, 3) := by decide +kernel
theorem dX12_undo_16 : decode cX12_undo 16 = .ok (.aload_n 0, 1) := by decide +kernel
theorem dX12_undo_17 : decode cX12_undo 17 = .ok (.getfield 50, 3) := by decide +kernel
theorem dX12_undo_20 : decode cX12_undo 20 = .ok (.ifCond .eq 5, 3) := by decide +kernel
theorem dX12_undo_23 : decode cX12_undo 23 = .ok (.iconst 0, 1) := by decide +kernel
theorem dX12_undo_24 : decode cX12_undo 24 = .ok (.ireturn, 1) := by decide +kernel
theorem dX12_undo_25 : decode cX12_undo 25 = .ok (.aload_n 0, 1) := by decide +kernel
theorem dX12_undo_26 : decode cX12_undo 26 = .ok (.dup, 1) := by decide +kernel
theorem dX12_undo_27 : decode cX12_undo 27 = .ok (.getfield 67, 3) := by decide +kernel
theorem dX12_undo_30 : decode cX12_undo 30 = .ok (.iconst 1, 1) := by decide +kernel
theorem dX12_undo_31 : decode cX12_undo 31 = .ok (.isub, 1) := by decide +kernel
theorem dX12_undo_32 : decode cX12_undo 32 = .ok (.putfield 67, 3) := by decide +kernel
theorem dX12_undo_35 : decode cX12_undo 35 = .ok (.iconst 0, 1) := by decide +kernel
theorem dX12_undo_36 : decode cX12_undo 36 = .ok (.istore_n 1, 1) := by decide +kernel
theorem dX12_undo_37 : decode cX12_undo 37 = .ok (.iload_n 1, 1) := by decide +kernel
theorem dX12_undo_38 : decode cX12_undo 38 = .ok (.bipush 116, 2) := by decide +kernel
theorem dX12_undo_40 : decode cX12_undo 40 = .ok (.if_icmp .ge 29, 3) := by decide +kernel
theorem dX12_undo_43 : decode cX12_undo 43 = .ok (.aload_n 0, 1) := by decide +kernel
theorem dX12_undo_44 : decode cX12_undo 44 = .ok (.getfield 16, 3) := by decide +kernel
theorem dX12_undo_47 : decode cX12_undo 47 = .ok (.iload_n 1, 1) := by decide +kernel
theorem dX12_undo_48 : decode cX12_undo 48 = .ok (.aload_n 0, 1) := by decide +kernel
theorem dX12_undo_49 : decode cX12_undo 49 = .ok (.getfield 26, 3) := by decide +kernel
theorem dX12_undo_52 : decode cX12_undo 52 = .ok (.aload_n 0, 1) := by decide +kernel
theorem dX12_undo_53 : decode cX12_undo 53 = .ok (.getfield 67, 3) := by decide +kernel
theorem dX12_undo_56 : decode cX12_undo 56 = .ok (.bipush 116, 2) := by decide +kernel
theorem dX12_undo_58 : decode cX12_undo 58 = .ok (.imul, 1) := by decide +kernel
theorem dX12_undo_59 : decode cX12_undo 59 = .ok (.iload_n 1, 1) := by decide +kernel
theorem dX12_undo_60 : decode cX12_undo 60 = .ok (.iadd, 1) := by decide +kernel
theorem dX12_undo_61 : decode cX12_undo 61 = .ok (.iaload, 1) := by decide +kernel
theorem dX12_undo_62 : decode cX12_undo 62 = .ok (.iastore, 1) := by decide +kernel
theorem dX12_undo_63 : decode cX12_undo 63 = .ok (.iinc 1 1, 3) := by decide +kernel
theorem dX12_undo_66 : decode cX12_undo 66 = .ok (.goto (-29), 3) := by decide +kernel
theorem dX12_undo_69 : decode cX12_undo 69 = .ok (.aload_n 0, 1) := by decide +kernel
theorem dX12_undo_70 : decode cX12_undo 70 = .ok (.getfield 67, 3) := by decide +kernel
theorem dX12_undo_73 : decode cX12_undo 73 = .ok (.ireturn, 1) := by decide +kernel
theorem dX12_save_0 : decode cX12_save 0 = .ok (.aload_n 0, 1) := by decide +kernel
theorem dX12_save_1 : decode cX12_save 1 = .ok (.iconst 0, 1) := by decide +kernel
theorem dX12_save_2 : decode cX12_save 2 = .ok (.putfield 50, 3) := by decide +kernel
theorem dX12_save_5 : decode cX12_save 5 = .ok (.aload_n 0, 1) := by decide +kernel
theorem dX12_save_6 : decode cX12_save 6 = .ok (.getfield 23, 3) := by decide +kernel
theorem dX12_save_9 : decode cX12_save 9 = .ok (.aload_n 0, 1) := by decide +kernel
theorem dX12_save_10 : decode cX12_save 10 = .ok (.getfield 16, 3) := by decide +kernel
theorem dX12_save_13 : decode cX12_save 13 = .ok (.invokestatic 63, 3) := by decide +kernel
theorem dX12_save_16 : decode cX12_save 16 = .ok (.aload_n 0, 1) := by decide +kernel
theorem dX12_save_17 : decode cX12_save 17 = .ok (.iconst 1, 1) := by decide +kernel
theorem dX12_save_18 : decode cX12_save 18 = .ok (.putfield 277, 3) := by decide +kernel
theorem dX12_save_21 : decode cX12_save 21 = .ok (.aload_n 0, 1) := by decide +kernel
theorem dX12_save_22 : decode cX12_save 22 = .ok (.getfield 16, 3) := by decide +kernel
theorem dX12_save_25 : decode cX12_save 25 = .ok (.bipush 6, 2) := by decide +kernel
theorem dX12_save_27 : decode cX12_save 27 = .ok (.iaload, 1) := by decide +kernel
theorem dX12_save_28 : decode cX12_save 28 = .ok (.ireturn, 1) := by decide +kernel
theorem dX12_restore_0 : decode cX12_restore 0 = .ok (.aload_n 0, 1) := by decide +kernel
theorem dX12_restore_1 : decode cX12_restore 1 = .ok (.aload_n 0, 1) := by decide +kernel
theorem dX12_restore_2 : decode cX12_restore 2 = .ok (.getfield 277, 3) := by decide +kernel
theorem dX12_restore_5 : decode cX12_restore 5 = .ok (.ifCond .eq 7, 3) := by decide +kernel
theorem dX12_restore_8 : decode cX12_restore 8 = .ok (.iconst 0, 1) := by decide +kernel
theorem dX12_restore_9 : decode cX12_restore 9 = .ok (.goto 4, 3) := by decide +kernel
theorem dX12_restore_12 : decode cX12_restore 12 = .ok (.iconst 1, 1) := by decide +kernel
theorem dX12_restore_13 : decode cX12_restore 13 = .ok (.putfield 50, 3) := by decide +kernel
theorem dX12_restore_16 : decode cX12_restore 16 = .ok (.aload_n 0, 1) := by decide +kernel
theorem dX12_restore_17 : decode cX12_restore 17 = .ok (.getfield 50, 3) := by decide +kernel
theorem dX12_restore_20 : decode cX12_restore 20 = .ok (.ifCond .eq 5, 3) := by decide +kernel
theorem dX12_restore_23 : decode cX12_restore 23 = .ok (.iconst 0, 1) := by decide +kernel
theorem dX12_restore_24 : decode cX12_restore 24 = .ok (.ireturn, 1) := by decide +kernel
theorem dX12_restore_25 : decode cX12_restore 25 = .ok (.aload_n 0, 1) := by decide +kernel
theorem dX12_restore_26 : decode cX12_restore 26 = .ok (.getfield 16, 3) := by decide +kernel
theorem dX12_restore_29 : decode cX12_restore 29 = .ok (.aload_n 0, 1) := by decide +kernel
theorem dX12_restore_30 : decode cX12_restore 30 = .ok (.getfield 23, 3) := by decide +kernel
theorem dX12_restore_33 : decode cX12_restore 33 = .ok (.invokestatic 63, 3) := by decide +kernel
theorem dX12_restore_36 : decode cX12_restore 36 = .ok (.aload_n 0, 1) := by decide +kernel
theorem dX12_restore_37 : decode cX12_restore 37 = .ok (.iconst 0, 1) := by decide +kernel
theorem dX12_restore_38 : decode cX12_restore 38 = .ok (.putfield 67, 3) := by decide +kernel
theorem dX12_restore_41 : decode cX12_restore 41 = .ok (.aload_n 0, 1) := by decide +kernel
theorem dX12_restore_42 : decode cX12_restore 42 = .ok (.getfield 16, 3) := by decide +kernel
theorem dX12_restore_45 : decode cX12_restore 45 = .ok (.bipush 6, 2) := by decide +kernel
theorem dX12_restore_47 : decode cX12_restore 47 = .ok (.iaload, 1) := by decide +kernel
theorem dX12_restore_48 : decode cX12_restore 48 = .ok (.ireturn, 1) := by decide +kernel
theorem dJx00060_init_a7421_0 : decode cJx00060_init_a7421 0 = .ok (.aload_n 0, 1) := by decide +kernel
theorem dJx00060_init_a7421_1 : decode cJx00060_init_a7421 1 = .ok (.aload_n 1, 1) := by decide +kernel
theorem dJx00060_init_a7421_2 : decode cJx00060_init_a7421 2 = .ok (.invokespecial 7, 3) := by decide +kernel
theorem dJx00060_init_a7421_5 : decode cJx00060_init_a7421 5 = .ok (.return_, 1) := by decide +kernel
theorem dJx29ce0_ordinal_8abf5_0 : decode cJx29ce0_ordinal_8abf5 0 = .ok (.aload_n 0, 1) := by decide +kernel
theorem dJx29ce0_ordinal_8abf5_1 : decode cJx29ce0_ordinal_8abf5 1 = .ok (.getfield 7, 3) := by decide +kernel
theorem dJx29ce0_ordinal_8abf5_4 : decode cJx29ce0_ordinal_8abf5 4 = .ok (.ireturn, 1) := by decide +kernel
theorem dJxf58ca_isNaN_12338_0 : decode cJxf58ca_isNaN_12338 0 = .ok (.fload_n 0, 1) := by decide +kernel
theorem dJxf58ca_isNaN_12338_1 : decode cJxf58ca_isNaN_12338 1 = .ok (.fload_n 0, 1) := by decide +kernel
theorem dJxf58ca_isNaN_12338_2 : decode cJxf58ca_isNaN_12338 2 = .ok (.fcmp .l, 1) := by decide +kernel
theorem dJxf58ca_isNaN_12338_3 : decode cJxf58ca_isNaN_12338 3 = .ok (.ifCond .eq 7, 3) := by decide +kernel
theorem dJxf58ca_isNaN_12338_6 : decode cJxf58ca_isNaN_12338 6 = .ok (.iconst 1, 1) := by decide +kernel
theorem dJxf58ca_isNaN_12338_7 : decode cJxf58ca_isNaN_12338 7 = .ok (.goto 4, 3) := by decide +kernel
theorem dJxf58ca_isNaN_12338_10 : decode cJxf58ca_isNaN_12338 10 = .ok (.iconst 0, 1) := by decide +kernel
theorem dJxf58ca_isNaN_12338_11 : decode cJxf58ca_isNaN_12338 11 = .ok (.ireturn, 1) := by decide +kernel
theorem dJxf58ca_floatToIntBits_5c35a_0 : decode cJxf58ca_floatToIntBits_5c35a 0 = .ok (.fload_n 0, 1) := by decide +kernel
theorem dJxf58ca_floatToIntBits_5c35a_1 : decode cJxf58ca_floatToIntBits_5c35a 1 = .ok (.invokestatic 59, 3) := by decide +kernel
theorem dJxf58ca_floatToIntBits_5c35a_4 : decode cJxf58ca_floatToIntBits_5c35a 4 = .ok (.ifCond .ne 8, 3) := by decide +kernel
theorem dJxf58ca_floatToIntBits_5c35a_7 : decode cJxf58ca_floatToIntBits_5c35a 7 = .ok (.fload_n 0, 1) := by decide +kernel
theorem dJxf58ca_floatToIntBits_5c35a_8 : decode cJxf58ca_floatToIntBits_5c35a 8 = .ok (.invokestatic 74, 3) := by decide +kernel
theorem dJxf58ca_floatToIntBits_5c35a_11 : decode cJxf58ca_floatToIntBits_5c35a 11 = .ok (.ireturn, 1) := by decide +kernel
theorem dJxf58ca_floatToIntBits_5c35a_12 : decode cJxf58ca_floatToIntBits_5c35a 12 = .ok (.ldc 77, 2) := by decide +kernel
theorem dJxf58ca_floatToIntBits_5c35a_14 : decode cJxf58ca_floatToIntBits_5c35a 14 = .ok (.ireturn, 1) := by decide +kernel
theorem dJ13_bitCount_95d88_0 : decode cJ13_bitCount_95d88 0 = .ok (.lload_n 0, 1) := by decide +kernel
theorem dJ13_bitCount_95d88_1 : decode cJ13_bitCount_95d88 1 = .ok (.lload_n 0, 1) := by decide +kernel
theorem dJ13_bitCount_95d88_2 : decode cJ13_bitCount_95d88 2 = .ok (.iconst 1, 1) := by decide +kernel
theorem dJ13_bitCount_95d88_3 : decode cJ13_bitCount_95d88 3 = .ok (.lushr, 1) := by decide +kernel
theorem dJ13_bitCount_95d88_4 : decode cJ13_bitCount_95d88 4 = .ok (.ldc2_w 314, 3) := by decide +kernel
theorem dJ13_bitCount_95d88_7 : decode cJ13_bitCount_95d88 7 = .ok (.land, 1) := by decide +kernel
theorem dJ13_bitCount_95d88_8 : decode cJ13_bitCount_95d88 8 = .ok (.lsub, 1) := by decide +kernel
theorem dJ13_bitCount_95d88_9 : decode cJ13_bitCount_95d88 9 = .ok (.lstore_n 0, 1) := by decide +kernel
theorem dJ13_bitCount_95d88_10 : decode cJ13_bitCount_95d88 10 = .ok (.lload_n 0, 1) := by decide +kernel
theorem dJ13_bitCount_95d88_11 : decode cJ13_bitCount_95d88 11 = .ok (.ldc2_w 316, 3) := by decide +kernel
theorem dJ13_bitCount_95d88_14 : decode cJ13_bitCount_95d88 14 = .ok (.land, 1) := by decide +kernel
theorem dJ13_bitCount_95d88_15 : decode cJ13_bitCount_95d88 15 = .ok (.lload_n 0, 1) := by decide +kernel
theorem dJ13_bitCount_95d88_16 : decode cJ13_bitCount_95d88 16 = .ok (.iconst 2, 1) := by decide +kernel
theorem dJ13_bitCount_95d88_17 : decode cJ13_bitCount_95d88 17 = .ok (.lushr, 1) := by decide +kernel
theorem dJ13_bitCount_95d88_18 : decode cJ13_bitCount_95d88 18 = .ok (.ldc2_w 316, 3) := by decide +kernel
theorem dJ13_bitCount_95d88_21 : decode cJ13_bitCount_95d88 21 = .ok (.land, 1) := by decide +kernel
theorem dJ13_bitCount_95d88_22 : decode cJ13_bitCount_95d88 22 = .ok (.ladd, 1) := by decide +kernel
theorem dJ13_bitCount_95d88_23 : decode cJ13_bitCount_95d88 23 = .ok (.lstore_n 0, 1) := by decide +kernel
theorem dJ13_bitCount_95d88_24 : decode cJ13_bitCount_95d88 24 = .ok (.lload_n 0, 1) := by decide +kernel
theorem dJ13_bitCount_95d88_25 : decode cJ13_bitCount_95d88 25 = .ok (.lload_n 0, 1) := by decide +kernel
theorem dJ13_bitCount_95d88_26 : decode cJ13_bitCount_95d88 26 = .ok (.iconst 4, 1) := by decide +kernel
theorem dJ13_bitCount_95d88_27 : decode cJ13_bitCount_95d88 27 = .ok (.lushr, 1) := by decide +kernel
theorem dJ13_bitCount_95d88_28 : decode cJ13_bitCount_95d88 28 = .ok (.ladd, 1) := by decide +kernel
theorem dJ13_bitCount_95d88_29 : decode cJ13_bitCount_95d88 29 = .ok (.ldc2_w 318, 3) := by decide +kernel
theorem dJ13_bitCount_95d88_32 : decode cJ13_bitCount_95d88 32 = .ok (.land, 1) := by decide +kernel
theorem dJ13_bitCount_95d88_33 : decode cJ13_bitCount_95d88 33 = .ok (.lstore_n 0, 1) := by decide +kernel
theorem dJ13_bitCount_95d88_34 : decode cJ13_bitCount_95d88 34 = .ok (.lload_n 0, 1) := by decide +kernel
theorem dJ13_bitCount_95d88_35 : decode cJ13_bitCount_95d88 35 = .ok (.lload_n 0, 1) := by decide +kernel
theorem dJ13_bitCount_95d88_36 : decode cJ13_bitCount_95d88 36 = .ok (.bipush 8, 2) := by decide +kernel
theorem dJ13_bitCount_95d88_38 : decode cJ13_bitCount_95d88 38 = .ok (.lushr, 1) := by decide +kernel
theorem dJ13_bitCount_95d88_39 : decode cJ13_bitCount_95d88 39 = .ok (.ladd, 1) := by decide +kernel
theorem dJ13_bitCount_95d88_40 : decode cJ13_bitCount_95d88 40 = .ok (.lstore_n 0, 1) := by decide +kernel
theorem dJ13_bitCount_95d88_41 : decode cJ13_bitCount_95d88 41 = .ok (.lload_n 0, 1) := by decide +kernel
theorem dJ13_bitCount_95d88_42 : decode cJ13_bitCount_95d88 42 = .ok (.lload_n 0, 1) := by decide +kernel
theorem dJ13_bitCount_95d88_43 : decode cJ13_bitCount_95d88 43 = .ok (.bipush 16, 2) := by decide +kernel
theorem dJ13_bitCount_95d88_45 : decode cJ13_bitCount_95d88 45 = .ok (.lushr, 1) := by decide +kernel
theorem dJ13_bitCount_95d88_46 : decode cJ13_bitCount_95d88 46 = .ok (.ladd, 1) := by decide +kernel
theorem dJ13_bitCount_95d88_47 : decode cJ13_bitCount_95d88 47 = .ok (.lstore_n 0, 1) := by decide +kernel
theorem dJ13_bitCount_95d88_48 : decode cJ13_bitCount_95d88 48 = .ok (.lload_n 0, 1) := by decide +kernel
theorem dJ13_bitCount_95d88_49 : decode cJ13_bitCount_95d88 49 = .ok (.lload_n 0, 1) := by decide +kernel
theorem dJ13_bitCount_95d88_50 : decode cJ13_bitCount_95d88 50 = .ok (.bipush 32, 2) := by decide +kernel
theorem dJ13_bitCount_95d88_52 : decode cJ13_bitCount_95d88 52 = .ok (.lushr, 1) := by decide +kernel
theorem dJ13_bitCount_95d88_53 : decode cJ13_bitCount_95d88 53 = .ok (.ladd, 1) := by decide +kernel
theorem dJ13_bitCount_95d88_54 : decode cJ13_bitCount_95d88 54 = .ok (.lstore_n 0, 1) := by decide +kernel
theorem dJ13_bitCount_95d88_55 : decode cJ13_bitCount_95d88 55 = .ok (.lload_n 0, 1) := by decide +kernel
theorem dJ13_bitCount_95d88_56 : decode cJ13_bitCount_95d88 56 = .ok (.l2i, 1) := by decide +kernel
theorem dJ13_bitCount_95d88_57 : decode cJ13_bitCount_95d88 57 = .ok (.bipush 127, 2) := by decide +kernel
theorem dJ13_bitCount_95d88_59 : decode cJ13_bitCount_95d88 59 = .ok (.iand, 1) := by decide +kernel
theorem dJ13_bitCount_95d88_60 : decode cJ13_bitCount_95d88 60 = .ok (.ireturn, 1) := by decide +kernel
theorem dJ9_max_7cf53_0 : decode cJ9_max_7cf53 0 = .ok (.iload_n 0, 1) := by decide +kernel
theorem dJ9_max_7cf53_1 : decode cJ9_max_7cf53 1 = .ok (.iload_n 1, 1) := by decide +kernel
theorem dJ9_max_7cf53_2 : decode cJ9_max_7cf53 2 = .ok (.if_icmp .lt 7, 3) := by decide +kernel
theorem dJ9_max_7cf53_5 : decode cJ9_max_7cf53 5 = .ok (.iload_n 0, 1) := by decide +kernel
theorem dJ9_max_7cf53_6 : decode cJ9_max_7cf53 6 = .ok (.goto 4, 3) := by decide +kernel
theorem dJ9_max_7cf53_9 : decode cJ9_max_7cf53 9 = .ok (.iload_n 1, 1) := by decide +kernel
theorem dJ9_max_7cf53_10 : decode cJ9_max_7cf53 10 = .ok (.ireturn, 1) := by decide +kernel
theorem dJ9_min_7cf53_0 : decode cJ9_min_7cf53 0 = .ok (.iload_n 0, 1) := by decide +kernel
theorem dJ9_min_7cf53_1 : decode cJ9_min_7cf53 1 = .ok (.iload_n 1, 1) := by decide +kernel
theorem dJ9_min_7cf53_2 : decode cJ9_min_7cf53 2 = .ok (.if_icmp .gt 7, 3) := by decide +kernel
theorem dJ9_min_7cf53_5 : decode cJ9_min_7cf53 5 = .ok (.iload_n 0, 1) := by decide +kernel
theorem dJ9_min_7cf53_6 : decode cJ9_min_7cf53 6 = .ok (.goto 4, 3) := by decide +kernel
theorem dJ9_min_7cf53_9 : decode cJ9_min_7cf53 9 = .ok (.iload_n 1, 1) := by decide +kernel
theorem dJ9_min_7cf53_10 : decode cJ9_min_7cf53 10 = .ok (.ireturn, 1) := by decide +kernel
theorem dJ0_length_8abf5_0 : decode cJ0_length_8abf5 0 = .ok (.aload_n 0, 1) := by decide +kernel
theorem dJ0_length_8abf5_1 : decode cJ0_length_8abf5 1 = .ok (.getfield 9, 3) := by decide +kernel
theorem dJ0_length_8abf5_4 : decode cJ0_length_8abf5 4 = .ok (.arraylength, 1) := by decide +kernel
theorem dJ0_length_8abf5_5 : decode cJ0_length_8abf5 5 = .ok (.aload_n 0, 1) := by decide +kernel
theorem dJ0_length_8abf5_6 : decode cJ0_length_8abf5 6 = .ok (.invokevirtual 335, 3) := by decide +kernel
theorem dJ0_length_8abf5_9 : decode cJ0_length_8abf5 9 = .ok (.ishr, 1) := by decide +kernel
theorem dJ0_length_8abf5_10 : decode cJ0_length_8abf5 10 = .ok (.ireturn, 1) := by decide +kernel
theorem dJ0_charAt_5068e_0 : decode cJ0_charAt_5068e 0 = .ok (.aload_n 0, 1) := by decide +kernel
theorem dJ0_charAt_5068e_1 : decode cJ0_charAt_5068e 1 = .ok (.invokevirtual 492, 3) := by decide +kernel
theorem dJ0_charAt_5068e_4 : decode cJ0_charAt_5068e 4 = .ok (.ifCond .eq 12, 3) := by decide +kernel
theorem dJ0_charAt_5068e_7 : decode cJ0_charAt_5068e 7 = .ok (.aload_n 0, 1) := by decide +kernel
theorem dJ0_charAt_5068e_8 : decode cJ0_charAt_5068e 8 = .ok (.getfield 9, 3) := by decide +kernel
theorem dJ0_charAt_5068e_11 : decode cJ0_charAt_5068e 11 = .ok (.iload_n 1, 1) := by decide +kernel
theorem dJ0_charAt_5068e_12 : decode cJ0_charAt_5068e 12 = .ok (.invokestatic 495, 3) := by decide +kernel
theorem dJ0_charAt_5068e_15 : decode cJ0_charAt_5068e 15 = .ok (.ireturn, 1) := by decide +kernel
theorem dJ0_charAt_5068e_16 : decode cJ0_charAt_5068e 16 = .ok (.aload_n 0, 1) := by decide +kernel
theorem dJ0_charAt_5068e_17 : decode cJ0_charAt_5068e 17 = .ok (.getfield 9, 3) := by decide +kernel
theorem dJ0_charAt_5068e_20 : decode cJ0_charAt_5068e 20 = .ok (.iload_n 1, 1) := by decide +kernel
theorem dJ0_charAt_5068e_21 : decode cJ0_charAt_5068e 21 = .ok (.invokestatic 498, 3) := by decide +kernel
theorem dJ0_charAt_5068e_24 : decode cJ0_charAt_5068e 24 = .ok (.ireturn, 1) := by decide +kernel
theorem dJ0_coder_7d493_0 : decode cJ0_coder_7d493 0 = .ok (.getstatic 38, 3) := by decide +kernel
theorem dJ0_coder_7d493_3 : decode cJ0_coder_7d493 3 = .ok (.ifCond .eq 10, 3) := by decide +kernel
theorem dJ0_coder_7d493_6 : decode cJ0_coder_7d493 6 = .ok (.aload_n 0, 1) := by decide +kernel
theorem dJ0_coder_7d493_7 : decode cJ0_coder_7d493 7 = .ok (.getfield 15, 3) := by decide +kernel
theorem dJ0_coder_7d493_10 : decode cJ0_coder_7d493 10 = .ok (.goto 4, 3) := by decide +kernel
theorem dJ0_coder_7d493_13 : decode cJ0_coder_7d493 13 = .ok (.iconst 1, 1) := by decide +kernel
theorem dJ0_coder_7d493_14 : decode cJ0_coder_7d493 14 = .ok (.ireturn, 1) := by decide +kernel
theorem dJ0_isLatin1_aae02_0 : decode cJ0_isLatin1_aae02 0 = .ok (.getstatic 38, 3) := by decide +kernel
theorem dJ0_isLatin1_aae02_3 : decode cJ0_isLatin1_aae02 3 = .ok (.ifCond .eq 14, 3) := by decide +kernel
theorem dJ0_isLatin1_aae02_6 : decode cJ0_isLatin1_aae02 6 = .ok (.aload_n 0, 1) := by decide +kernel
theorem dJ0_isLatin1_aae02_7 : decode cJ0_isLatin1_aae02 7 = .ok (.getfield 15, 3) := by decide +kernel
theorem dJ0_isLatin1_aae02_10 : decode cJ0_isLatin1_aae02 10 = .ok (.ifCond .ne 7, 3) := by decide +kernel
theorem dJ0_isLatin1_aae02_13 : decode cJ0_isLatin1_aae02 13 = .ok (.iconst 1, 1) := by decide +kernel
theorem dJ0_isLatin1_aae02_14 : decode cJ0_isLatin1_aae02 14 = .ok (.goto 4, 3) := by decide +kernel
theorem dJ0_isLatin1_aae02_17 : decode cJ0_isLatin1_aae02 17 = .ok (.iconst 0, 1) := by decide +kernel
theorem dJ0_isLatin1_aae02_18 : decode cJ0_isLatin1_aae02 18 = .ok (.ireturn, 1) := by decide +kernel
theorem dJ0_checkIndex_df160_0 : decode cJ0_checkIndex_df160 0 = .ok (.iload_n 0, 1) := by decide +kernel
theorem dJ0_checkIndex_df160_1 : decode cJ0_checkIndex_df160 1 = .ok (.iload_n 1, 1) := by decide +kernel
theorem dJ0_checkIndex_df160_2 : decode cJ0_checkIndex_df160 2 = .ok (.getstatic 1053, 3) := by decide +kernel
theorem dJ0_checkIndex_df160_5 : decode cJ0_checkIndex_df160 5 = .ok (.invokestatic 1059, 3) := by decide +kernel
theorem dJ0_checkIndex_df160_8 : decode cJ0_checkIndex_df160 8 = .ok (.pop, 1) := by decide +kernel
theorem dJ0_checkIndex_df160_9 : decode cJ0_checkIndex_df160 9 = .ok (.return_, 1) := by decide +kernel
theorem dJ1_charAt_3b067_0 : decode cJ1_charAt_3b067 0 = .ok (.iload_n 1, 1) := by decide +kernel
theorem dJ1_charAt_3b067_1 : decode cJ1_charAt_3b067 1 = .ok (.aload_n 0, 1) := by decide +kernel
theorem dJ1_charAt_3b067_2 : decode cJ1_charAt_3b067 2 = .ok (.arraylength, 1) := by decide +kernel
theorem dJ1_charAt_3b067_3 : decode cJ1_charAt_3b067 3 = .ok (.invokestatic 9, 3) := by decide +kernel
theorem dJ1_charAt_3b067_6 : decode cJ1_charAt_3b067 6 = .ok (.aload_n 0, 1) := by decide +kernel
theorem dJ1_charAt_3b067_7 : decode cJ1_charAt_3b067 7 = .ok (.iload_n 1, 1) := by decide +kernel
theorem dJ1_charAt_3b067_8 : decode cJ1_charAt_3b067 8 = .ok (.baload, 1) := by decide +kernel
theorem dJ1_charAt_3b067_9 : decode cJ1_charAt_3b067 9 = .ok (.sipush 255, 3) := by decide +kernel
theorem dJ1_charAt_3b067_12 : decode cJ1_charAt_3b067 12 = .ok (.iand, 1) := by decide +kernel
theorem dJ1_charAt_3b067_13 : decode cJ1_charAt_3b067 13 = .ok (.i2c, 1) := by decide +kernel
theorem dJ1_charAt_3b067_14 : decode cJ1_charAt_3b067 14 = .ok (.ireturn, 1) := by decide +kernel
theorem dJ2_getChar_3b067_0 : decode cJ2_getChar_3b067 0 = .ok (.getstatic 44, 3) := by decide +kernel
theorem dJ2_getChar_3b067_3 : decode cJ2_getChar_3b067 3 = .ok (.ifCond .ne 25, 3) := by decide +kernel
theorem dJ2_getChar_3b067_6 : decode cJ2_getChar_3b067 6 = .ok (.iload_n 1, 1) := by decide +kernel
theorem dJ2_getChar_3b067_7 : decode cJ2_getChar_3b067 7 = .ok (.ifCond .lt 11, 3) := by decide +kernel
theorem dJ2_getChar_3b067_10 : decode cJ2_getChar_3b067 10 = .ok (.iload_n 1, 1) := by decide +kernel
theorem dJ2_getChar_3b067_11 : decode cJ2_getChar_3b067 11 = .ok (.aload_n 0, 1) := by decide +kernel
theorem dJ2_getChar_3b067_12 : decode cJ2_getChar_3b067 12 = .ok (.invokestatic 48, 3) := by decide +kernel
theorem dJ2_getChar_3b067_15 : decode cJ2_getChar_3b067 15 = .ok (.if_icmp .lt 13, 3) := by decide +kernel
theorem dJ2_getChar_3b067_18 : decode cJ2_getChar_3b067 18 = .ok (.new 52, 3) := by decide +kernel
theorem dJ2_getChar_3b067_21 : decode cJ2_getChar_3b067 21 = .ok (.dup, 1) := by decide +kernel
theorem dJ2_getChar_3b067_22 : decode cJ2_getChar_3b067 22 = .ok (.ldc 54, 2) := by decide +kernel
theorem dJ2_getChar_3b067_24 : decode cJ2_getChar_3b067 24 = .ok (.invokespecial 56, 3) := by decide +kernel
theorem dJ2_getChar_3b067_27 : decode cJ2_getChar_3b067 27 = .ok (.athrow, 1) := by decide +kernel
theorem dJ2_getChar_3b067_28 : decode cJ2_getChar_3b067 28 = .ok (.iload_n 1, 1) := by decide +kernel
theorem dJ2_getChar_3b067_29 : decode cJ2_getChar_3b067 29 = .ok (.iconst 1, 1) := by decide +kernel
theorem dJ2_getChar_3b067_30 : decode cJ2_getChar_3b067 30 = .ok (.ishl, 1) := by decide +kernel
theorem dJ2_getChar_3b067_31 : decode cJ2_getChar_3b067 31 = .ok (.istore_n 1, 1) := by decide +kernel
theorem dJ2_getChar_3b067_32 : decode cJ2_getChar_3b067 32 = .ok (.aload_n 0, 1) := by decide +kernel
theorem dJ2_getChar_3b067_33 : decode cJ2_getChar_3b067 33 = .ok (.iload_n 1, 1) := by decide +kernel
theorem dJ2_getChar_3b067_34 : decode cJ2_getChar_3b067 34 = .ok (.iinc 1 1, 3) := by decide +kernel
theorem dJ2_getChar_3b067_37 : decode cJ2_getChar_3b067 37 = .ok (.baload, 1) := by decide +kernel
theorem dJ2_getChar_3b067_38 : decode cJ2_getChar_3b067 38 = .ok (.sipush 255, 3) := by decide +kernel
theorem dJ2_getChar_3b067_41 : decode cJ2_getChar_3b067 41 = .ok (.iand, 1) := by decide +kernel
theorem dJ2_getChar_3b067_42 : decode cJ2_getChar_3b067 42 = .ok (.getstatic 59, 3) := by decide +kernel
theorem dJ2_getChar_3b067_45 : decode cJ2_getChar_3b067 45 = .ok (.ishl, 1) := by decide +kernel
theorem dJ2_getChar_3b067_46 : decode cJ2_getChar_3b067 46 = .ok (.aload_n 0, 1) := by decide +kernel
theorem dJ2_getChar_3b067_47 : decode cJ2_getChar_3b067 47 = .ok (.iload_n 1, 1) := by decide +kernel
theorem dJ2_getChar_3b067_48 : decode cJ2_getChar_3b067 48 = .ok (.baload, 1) := by decide +kernel
theorem dJ2_getChar_3b067_49 : decode cJ2_getChar_3b067 49 = .ok (.sipush 255, 3) := by decide +kernel
theorem dJ2_getChar_3b067_52 : decode cJ2_getChar_3b067 52 = .ok (.iand, 1) := by decide +kernel
theorem dJ2_getChar_3b067_53 : decode cJ2_getChar_3b067 53 = .ok (.getstatic 63, 3) := by decide +kernel
theorem dJ2_getChar_3b067_56 : decode cJ2_getChar_3b067 56 = .ok (.ishl, 1) := by decide +kernel
theorem dJ2_getChar_3b067_57 : decode cJ2_getChar_3b067 57 = .ok (.ior, 1) := by decide +kernel
theorem dJ2_getChar_3b067_58 : decode cJ2_getChar_3b067 58 = .ok (.i2c, 1) := by decide +kernel
theorem dJ2_getChar_3b067_59 : decode cJ2_getChar_3b067 59 = .ok (.ireturn, 1) := by decide +kernel
theorem dJ2_length_9d52b_0 : decode cJ2_length_9d52b 0 = .ok (.aload_n 0, 1) := by decide +kernel
theorem dJ2_length_9d52b_1 : decode cJ2_length_9d52b 1 = .ok (.arraylength, 1) := by decide +kernel
theorem dJ2_length_9d52b_2 : decode cJ2_length_9d52b 2 = .ok (.iconst 1, 1) := by decide +kernel
theorem dJ2_length_9d52b_3 : decode cJ2_length_9d52b 3 = .ok (.ishr, 1) := by decide +kernel
theorem dJ2_length_9d52b_4 : decode cJ2_length_9d52b 4 = .ok (.ireturn, 1) := by decide +kernel
theorem dJ2_charAt_3b067_0 : decode cJ2_charAt_3b067 0 = .ok (.iload_n 1, 1) := by decide +kernel
theorem dJ2_charAt_3b067_1 : decode cJ2_charAt_3b067 1 = .ok (.aload_n 0, 1) := by decide +kernel
theorem dJ2_charAt_3b067_2 : decode cJ2_charAt_3b067 2 = .ok (.invokestatic 67, 3) := by decide +kernel
theorem dJ2_charAt_3b067_5 : decode cJ2_charAt_3b067 5 = .ok (.aload_n 0, 1) := by decide +kernel
theorem dJ2_charAt_3b067_6 : decode cJ2_charAt_3b067 6 = .ok (.iload_n 1, 1) := by decide +kernel
theorem dJ2_charAt_3b067_7 : decode cJ2_charAt_3b067 7 = .ok (.invokestatic 71, 3) := by decide +kernel
theorem dJ2_charAt_3b067_10 : decode cJ2_charAt_3b067 10 = .ok (.ireturn, 1) := by decide +kernel
theorem dJ2_checkIndex_2214a_0 : decode cJ2_checkIndex_2214a 0 = .ok (.iload_n 0, 1) := by decide +kernel
theorem dJ2_checkIndex_2214a_1 : decode cJ2_checkIndex_2214a 1 = .ok (.aload_n 1, 1) := by decide +kernel
theorem dJ2_checkIndex_2214a_2 : decode cJ2_checkIndex_2214a 2 = .ok (.invokestatic 48, 3) := by decide +kernel
theorem dJ2_checkIndex_2214a_5 : decode cJ2_checkIndex_2214a 5 = .ok (.invokestatic 414, 3) := by decide +kernel
theorem dJ2_checkIndex_2214a_8 : decode cJ2_checkIndex_2214a 8 = .ok (.return_, 1) := by decide +kernel
theorem dJ7_fill_53178_0 : decode cJ7_fill_53178 0 = .ok (.iconst 0, 1) := by decide +kernel
theorem dJ7_fill_53178_1 : decode cJ7_fill_53178 1 = .ok (.istore_n 2, 1) := by decide +kernel
theorem dJ7_fill_53178_2 : decode cJ7_fill_53178 2 = .ok (.aload_n 0, 1) := by decide +kernel
theorem dJ7_fill_53178_3 : decode cJ7_fill_53178 3 = .ok (.arraylength, 1) := by decide +kernel
theorem dJ7_fill_53178_4 : decode cJ7_fill_53178 4 = .ok (.istore_n 3, 1) := by decide +kernel
theorem dJ7_fill_53178_5 : decode cJ7_fill_53178 5 = .ok (.iload_n 2, 1) := by decide +kernel
theorem dJ7_fill_53178_6 : decode cJ7_fill_53178 6 = .ok (.iload_n 3, 1) := by decide +kernel
theorem dJ7_fill_53178_7 : decode cJ7_fill_53178 7 = .ok (.if_icmp .ge 13, 3) := by decide +kernel
theorem dJ7_fill_53178_10 : decode cJ7_fill_53178 10 = .ok (.aload_n 0, 1) := by decide +kernel
theorem dJ7_fill_53178_11 : decode cJ7_fill_53178 11 = .ok (.iload_n 2, 1) := by decide +kernel
theorem dJ7_fill_53178_12 : decode cJ7_fill_53178 12 = .ok (.iload_n 1, 1) := by decide +kernel
theorem dJ7_fill_53178_13 : decode cJ7_fill_53178 13 = .ok (.iastore, 1) := by decide +kernel
theorem dJ7_fill_53178_14 : decode cJ7_fill_53178 14 = .ok (.iinc 2 1, 3) := by decide +kernel
theorem dJ7_fill_53178_17 : decode cJ7_fill_53178 17 = .ok (.goto (-12), 3) := by decide +kernel
theorem dJ7_fill_53178_20 : decode cJ7_fill_53178 20 = .ok (.return_, 1) := by decide +kernel
theorem dJ3_checkIndex_8e157_0 : decode cJ3_checkIndex_8e157 0 = .ok (.iload_n 0, 1) := by decide +kernel
theorem dJ3_checkIndex_8e157_1 : decode cJ3_checkIndex_8e157 1 = .ok (.ifCond .lt 8, 3) := by decide +kernel
theorem dJ3_checkIndex_8e157_4 : decode cJ3_checkIndex_8e157 4 = .ok (.iload_n 0, 1) := by decide +kernel
theorem dJ3_checkIndex_8e157_5 : decode cJ3_checkIndex_8e157 5 = .ok (.iload_n 1, 1) := by decide +kernel
theorem dJ3_checkIndex_8e157_6 : decode cJ3_checkIndex_8e157 6 = .ok (.if_icmp .lt 10, 3) := by decide +kernel
theorem dJ3_checkIndex_8e157_9 : decode cJ3_checkIndex_8e157 9 = .ok (.aload_n 2, 1) := by decide +kernel
theorem dJ3_checkIndex_8e157_10 : decode cJ3_checkIndex_8e157 10 = .ok (.iload_n 0, 1) := by decide +kernel
theorem dJ3_checkIndex_8e157_11 : decode cJ3_checkIndex_8e157 11 = .ok (.iload_n 1, 1) := by decide +kernel
theorem dJ3_checkIndex_8e157_12 : decode cJ3_checkIndex_8e157 12 = .ok (.invokestatic 95, 3) := by decide +kernel
theorem dJ3_checkIndex_8e157_15 : decode cJ3_checkIndex_8e157 15 = .ok (.athrow, 1) := by decide +kernel
theorem dJ3_checkIndex_8e157_16 : decode cJ3_checkIndex_8e157 16 = .ok (.iload_n 0, 1) := by decide +kernel
theorem dJ3_checkIndex_8e157_17 : decode cJ3_checkIndex_8e157 17 = .ok (.ireturn, 1) := by decide +kernel
theorem dL_setTree_0 : decode cL_setTree 0 = .ok (.aload 4, 2) := by decide +kernel
theorem dL_setTree_2 : decode cL_setTree 2 = .ok (.iconst 0, 1) := by decide +kernel
theorem dL_setTree_3 : decode cL_setTree 3 = .ok (.aload_n 0, 1) := by decide +kernel
theorem dL_setTree_4 : decode cL_setTree 4 = .ok (.iload_n 1, 1) := by decide +kernel
theorem dL_setTree_5 : decode cL_setTree 5 = .ok (.iload_n 2, 1) := by decide +kernel
theorem dL_setTree_6 : decode cL_setTree 6 = .ok (.iload_n 3, 1) := by decide +kernel
theorem dL_setTree_7 : decode cL_setTree 7 = .ok (.invokevirtual 7, 3) := by decide +kernel
theorem dL_setTree_10 : decode cL_setTree 10 = .ok (.i2l, 1) := by decide +kernel
theorem dL_setTree_11 : decode cL_setTree 11 = .ok (.lastore, 1) := by decide +kernel
theorem dL_setTree_12 : decode cL_setTree 12 = .ok (.goto 11, 3) := by decide +kernel
theorem dL_setTree_15 : decode cL_setTree 15 = .ok (.astore 5, 2) := by decide +kernel
theorem dL_setTree_17 : decode cL_setTree 17 = .ok (.iconst 1, 1) := by decide +kernel
theorem dL_setTree_18 : decode cL_setTree 18 = .ok (.ireturn, 1) := by decide +kernel
theorem dL_setTree_19 : decode cL_setTree 19 = .ok (.astore 5, 2) := by decide +kernel
theorem dL_setTree_21 : decode cL_setTree 21 = .ok (.iconst 2, 1) := by decide +kernel
theorem dL_setTree_22 : decode cL_setTree 22 = .ok (.ireturn, 1) := by decide +kernel
theorem dL_setTree_23 : decode cL_setTree 23 = .ok (.iconst 0, 1) := by decide +kernel
theorem dL_setTree_24 : decode cL_setTree 24 = .ok (.ireturn, 1) := by decide +kernel
theorem dL_setBench_0 : decode cL_setBench 0 = .ok (.aload_n 3, 1) := by decide +kernel
theorem dL_setBench_1 : decode cL_setBench 1 = .ok (.iconst 0, 1) := by decide +kernel
theorem dL_setBench_2 : decode cL_setBench 2 = .ok (.aload_n 0, 1) := by decide +kernel
theorem dL_setBench_3 : decode cL_setBench 3 = .ok (.iload_n 1, 1) := by decide +kernel
theorem dL_setBench_4 : decode cL_setBench 4 = .ok (.iload_n 2, 1) := by decide +kernel
theorem dL_setBench_5 : decode cL_setBench 5 = .ok (.invokevirtual 17, 3) := by decide +kernel
theorem dL_setBench_8 : decode cL_setBench 8 = .ok (.i2l, 1) := by decide +kernel
theorem dL_setBench_9 : decode cL_setBench 9 = .ok (.lastore, 1) := by decide +kernel
theorem dL_setBench_10 : decode cL_setBench 10 = .ok (.goto 11, 3) := by decide +kernel
theorem dL_setBench_13 : decode cL_setBench 13 = .ok (.astore 4, 2) := by decide +kernel
theorem dL_setBench_15 : decode cL_setBench 15 = .ok (.iconst 1, 1) := by decide +kernel
theorem dL_setBench_16 : decode cL_setBench 16 = .ok (.ireturn, 1) := by decide +kernel
theorem dL_setBench_17 : decode cL_setBench 17 = .ok (.astore 4, 2) := by decide +kernel
theorem dL_setBench_19 : decode cL_setBench 19 = .ok (.iconst 2, 1) := by decide +kernel
theorem dL_setBench_20 : decode cL_setBench 20 = .ok (.ireturn, 1) := by decide +kernel
theorem dL_setBench_21 : decode cL_setBench 21 = .ok (.iconst 0, 1) := by decide +kernel
theorem dL_setBench_22 : decode cL_setBench 22 = .ok (.ireturn, 1) := by decide +kernel
theorem dL_reach_0 : decode cL_reach 0 = .ok (.aload_n 3, 1) := by decide +kernel
theorem dL_reach_1 : decode cL_reach 1 = .ok (.iconst 0, 1) := by decide +kernel
theorem dL_reach_2 : decode cL_reach 2 = .ok (.aload_n 0, 1) := by decide +kernel
theorem dL_reach_3 : decode cL_reach 3 = .ok (.iload_n 1, 1) := by decide +kernel
theorem dL_reach_4 : decode cL_reach 4 = .ok (.iload_n 2, 1) := by decide +kernel
theorem dL_reach_5 : decode cL_reach 5 = .ok (.invokevirtual 21, 3) := by decide +kernel
theorem dL_reach_8 : decode cL_reach 8 = .ok (.lastore, 1) := by decide +kernel
theorem dL_reach_9 : decode cL_reach 9 = .ok (.goto 7, 3) := by decide +kernel
theorem dL_reach_12 : decode cL_reach 12 = .ok (.astore 4, 2) := by decide +kernel
theorem dL_reach_14 : decode cL_reach 14 = .ok (.iconst 1, 1) := by decide +kernel
theorem dL_reach_15 : decode cL_reach 15 = .ok (.ireturn, 1) := by decide +kernel
theorem dL_reach_16 : decode cL_reach 16 = .ok (.iconst 0, 1) := by decide +kernel
theorem dL_reach_17 : decode cL_reach 17 = .ok (.ireturn, 1) := by decide +kernel
theorem dL_reachByQueue_0 : decode cL_reachByQueue 0 = .ok (.aload_n 3, 1) := by decide +kernel
theorem dL_reachByQueue_1 : decode cL_reachByQueue 1 = .ok (.iconst 0, 1) := by decide +kernel
theorem dL_reachByQueue_2 : decode cL_reachByQueue 2 = .ok (.aload_n 0, 1) := by decide +kernel
theorem dL_reachByQueue_3 : decode cL_reachByQueue 3 = .ok (.iload_n 1, 1) := by decide +kernel
theorem dL_reachByQueue_4 : decode cL_reachByQueue 4 = .ok (.iload_n 2, 1) := by decide +kernel
theorem dL_reachByQueue_5 : decode cL_reachByQueue 5 = .ok (.invokevirtual 25, 3) := by decide +kernel
theorem dL_reachByQueue_8 : decode cL_reachByQueue 8 = .ok (.lastore, 1) := by decide +kernel
theorem dL_reachByQueue_9 : decode cL_reachByQueue 9 = .ok (.goto 7, 3) := by decide +kernel
theorem dL_reachByQueue_12 : decode cL_reachByQueue 12 = .ok (.astore 4, 2) := by decide +kernel
theorem dL_reachByQueue_14 : decode cL_reachByQueue 14 = .ok (.iconst 1, 1) := by decide +kernel
theorem dL_reachByQueue_15 : decode cL_reachByQueue 15 = .ok (.ireturn, 1) := by decide +kernel
theorem dL_reachByQueue_16 : decode cL_reachByQueue 16 = .ok (.iconst 0, 1) := by decide +kernel
theorem dL_reachByQueue_17 : decode cL_reachByQueue 17 = .ok (.ireturn, 1) := by decide +kernel
theorem dL_setWind_0 : decode cL_setWind 0 = .ok (.aload_n 3, 1) := by decide +kernel
theorem dL_setWind_1 : decode cL_setWind 1 = .ok (.iconst 0, 1) := by decide +kernel
theorem dL_setWind_2 : decode cL_setWind 2 = .ok (.aload_n 0, 1) := by decide +kernel
theorem dL_setWind_3 : decode cL_setWind 3 = .ok (.iload_n 1, 1) := by decide +kernel
theorem dL_setWind_4 : decode cL_setWind 4 = .ok (.iload_n 2, 1) := by decide +kernel
theorem dL_setWind_5 : decode cL_setWind 5 = .ok (.invokevirtual 28, 3) := by decide +kernel
theorem dL_setWind_8 : decode cL_setWind 8 = .ok (.i2l, 1) := by decide +kernel
theorem dL_setWind_9 : decode cL_setWind 9 = .ok (.lastore, 1) := by decide +kernel
theorem dL_setWind_10 : decode cL_setWind 10 = .ok (.goto 7, 3) := by decide +kernel
theorem dL_setWind_13 : decode cL_setWind 13 = .ok (.astore 4, 2) := by decide +kernel
theorem dL_setWind_15 : decode cL_setWind 15 = .ok (.iconst 1, 1) := by decide +kernel
theorem dL_setWind_16 : decode cL_setWind 16 = .ok (.ireturn, 1) := by decide +kernel
theorem dL_setWind_17 : decode cL_setWind 17 = .ok (.iconst 0, 1) := by decide +kernel
theorem dL_setWind_18 : decode cL_setWind 18 = .ok (.ireturn, 1) := by decide +kernel
theorem dL_addParty_0 : decode cL_addParty 0 = .ok (.aload_n 3, 1) := by decide +kernel
theorem dL_addParty_1 : decode cL_addParty 1 = .ok (.iconst 0, 1) := by decide +kernel
theorem dL_addParty_2 : decode cL_addParty 2 = .ok (.aload_n 0, 1) := by decide +kernel
theorem dL_addParty_3 : decode cL_addParty 3 = .ok (.iload_n 1, 1) := by decide +kernel
theorem dL_addParty_4 : decode cL_addParty 4 = .ok (.iload_n 2, 1) := by decide +kernel
theorem dL_addParty_5 : decode cL_addParty 5 = .ok (.invokevirtual 33, 3) := by decide +kernel
theorem dL_addParty_8 : decode cL_addParty 8 = .ok (.i2l, 1) := by decide +kernel
theorem dL_addParty_9 : decode cL_addParty 9 = .ok (.lastore, 1) := by decide +kernel
theorem dL_addParty_10 : decode cL_addParty 10 = .ok (.goto 15, 3) := by decide +kernel
theorem dL_addParty_13 : decode cL_addParty 13 = .ok (.astore 4, 2) := by decide +kernel
theorem dL_addParty_15 : decode cL_addParty 15 = .ok (.iconst 1, 1) := by decide +kernel
theorem dL_addParty_16 : decode cL_addParty 16 = .ok (.ireturn, 1) := by decide +kernel
theorem dL_addParty_17 : decode cL_addParty 17 = .ok (.astore 4, 2) := by decide +kernel
theorem dL_addParty_19 : decode cL_addParty 19 = .ok (.iconst 2, 1) := by decide +kernel
theorem dL_addParty_20 : decode cL_addParty 20 = .ok (.ireturn, 1) := by decide +kernel
theorem dL_addParty_21 : decode cL_addParty 21 = .ok (.astore 4, 2) := by decide +kernel
theorem dL_addParty_23 : decode cL_addParty 23 = .ok (.iconst 3, 1) := by decide +kernel
theorem dL_addParty_24 : decode cL_addParty 24 = .ok (.ireturn, 1) := by decide +kernel
theorem dL_addParty_25 : decode cL_addParty 25 = .ok (.iconst 0, 1) := by decide +kernel
theorem dL_addParty_26 : decode cL_addParty 26 = .ok (.ireturn, 1) := by decide +kernel
theorem dL_moveParty_0 : decode cL_moveParty 0 = .ok (.aload 4, 2) := by decide +kernel
theorem dL_moveParty_2 : decode cL_moveParty 2 = .ok (.iconst 0, 1) := by decide +kernel
theorem dL_moveParty_3 : decode cL_moveParty 3 = .ok (.aload_n 0, 1) := by decide +kernel
theorem dL_moveParty_4 : decode cL_moveParty 4 = .ok (.iload_n 1, 1) := by decide +kernel
theorem dL_moveParty_5 : decode cL_moveParty 5 = .ok (.iload_n 2, 1) := by decide +kernel
theorem dL_moveParty_6 : decode cL_moveParty 6 = .ok (.iload_n 3, 1) := by decide +kernel
theorem dL_moveParty_7 : decode cL_moveParty 7 = .ok (.invokevirtual 38, 3) := by decide +kernel
theorem dL_moveParty_10 : decode cL_moveParty 10 = .ok (.i2l, 1) := by decide +kernel
theorem dL_moveParty_11 : decode cL_moveParty 11 = .ok (.lastore, 1) := by decide +kernel
theorem dL_moveParty_12 : decode cL_moveParty 12 = .ok (.goto 11, 3) := by decide +kernel
theorem dL_moveParty_15 : decode cL_moveParty 15 = .ok (.astore 5, 2) := by decide +kernel
theorem dL_moveParty_17 : decode cL_moveParty 17 = .ok (.iconst 1, 1) := by decide +kernel
theorem dL_moveParty_18 : decode cL_moveParty 18 = .ok (.ireturn, 1) := by decide +kernel
theorem dL_moveParty_19 : decode cL_moveParty 19 = .ok (.astore 5, 2) := by decide +kernel
theorem dL_moveParty_21 : decode cL_moveParty 21 = .ok (.iconst 2, 1) := by decide +kernel
theorem dL_moveParty_22 : decode cL_moveParty 22 = .ok (.ireturn, 1) := by decide +kernel
theorem dL_moveParty_23 : decode cL_moveParty 23 = .ok (.iconst 0, 1) := by decide +kernel
theorem dL_moveParty_24 : decode cL_moveParty 24 = .ok (.ireturn, 1) := by decide +kernel
theorem dL_cellOf_0 : decode cL_cellOf 0 = .ok (.aload_n 2, 1) := by decide +kernel
theorem dL_cellOf_1 : decode cL_cellOf 1 = .ok (.iconst 0, 1) := by decide +kernel
theorem dL_cellOf_2 : decode cL_cellOf 2 = .ok (.aload_n 0, 1) := by decide +kernel
theorem dL_cellOf_3 : decode cL_cellOf 3 = .ok (.iload_n 1, 1) := by decide +kernel
theorem dL_cellOf_4 : decode cL_cellOf 4 = .ok (.invokevirtual 42, 3) := by decide +kernel
theorem dL_cellOf_7 : decode cL_cellOf 7 = .ok (.i2l, 1) := by decide +kernel
theorem dL_cellOf_8 : decode cL_cellOf 8 = .ok (.lastore, 1) := by decide +kernel
theorem dL_cellOf_9 : decode cL_cellOf 9 = .ok (.goto 6, 3) := by decide +kernel
theorem dL_cellOf_12 : decode cL_cellOf 12 = .ok (.astore_n 3, 1) := by decide +kernel
theorem dL_cellOf_13 : decode cL_cellOf 13 = .ok (.iconst 1, 1) := by decide +kernel
theorem dL_cellOf_14 : decode cL_cellOf 14 = .ok (.ireturn, 1) := by decide +kernel
theorem dL_cellOf_15 : decode cL_cellOf 15 = .ok (.iconst 0, 1) := by decide +kernel
theorem dL_cellOf_16 : decode cL_cellOf 16 = .ok (.ireturn, 1) := by decide +kernel
theorem dL_partyIn_0 : decode cL_partyIn 0 = .ok (.aload_n 3, 1) := by decide +kernel
theorem dL_partyIn_1 : decode cL_partyIn 1 = .ok (.iconst 0, 1) := by decide +kernel
theorem dL_partyIn_2 : decode cL_partyIn 2 = .ok (.aload_n 0, 1) := by decide +kernel
theorem dL_partyIn_3 : decode cL_partyIn 3 = .ok (.iload_n 1, 1) := by decide +kernel
theorem dL_partyIn_4 : decode cL_partyIn 4 = .ok (.iload_n 2, 1) := by decide +kernel
theorem dL_partyIn_5 : decode cL_partyIn 5 = .ok (.invokevirtual 46, 3) := by decide +kernel
theorem dL_partyIn_8 : decode cL_partyIn 8 = .ok (.i2l, 1) := by decide +kernel
theorem dL_partyIn_9 : decode cL_partyIn 9 = .ok (.lastore, 1) := by decide +kernel
theorem dL_partyIn_10 : decode cL_partyIn 10 = .ok (.goto 11, 3) := by decide +kernel
theorem dL_partyIn_13 : decode cL_partyIn 13 = .ok (.astore 4, 2) := by decide +kernel
theorem dL_partyIn_15 : decode cL_partyIn 15 = .ok (.iconst 1, 1) := by decide +kernel
theorem dL_partyIn_16 : decode cL_partyIn 16 = .ok (.ireturn, 1) := by decide +kernel
theorem dL_partyIn_17 : decode cL_partyIn 17 = .ok (.astore 4, 2) := by decide +kernel
theorem dL_partyIn_19 : decode cL_partyIn 19 = .ok (.iconst 2, 1) := by decide +kernel
theorem dL_partyIn_20 : decode cL_partyIn 20 = .ok (.ireturn, 1) := by decide +kernel
theorem dL_partyIn_21 : decode cL_partyIn 21 = .ok (.iconst 0, 1) := by decide +kernel
theorem dL_partyIn_22 : decode cL_partyIn 22 = .ok (.ireturn, 1) := by decide +kernel
theorem dL_servedCount_0 : decode cL_servedCount 0 = .ok (.aload_n 2, 1) := by decide +kernel
theorem dL_servedCount_1 : decode cL_servedCount 1 = .ok (.iconst 0, 1) := by decide +kernel
theorem dL_servedCount_2 : decode cL_servedCount 2 = .ok (.aload_n 0, 1) := by decide +kernel
theorem dL_servedCount_3 : decode cL_servedCount 3 = .ok (.iload_n 1, 1) := by decide +kernel
theorem dL_servedCount_4 : decode cL_servedCount 4 = .ok (.invokevirtual 51, 3) := by decide +kernel
theorem dL_servedCount_7 : decode cL_servedCount 7 = .ok (.i2l, 1) := by decide +kernel
theorem dL_servedCount_8 : decode cL_servedCount 8 = .ok (.lastore, 1) := by decide +kernel
theorem dL_servedCount_9 : decode cL_servedCount 9 = .ok (.goto 6, 3) := by decide +kernel
theorem dL_servedCount_12 : decode cL_servedCount 12 = .ok (.astore_n 3, 1) := by decide +kernel
theorem dL_servedCount_13 : decode cL_servedCount 13 = .ok (.iconst 1, 1) := by decide +kernel
theorem dL_servedCount_14 : decode cL_servedCount 14 = .ok (.ireturn, 1) := by decide +kernel
theorem dL_servedCount_15 : decode cL_servedCount 15 = .ok (.iconst 0, 1) := by decide +kernel
theorem dL_servedCount_16 : decode cL_servedCount 16 = .ok (.ireturn, 1) := by decide +kernel
theorem dL_flightLength_0 : decode cL_flightLength 0 = .ok (.aload_n 2, 1) := by decide +kernel
theorem dL_flightLength_1 : decode cL_flightLength 1 = .ok (.iconst 0, 1) := by decide +kernel
theorem dL_flightLength_2 : decode cL_flightLength 2 = .ok (.aload_n 0, 1) := by decide +kernel
theorem dL_flightLength_3 : decode cL_flightLength 3 = .ok (.iload_n 1, 1) := by decide +kernel
theorem dL_flightLength_4 : decode cL_flightLength 4 = .ok (.invokevirtual 54, 3) := by decide +kernel
theorem dL_flightLength_7 : decode cL_flightLength 7 = .ok (.i2l, 1) := by decide +kernel
theorem dL_flightLength_8 : decode cL_flightLength 8 = .ok (.lastore, 1) := by decide +kernel
theorem dL_flightLength_9 : decode cL_flightLength 9 = .ok (.goto 6, 3) := by decide +kernel
theorem dL_flightLength_12 : decode cL_flightLength 12 = .ok (.astore_n 3, 1) := by decide +kernel
theorem dL_flightLength_13 : decode cL_flightLength 13 = .ok (.iconst 1, 1) := by decide +kernel
theorem dL_flightLength_14 : decode cL_flightLength 14 = .ok (.ireturn, 1) := by decide +kernel
theorem dL_flightLength_15 : decode cL_flightLength 15 = .ok (.iconst 0, 1) := by decide +kernel
theorem dL_flightLength_16 : decode cL_flightLength 16 = .ok (.ireturn, 1) := by decide +kernel
theorem dL_flightCell_0 : decode cL_flightCell 0 = .ok (.aload_n 3, 1) := by decide +kernel
theorem dL_flightCell_1 : decode cL_flightCell 1 = .ok (.iconst 0, 1) := by decide +kernel
theorem dL_flightCell_2 : decode cL_flightCell 2 = .ok (.aload_n 0, 1) := by decide +kernel
theorem dL_flightCell_3 : decode cL_flightCell 3 = .ok (.iload_n 1, 1) := by decide +kernel
theorem dL_flightCell_4 : decode cL_flightCell 4 = .ok (.iload_n 2, 1) := by decide +kernel
theorem dL_flightCell_5 : decode cL_flightCell 5 = .ok (.invokevirtual 57, 3) := by decide +kernel
theorem dL_flightCell_8 : decode cL_flightCell 8 = .ok (.i2l, 1) := by decide +kernel
theorem dL_flightCell_9 : decode cL_flightCell 9 = .ok (.lastore, 1) := by decide +kernel
theorem dL_flightCell_10 : decode cL_flightCell 10 = .ok (.goto 11, 3) := by decide +kernel
theorem dL_flightCell_13 : decode cL_flightCell 13 = .ok (.astore 4, 2) := by decide +kernel
theorem dL_flightCell_15 : decode cL_flightCell 15 = .ok (.iconst 1, 1) := by decide +kernel
theorem dL_flightCell_16 : decode cL_flightCell 16 = .ok (.ireturn, 1) := by decide +kernel
theorem dL_flightCell_17 : decode cL_flightCell 17 = .ok (.astore 4, 2) := by decide +kernel
theorem dL_flightCell_19 : decode cL_flightCell 19 = .ok (.iconst 2, 1) := by decide +kernel
theorem dL_flightCell_20 : decode cL_flightCell 20 = .ok (.ireturn, 1) := by decide +kernel
theorem dL_flightCell_21 : decode cL_flightCell 21 = .ok (.iconst 0, 1) := by decide +kernel
theorem dL_flightCell_22 : decode cL_flightCell 22 = .ok (.ireturn, 1) := by decide +kernel
theorem dL_flightEnd_0 : decode cL_flightEnd 0 = .ok (.aload_n 2, 1) := by decide +kernel
theorem dL_flightEnd_1 : decode cL_flightEnd 1 = .ok (.iconst 0, 1) := by decide +kernel
theorem dL_flightEnd_2 : decode cL_flightEnd 2 = .ok (.aload_n 0, 1) := by decide +kernel
theorem dL_flightEnd_3 : decode cL_flightEnd 3 = .ok (.iload_n 1, 1) := by decide +kernel
theorem dL_flightEnd_4 : decode cL_flightEnd 4 = .ok (.invokevirtual 60, 3) := by decide +kernel
theorem dL_flightEnd_7 : decode cL_flightEnd 7 = .ok (.i2l, 1) := by decide +kernel
theorem dL_flightEnd_8 : decode cL_flightEnd 8 = .ok (.lastore, 1) := by decide +kernel
theorem dL_flightEnd_9 : decode cL_flightEnd 9 = .ok (.goto 6, 3) := by decide +kernel
theorem dL_flightEnd_12 : decode cL_flightEnd 12 = .ok (.astore_n 3, 1) := by decide +kernel
theorem dL_flightEnd_13 : decode cL_flightEnd 13 = .ok (.iconst 1, 1) := by decide +kernel
theorem dL_flightEnd_14 : decode cL_flightEnd 14 = .ok (.ireturn, 1) := by decide +kernel
theorem dL_flightEnd_15 : decode cL_flightEnd 15 = .ok (.iconst 0, 1) := by decide +kernel
theorem dL_flightEnd_16 : decode cL_flightEnd 16 = .ok (.ireturn, 1) := by decide +kernel
theorem dL_flightBits_0 : decode cL_flightBits 0 = .ok (.aload_n 2, 1) := by decide +kernel
theorem dL_flightBits_1 : decode cL_flightBits 1 = .ok (.iconst 0, 1) := by decide +kernel
theorem dL_flightBits_2 : decode cL_flightBits 2 = .ok (.aload_n 0, 1) := by decide +kernel
theorem dL_flightBits_3 : decode cL_flightBits 3 = .ok (.iload_n 1, 1) := by decide +kernel
theorem dL_flightBits_4 : decode cL_flightBits 4 = .ok (.invokevirtual 64, 3) := by decide +kernel
theorem dL_flightBits_7 : decode cL_flightBits 7 = .ok (.lastore, 1) := by decide +kernel
theorem dL_flightBits_8 : decode cL_flightBits 8 = .ok (.goto 6, 3) := by decide +kernel
theorem dL_flightBits_11 : decode cL_flightBits 11 = .ok (.astore_n 3, 1) := by decide +kernel
theorem dL_flightBits_12 : decode cL_flightBits 12 = .ok (.iconst 1, 1) := by decide +kernel
theorem dL_flightBits_13 : decode cL_flightBits 13 = .ok (.ireturn, 1) := by decide +kernel
theorem dL_flightBits_14 : decode cL_flightBits 14 = .ok (.iconst 0, 1) := by decide +kernel
theorem dL_flightBits_15 : decode cL_flightBits 15 = .ok (.ireturn, 1) := by decide +kernel
theorem dL_servingThrows_0 : decode cL_servingThrows 0 = .ok (.aload_n 2, 1) := by decide +kernel
theorem dL_servingThrows_1 : decode cL_servingThrows 1 = .ok (.iconst 0, 1) := by decide +kernel
theorem dL_servingThrows_2 : decode cL_servingThrows 2 = .ok (.aload_n 0, 1) := by decide +kernel
theorem dL_servingThrows_3 : decode cL_servingThrows 3 = .ok (.iload_n 1, 1) := by decide +kernel
theorem dL_servingThrows_4 : decode cL_servingThrows 4 = .ok (.invokevirtual 68, 3) := by decide +kernel
theorem dL_servingThrows_7 : decode cL_servingThrows 7 = .ok (.lastore, 1) := by decide +kernel
theorem dL_servingThrows_8 : decode cL_servingThrows 8 = .ok (.goto 6, 3) := by decide +kernel
theorem dL_servingThrows_11 : decode cL_servingThrows 11 = .ok (.astore_n 3, 1) := by decide +kernel
theorem dL_servingThrows_12 : decode cL_servingThrows 12 = .ok (.iconst 1, 1) := by decide +kernel
theorem dL_servingThrows_13 : decode cL_servingThrows 13 = .ok (.ireturn, 1) := by decide +kernel
theorem dL_servingThrows_14 : decode cL_servingThrows 14 = .ok (.iconst 0, 1) := by decide +kernel
theorem dL_servingThrows_15 : decode cL_servingThrows 15 = .ok (.ireturn, 1) := by decide +kernel
theorem dL_servingThrowsBySets_0 : decode cL_servingThrowsBySets 0 = .ok (.aload_n 2, 1) := by decide +kernel
theorem dL_servingThrowsBySets_1 : decode cL_servingThrowsBySets 1 = .ok (.iconst 0, 1) := by decide +kernel
theorem dL_servingThrowsBySets_2 : decode cL_servingThrowsBySets 2 = .ok (.aload_n 0, 1) := by decide +kernel
theorem dL_servingThrowsBySets_3 : decode cL_servingThrowsBySets 3 = .ok (.iload_n 1, 1) := by decide +kernel
theorem dL_servingThrowsBySets_4 : decode cL_servingThrowsBySets 4 = .ok (.invokevirtual 71, 3) := by decide +kernel
theorem dL_servingThrowsBySets_7 : decode cL_servingThrowsBySets 7 = .ok (.lastore, 1) := by decide +kernel
theorem dL_servingThrowsBySets_8 : decode cL_servingThrowsBySets 8 = .ok (.goto 6, 3) := by decide +kernel
theorem dL_servingThrowsBySets_11 : decode cL_servingThrowsBySets 11 = .ok (.astore_n 3, 1) := by decide +kernel
theorem dL_servingThrowsBySets_12 : decode cL_servingThrowsBySets 12 = .ok (.iconst 1, 1) := by decide +kernel
theorem dL_servingThrowsBySets_13 : decode cL_servingThrowsBySets 13 = .ok (.ireturn, 1) := by decide +kernel
theorem dL_servingThrowsBySets_14 : decode cL_servingThrowsBySets 14 = .ok (.iconst 0, 1) := by decide +kernel
theorem dL_servingThrowsBySets_15 : decode cL_servingThrowsBySets 15 = .ok (.ireturn, 1) := by decide +kernel
theorem dL_bestThrow_0 : decode cL_bestThrow 0 = .ok (.aload_n 2, 1) := by decide +kernel
theorem dL_bestThrow_1 : decode cL_bestThrow 1 = .ok (.iconst 0, 1) := by decide +kernel
theorem dL_bestThrow_2 : decode cL_bestThrow 2 = .ok (.aload_n 0, 1) := by decide +kernel
theorem dL_bestThrow_3 : decode cL_bestThrow 3 = .ok (.iload_n 1, 1) := by decide +kernel
theorem dL_bestThrow_4 : decode cL_bestThrow 4 = .ok (.invokevirtual 74, 3) := by decide +kernel
theorem dL_bestThrow_7 : decode cL_bestThrow 7 = .ok (.i2l, 1) := by decide +kernel
theorem dL_bestThrow_8 : decode cL_bestThrow 8 = .ok (.lastore, 1) := by decide +kernel
theorem dL_bestThrow_9 : decode cL_bestThrow 9 = .ok (.goto 9, 3) := by decide +kernel
theorem dL_bestThrow_12 : decode cL_bestThrow 12 = .ok (.astore_n 3, 1) := by decide +kernel
theorem dL_bestThrow_13 : decode cL_bestThrow 13 = .ok (.iconst 1, 1) := by decide +kernel
theorem dL_bestThrow_14 : decode cL_bestThrow 14 = .ok (.ireturn, 1) := by decide +kernel
theorem dL_bestThrow_15 : decode cL_bestThrow 15 = .ok (.astore_n 3, 1) := by decide +kernel
theorem dL_bestThrow_16 : decode cL_bestThrow 16 = .ok (.iconst 2, 1) := by decide +kernel
