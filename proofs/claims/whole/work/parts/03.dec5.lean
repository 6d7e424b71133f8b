theorem dL_bestThrow_17 : decode cL_bestThrow 17 = .ok (.ireturn, 1) := by decide +kernel
theorem dL_bestThrow_18 : decode cL_bestThrow 18 = .ok (.iconst 0, 1) := by decide +kernel
theorem dL_bestThrow_19 : decode cL_bestThrow 19 = .ok (.ireturn, 1) := by decide +kernel
theorem dL_summon_0 : decode cL_summon 0 = .ok (.aload_n 3, 1) := by decide +kernel
theorem dL_summon_1 : decode cL_summon 1 = .ok (.iconst 0, 1) := by decide +kernel
theorem dL_summon_2 : decode cL_summon 2 = .ok (.aload_n 0, 1) := by decide +kernel
theorem dL_summon_3 : decode cL_summon 3 = .ok (.iload_n 1, 1) := by decide +kernel
theorem dL_summon_4 : decode cL_summon 4 = .ok (.iload_n 2, 1) := by decide +kernel
theorem dL_summon_5 : decode cL_summon 5 = .ok (.invokevirtual 77, 3) := by decide +kernel
theorem dL_summon_8 : decode cL_summon 8 = .ok (.ifCond .eq 7, 3) := by decide +kernel
theorem dL_summon_11 : decode cL_summon 11 = .ok (.lconst 1, 1) := by decide +kernel
theorem dL_summon_12 : decode cL_summon 12 = .ok (.goto 4, 3) := by decide +kernel
theorem dL_summon_15 : decode cL_summon 15 = .ok (.lconst 0, 1) := by decide +kernel
theorem dL_summon_16 : decode cL_summon 16 = .ok (.lastore, 1) := by decide +kernel
theorem dL_summon_17 : decode cL_summon 17 = .ok (.goto 15, 3) := by decide +kernel
theorem dL_summon_20 : decode cL_summon 20 = .ok (.astore 4, 2) := by decide +kernel
theorem dL_summon_22 : decode cL_summon 22 = .ok (.iconst 1, 1) := by decide +kernel
theorem dL_summon_23 : decode cL_summon 23 = .ok (.ireturn, 1) := by decide +kernel
theorem dL_summon_24 : decode cL_summon 24 = .ok (.astore 4, 2) := by decide +kernel
theorem dL_summon_26 : decode cL_summon 26 = .ok (.iconst 2, 1) := by decide +kernel
theorem dL_summon_27 : decode cL_summon 27 = .ok (.ireturn, 1) := by decide +kernel
theorem dL_summon_28 : decode cL_summon 28 = .ok (.astore 4, 2) := by decide +kernel
theorem dL_summon_30 : decode cL_summon 30 = .ok (.iconst 3, 1) := by decide +kernel
theorem dL_summon_31 : decode cL_summon 31 = .ok (.ireturn, 1) := by decide +kernel
theorem dL_summon_32 : decode cL_summon 32 = .ok (.iconst 0, 1) := by decide +kernel
theorem dL_summon_33 : decode cL_summon 33 = .ok (.ireturn, 1) := by decide +kernel
theorem dL_buyBoomerangs_0 : decode cL_buyBoomerangs 0 = .ok (.aload_n 2, 1) := by decide +kernel
theorem dL_buyBoomerangs_1 : decode cL_buyBoomerangs 1 = .ok (.iconst 0, 1) := by decide +kernel
theorem dL_buyBoomerangs_2 : decode cL_buyBoomerangs 2 = .ok (.aload_n 0, 1) := by decide +kernel
theorem dL_buyBoomerangs_3 : decode cL_buyBoomerangs 3 = .ok (.iload_n 1, 1) := by decide +kernel
theorem dL_buyBoomerangs_4 : decode cL_buyBoomerangs 4 = .ok (.invokevirtual 81, 3) := by decide +kernel
theorem dL_buyBoomerangs_7 : decode cL_buyBoomerangs 7 = .ok (.i2l, 1) := by decide +kernel
theorem dL_buyBoomerangs_8 : decode cL_buyBoomerangs 8 = .ok (.lastore, 1) := by decide +kernel
theorem dL_buyBoomerangs_9 : decode cL_buyBoomerangs 9 = .ok (.goto 9, 3) := by decide +kernel
theorem dL_buyBoomerangs_12 : decode cL_buyBoomerangs 12 = .ok (.astore_n 3, 1) := by decide +kernel
theorem dL_buyBoomerangs_13 : decode cL_buyBoomerangs 13 = .ok (.iconst 1, 1) := by decide +kernel
theorem dL_buyBoomerangs_14 : decode cL_buyBoomerangs 14 = .ok (.ireturn, 1) := by decide +kernel
theorem dL_buyBoomerangs_15 : decode cL_buyBoomerangs 15 = .ok (.astore_n 3, 1) := by decide +kernel
theorem dL_buyBoomerangs_16 : decode cL_buyBoomerangs 16 = .ok (.iconst 2, 1) := by decide +kernel
theorem dL_buyBoomerangs_17 : decode cL_buyBoomerangs 17 = .ok (.ireturn, 1) := by decide +kernel
theorem dL_buyBoomerangs_18 : decode cL_buyBoomerangs 18 = .ok (.iconst 0, 1) := by decide +kernel
theorem dL_buyBoomerangs_19 : decode cL_buyBoomerangs 19 = .ok (.ireturn, 1) := by decide +kernel
theorem dL_setSitting_0 : decode cL_setSitting 0 = .ok (.aload_n 3, 1) := by decide +kernel
theorem dL_setSitting_1 : decode cL_setSitting 1 = .ok (.iconst 0, 1) := by decide +kernel
theorem dL_setSitting_2 : decode cL_setSitting 2 = .ok (.aload_n 0, 1) := by decide +kernel
theorem dL_setSitting_3 : decode cL_setSitting 3 = .ok (.iload_n 1, 1) := by decide +kernel
theorem dL_setSitting_4 : decode cL_setSitting 4 = .ok (.iload_n 2, 1) := by decide +kernel
theorem dL_setSitting_5 : decode cL_setSitting 5 = .ok (.invokevirtual 84, 3) := by decide +kernel
theorem dL_setSitting_8 : decode cL_setSitting 8 = .ok (.ifCond .eq 7, 3) := by decide +kernel
theorem dL_setSitting_11 : decode cL_setSitting 11 = .ok (.lconst 1, 1) := by decide +kernel
theorem dL_setSitting_12 : decode cL_setSitting 12 = .ok (.goto 4, 3) := by decide +kernel
theorem dL_setSitting_15 : decode cL_setSitting 15 = .ok (.lconst 0, 1) := by decide +kernel
theorem dL_setSitting_16 : decode cL_setSitting 16 = .ok (.lastore, 1) := by decide +kernel
theorem dL_setSitting_17 : decode cL_setSitting 17 = .ok (.goto 7, 3) := by decide +kernel
theorem dL_setSitting_20 : decode cL_setSitting 20 = .ok (.astore 4, 2) := by decide +kernel
theorem dL_setSitting_22 : decode cL_setSitting 22 = .ok (.iconst 1, 1) := by decide +kernel
theorem dL_setSitting_23 : decode cL_setSitting 23 = .ok (.ireturn, 1) := by decide +kernel
theorem dL_setSitting_24 : decode cL_setSitting 24 = .ok (.iconst 0, 1) := by decide +kernel
theorem dL_setSitting_25 : decode cL_setSitting 25 = .ok (.ireturn, 1) := by decide +kernel
theorem dL_pleaParty_0 : decode cL_pleaParty 0 = .ok (.aload_n 2, 1) := by decide +kernel
theorem dL_pleaParty_1 : decode cL_pleaParty 1 = .ok (.iconst 0, 1) := by decide +kernel
theorem dL_pleaParty_2 : decode cL_pleaParty 2 = .ok (.aload_n 0, 1) := by decide +kernel
theorem dL_pleaParty_3 : decode cL_pleaParty 3 = .ok (.iload_n 1, 1) := by decide +kernel
theorem dL_pleaParty_4 : decode cL_pleaParty 4 = .ok (.invokevirtual 88, 3) := by decide +kernel
theorem dL_pleaParty_7 : decode cL_pleaParty 7 = .ok (.i2l, 1) := by decide +kernel
theorem dL_pleaParty_8 : decode cL_pleaParty 8 = .ok (.lastore, 1) := by decide +kernel
theorem dL_pleaParty_9 : decode cL_pleaParty 9 = .ok (.goto 6, 3) := by decide +kernel
theorem dL_pleaParty_12 : decode cL_pleaParty 12 = .ok (.astore_n 3, 1) := by decide +kernel
theorem dL_pleaParty_13 : decode cL_pleaParty 13 = .ok (.iconst 1, 1) := by decide +kernel
theorem dL_pleaParty_14 : decode cL_pleaParty 14 = .ok (.ireturn, 1) := by decide +kernel
theorem dL_pleaParty_15 : decode cL_pleaParty 15 = .ok (.iconst 0, 1) := by decide +kernel
theorem dL_pleaParty_16 : decode cL_pleaParty 16 = .ok (.ireturn, 1) := by decide +kernel
theorem dL_pleaFrom_0 : decode cL_pleaFrom 0 = .ok (.aload_n 2, 1) := by decide +kernel
theorem dL_pleaFrom_1 : decode cL_pleaFrom 1 = .ok (.iconst 0, 1) := by decide +kernel
theorem dL_pleaFrom_2 : decode cL_pleaFrom 2 = .ok (.aload_n 0, 1) := by decide +kernel
theorem dL_pleaFrom_3 : decode cL_pleaFrom 3 = .ok (.iload_n 1, 1) := by decide +kernel
theorem dL_pleaFrom_4 : decode cL_pleaFrom 4 = .ok (.invokevirtual 91, 3) := by decide +kernel
theorem dL_pleaFrom_7 : decode cL_pleaFrom 7 = .ok (.i2l, 1) := by decide +kernel
theorem dL_pleaFrom_8 : decode cL_pleaFrom 8 = .ok (.lastore, 1) := by decide +kernel
theorem dL_pleaFrom_9 : decode cL_pleaFrom 9 = .ok (.goto 6, 3) := by decide +kernel
theorem dL_pleaFrom_12 : decode cL_pleaFrom 12 = .ok (.astore_n 3, 1) := by decide +kernel
theorem dL_pleaFrom_13 : decode cL_pleaFrom 13 = .ok (.iconst 1, 1) := by decide +kernel
theorem dL_pleaFrom_14 : decode cL_pleaFrom 14 = .ok (.ireturn, 1) := by decide +kernel
theorem dL_pleaFrom_15 : decode cL_pleaFrom 15 = .ok (.iconst 0, 1) := by decide +kernel
theorem dL_pleaFrom_16 : decode cL_pleaFrom 16 = .ok (.ireturn, 1) := by decide +kernel
theorem dL_pleaUntil_0 : decode cL_pleaUntil 0 = .ok (.aload_n 2, 1) := by decide +kernel
theorem dL_pleaUntil_1 : decode cL_pleaUntil 1 = .ok (.iconst 0, 1) := by decide +kernel
theorem dL_pleaUntil_2 : decode cL_pleaUntil 2 = .ok (.aload_n 0, 1) := by decide +kernel
theorem dL_pleaUntil_3 : decode cL_pleaUntil 3 = .ok (.iload_n 1, 1) := by decide +kernel
theorem dL_pleaUntil_4 : decode cL_pleaUntil 4 = .ok (.invokevirtual 94, 3) := by decide +kernel
theorem dL_pleaUntil_7 : decode cL_pleaUntil 7 = .ok (.i2l, 1) := by decide +kernel
theorem dL_pleaUntil_8 : decode cL_pleaUntil 8 = .ok (.lastore, 1) := by decide +kernel
theorem dL_pleaUntil_9 : decode cL_pleaUntil 9 = .ok (.goto 6, 3) := by decide +kernel
theorem dL_pleaUntil_12 : decode cL_pleaUntil 12 = .ok (.astore_n 3, 1) := by decide +kernel
theorem dL_pleaUntil_13 : decode cL_pleaUntil 13 = .ok (.iconst 1, 1) := by decide +kernel
theorem dL_pleaUntil_14 : decode cL_pleaUntil 14 = .ok (.ireturn, 1) := by decide +kernel
theorem dL_pleaUntil_15 : decode cL_pleaUntil 15 = .ok (.iconst 0, 1) := by decide +kernel
theorem dL_pleaUntil_16 : decode cL_pleaUntil 16 = .ok (.ireturn, 1) := by decide +kernel
theorem dL_hear_0 : decode cL_hear 0 = .ok (.aload_n 2, 1) := by decide +kernel
theorem dL_hear_1 : decode cL_hear 1 = .ok (.iconst 0, 1) := by decide +kernel
theorem dL_hear_2 : decode cL_hear 2 = .ok (.aload_n 0, 1) := by decide +kernel
theorem dL_hear_3 : decode cL_hear 3 = .ok (.iload_n 1, 1) := by decide +kernel
theorem dL_hear_4 : decode cL_hear 4 = .ok (.invokevirtual 97, 3) := by decide +kernel
theorem dL_hear_7 : decode cL_hear 7 = .ok (.i2l, 1) := by decide +kernel
theorem dL_hear_8 : decode cL_hear 8 = .ok (.lastore, 1) := by decide +kernel
theorem dL_hear_9 : decode cL_hear 9 = .ok (.goto 9, 3) := by decide +kernel
theorem dL_hear_12 : decode cL_hear 12 = .ok (.astore_n 3, 1) := by decide +kernel
theorem dL_hear_13 : decode cL_hear 13 = .ok (.iconst 1, 1) := by decide +kernel
theorem dL_hear_14 : decode cL_hear 14 = .ok (.ireturn, 1) := by decide +kernel
theorem dL_hear_15 : decode cL_hear 15 = .ok (.astore_n 3, 1) := by decide +kernel
theorem dL_hear_16 : decode cL_hear 16 = .ok (.iconst 2, 1) := by decide +kernel
theorem dL_hear_17 : decode cL_hear 17 = .ok (.ireturn, 1) := by decide +kernel
theorem dL_hear_18 : decode cL_hear 18 = .ok (.iconst 0, 1) := by decide +kernel
theorem dL_hear_19 : decode cL_hear 19 = .ok (.ireturn, 1) := by decide +kernel
theorem dL_pass_0 : decode cL_pass 0 = .ok (.aload_n 2, 1) := by decide +kernel
theorem dL_pass_1 : decode cL_pass 1 = .ok (.iconst 0, 1) := by decide +kernel
theorem dL_pass_2 : decode cL_pass 2 = .ok (.aload_n 0, 1) := by decide +kernel
theorem dL_pass_3 : decode cL_pass 3 = .ok (.iload_n 1, 1) := by decide +kernel
theorem dL_pass_4 : decode cL_pass 4 = .ok (.invokevirtual 100, 3) := by decide +kernel
theorem dL_pass_7 : decode cL_pass 7 = .ok (.i2l, 1) := by decide +kernel
theorem dL_pass_8 : decode cL_pass 8 = .ok (.lastore, 1) := by decide +kernel
theorem dL_pass_9 : decode cL_pass 9 = .ok (.goto 6, 3) := by decide +kernel
theorem dL_pass_12 : decode cL_pass 12 = .ok (.astore_n 3, 1) := by decide +kernel
theorem dL_pass_13 : decode cL_pass 13 = .ok (.iconst 1, 1) := by decide +kernel
theorem dL_pass_14 : decode cL_pass 14 = .ok (.ireturn, 1) := by decide +kernel
theorem dL_pass_15 : decode cL_pass 15 = .ok (.iconst 0, 1) := by decide +kernel
theorem dL_pass_16 : decode cL_pass 16 = .ok (.ireturn, 1) := by decide +kernel
theorem dL_refusalReason_0 : decode cL_refusalReason 0 = .ok (.aload_n 1, 1) := by decide +kernel
theorem dL_refusalReason_1 : decode cL_refusalReason 1 = .ok (.iconst 0, 1) := by decide +kernel
theorem dL_refusalReason_2 : decode cL_refusalReason 2 = .ok (.aload_n 0, 1) := by decide +kernel
theorem dL_refusalReason_3 : decode cL_refusalReason 3 = .ok (.invokevirtual 103, 3) := by decide +kernel
theorem dL_refusalReason_6 : decode cL_refusalReason 6 = .ok (.i2l, 1) := by decide +kernel
theorem dL_refusalReason_7 : decode cL_refusalReason 7 = .ok (.lastore, 1) := by decide +kernel
theorem dL_refusalReason_8 : decode cL_refusalReason 8 = .ok (.goto 6, 3) := by decide +kernel
theorem dL_refusalReason_11 : decode cL_refusalReason 11 = .ok (.astore_n 2, 1) := by decide +kernel
theorem dL_refusalReason_12 : decode cL_refusalReason 12 = .ok (.iconst 1, 1) := by decide +kernel
theorem dL_refusalReason_13 : decode cL_refusalReason 13 = .ok (.ireturn, 1) := by decide +kernel
theorem dL_refusalReason_14 : decode cL_refusalReason 14 = .ok (.iconst 0, 1) := by decide +kernel
theorem dL_refusalReason_15 : decode cL_refusalReason 15 = .ok (.ireturn, 1) := by decide +kernel
theorem dL_refusalDetail_0 : decode cL_refusalDetail 0 = .ok (.aload_n 1, 1) := by decide +kernel
theorem dL_refusalDetail_1 : decode cL_refusalDetail 1 = .ok (.iconst 0, 1) := by decide +kernel
theorem dL_refusalDetail_2 : decode cL_refusalDetail 2 = .ok (.aload_n 0, 1) := by decide +kernel
theorem dL_refusalDetail_3 : decode cL_refusalDetail 3 = .ok (.invokevirtual 107, 3) := by decide +kernel
theorem dL_refusalDetail_6 : decode cL_refusalDetail 6 = .ok (.i2l, 1) := by decide +kernel
theorem dL_refusalDetail_7 : decode cL_refusalDetail 7 = .ok (.lastore, 1) := by decide +kernel
theorem dL_refusalDetail_8 : decode cL_refusalDetail 8 = .ok (.goto 6, 3) := by decide +kernel
theorem dL_refusalDetail_11 : decode cL_refusalDetail 11 = .ok (.astore_n 2, 1) := by decide +kernel
theorem dL_refusalDetail_12 : decode cL_refusalDetail 12 = .ok (.iconst 1, 1) := by decide +kernel
theorem dL_refusalDetail_13 : decode cL_refusalDetail 13 = .ok (.ireturn, 1) := by decide +kernel
theorem dL_refusalDetail_14 : decode cL_refusalDetail 14 = .ok (.iconst 0, 1) := by decide +kernel
theorem dL_refusalDetail_15 : decode cL_refusalDetail 15 = .ok (.ireturn, 1) := by decide +kernel
theorem dL_caughtShare_0 : decode cL_caughtShare 0 = .ok (.aload_n 1, 1) := by decide +kernel
theorem dL_caughtShare_1 : decode cL_caughtShare 1 = .ok (.iconst 0, 1) := by decide +kernel
theorem dL_caughtShare_2 : decode cL_caughtShare 2 = .ok (.aload_n 0, 1) := by decide +kernel
theorem dL_caughtShare_3 : decode cL_caughtShare 3 = .ok (.invokevirtual 110, 3) := by decide +kernel
theorem dL_caughtShare_6 : decode cL_caughtShare 6 = .ok (.f2d, 1) := by decide +kernel
theorem dL_caughtShare_7 : decode cL_caughtShare 7 = .ok (.dastore, 1) := by decide +kernel
theorem dL_caughtShare_8 : decode cL_caughtShare 8 = .ok (.goto 6, 3) := by decide +kernel
theorem dL_caughtShare_11 : decode cL_caughtShare 11 = .ok (.astore_n 2, 1) := by decide +kernel
theorem dL_caughtShare_12 : decode cL_caughtShare 12 = .ok (.iconst 1, 1) := by decide +kernel
theorem dL_caughtShare_13 : decode cL_caughtShare 13 = .ok (.ireturn, 1) := by decide +kernel
theorem dL_caughtShare_14 : decode cL_caughtShare 14 = .ok (.iconst 0, 1) := by decide +kernel
theorem dL_caughtShare_15 : decode cL_caughtShare 15 = .ok (.ireturn, 1) := by decide +kernel
theorem dL_caughtShareBits_0 : decode cL_caughtShareBits 0 = .ok (.aload_n 1, 1) := by decide +kernel
theorem dL_caughtShareBits_1 : decode cL_caughtShareBits 1 = .ok (.iconst 0, 1) := by decide +kernel
theorem dL_caughtShareBits_2 : decode cL_caughtShareBits 2 = .ok (.aload_n 0, 1) := by decide +kernel
theorem dL_caughtShareBits_3 : decode cL_caughtShareBits 3 = .ok (.invokevirtual 116, 3) := by decide +kernel
theorem dL_caughtShareBits_6 : decode cL_caughtShareBits 6 = .ok (.i2l, 1) := by decide +kernel
theorem dL_caughtShareBits_7 : decode cL_caughtShareBits 7 = .ok (.lastore, 1) := by decide +kernel
theorem dL_caughtShareBits_8 : decode cL_caughtShareBits 8 = .ok (.goto 6, 3) := by decide +kernel
theorem dL_caughtShareBits_11 : decode cL_caughtShareBits 11 = .ok (.astore_n 2, 1) := by decide +kernel
theorem dL_caughtShareBits_12 : decode cL_caughtShareBits 12 = .ok (.iconst 1, 1) := by decide +kernel
theorem dL_caughtShareBits_13 : decode cL_caughtShareBits 13 = .ok (.ireturn, 1) := by decide +kernel
theorem dL_caughtShareBits_14 : decode cL_caughtShareBits 14 = .ok (.iconst 0, 1) := by decide +kernel
theorem dL_caughtShareBits_15 : decode cL_caughtShareBits 15 = .ok (.ireturn, 1) := by decide +kernel
theorem dL_meanSteps_0 : decode cL_meanSteps 0 = .ok (.aload_n 1, 1) := by decide +kernel
theorem dL_meanSteps_1 : decode cL_meanSteps 1 = .ok (.iconst 0, 1) := by decide +kernel
theorem dL_meanSteps_2 : decode cL_meanSteps 2 = .ok (.aload_n 0, 1) := by decide +kernel
theorem dL_meanSteps_3 : decode cL_meanSteps 3 = .ok (.invokevirtual 119, 3) := by decide +kernel
theorem dL_meanSteps_6 : decode cL_meanSteps 6 = .ok (.dastore, 1) := by decide +kernel
theorem dL_meanSteps_7 : decode cL_meanSteps 7 = .ok (.goto 6, 3) := by decide +kernel
theorem dL_meanSteps_10 : decode cL_meanSteps 10 = .ok (.astore_n 2, 1) := by decide +kernel
theorem dL_meanSteps_11 : decode cL_meanSteps 11 = .ok (.iconst 1, 1) := by decide +kernel
theorem dL_meanSteps_12 : decode cL_meanSteps 12 = .ok (.ireturn, 1) := by decide +kernel
theorem dL_meanSteps_13 : decode cL_meanSteps 13 = .ok (.iconst 0, 1) := by decide +kernel
theorem dL_meanSteps_14 : decode cL_meanSteps 14 = .ok (.ireturn, 1) := by decide +kernel
theorem dL_append_0 : decode cL_append 0 = .ok (.aload_n 2, 1) := by decide +kernel
theorem dL_append_1 : decode cL_append 1 = .ok (.iconst 0, 1) := by decide +kernel
theorem dL_append_2 : decode cL_append 2 = .ok (.aload_n 0, 1) := by decide +kernel
theorem dL_append_3 : decode cL_append 3 = .ok (.iload_n 1, 1) := by decide +kernel
theorem dL_append_4 : decode cL_append 4 = .ok (.invokevirtual 123, 3) := by decide +kernel
theorem dL_append_7 : decode cL_append 7 = .ok (.i2l, 1) := by decide +kernel
theorem dL_append_8 : decode cL_append 8 = .ok (.lastore, 1) := by decide +kernel
theorem dL_append_9 : decode cL_append 9 = .ok (.goto 9, 3) := by decide +kernel
theorem dL_append_12 : decode cL_append 12 = .ok (.astore_n 3, 1) := by decide +kernel
theorem dL_append_13 : decode cL_append 13 = .ok (.iconst 1, 1) := by decide +kernel
theorem dL_append_14 : decode cL_append 14 = .ok (.ireturn, 1) := by decide +kernel
theorem dL_append_15 : decode cL_append 15 = .ok (.astore_n 3, 1) := by decide +kernel
theorem dL_append_16 : decode cL_append 16 = .ok (.iconst 2, 1) := by decide +kernel
theorem dL_append_17 : decode cL_append 17 = .ok (.ireturn, 1) := by decide +kernel
theorem dL_append_18 : decode cL_append 18 = .ok (.iconst 0, 1) := by decide +kernel
theorem dL_append_19 : decode cL_append 19 = .ok (.ireturn, 1) := by decide +kernel
theorem dL_run_0 : decode cL_run 0 = .ok (.aload_n 1, 1) := by decide +kernel
theorem dL_run_1 : decode cL_run 1 = .ok (.iconst 0, 1) := by decide +kernel
theorem dL_run_2 : decode cL_run 2 = .ok (.aload_n 0, 1) := by decide +kernel
theorem dL_run_3 : decode cL_run 3 = .ok (.invokevirtual 127, 3) := by decide +kernel
theorem dL_run_6 : decode cL_run 6 = .ok (.i2l, 1) := by decide +kernel
theorem dL_run_7 : decode cL_run 7 = .ok (.lastore, 1) := by decide +kernel
theorem dL_run_8 : decode cL_run 8 = .ok (.goto 9, 3) := by decide +kernel
theorem dL_run_11 : decode cL_run 11 = .ok (.astore_n 2, 1) := by decide +kernel
theorem dL_run_12 : decode cL_run 12 = .ok (.iconst 1, 1) := by decide +kernel
theorem dL_run_13 : decode cL_run 13 = .ok (.ireturn, 1) := by decide +kernel
theorem dL_run_14 : decode cL_run 14 = .ok (.astore_n 2, 1) := by decide +kernel
theorem dL_run_15 : decode cL_run 15 = .ok (.iconst 2, 1) := by decide +kernel
theorem dL_run_16 : decode cL_run 16 = .ok (.ireturn, 1) := by decide +kernel
theorem dL_run_17 : decode cL_run 17 = .ok (.iconst 0, 1) := by decide +kernel
theorem dL_run_18 : decode cL_run 18 = .ok (.ireturn, 1) := by decide +kernel
theorem dL_errorPosition_0 : decode cL_errorPosition 0 = .ok (.aload_n 1, 1) := by decide +kernel
theorem dL_errorPosition_1 : decode cL_errorPosition 1 = .ok (.iconst 0, 1) := by decide +kernel
theorem dL_errorPosition_2 : decode cL_errorPosition 2 = .ok (.aload_n 0, 1) := by decide +kernel
theorem dL_errorPosition_3 : decode cL_errorPosition 3 = .ok (.invokevirtual 130, 3) := by decide +kernel
theorem dL_errorPosition_6 : decode cL_errorPosition 6 = .ok (.i2l, 1) := by decide +kernel
theorem dL_errorPosition_7 : decode cL_errorPosition 7 = .ok (.lastore, 1) := by decide +kernel
theorem dL_errorPosition_8 : decode cL_errorPosition 8 = .ok (.goto 6, 3) := by decide +kernel
theorem dL_errorPosition_11 : decode cL_errorPosition 11 = .ok (.astore_n 2, 1) := by decide +kernel
theorem dL_errorPosition_12 : decode cL_errorPosition 12 = .ok (.iconst 1, 1) := by decide +kernel
theorem dL_errorPosition_13 : decode cL_errorPosition 13 = .ok (.ireturn, 1) := by decide +kernel
theorem dL_errorPosition_14 : decode cL_errorPosition 14 = .ok (.iconst 0, 1) := by decide +kernel
theorem dL_errorPosition_15 : decode cL_errorPosition 15 = .ok (.ireturn, 1) := by decide +kernel
theorem dL_failedCommand_0 : decode cL_failedCommand 0 = .ok (.aload_n 1, 1) := by decide +kernel
theorem dL_failedCommand_1 : decode cL_failedCommand 1 = .ok (.iconst 0, 1) := by decide +kernel
theorem dL_failedCommand_2 : decode cL_failedCommand 2 = .ok (.aload_n 0, 1) := by decide +kernel
theorem dL_failedCommand_3 : decode cL_failedCommand 3 = .ok (.invokevirtual 133, 3) := by decide +kernel
theorem dL_failedCommand_6 : decode cL_failedCommand 6 = .ok (.i2l, 1) := by decide +kernel
theorem dL_failedCommand_7 : decode cL_failedCommand 7 = .ok (.lastore, 1) := by decide +kernel
theorem dL_failedCommand_8 : decode cL_failedCommand 8 = .ok (.goto 6, 3) := by decide +kernel
theorem dL_failedCommand_11 : decode cL_failedCommand 11 = .ok (.astore_n 2, 1) := by decide +kernel
theorem dL_failedCommand_12 : decode cL_failedCommand 12 = .ok (.iconst 1, 1) := by decide +kernel
theorem dL_failedCommand_13 : decode cL_failedCommand 13 = .ok (.ireturn, 1) := by decide +kernel
theorem dL_failedCommand_14 : decode cL_failedCommand 14 = .ok (.iconst 0, 1) := by decide +kernel
theorem dL_failedCommand_15 : decode cL_failedCommand 15 = .ok (.ireturn, 1) := by decide +kernel
theorem dL_describeRow_0 : decode cL_describeRow 0 = .ok (.aload_n 2, 1) := by decide +kernel
theorem dL_describeRow_1 : decode cL_describeRow 1 = .ok (.iconst 0, 1) := by decide +kernel
theorem dL_describeRow_2 : decode cL_describeRow 2 = .ok (.aload_n 0, 1) := by decide +kernel
theorem dL_describeRow_3 : decode cL_describeRow 3 = .ok (.iload_n 1, 1) := by decide +kernel
theorem dL_describeRow_4 : decode cL_describeRow 4 = .ok (.invokevirtual 136, 3) := by decide +kernel
theorem dL_describeRow_7 : decode cL_describeRow 7 = .ok (.i2l, 1) := by decide +kernel
theorem dL_describeRow_8 : decode cL_describeRow 8 = .ok (.lastore, 1) := by decide +kernel
theorem dL_describeRow_9 : decode cL_describeRow 9 = .ok (.goto 6, 3) := by decide +kernel
theorem dL_describeRow_12 : decode cL_describeRow 12 = .ok (.astore_n 3, 1) := by decide +kernel
theorem dL_describeRow_13 : decode cL_describeRow 13 = .ok (.iconst 1, 1) := by decide +kernel
theorem dL_describeRow_14 : decode cL_describeRow 14 = .ok (.ireturn, 1) := by decide +kernel
theorem dL_describeRow_15 : decode cL_describeRow 15 = .ok (.iconst 0, 1) := by decide +kernel
theorem dL_describeRow_16 : decode cL_describeRow 16 = .ok (.ireturn, 1) := by decide +kernel
theorem dL_describePlea_0 : decode cL_describePlea 0 = .ok (.aload_n 2, 1) := by decide +kernel
theorem dL_describePlea_1 : decode cL_describePlea 1 = .ok (.iconst 0, 1) := by decide +kernel
theorem dL_describePlea_2 : decode cL_describePlea 2 = .ok (.aload_n 0, 1) := by decide +kernel
theorem dL_describePlea_3 : decode cL_describePlea 3 = .ok (.iload_n 1, 1) := by decide +kernel
theorem dL_describePlea_4 : decode cL_describePlea 4 = .ok (.invokevirtual 139, 3) := by decide +kernel
theorem dL_describePlea_7 : decode cL_describePlea 7 = .ok (.i2l, 1) := by decide +kernel
theorem dL_describePlea_8 : decode cL_describePlea 8 = .ok (.lastore, 1) := by decide +kernel
theorem dL_describePlea_9 : decode cL_describePlea 9 = .ok (.goto 6, 3) := by decide +kernel
theorem dL_describePlea_12 : decode cL_describePlea 12 = .ok (.astore_n 3, 1) := by decide +kernel
theorem dL_describePlea_13 : decode cL_describePlea 13 = .ok (.iconst 1, 1) := by decide +kernel
theorem dL_describePlea_14 : decode cL_describePlea 14 = .ok (.ireturn, 1) := by decide +kernel
theorem dL_describePlea_15 : decode cL_describePlea 15 = .ok (.iconst 0, 1) := by decide +kernel
theorem dL_describePlea_16 : decode cL_describePlea 16 = .ok (.ireturn, 1) := by decide +kernel
theorem dL_lineAt_0 : decode cL_lineAt 0 = .ok (.aload_n 2, 1) := by decide +kernel
theorem dL_lineAt_1 : decode cL_lineAt 1 = .ok (.iconst 0, 1) := by decide +kernel
theorem dL_lineAt_2 : decode cL_lineAt 2 = .ok (.aload_n 0, 1) := by decide +kernel
theorem dL_lineAt_3 : decode cL_lineAt 3 = .ok (.iload_n 1, 1) := by decide +kernel
theorem dL_lineAt_4 : decode cL_lineAt 4 = .ok (.invokevirtual 142, 3) := by decide +kernel
theorem dL_lineAt_7 : decode cL_lineAt 7 = .ok (.i2l, 1) := by decide +kernel
theorem dL_lineAt_8 : decode cL_lineAt 8 = .ok (.lastore, 1) := by decide +kernel
theorem dL_lineAt_9 : decode cL_lineAt 9 = .ok (.goto 6, 3) := by decide +kernel
theorem dL_lineAt_12 : decode cL_lineAt 12 = .ok (.astore_n 3, 1) := by decide +kernel
theorem dL_lineAt_13 : decode cL_lineAt 13 = .ok (.iconst 1, 1) := by decide +kernel
theorem dL_lineAt_14 : decode cL_lineAt 14 = .ok (.ireturn, 1) := by decide +kernel
theorem dL_lineAt_15 : decode cL_lineAt 15 = .ok (.iconst 0, 1) := by decide +kernel
theorem dL_lineAt_16 : decode cL_lineAt 16 = .ok (.ireturn, 1) := by decide +kernel
theorem dL_undo_0 : decode cL_undo 0 = .ok (.aload_n 1, 1) := by decide +kernel
theorem dL_undo_1 : decode cL_undo 1 = .ok (.iconst 0, 1) := by decide +kernel
theorem dL_undo_2 : decode cL_undo 2 = .ok (.aload_n 0, 1) := by decide +kernel
theorem dL_undo_3 : decode cL_undo 3 = .ok (.invokevirtual 145, 3) := by decide +kernel
theorem dL_undo_6 : decode cL_undo 6 = .ok (.i2l, 1) := by decide +kernel
theorem dL_undo_7 : decode cL_undo 7 = .ok (.lastore, 1) := by decide +kernel
theorem dL_undo_8 : decode cL_undo 8 = .ok (.goto 6, 3) := by decide +kernel
theorem dL_undo_11 : decode cL_undo 11 = .ok (.astore_n 2, 1) := by decide +kernel
theorem dL_undo_12 : decode cL_undo 12 = .ok (.iconst 1, 1) := by decide +kernel
theorem dL_undo_13 : decode cL_undo 13 = .ok (.ireturn, 1) := by decide +kernel
theorem dL_undo_14 : decode cL_undo 14 = .ok (.iconst 0, 1) := by decide +kernel
theorem dL_undo_15 : decode cL_undo 15 = .ok (.ireturn, 1) := by decide +kernel
theorem dL_restore_0 : decode cL_restore 0 = .ok (.aload_n 1, 1) := by decide +kernel
theorem dL_restore_1 : decode cL_restore 1 = .ok (.iconst 0, 1) := by decide +kernel
theorem dL_restore_2 : decode cL_restore 2 = .ok (.aload_n 0, 1) := by decide +kernel
theorem dL_restore_3 : decode cL_restore 3 = .ok (.invokevirtual 148, 3) := by decide +kernel
theorem dL_restore_6 : decode cL_restore 6 = .ok (.i2l, 1) := by decide +kernel
theorem dL_restore_7 : decode cL_restore 7 = .ok (.lastore, 1) := by decide +kernel
theorem dL_restore_8 : decode cL_restore 8 = .ok (.goto 6, 3) := by decide +kernel
theorem dL_restore_11 : decode cL_restore 11 = .ok (.astore_n 2, 1) := by decide +kernel
theorem dL_restore_12 : decode cL_restore 12 = .ok (.iconst 1, 1) := by decide +kernel
theorem dL_restore_13 : decode cL_restore 13 = .ok (.ireturn, 1) := by decide +kernel
theorem dL_restore_14 : decode cL_restore 14 = .ok (.iconst 0, 1) := by decide +kernel
theorem dL_restore_15 : decode cL_restore 15 = .ok (.ireturn, 1) := by decide +kernel
