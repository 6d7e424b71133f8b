theorem dX2_init_0 : decode cX2_init 0 = .ok (.aload_n 0, 1) := by decide +kernel
theorem dX2_init_1 : decode cX2_init 1 = .ok (.invokespecial 3, 3) := by decide +kernel
theorem dX2_init_4 : decode cX2_init 4 = .ok (.aload_n 0, 1) := by decide +kernel
theorem dX2_init_5 : decode cX2_init 5 = .ok (.bipush 60, 2) := by decide +kernel
theorem dX2_init_7 : decode cX2_init 7 = .ok (.newarray .char, 2) := by decide +kernel
theorem dX2_init_9 : decode cX2_init 9 = .ok (.putfield 9, 3) := by decide +kernel
theorem dX2_init_12 : decode cX2_init 12 = .ok (.aload_n 0, 1) := by decide +kernel
theorem dX2_init_13 : decode cX2_init 13 = .ok (.bipush 11, 2) := by decide +kernel
theorem dX2_init_15 : decode cX2_init 15 = .ok (.anewarray 15, 3) := by decide +kernel
theorem dX2_init_18 : decode cX2_init 18 = .ok (.putfield 17, 3) := by decide +kernel
theorem dX2_init_21 : decode cX2_init 21 = .ok (.aload_n 0, 1) := by decide +kernel
theorem dX2_init_22 : decode cX2_init 22 = .ok (.bipush 33, 2) := by decide +kernel
theorem dX2_init_24 : decode cX2_init 24 = .ok (.newarray .int, 2) := by decide +kernel
theorem dX2_init_26 : decode cX2_init 26 = .ok (.putfield 21, 3) := by decide +kernel
theorem dX2_init_29 : decode cX2_init 29 = .ok (.return_, 1) := by decide +kernel
theorem dX2_put_0 : decode cX2_put 0 = .ok (.aload_n 0, 1) := by decide +kernel
theorem dX2_put_1 : decode cX2_put 1 = .ok (.getfield 25, 3) := by decide +kernel
theorem dX2_put_4 : decode cX2_put 4 = .ok (.bipush 60, 2) := by decide +kernel
theorem dX2_put_6 : decode cX2_put 6 = .ok (.if_icmp .ge 23, 3) := by decide +kernel
theorem dX2_put_9 : decode cX2_put 9 = .ok (.aload_n 0, 1) := by decide +kernel
theorem dX2_put_10 : decode cX2_put 10 = .ok (.getfield 9, 3) := by decide +kernel
theorem dX2_put_13 : decode cX2_put 13 = .ok (.aload_n 0, 1) := by decide +kernel
theorem dX2_put_14 : decode cX2_put 14 = .ok (.getfield 25, 3) := by decide +kernel
theorem dX2_put_17 : decode cX2_put 17 = .ok (.iload_n 1, 1) := by decide +kernel
theorem dX2_put_18 : decode cX2_put 18 = .ok (.castore, 1) := by decide +kernel
theorem dX2_put_19 : decode cX2_put 19 = .ok (.aload_n 0, 1) := by decide +kernel
theorem dX2_put_20 : decode cX2_put 20 = .ok (.dup, 1) := by decide +kernel
theorem dX2_put_21 : decode cX2_put 21 = .ok (.getfield 25, 3) := by decide +kernel
theorem dX2_put_24 : decode cX2_put 24 = .ok (.iconst 1, 1) := by decide +kernel
theorem dX2_put_25 : decode cX2_put 25 = .ok (.iadd, 1) := by decide +kernel
theorem dX2_put_26 : decode cX2_put 26 = .ok (.putfield 25, 3) := by decide +kernel
theorem dX2_put_29 : decode cX2_put 29 = .ok (.return_, 1) := by decide +kernel
theorem dX2_commandAt_0 : decode cX2_commandAt 0 = .ok (.iload_n 1, 1) := by decide +kernel
theorem dX2_commandAt_1 : decode cX2_commandAt 1 = .ok (.ifCond .lt 20, 3) := by decide +kernel
theorem dX2_commandAt_4 : decode cX2_commandAt 4 = .ok (.iload_n 1, 1) := by decide +kernel
theorem dX2_commandAt_5 : decode cX2_commandAt 5 = .ok (.aload_n 0, 1) := by decide +kernel
theorem dX2_commandAt_6 : decode cX2_commandAt 6 = .ok (.getfield 29, 3) := by decide +kernel
theorem dX2_commandAt_9 : decode cX2_commandAt 9 = .ok (.if_icmp .ge 12, 3) := by decide +kernel
theorem dX2_commandAt_12 : decode cX2_commandAt 12 = .ok (.aload_n 0, 1) := by decide +kernel
theorem dX2_commandAt_13 : decode cX2_commandAt 13 = .ok (.getfield 17, 3) := by decide +kernel
theorem dX2_commandAt_16 : decode cX2_commandAt 16 = .ok (.iload_n 1, 1) := by decide +kernel
theorem dX2_commandAt_17 : decode cX2_commandAt 17 = .ok (.aaload, 1) := by decide +kernel
theorem dX2_commandAt_18 : decode cX2_commandAt 18 = .ok (.goto 4, 3) := by decide +kernel
theorem dX2_commandAt_21 : decode cX2_commandAt 21 = .ok (.aconst_null, 1) := by decide +kernel
theorem dX2_commandAt_22 : decode cX2_commandAt 22 = .ok (.areturn, 1) := by decide +kernel
theorem dX2_operandAt_0 : decode cX2_operandAt 0 = .ok (.iload_n 1, 1) := by decide +kernel
theorem dX2_operandAt_1 : decode cX2_operandAt 1 = .ok (.ifCond .lt 33, 3) := by decide +kernel
theorem dX2_operandAt_4 : decode cX2_operandAt 4 = .ok (.iload_n 1, 1) := by decide +kernel
theorem dX2_operandAt_5 : decode cX2_operandAt 5 = .ok (.aload_n 0, 1) := by decide +kernel
theorem dX2_operandAt_6 : decode cX2_operandAt 6 = .ok (.getfield 29, 3) := by decide +kernel
theorem dX2_operandAt_9 : decode cX2_operandAt 9 = .ok (.if_icmp .ge 25, 3) := by decide +kernel
theorem dX2_operandAt_12 : decode cX2_operandAt 12 = .ok (.iload_n 2, 1) := by decide +kernel
theorem dX2_operandAt_13 : decode cX2_operandAt 13 = .ok (.ifCond .lt 21, 3) := by decide +kernel
theorem dX2_operandAt_16 : decode cX2_operandAt 16 = .ok (.iload_n 2, 1) := by decide +kernel
theorem dX2_operandAt_17 : decode cX2_operandAt 17 = .ok (.iconst 3, 1) := by decide +kernel
theorem dX2_operandAt_18 : decode cX2_operandAt 18 = .ok (.if_icmp .ge 16, 3) := by decide +kernel
theorem dX2_operandAt_21 : decode cX2_operandAt 21 = .ok (.aload_n 0, 1) := by decide +kernel
theorem dX2_operandAt_22 : decode cX2_operandAt 22 = .ok (.getfield 21, 3) := by decide +kernel
theorem dX2_operandAt_25 : decode cX2_operandAt 25 = .ok (.iconst 3, 1) := by decide +kernel
theorem dX2_operandAt_26 : decode cX2_operandAt 26 = .ok (.iload_n 1, 1) := by decide +kernel
theorem dX2_operandAt_27 : decode cX2_operandAt 27 = .ok (.imul, 1) := by decide +kernel
theorem dX2_operandAt_28 : decode cX2_operandAt 28 = .ok (.iload_n 2, 1) := by decide +kernel
theorem dX2_operandAt_29 : decode cX2_operandAt 29 = .ok (.iadd, 1) := by decide +kernel
theorem dX2_operandAt_30 : decode cX2_operandAt 30 = .ok (.iaload, 1) := by decide +kernel
theorem dX2_operandAt_31 : decode cX2_operandAt 31 = .ok (.goto 4, 3) := by decide +kernel
theorem dX2_operandAt_34 : decode cX2_operandAt 34 = .ok (.iconst 0, 1) := by decide +kernel
theorem dX2_operandAt_35 : decode cX2_operandAt 35 = .ok (.ireturn, 1) := by decide +kernel
theorem dX2_readCommands_0 : decode cX2_readCommands 0 = .ok (.aload_n 0, 1) := by decide +kernel
theorem dX2_readCommands_1 : decode cX2_readCommands 1 = .ok (.iconst 0, 1) := by decide +kernel
theorem dX2_readCommands_2 : decode cX2_readCommands 2 = .ok (.putfield 32, 3) := by decide +kernel
theorem dX2_readCommands_5 : decode cX2_readCommands 5 = .ok (.aload_n 0, 1) := by decide +kernel
theorem dX2_readCommands_6 : decode cX2_readCommands 6 = .ok (.iconst 0, 1) := by decide +kernel
theorem dX2_readCommands_7 : decode cX2_readCommands 7 = .ok (.putfield 29, 3) := by decide +kernel
theorem dX2_readCommands_10 : decode cX2_readCommands 10 = .ok (.iconst 0, 1) := by decide +kernel
theorem dX2_readCommands_11 : decode cX2_readCommands 11 = .ok (.istore_n 1, 1) := by decide +kernel
theorem dX2_readCommands_12 : decode cX2_readCommands 12 = .ok (.iload_n 1, 1) := by decide +kernel
theorem dX2_readCommands_13 : decode cX2_readCommands 13 = .ok (.bipush 11, 2) := by decide +kernel
theorem dX2_readCommands_15 : decode cX2_readCommands 15 = .ok (.if_icmp .ge 50, 3) := by decide +kernel
theorem dX2_readCommands_18 : decode cX2_readCommands 18 = .ok (.aload_n 0, 1) := by decide +kernel
theorem dX2_readCommands_19 : decode cX2_readCommands 19 = .ok (.iload_n 1, 1) := by decide +kernel
theorem dX2_readCommands_20 : decode cX2_readCommands 20 = .ok (.invokevirtual 35, 3) := by decide +kernel
theorem dX2_readCommands_23 : decode cX2_readCommands 23 = .ok (.ifCond .ne 5, 3) := by decide +kernel
theorem dX2_readCommands_26 : decode cX2_readCommands 26 = .ok (.iconst 0, 1) := by decide +kernel
theorem dX2_readCommands_27 : decode cX2_readCommands 27 = .ok (.ireturn, 1) := by decide +kernel
theorem dX2_readCommands_28 : decode cX2_readCommands 28 = .ok (.aload_n 0, 1) := by decide +kernel
theorem dX2_readCommands_29 : decode cX2_readCommands 29 = .ok (.iload_n 1, 1) := by decide +kernel
theorem dX2_readCommands_30 : decode cX2_readCommands 30 = .ok (.iconst 1, 1) := by decide +kernel
theorem dX2_readCommands_31 : decode cX2_readCommands 31 = .ok (.iadd, 1) := by decide +kernel
theorem dX2_readCommands_32 : decode cX2_readCommands 32 = .ok (.putfield 29, 3) := by decide +kernel
theorem dX2_readCommands_35 : decode cX2_readCommands 35 = .ok (.aload_n 0, 1) := by decide +kernel
theorem dX2_readCommands_36 : decode cX2_readCommands 36 = .ok (.getfield 32, 3) := by decide +kernel
theorem dX2_readCommands_39 : decode cX2_readCommands 39 = .ok (.aload_n 0, 1) := by decide +kernel
theorem dX2_readCommands_40 : decode cX2_readCommands 40 = .ok (.getfield 25, 3) := by decide +kernel
theorem dX2_readCommands_43 : decode cX2_readCommands 43 = .ok (.if_icmp .ne 5, 3) := by decide +kernel
theorem dX2_readCommands_46 : decode cX2_readCommands 46 = .ok (.iconst 1, 1) := by decide +kernel
theorem dX2_readCommands_47 : decode cX2_readCommands 47 = .ok (.ireturn, 1) := by decide +kernel
theorem dX2_readCommands_48 : decode cX2_readCommands 48 = .ok (.aload_n 0, 1) := by decide +kernel
theorem dX2_readCommands_49 : decode cX2_readCommands 49 = .ok (.bipush 59, 2) := by decide +kernel
theorem dX2_readCommands_51 : decode cX2_readCommands 51 = .ok (.invokevirtual 39, 3) := by decide +kernel
theorem dX2_readCommands_54 : decode cX2_readCommands 54 = .ok (.ifCond .ne 5, 3) := by decide +kernel
theorem dX2_readCommands_57 : decode cX2_readCommands 57 = .ok (.iconst 0, 1) := by decide +kernel
theorem dX2_readCommands_58 : decode cX2_readCommands 58 = .ok (.ireturn, 1) := by decide +kernel
theorem dX2_readCommands_59 : decode cX2_readCommands 59 = .ok (.iinc 1 1, 3) := by decide +kernel
theorem dX2_readCommands_62 : decode cX2_readCommands 62 = .ok (.goto (-50), 3) := by decide +kernel
theorem dX2_readCommands_65 : decode cX2_readCommands 65 = .ok (.iconst 0, 1) := by decide +kernel
theorem dX2_readCommands_66 : decode cX2_readCommands 66 = .ok (.ireturn, 1) := by decide +kernel
theorem dX2_readCommand_0 : decode cX2_readCommand 0 = .ok (.aload_n 0, 1) := by decide +kernel
theorem dX2_readCommand_1 : decode cX2_readCommand 1 = .ok (.invokevirtual 43, 3) := by decide +kernel
theorem dX2_readCommand_4 : decode cX2_readCommand 4 = .ok (.astore_n 2, 1) := by decide +kernel
theorem dX2_readCommand_5 : decode cX2_readCommand 5 = .ok (.aload_n 2, 1) := by decide +kernel
theorem dX2_readCommand_6 : decode cX2_readCommand 6 = .ok (.ifnonnull 5, 3) := by decide +kernel
theorem dX2_readCommand_9 : decode cX2_readCommand 9 = .ok (.iconst 0, 1) := by decide +kernel
theorem dX2_readCommand_10 : decode cX2_readCommand 10 = .ok (.ireturn, 1) := by decide +kernel
theorem dX2_readCommand_11 : decode cX2_readCommand 11 = .ok (.aload_n 0, 1) := by decide +kernel
theorem dX2_readCommand_12 : decode cX2_readCommand 12 = .ok (.getfield 17, 3) := by decide +kernel
theorem dX2_readCommand_15 : decode cX2_readCommand 15 = .ok (.iload_n 1, 1) := by decide +kernel
theorem dX2_readCommand_16 : decode cX2_readCommand 16 = .ok (.aload_n 2, 1) := by decide +kernel
theorem dX2_readCommand_17 : decode cX2_readCommand 17 = .ok (.aastore, 1) := by decide +kernel
theorem dX2_readCommand_18 : decode cX2_readCommand 18 = .ok (.aload_n 0, 1) := by decide +kernel
theorem dX2_readCommand_19 : decode cX2_readCommand 19 = .ok (.aload_n 2, 1) := by decide +kernel
theorem dX2_readCommand_20 : decode cX2_readCommand 20 = .ok (.getfield 47, 3) := by decide +kernel
theorem dX2_readCommand_23 : decode cX2_readCommand 23 = .ok (.iconst 3, 1) := by decide +kernel
theorem dX2_readCommand_24 : decode cX2_readCommand 24 = .ok (.iload_n 1, 1) := by decide +kernel
theorem dX2_readCommand_25 : decode cX2_readCommand 25 = .ok (.imul, 1) := by decide +kernel
theorem dX2_readCommand_26 : decode cX2_readCommand 26 = .ok (.invokevirtual 51, 3) := by decide +kernel
theorem dX2_readCommand_29 : decode cX2_readCommand 29 = .ok (.ireturn, 1) := by decide +kernel
theorem dX2_readKeyword_0 : decode cX2_readKeyword 0 = .ok (.iconst 0, 1) := by decide +kernel
theorem dX2_readKeyword_1 : decode cX2_readKeyword 1 = .ok (.istore_n 1, 1) := by decide +kernel
theorem dX2_readKeyword_2 : decode cX2_readKeyword 2 = .ok (.getstatic 55, 3) := by decide +kernel
theorem dX2_readKeyword_5 : decode cX2_readKeyword 5 = .ok (.astore_n 2, 1) := by decide +kernel
theorem dX2_readKeyword_6 : decode cX2_readKeyword 6 = .ok (.aload_n 2, 1) := by decide +kernel
theorem dX2_readKeyword_7 : decode cX2_readKeyword 7 = .ok (.arraylength, 1) := by decide +kernel
theorem dX2_readKeyword_8 : decode cX2_readKeyword 8 = .ok (.istore_n 3, 1) := by decide +kernel
theorem dX2_readKeyword_9 : decode cX2_readKeyword 9 = .ok (.iconst 0, 1) := by decide +kernel
theorem dX2_readKeyword_10 : decode cX2_readKeyword 10 = .ok (.istore 4, 2) := by decide +kernel
theorem dX2_readKeyword_12 : decode cX2_readKeyword 12 = .ok (.iload 4, 2) := by decide +kernel
theorem dX2_readKeyword_14 : decode cX2_readKeyword 14 = .ok (.iload_n 3, 1) := by decide +kernel
theorem dX2_readKeyword_15 : decode cX2_readKeyword 15 = .ok (.if_icmp .ge 60, 3) := by decide +kernel
theorem dX2_readKeyword_18 : decode cX2_readKeyword 18 = .ok (.aload_n 2, 1) := by decide +kernel
theorem dX2_readKeyword_19 : decode cX2_readKeyword 19 = .ok (.iload 4, 2) := by decide +kernel
theorem dX2_readKeyword_21 : decode cX2_readKeyword 21 = .ok (.aaload, 1) := by decide +kernel
theorem dX2_readKeyword_22 : decode cX2_readKeyword 22 = .ok (.astore 5, 2) := by decide +kernel
theorem dX2_readKeyword_24 : decode cX2_readKeyword 24 = .ok (.aload_n 0, 1) := by decide +kernel
theorem dX2_readKeyword_25 : decode cX2_readKeyword 25 = .ok (.aload 5, 2) := by decide +kernel
theorem dX2_readKeyword_27 : decode cX2_readKeyword 27 = .ok (.getfield 58, 3) := by decide +kernel
theorem dX2_readKeyword_30 : decode cX2_readKeyword 30 = .ok (.invokevirtual 61, 3) := by decide +kernel
theorem dX2_readKeyword_33 : decode cX2_readKeyword 33 = .ok (.istore 6, 2) := by decide +kernel
theorem dX2_readKeyword_35 : decode cX2_readKeyword 35 = .ok (.iload 6, 2) := by decide +kernel
theorem dX2_readKeyword_37 : decode cX2_readKeyword 37 = .ok (.aload 5, 2) := by decide +kernel
theorem dX2_readKeyword_39 : decode cX2_readKeyword 39 = .ok (.getfield 58, 3) := by decide +kernel
theorem dX2_readKeyword_42 : decode cX2_readKeyword 42 = .ok (.invokevirtual 65, 3) := by decide +kernel
theorem dX2_readKeyword_45 : decode cX2_readKeyword 45 = .ok (.if_icmp .ne 17, 3) := by decide +kernel
theorem dX2_readKeyword_48 : decode cX2_readKeyword 48 = .ok (.aload_n 0, 1) := by decide +kernel
theorem dX2_readKeyword_49 : decode cX2_readKeyword 49 = .ok (.dup, 1) := by decide +kernel
theorem dX2_readKeyword_50 : decode cX2_readKeyword 50 = .ok (.getfield 32, 3) := by decide +kernel
theorem dX2_readKeyword_53 : decode cX2_readKeyword 53 = .ok (.iload 6, 2) := by decide +kernel
theorem dX2_readKeyword_55 : decode cX2_readKeyword 55 = .ok (.iadd, 1) := by decide +kernel
theorem dX2_readKeyword_56 : decode cX2_readKeyword 56 = .ok (.putfield 32, 3) := by decide +kernel
theorem dX2_readKeyword_59 : decode cX2_readKeyword 59 = .ok (.aload 5, 2) := by decide +kernel
theorem dX2_readKeyword_61 : decode cX2_readKeyword 61 = .ok (.areturn, 1) := by decide +kernel
theorem dX2_readKeyword_62 : decode cX2_readKeyword 62 = .ok (.iload_n 1, 1) := by decide +kernel
theorem dX2_readKeyword_63 : decode cX2_readKeyword 63 = .ok (.iload 6, 2) := by decide +kernel
theorem dX2_readKeyword_65 : decode cX2_readKeyword 65 = .ok (.invokestatic 70, 3) := by decide +kernel
theorem dX2_readKeyword_68 : decode cX2_readKeyword 68 = .ok (.istore_n 1, 1) := by decide +kernel
theorem dX2_readKeyword_69 : decode cX2_readKeyword 69 = .ok (.iinc 4 1, 3) := by decide +kernel
theorem dX2_readKeyword_72 : decode cX2_readKeyword 72 = .ok (.goto (-60), 3) := by decide +kernel
theorem dX2_readKeyword_75 : decode cX2_readKeyword 75 = .ok (.aload_n 0, 1) := by decide +kernel
theorem dX2_readKeyword_76 : decode cX2_readKeyword 76 = .ok (.dup, 1) := by decide +kernel
theorem dX2_readKeyword_77 : decode cX2_readKeyword 77 = .ok (.getfield 32, 3) := by decide +kernel
theorem dX2_readKeyword_80 : decode cX2_readKeyword 80 = .ok (.iload_n 1, 1) := by decide +kernel
theorem dX2_readKeyword_81 : decode cX2_readKeyword 81 = .ok (.iadd, 1) := by decide +kernel
theorem dX2_readKeyword_82 : decode cX2_readKeyword 82 = .ok (.putfield 32, 3) := by decide +kernel
theorem dX2_readKeyword_85 : decode cX2_readKeyword 85 = .ok (.aconst_null, 1) := by decide +kernel
theorem dX2_readKeyword_86 : decode cX2_readKeyword 86 = .ok (.areturn, 1) := by decide +kernel
theorem dX2_matchedCharacters_0 : decode cX2_matchedCharacters 0 = .ok (.iconst 0, 1) := by decide +kernel
theorem dX2_matchedCharacters_1 : decode cX2_matchedCharacters 1 = .ok (.istore_n 2, 1) := by decide +kernel
theorem dX2_matchedCharacters_2 : decode cX2_matchedCharacters 2 = .ok (.iload_n 2, 1) := by decide +kernel
theorem dX2_matchedCharacters_3 : decode cX2_matchedCharacters 3 = .ok (.aload_n 1, 1) := by decide +kernel
theorem dX2_matchedCharacters_4 : decode cX2_matchedCharacters 4 = .ok (.invokevirtual 65, 3) := by decide +kernel
theorem dX2_matchedCharacters_7 : decode cX2_matchedCharacters 7 = .ok (.if_icmp .ge 41, 3) := by decide +kernel
theorem dX2_matchedCharacters_10 : decode cX2_matchedCharacters 10 = .ok (.aload_n 0, 1) := by decide +kernel
theorem dX2_matchedCharacters_11 : decode cX2_matchedCharacters 11 = .ok (.getfield 32, 3) := by decide +kernel
theorem dX2_matchedCharacters_14 : decode cX2_matchedCharacters 14 = .ok (.iload_n 2, 1) := by decide +kernel
theorem dX2_matchedCharacters_15 : decode cX2_matchedCharacters 15 = .ok (.iadd, 1) := by decide +kernel
theorem dX2_matchedCharacters_16 : decode cX2_matchedCharacters 16 = .ok (.aload_n 0, 1) := by decide +kernel
theorem dX2_matchedCharacters_17 : decode cX2_matchedCharacters 17 = .ok (.getfield 25, 3) := by decide +kernel
theorem dX2_matchedCharacters_20 : decode cX2_matchedCharacters 20 = .ok (.if_icmp .ge 28, 3) := by decide +kernel
theorem dX2_matchedCharacters_23 : decode cX2_matchedCharacters 23 = .ok (.aload_n 0, 1) := by decide +kernel
theorem dX2_matchedCharacters_24 : decode cX2_matchedCharacters 24 = .ok (.getfield 9, 3) := by decide +kernel
theorem dX2_matchedCharacters_27 : decode cX2_matchedCharacters 27 = .ok (.aload_n 0, 1) := by decide +kernel
theorem dX2_matchedCharacters_28 : decode cX2_matchedCharacters 28 = .ok (.getfield 32, 3) := by decide +kernel
theorem dX2_matchedCharacters_31 : decode cX2_matchedCharacters 31 = .ok (.iload_n 2, 1) := by decide +kernel
theorem dX2_matchedCharacters_32 : decode cX2_matchedCharacters 32 = .ok (.iadd, 1) := by decide +kernel
theorem dX2_matchedCharacters_33 : decode cX2_matchedCharacters 33 = .ok (.caload, 1) := by decide +kernel
theorem dX2_matchedCharacters_34 : decode cX2_matchedCharacters 34 = .ok (.aload_n 1, 1) := by decide +kernel
theorem dX2_matchedCharacters_35 : decode cX2_matchedCharacters 35 = .ok (.iload_n 2, 1) := by decide +kernel
theorem dX2_matchedCharacters_36 : decode cX2_matchedCharacters 36 = .ok (.invokevirtual 76, 3) := by decide +kernel
theorem dX2_matchedCharacters_39 : decode cX2_matchedCharacters 39 = .ok (.if_icmp .ne 9, 3) := by decide +kernel
theorem dX2_matchedCharacters_42 : decode cX2_matchedCharacters 42 = .ok (.iinc 2 1, 3) := by decide +kernel
theorem dX2_matchedCharacters_45 : decode cX2_matchedCharacters 45 = .ok (.goto (-43), 3) := by decide +kernel
theorem dX2_matchedCharacters_48 : decode cX2_matchedCharacters 48 = .ok (.iload_n 2, 1) := by decide +kernel
theorem dX2_matchedCharacters_49 : decode cX2_matchedCharacters 49 = .ok (.ireturn, 1) := by decide +kernel
theorem dX2_readOperands_0 : decode cX2_readOperands 0 = .ok (.iload_n 2, 1) := by decide +kernel
theorem dX2_readOperands_1 : decode cX2_readOperands 1 = .ok (.istore_n 3, 1) := by decide +kernel
theorem dX2_readOperands_2 : decode cX2_readOperands 2 = .ok (.iconst 0, 1) := by decide +kernel
theorem dX2_readOperands_3 : decode cX2_readOperands 3 = .ok (.istore 4, 2) := by decide +kernel
theorem dX2_readOperands_5 : decode cX2_readOperands 5 = .ok (.iload 4, 2) := by decide +kernel
theorem dX2_readOperands_7 : decode cX2_readOperands 7 = .ok (.aload_n 1, 1) := by decide +kernel
theorem dX2_readOperands_8 : decode cX2_readOperands 8 = .ok (.invokevirtual 65, 3) := by decide +kernel
theorem dX2_readOperands_11 : decode cX2_readOperands 11 = .ok (.if_icmp .ge 107, 3) := by decide +kernel
theorem dX2_readOperands_14 : decode cX2_readOperands 14 = .ok (.aload_n 1, 1) := by decide +kernel
theorem dX2_readOperands_15 : decode cX2_readOperands 15 = .ok (.iload 4, 2) := by decide +kernel
theorem dX2_readOperands_17 : decode cX2_readOperands 17 = .ok (.invokevirtual 76, 3) := by decide +kernel
theorem dX2_readOperands_20 : decode cX2_readOperands 20 = .ok (.istore 5, 2) := by decide +kernel
theorem dX2_readOperands_22 : decode cX2_readOperands 22 = .ok (.iload 5, 2) := by decide +kernel
theorem dX2_readOperands_24 : decode cX2_readOperands 24 = .ok (.bipush 100, 2) := by decide +kernel
theorem dX2_readOperands_26 : decode cX2_readOperands 26 = .ok (.if_icmp .eq 21, 3) := by decide +kernel
theorem dX2_readOperands_29 : decode cX2_readOperands 29 = .ok (.iload 5, 2) := by decide +kernel
theorem dX2_readOperands_31 : decode cX2_readOperands 31 = .ok (.bipush 110, 2) := by decide +kernel
theorem dX2_readOperands_33 : decode cX2_readOperands 33 = .ok (.if_icmp .eq 14, 3) := by decide +kernel
theorem dX2_readOperands_36 : decode cX2_readOperands 36 = .ok (.aload_n 0, 1) := by decide +kernel
theorem dX2_readOperands_37 : decode cX2_readOperands 37 = .ok (.iload 5, 2) := by decide +kernel
theorem dX2_readOperands_39 : decode cX2_readOperands 39 = .ok (.invokevirtual 39, 3) := by decide +kernel
theorem dX2_readOperands_42 : decode cX2_readOperands 42 = .ok (.ifCond .ne 70, 3) := by decide +kernel
theorem dX2_readOperands_45 : decode cX2_readOperands 45 = .ok (.iconst 0, 1) := by decide +kernel
theorem dX2_readOperands_46 : decode cX2_readOperands 46 = .ok (.ireturn, 1) := by decide +kernel
theorem dX2_readOperands_47 : decode cX2_readOperands 47 = .ok (.aload_n 0, 1) := by decide +kernel
theorem dX2_readOperands_48 : decode cX2_readOperands 48 = .ok (.invokevirtual 80, 3) := by decide +kernel
theorem dX2_readOperands_51 : decode cX2_readOperands 51 = .ok (.ifCond .eq 12, 3) := by decide +kernel
theorem dX2_readOperands_54 : decode cX2_readOperands 54 = .ok (.iload_n 3, 1) := by decide +kernel
theorem dX2_readOperands_55 : decode cX2_readOperands 55 = .ok (.aload_n 0, 1) := by decide +kernel
theorem dX2_readOperands_56 : decode cX2_readOperands 56 = .ok (.getfield 21, 3) := by decide +kernel
theorem dX2_readOperands_59 : decode cX2_readOperands 59 = .ok (.arraylength, 1) := by decide +kernel
theorem dX2_readOperands_60 : decode cX2_readOperands 60 = .ok (.if_icmp .lt 5, 3) := by decide +kernel
theorem dX2_readOperands_63 : decode cX2_readOperands 63 = .ok (.iconst 0, 1) := by decide +kernel
theorem dX2_readOperands_64 : decode cX2_readOperands 64 = .ok (.ireturn, 1) := by decide +kernel
theorem dX2_readOperands_65 : decode cX2_readOperands 65 = .ok (.aload_n 0, 1) := by decide +kernel
theorem dX2_readOperands_66 : decode cX2_readOperands 66 = .ok (.getfield 21, 3) := by decide +kernel
theorem dX2_readOperands_69 : decode cX2_readOperands 69 = .ok (.iload_n 3, 1) := by decide +kernel
theorem dX2_readOperands_70 : decode cX2_readOperands 70 = .ok (.aload_n 0, 1) := by decide +kernel
theorem dX2_readOperands_71 : decode cX2_readOperands 71 = .ok (.invokevirtual 84, 3) := by decide +kernel
theorem dX2_readOperands_74 : decode cX2_readOperands 74 = .ok (.iastore, 1) := by decide +kernel
theorem dX2_readOperands_75 : decode cX2_readOperands 75 = .ok (.iload 5, 2) := by decide +kernel
theorem dX2_readOperands_77 : decode cX2_readOperands 77 = .ok (.bipush 110, 2) := by decide +kernel
theorem dX2_readOperands_79 : decode cX2_readOperands 79 = .ok (.if_icmp .ne 30, 3) := by decide +kernel
theorem dX2_readOperands_82 : decode cX2_readOperands 82 = .ok (.aload_n 0, 1) := by decide +kernel
theorem dX2_readOperands_83 : decode cX2_readOperands 83 = .ok (.invokevirtual 80, 3) := by decide +kernel
theorem dX2_readOperands_86 : decode cX2_readOperands 86 = .ok (.ifCond .eq 23, 3) := by decide +kernel
theorem dX2_readOperands_89 : decode cX2_readOperands 89 = .ok (.aload_n 0, 1) := by decide +kernel
theorem dX2_readOperands_90 : decode cX2_readOperands 90 = .ok (.getfield 21, 3) := by decide +kernel
theorem dX2_readOperands_93 : decode cX2_readOperands 93 = .ok (.iload_n 3, 1) := by decide +kernel
theorem dX2_readOperands_94 : decode cX2_readOperands 94 = .ok (.bipush 10, 2) := by decide +kernel
theorem dX2_readOperands_96 : decode cX2_readOperands 96 = .ok (.aload_n 0, 1) := by decide +kernel
theorem dX2_readOperands_97 : decode cX2_readOperands 97 = .ok (.getfield 21, 3) := by decide +kernel
theorem dX2_readOperands_100 : decode cX2_readOperands 100 = .ok (.iload_n 3, 1) := by decide +kernel
theorem dX2_readOperands_101 : decode cX2_readOperands 101 = .ok (.iaload, 1) := by decide +kernel
theorem dX2_readOperands_102 : decode cX2_readOperands 102 = .ok (.imul, 1) := by decide +kernel
theorem dX2_readOperands_103 : decode cX2_readOperands 103 = .ok (.aload_n 0, 1) := by decide +kernel
theorem dX2_readOperands_104 : decode cX2_readOperands 104 = .ok (.invokevirtual 84, 3) := by decide +kernel
theorem dX2_readOperands_107 : decode cX2_readOperands 107 = .ok (.iadd, 1) := by decide +kernel
theorem dX2_readOperands_108 : decode cX2_readOperands 108 = .ok (.iastore, 1) := by decide +kernel
theorem dX2_readOperands_109 : decode cX2_readOperands 109 = .ok (.iinc 3 1, 3) := by decide +kernel
theorem dX2_readOperands_112 : decode cX2_readOperands 112 = .ok (.iinc 4 1, 3) := by decide +kernel
theorem dX2_readOperands_115 : decode cX2_readOperands 115 = .ok (.goto (-110), 3) := by decide +kernel
theorem dX2_readOperands_118 : decode cX2_readOperands 118 = .ok (.iconst 1, 1) := by decide +kernel
theorem dX2_readOperands_119 : decode cX2_readOperands 119 = .ok (.ireturn, 1) := by decide +kernel
theorem dX2_readSign_0 : decode cX2_readSign 0 = .ok (.aload_n 0, 1) := by decide +kernel
theorem dX2_readSign_1 : decode cX2_readSign 1 = .ok (.getfield 32, 3) := by decide +kernel
theorem dX2_readSign_4 : decode cX2_readSign 4 = .ok (.aload_n 0, 1) := by decide +kernel
theorem dX2_readSign_5 : decode cX2_readSign 5 = .ok (.getfield 25, 3) := by decide +kernel
theorem dX2_readSign_8 : decode cX2_readSign 8 = .ok (.if_icmp .ge 16, 3) := by decide +kernel
theorem dX2_readSign_11 : decode cX2_readSign 11 = .ok (.aload_n 0, 1) := by decide +kernel
theorem dX2_readSign_12 : decode cX2_readSign 12 = .ok (.getfield 9, 3) := by decide +kernel
theorem dX2_readSign_15 : decode cX2_readSign 15 = .ok (.aload_n 0, 1) := by decide +kernel
theorem dX2_readSign_16 : decode cX2_readSign 16 = .ok (.getfield 32, 3) := by decide +kernel
theorem dX2_readSign_19 : decode cX2_readSign 19 = .ok (.caload, 1) := by decide +kernel
theorem dX2_readSign_20 : decode cX2_readSign 20 = .ok (.iload_n 1, 1) := by decide +kernel
theorem dX2_readSign_21 : decode cX2_readSign 21 = .ok (.if_icmp .eq 5, 3) := by decide +kernel
theorem dX2_readSign_24 : decode cX2_readSign 24 = .ok (.iconst 0, 1) := by decide +kernel
theorem dX2_readSign_25 : decode cX2_readSign 25 = .ok (.ireturn, 1) := by decide +kernel
theorem dX2_readSign_26 : decode cX2_readSign 26 = .ok (.aload_n 0, 1) := by decide +kernel
theorem dX2_readSign_27 : decode cX2_readSign 27 = .ok (.dup, 1) := by decide +kernel
theorem dX2_readSign_28 : decode cX2_readSign 28 = .ok (.getfield 32, 3) := by decide +kernel
theorem dX2_readSign_31 : decode cX2_readSign 31 = .ok (.iconst 1, 1) := by decide +kernel
theorem dX2_readSign_32 : decode cX2_readSign 32 = .ok (.iadd, 1) := by decide +kernel
theorem dX2_readSign_33 : decode cX2_readSign 33 = .ok (.putfield 32, 3) := by decide +kernel
theorem dX2_readSign_36 : decode cX2_readSign 36 = .ok (.iconst 1, 1) := by decide +kernel
theorem dX2_readSign_37 : decode cX2_readSign 37 = .ok (.ireturn, 1) := by decide +kernel
theorem dX2_isAtDigit_0 : decode cX2_isAtDigit 0 = .ok (.aload_n 0, 1) := by decide +kernel
theorem dX2_isAtDigit_1 : decode cX2_isAtDigit 1 = .ok (.getfield 32, 3) := by decide +kernel
theorem dX2_isAtDigit_4 : decode cX2_isAtDigit 4 = .ok (.aload_n 0, 1) := by decide +kernel
theorem dX2_isAtDigit_5 : decode cX2_isAtDigit 5 = .ok (.getfield 25, 3) := by decide +kernel
theorem dX2_isAtDigit_8 : decode cX2_isAtDigit 8 = .ok (.if_icmp .ge 35, 3) := by decide +kernel
theorem dX2_isAtDigit_11 : decode cX2_isAtDigit 11 = .ok (.aload_n 0, 1) := by decide +kernel
theorem dX2_isAtDigit_12 : decode cX2_isAtDigit 12 = .ok (.getfield 9, 3) := by decide +kernel
theorem dX2_isAtDigit_15 : decode cX2_isAtDigit 15 = .ok (.aload_n 0, 1) := by decide +kernel
theorem dX2_isAtDigit_16 : decode cX2_isAtDigit 16 = .ok (.getfield 32, 3) := by decide +kernel
theorem dX2_isAtDigit_19 : decode cX2_isAtDigit 19 = .ok (.caload, 1) := by decide +kernel
theorem dX2_isAtDigit_20 : decode cX2_isAtDigit 20 = .ok (.bipush 48, 2) := by decide +kernel
theorem dX2_isAtDigit_22 : decode cX2_isAtDigit 22 = .ok (.if_icmp .lt 21, 3) := by decide +kernel
theorem dX2_isAtDigit_25 : decode cX2_isAtDigit 25 = .ok (.aload_n 0, 1) := by decide +kernel
theorem dX2_isAtDigit_26 : decode cX2_isAtDigit 26 = .ok (.getfield 9, 3) := by decide +kernel
theorem dX2_isAtDigit_29 : decode cX2_isAtDigit 29 = .ok (.aload_n 0, 1) := by decide +kernel
theorem dX2_isAtDigit_30 : decode cX2_isAtDigit 30 = .ok (.getfield 32, 3) := by decide +kernel
theorem dX2_isAtDigit_33 : decode cX2_isAtDigit 33 = .ok (.caload, 1) := by decide +kernel
theorem dX2_isAtDigit_34 : decode cX2_isAtDigit 34 = .ok (.bipush 57, 2) := by decide +kernel
theorem dX2_isAtDigit_36 : decode cX2_isAtDigit 36 = .ok (.if_icmp .gt 7, 3) := by decide +kernel
theorem dX2_isAtDigit_39 : decode cX2_isAtDigit 39 = .ok (.iconst 1, 1) := by decide +kernel
theorem dX2_isAtDigit_40 : decode cX2_isAtDigit 40 = .ok (.goto 4, 3) := by decide +kernel
theorem dX2_isAtDigit_43 : decode cX2_isAtDigit 43 = .ok (.iconst 0, 1) := by decide +kernel
theorem dX2_isAtDigit_44 : decode cX2_isAtDigit 44 = .ok (.ireturn, 1) := by decide +kernel
theorem dX2_readDigit_0 : decode cX2_readDigit 0 = .ok (.aload_n 0, 1) := by decide +kernel
theorem dX2_readDigit_1 : decode cX2_readDigit 1 = .ok (.getfield 9, 3) := by decide +kernel
theorem dX2_readDigit_4 : decode cX2_readDigit 4 = .ok (.aload_n 0, 1) := by decide +kernel
theorem dX2_readDigit_5 : decode cX2_readDigit 5 = .ok (.getfield 32, 3) := by decide +kernel
theorem dX2_readDigit_8 : decode cX2_readDigit 8 = .ok (.caload, 1) := by decide +kernel
theorem dX2_readDigit_9 : decode cX2_readDigit 9 = .ok (.bipush 48, 2) := by decide +kernel
theorem dX2_readDigit_11 : decode cX2_readDigit 11 = .ok (.isub, 1) := by decide +kernel
theorem dX2_readDigit_12 : decode cX2_readDigit 12 = .ok (.istore_n 1, 1) := by decide +kernel
theorem dX2_readDigit_13 : decode cX2_readDigit 13 = .ok (.aload_n 0, 1) := by decide +kernel
theorem dX2_readDigit_14 : decode cX2_readDigit 14 = .ok (.dup, 1) := by decide +kernel
theorem dX2_readDigit_15 : decode cX2_readDigit 15 = .ok (.getfield 32, 3) := by decide +kernel
theorem dX2_readDigit_18 : decode cX2_readDigit 18 = .ok (.iconst 1, 1) := by decide +kernel
theorem dX2_readDigit_19 : decode cX2_readDigit 19 = .ok (.iadd, 1) := by decide +kernel
theorem dX2_readDigit_20 : decode cX2_readDigit 20 = .ok (.putfield 32, 3) := by decide +kernel
theorem dX2_readDigit_23 : decode cX2_readDigit 23 = .ok (.iload_n 1, 1) := by decide +kernel
theorem dX2_readDigit_24 : decode cX2_readDigit 24 = .ok (.ireturn, 1) := by decide +kernel
theorem dX3_init_0 : decode cX3_init 0 = .ok (.aload_n 0, 1) := by decide +kernel
theorem dX3_init_1 : decode cX3_init 1 = .ok (.invokespecial 3, 3) := by decide +kernel
theorem dX3_init_4 : decode cX3_init 4 = .ok (.aload_n 0, 1) := by decide +kernel
theorem dX3_init_5 : decode cX3_init 5 = .ok (.ldc 9, 2) := by decide +kernel
theorem dX3_init_7 : decode cX3_init 7 = .ok (.putfield 10, 3) := by decide +kernel
theorem dX3_init_10 : decode cX3_init 10 = .ok (.aload_n 0, 1) := by decide +kernel
theorem dX3_init_11 : decode cX3_init 11 = .ok (.bipush 8, 2) := by decide +kernel
theorem dX3_init_13 : decode cX3_init 13 = .ok (.newarray .int, 2) := by decide +kernel
theorem dX3_init_15 : decode cX3_init 15 = .ok (.putfield 16, 3) := by decide +kernel
theorem dX3_init_18 : decode cX3_init 18 = .ok (.aload_n 0, 1) := by decide +kernel
theorem dX3_init_19 : decode cX3_init 19 = .ok (.bipush 8, 2) := by decide +kernel
theorem dX3_init_21 : decode cX3_init 21 = .ok (.newarray .int, 2) := by decide +kernel
theorem dX3_init_23 : decode cX3_init 23 = .ok (.putfield 20, 3) := by decide +kernel
theorem dX3_init_26 : decode cX3_init 26 = .ok (.aload_n 0, 1) := by decide +kernel
theorem dX3_init_27 : decode cX3_init 27 = .ok (.bipush 8, 2) := by decide +kernel
theorem dX3_init_29 : decode cX3_init 29 = .ok (.newarray .int, 2) := by decide +kernel
theorem dX3_init_31 : decode cX3_init 31 = .ok (.putfield 23, 3) := by decide +kernel
theorem dX3_init_34 : decode cX3_init 34 = .ok (.return_, 1) := by decide +kernel
theorem dX3_copyFrom_0 : decode cX3_copyFrom 0 = .ok (.aload_n 0, 1) := by decide +kernel
theorem dX3_copyFrom_1 : decode cX3_copyFrom 1 = .ok (.aload_n 1, 1) := by decide +kernel
theorem dX3_copyFrom_2 : decode cX3_copyFrom 2 = .ok (.getfield 26, 3) := by decide +kernel
theorem dX3_copyFrom_5 : decode cX3_copyFrom 5 = .ok (.putfield 26, 3) := by decide +kernel
theorem dX3_copyFrom_8 : decode cX3_copyFrom 8 = .ok (.aload_n 0, 1) := by decide +kernel
theorem dX3_copyFrom_9 : decode cX3_copyFrom 9 = .ok (.aload_n 1, 1) := by decide +kernel
theorem dX3_copyFrom_10 : decode cX3_copyFrom 10 = .ok (.getfield 10, 3) := by decide +kernel
theorem dX3_copyFrom_13 : decode cX3_copyFrom 13 = .ok (.putfield 10, 3) := by decide +kernel
theorem dX3_copyFrom_16 : decode cX3_copyFrom 16 = .ok (.aload_n 0, 1) := by decide +kernel
theorem dX3_copyFrom_17 : decode cX3_copyFrom 17 = .ok (.aload_n 1, 1) := by decide +kernel
theorem dX3_copyFrom_18 : decode cX3_copyFrom 18 = .ok (.getfield 29, 3) := by decide +kernel
theorem dX3_copyFrom_21 : decode cX3_copyFrom 21 = .ok (.putfield 29, 3) := by decide +kernel
theorem dX3_copyFrom_24 : decode cX3_copyFrom 24 = .ok (.aload_n 1, 1) := by decide +kernel
theorem dX3_copyFrom_25 : decode cX3_copyFrom 25 = .ok (.getfield 16, 3) := by decide +kernel
theorem dX3_copyFrom_28 : decode cX3_copyFrom 28 = .ok (.iconst 0, 1) := by decide +kernel
theorem dX3_copyFrom_29 : decode cX3_copyFrom 29 = .ok (.aload_n 0, 1) := by decide +kernel
theorem dX3_copyFrom_30 : decode cX3_copyFrom 30 = .ok (.getfield 16, 3) := by decide +kernel
theorem dX3_copyFrom_33 : decode cX3_copyFrom 33 = .ok (.iconst 0, 1) := by decide +kernel
theorem dX3_copyFrom_34 : decode cX3_copyFrom 34 = .ok (.bipush 8, 2) := by decide +kernel
theorem dX3_copyFrom_36 : decode cX3_copyFrom 36 = .ok (.invokestatic 32, 3) := by decide +kernel
theorem dX3_copyFrom_39 : decode cX3_copyFrom 39 = .ok (.aload_n 1, 1) := by decide +kernel
theorem dX3_copyFrom_40 : decode cX3_copyFrom 40 = .ok (.getfield 20, 3) := by decide +kernel
theorem dX3_copyFrom_43 : decode cX3_copyFrom 43 = .ok (.iconst 0, 1) := by decide +kernel
theorem dX3_copyFrom_44 : decode cX3_copyFrom 44 = .ok (.aload_n 0, 1) := by decide +kernel
theorem dX3_copyFrom_45 : decode cX3_copyFrom 45 = .ok (.getfield 20, 3) := by decide +kernel
theorem dX3_copyFrom_48 : decode cX3_copyFrom 48 = .ok (.iconst 0, 1) := by decide +kernel
theorem dX3_copyFrom_49 : decode cX3_copyFrom 49 = .ok (.bipush 8, 2) := by decide +kernel
theorem dX3_copyFrom_51 : decode cX3_copyFrom 51 = .ok (.invokestatic 32, 3) := by decide +kernel
theorem dX3_copyFrom_54 : decode cX3_copyFrom 54 = .ok (.aload_n 1, 1) := by decide +kernel
theorem dX3_copyFrom_55 : decode cX3_copyFrom 55 = .ok (.getfield 23, 3) := by decide +kernel
theorem dX3_copyFrom_58 : decode cX3_copyFrom 58 = .ok (.iconst 0, 1) := by decide +kernel
theorem dX3_copyFrom_59 : decode cX3_copyFrom 59 = .ok (.aload_n 0, 1) := by decide +kernel
theorem dX3_copyFrom_60 : decode cX3_copyFrom 60 = .ok (.getfield 23, 3) := by decide +kernel
theorem dX3_copyFrom_63 : decode cX3_copyFrom 63 = .ok (.iconst 0, 1) := by decide +kernel
theorem dX3_copyFrom_64 : decode cX3_copyFrom 64 = .ok (.bipush 8, 2) := by decide +kernel
theorem dX3_copyFrom_66 : decode cX3_copyFrom 66 = .ok (.invokestatic 32, 3) := by decide +kernel
theorem dX3_copyFrom_69 : decode cX3_copyFrom 69 = .ok (.return_, 1) := by decide +kernel
theorem dX3_sitsAt_0 : decode cX3_sitsAt 0 = .ok (.aload_n 0, 1) := by decide +kernel
theorem dX3_sitsAt_1 : decode cX3_sitsAt 1 = .ok (.getfield 10, 3) := by decide +kernel
theorem dX3_sitsAt_4 : decode cX3_sitsAt 4 = .ok (.iload_n 1, 1) := by decide +kernel
theorem dX3_sitsAt_5 : decode cX3_sitsAt 5 = .ok (.bipush 24, 2) := by decide +kernel
theorem dX3_sitsAt_7 : decode cX3_sitsAt 7 = .ok (.irem, 1) := by decide +kernel
theorem dX3_sitsAt_8 : decode cX3_sitsAt 8 = .ok (.iushr, 1) := by decide +kernel
theorem dX3_sitsAt_9 : decode cX3_sitsAt 9 = .ok (.iconst 1, 1) := by decide +kernel
theorem dX3_sitsAt_10 : decode cX3_sitsAt 10 = .ok (.iand, 1) := by decide +kernel
theorem dX3_sitsAt_11 : decode cX3_sitsAt 11 = .ok (.ifCond .eq 7, 3) := by decide +kernel
theorem dX3_sitsAt_14 : decode cX3_sitsAt 14 = .ok (.iconst 1, 1) := by decide +kernel
theorem dX3_sitsAt_15 : decode cX3_sitsAt 15 = .ok (.goto 4, 3) := by decide +kernel
theorem dX3_sitsAt_18 : decode cX3_sitsAt 18 = .ok (.iconst 0, 1) := by decide +kernel
theorem dX3_sitsAt_19 : decode cX3_sitsAt 19 = .ok (.ireturn, 1) := by decide +kernel
theorem dX3_hasPlea_0 : decode cX3_hasPlea 0 = .ok (.iload_n 1, 1) := by decide +kernel
theorem dX3_hasPlea_1 : decode cX3_hasPlea 1 = .ok (.ifCond .lt 15, 3) := by decide +kernel
theorem dX3_hasPlea_4 : decode cX3_hasPlea 4 = .ok (.iload_n 1, 1) := by decide +kernel
theorem dX3_hasPlea_5 : decode cX3_hasPlea 5 = .ok (.aload_n 0, 1) := by decide +kernel
theorem dX3_hasPlea_6 : decode cX3_hasPlea 6 = .ok (.getfield 29, 3) := by decide +kernel
theorem dX3_hasPlea_9 : decode cX3_hasPlea 9 = .ok (.if_icmp .ge 7, 3) := by decide +kernel
theorem dX3_hasPlea_12 : decode cX3_hasPlea 12 = .ok (.iconst 1, 1) := by decide +kernel
theorem dX3_hasPlea_13 : decode cX3_hasPlea 13 = .ok (.goto 4, 3) := by decide +kernel
theorem dX3_hasPlea_16 : decode cX3_hasPlea 16 = .ok (.iconst 0, 1) := by decide +kernel
theorem dX3_hasPlea_17 : decode cX3_hasPlea 17 = .ok (.ireturn, 1) := by decide +kernel
theorem dX3_pleaOf_0 : decode cX3_pleaOf 0 = .ok (.iconst 0, 1) := by decide +kernel
theorem dX3_pleaOf_1 : decode cX3_pleaOf 1 = .ok (.istore_n 2, 1) := by decide +kernel
theorem dX3_pleaOf_2 : decode cX3_pleaOf 2 = .ok (.iload_n 2, 1) := by decide +kernel
theorem dX3_pleaOf_3 : decode cX3_pleaOf 3 = .ok (.aload_n 0, 1) := by decide +kernel
theorem dX3_pleaOf_4 : decode cX3_pleaOf 4 = .ok (.getfield 29, 3) := by decide +kernel
theorem dX3_pleaOf_7 : decode cX3_pleaOf 7 = .ok (.if_icmp .ge 21, 3) := by decide +kernel
theorem dX3_pleaOf_10 : decode cX3_pleaOf 10 = .ok (.aload_n 0, 1) := by decide +kernel
theorem dX3_pleaOf_11 : decode cX3_pleaOf 11 = .ok (.getfield 16, 3) := by decide +kernel
theorem dX3_pleaOf_14 : decode cX3_pleaOf 14 = .ok (.iload_n 2, 1) := by decide +kernel
theorem dX3_pleaOf_15 : decode cX3_pleaOf 15 = .ok (.iaload, 1) := by decide +kernel
theorem dX3_pleaOf_16 : decode cX3_pleaOf 16 = .ok (.iload_n 1, 1) := by decide +kernel
theorem dX3_pleaOf_17 : decode cX3_pleaOf 17 = .ok (.if_icmp .ne 5, 3) := by decide +kernel
theorem dX3_pleaOf_20 : decode cX3_pleaOf 20 = .ok (.iload_n 2, 1) := by decide +kernel
theorem dX3_pleaOf_21 : decode cX3_pleaOf 21 = .ok (.ireturn, 1) := by decide +kernel
theorem dX3_pleaOf_22 : decode cX3_pleaOf 22 = .ok (.iinc 2 1, 3) := by decide +kernel
theorem dX3_pleaOf_25 : decode cX3_pleaOf 25 = .ok (.goto (-23), 3) := by decide +kernel
theorem dX3_pleaOf_28 : decode cX3_pleaOf 28 = .ok (.iconst (-1), 1) := by decide +kernel
theorem dX3_pleaOf_29 : decode cX3_pleaOf 29 = .ok (.ireturn, 1) := by decide +kernel
theorem dX3_lastHour_0 : decode cX3_lastHour 0 = .ok (.aload_n 0, 1) := by decide +kernel
theorem dX3_lastHour_1 : decode cX3_lastHour 1 = .ok (.getfield 20, 3) := by decide +kernel
theorem dX3_lastHour_4 : decode cX3_lastHour 4 = .ok (.iload_n 1, 1) := by decide +kernel
theorem dX3_lastHour_5 : decode cX3_lastHour 5 = .ok (.iaload, 1) := by decide +kernel
theorem dX3_lastHour_6 : decode cX3_lastHour 6 = .ok (.bipush 24, 2) := by decide +kernel
theorem dX3_lastHour_8 : decode cX3_lastHour 8 = .ok (.iadd, 1) := by decide +kernel
theorem dX3_lastHour_9 : decode cX3_lastHour 9 = .ok (.ireturn, 1) := by decide +kernel
theorem dX3_canBeHeard_0 : decode cX3_canBeHeard 0 = .ok (.aload_n 0, 1) := by decide +kernel
theorem dX3_canBeHeard_1 : decode cX3_canBeHeard 1 = .ok (.getfield 20, 3) := by decide +kernel
theorem dX3_canBeHeard_4 : decode cX3_canBeHeard 4 = .ok (.iload_n 1, 1) := by decide +kernel
theorem dX3_canBeHeard_5 : decode cX3_canBeHeard 5 = .ok (.iaload, 1) := by decide +kernel
theorem dX3_canBeHeard_6 : decode cX3_canBeHeard 6 = .ok (.iload_n 2, 1) := by decide +kernel
theorem dX3_canBeHeard_7 : decode cX3_canBeHeard 7 = .ok (.if_icmp .gt 24, 3) := by decide +kernel
theorem dX3_canBeHeard_10 : decode cX3_canBeHeard 10 = .ok (.iload_n 2, 1) := by decide +kernel
theorem dX3_canBeHeard_11 : decode cX3_canBeHeard 11 = .ok (.aload_n 0, 1) := by decide +kernel
theorem dX3_canBeHeard_12 : decode cX3_canBeHeard 12 = .ok (.iload_n 1, 1) := by decide +kernel
theorem dX3_canBeHeard_13 : decode cX3_canBeHeard 13 = .ok (.invokevirtual 38, 3) := by decide +kernel
theorem dX3_canBeHeard_16 : decode cX3_canBeHeard 16 = .ok (.if_icmp .gt 15, 3) := by decide +kernel
theorem dX3_canBeHeard_19 : decode cX3_canBeHeard 19 = .ok (.aload_n 0, 1) := by decide +kernel
theorem dX3_canBeHeard_20 : decode cX3_canBeHeard 20 = .ok (.iload_n 2, 1) := by decide +kernel
theorem dX3_canBeHeard_21 : decode cX3_canBeHeard 21 = .ok (.invokevirtual 42, 3) := by decide +kernel
theorem dX3_canBeHeard_24 : decode cX3_canBeHeard 24 = .ok (.ifCond .eq 7, 3) := by decide +kernel
theorem dX3_canBeHeard_27 : decode cX3_canBeHeard 27 = .ok (.iconst 1, 1) := by decide +kernel
theorem dX3_canBeHeard_28 : decode cX3_canBeHeard 28 = .ok (.goto 4, 3) := by decide +kernel
theorem dX3_canBeHeard_31 : decode cX3_canBeHeard 31 = .ok (.iconst 0, 1) := by decide +kernel
theorem dX3_canBeHeard_32 : decode cX3_canBeHeard 32 = .ok (.ireturn, 1) := by decide +kernel
theorem dX3_fineOf_0 : decode cX3_fineOf 0 = .ok (.iconst 3, 1) := by decide +kernel
theorem dX3_fineOf_1 : decode cX3_fineOf 1 = .ok (.aload_n 0, 1) := by decide +kernel
theorem dX3_fineOf_2 : decode cX3_fineOf 2 = .ok (.getfield 23, 3) := by decide +kernel
theorem dX3_fineOf_5 : decode cX3_fineOf 5 = .ok (.iload_n 1, 1) := by decide +kernel
theorem dX3_fineOf_6 : decode cX3_fineOf 6 = .ok (.iaload, 1) := by decide +kernel
theorem dX3_fineOf_7 : decode cX3_fineOf 7 = .ok (.imul, 1) := by decide +kernel
theorem dX3_fineOf_8 : decode cX3_fineOf 8 = .ok (.aload_n 0, 1) := by decide +kernel
theorem dX3_fineOf_9 : decode cX3_fineOf 9 = .ok (.getfield 26, 3) := by decide +kernel
theorem dX3_fineOf_12 : decode cX3_fineOf 12 = .ok (.aload_n 0, 1) := by decide +kernel
theorem dX3_fineOf_13 : decode cX3_fineOf 13 = .ok (.getfield 20, 3) := by decide +kernel
theorem dX3_fineOf_16 : decode cX3_fineOf 16 = .ok (.iload_n 1, 1) := by decide +kernel
theorem dX3_fineOf_17 : decode cX3_fineOf 17 = .ok (.iaload, 1) := by decide +kernel
theorem dX3_fineOf_18 : decode cX3_fineOf 18 = .ok (.isub, 1) := by decide +kernel
theorem dX3_fineOf_19 : decode cX3_fineOf 19 = .ok (.iadd, 1) := by decide +kernel
theorem dX3_fineOf_20 : decode cX3_fineOf 20 = .ok (.ireturn, 1) := by decide +kernel
theorem dX3_enterPlea_0 : decode cX3_enterPlea 0 = .ok (.aload_n 0, 1) := by decide +kernel
theorem dX3_enterPlea_1 : decode cX3_enterPlea 1 = .ok (.getfield 29, 3) := by decide +kernel
theorem dX3_enterPlea_4 : decode cX3_enterPlea 4 = .ok (.bipush 8, 2) := by decide +kernel
theorem dX3_enterPlea_6 : decode cX3_enterPlea 6 = .ok (.if_icmp .ge 43, 3) := by decide +kernel
theorem dX3_enterPlea_9 : decode cX3_enterPlea 9 = .ok (.aload_n 0, 1) := by decide +kernel
theorem dX3_enterPlea_10 : decode cX3_enterPlea 10 = .ok (.getfield 16, 3) := by decide +kernel
theorem dX3_enterPlea_13 : decode cX3_enterPlea 13 = .ok (.aload_n 0, 1) := by decide +kernel
theorem dX3_enterPlea_14 : decode cX3_enterPlea 14 = .ok (.getfield 29, 3) := by decide +kernel
theorem dX3_enterPlea_17 : decode cX3_enterPlea 17 = .ok (.iload_n 1, 1) := by decide +kernel
theorem dX3_enterPlea_18 : decode cX3_enterPlea 18 = .ok (.iastore, 1) := by decide +kernel
theorem dX3_enterPlea_19 : decode cX3_enterPlea 19 = .ok (.aload_n 0, 1) := by decide +kernel
theorem dX3_enterPlea_20 : decode cX3_enterPlea 20 = .ok (.getfield 20, 3) := by decide +kernel
theorem dX3_enterPlea_23 : decode cX3_enterPlea 23 = .ok (.aload_n 0, 1) := by decide +kernel
theorem dX3_enterPlea_24 : decode cX3_enterPlea 24 = .ok (.getfield 29, 3) := by decide +kernel
theorem dX3_enterPlea_27 : decode cX3_enterPlea 27 = .ok (.iload_n 2, 1) := by decide +kernel
theorem dX3_enterPlea_28 : decode cX3_enterPlea 28 = .ok (.iastore, 1) := by decide +kernel
theorem dX3_enterPlea_29 : decode cX3_enterPlea 29 = .ok (.aload_n 0, 1) := by decide +kernel
theorem dX3_enterPlea_30 : decode cX3_enterPlea 30 = .ok (.getfield 23, 3) := by decide +kernel
theorem dX3_enterPlea_33 : decode cX3_enterPlea 33 = .ok (.aload_n 0, 1) := by decide +kernel
theorem dX3_enterPlea_34 : decode cX3_enterPlea 34 = .ok (.getfield 29, 3) := by decide +kernel
theorem dX3_enterPlea_37 : decode cX3_enterPlea 37 = .ok (.iload_n 3, 1) := by decide +kernel
theorem dX3_enterPlea_38 : decode cX3_enterPlea 38 = .ok (.iastore, 1) := by decide +kernel
theorem dX3_enterPlea_39 : decode cX3_enterPlea 39 = .ok (.aload_n 0, 1) := by decide +kernel
theorem dX3_enterPlea_40 : decode cX3_enterPlea 40 = .ok (.dup, 1) := by decide +kernel
theorem dX3_enterPlea_41 : decode cX3_enterPlea 41 = .ok (.getfield 29, 3) := by decide +kernel
theorem dX3_enterPlea_44 : decode cX3_enterPlea 44 = .ok (.iconst 1, 1) := by decide +kernel
theorem dX3_enterPlea_45 : decode cX3_enterPlea 45 = .ok (.iadd, 1) := by decide +kernel
theorem dX3_enterPlea_46 : decode cX3_enterPlea 46 = .ok (.putfield 29, 3) := by decide +kernel
theorem dX3_enterPlea_49 : decode cX3_enterPlea 49 = .ok (.return_, 1) := by decide +kernel
theorem dX3_strike_0 : decode cX3_strike 0 = .ok (.iload_n 1, 1) := by decide +kernel
theorem dX3_strike_1 : decode cX3_strike 1 = .ok (.iconst 1, 1) := by decide +kernel
theorem dX3_strike_2 : decode cX3_strike 2 = .ok (.iadd, 1) := by decide +kernel
theorem dX3_strike_3 : decode cX3_strike 3 = .ok (.istore_n 2, 1) := by decide +kernel
theorem dX3_strike_4 : decode cX3_strike 4 = .ok (.iload_n 2, 1) := by decide +kernel
theorem dX3_strike_5 : decode cX3_strike 5 = .ok (.aload_n 0, 1) := by decide +kernel
theorem dX3_strike_6 : decode cX3_strike 6 = .ok (.getfield 29, 3) := by decide +kernel
theorem dX3_strike_9 : decode cX3_strike 9 = .ok (.if_icmp .ge 17, 3) := by decide +kernel
theorem dX3_strike_12 : decode cX3_strike 12 = .ok (.aload_n 0, 1) := by decide +kernel
theorem dX3_strike_13 : decode cX3_strike 13 = .ok (.iload_n 2, 1) := by decide +kernel
theorem dX3_strike_14 : decode cX3_strike 14 = .ok (.iload_n 2, 1) := by decide +kernel
theorem dX3_strike_15 : decode cX3_strike 15 = .ok (.iconst 1, 1) := by decide +kernel
theorem dX3_strike_16 : decode cX3_strike 16 = .ok (.isub, 1) := by decide +kernel
theorem dX3_strike_17 : decode cX3_strike 17 = .ok (.invokevirtual 46, 3) := by decide +kernel
theorem dX3_strike_20 : decode cX3_strike 20 = .ok (.iinc 2 1, 3) := by decide +kernel
theorem dX3_strike_23 : decode cX3_strike 23 = .ok (.goto (-19), 3) := by decide +kernel
theorem dX3_strike_26 : decode cX3_strike 26 = .ok (.aload_n 0, 1) := by decide +kernel
theorem dX3_strike_27 : decode cX3_strike 27 = .ok (.dup, 1) := by decide +kernel
theorem dX3_strike_28 : decode cX3_strike 28 = .ok (.getfield 29, 3) := by decide +kernel
theorem dX3_strike_31 : decode cX3_strike 31 = .ok (.iconst 1, 1) := by decide +kernel
theorem dX3_strike_32 : decode cX3_strike 32 = .ok (.isub, 1) := by decide +kernel
theorem dX3_strike_33 : decode cX3_strike 33 = .ok (.putfield 29, 3) := by decide +kernel
theorem dX3_strike_36 : decode cX3_strike 36 = .ok (.return_, 1) := by decide +kernel
theorem dX3_movePlea_0 : decode cX3_movePlea 0 = .ok (.aload_n 0, 1) := by decide +kernel
theorem dX3_movePlea_1 : decode cX3_movePlea 1 = .ok (.getfield 16, 3) := by decide +kernel
theorem dX3_movePlea_4 : decode cX3_movePlea 4 = .ok (.iload_n 2, 1) := by decide +kernel
theorem dX3_movePlea_5 : decode cX3_movePlea 5 = .ok (.aload_n 0, 1) := by decide +kernel
theorem dX3_movePlea_6 : decode cX3_movePlea 6 = .ok (.getfield 16, 3) := by decide +kernel
theorem dX3_movePlea_9 : decode cX3_movePlea 9 = .ok (.iload_n 1, 1) := by decide +kernel
theorem dX3_movePlea_10 : decode cX3_movePlea 10 = .ok (.iaload, 1) := by decide +kernel
theorem dX3_movePlea_11 : decode cX3_movePlea 11 = .ok (.iastore, 1) := by decide +kernel
theorem dX3_movePlea_12 : decode cX3_movePlea 12 = .ok (.aload_n 0, 1) := by decide +kernel
theorem dX3_movePlea_13 : decode cX3_movePlea 13 = .ok (.getfield 20, 3) := by decide +kernel
theorem dX3_movePlea_16 : decode cX3_movePlea 16 = .ok (.iload_n 2, 1) := by decide +kernel
theorem dX3_movePlea_17 : decode cX3_movePlea 17 = .ok (.aload_n 0, 1) := by decide +kernel
theorem dX3_movePlea_18 : decode cX3_movePlea 18 = .ok (.getfield 20, 3) := by decide +kernel
theorem dX3_movePlea_21 : decode cX3_movePlea 21 = .ok (.iload_n 1, 1) := by decide +kernel
theorem dX3_movePlea_22 : decode cX3_movePlea 22 = .ok (.iaload, 1) := by decide +kernel
theorem dX3_movePlea_23 : decode cX3_movePlea 23 = .ok (.iastore, 1) := by decide +kernel
theorem dX3_movePlea_24 : decode cX3_movePlea 24 = .ok (.aload_n 0, 1) := by decide +kernel
theorem dX3_movePlea_25 : decode cX3_movePlea 25 = .ok (.getfield 23, 3) := by decide +kernel
theorem dX3_movePlea_28 : decode cX3_movePlea 28 = .ok (.iload_n 2, 1) := by decide +kernel
theorem dX3_movePlea_29 : decode cX3_movePlea 29 = .ok (.aload_n 0, 1) := by decide +kernel
theorem dX3_movePlea_30 : decode cX3_movePlea 30 = .ok (.getfield 23, 3) := by decide +kernel
theorem dX3_movePlea_33 : decode cX3_movePlea 33 = .ok (.iload_n 1, 1) := by decide +kernel
theorem dX3_movePlea_34 : decode cX3_movePlea 34 = .ok (.iaload, 1) := by decide +kernel
theorem dX3_movePlea_35 : decode cX3_movePlea 35 = .ok (.iastore, 1) := by decide +kernel
theorem dX3_movePlea_36 : decode cX3_movePlea 36 = .ok (.return_, 1) := by decide +kernel
theorem dX3_passHour_0 : decode cX3_passHour 0 = .ok (.aload_n 0, 1) := by decide +kernel
theorem dX3_passHour_1 : decode cX3_passHour 1 = .ok (.dup, 1) := by decide +kernel
theorem dX3_passHour_2 : decode cX3_passHour 2 = .ok (.getfield 26, 3) := by decide +kernel
theorem dX3_passHour_5 : decode cX3_passHour 5 = .ok (.iconst 1, 1) := by decide +kernel
theorem dX3_passHour_6 : decode cX3_passHour 6 = .ok (.iadd, 1) := by decide +kernel
theorem dX3_passHour_7 : decode cX3_passHour 7 = .ok (.putfield 26, 3) := by decide +kernel
theorem dX3_passHour_10 : decode cX3_passHour 10 = .ok (.iconst 0, 1) := by decide +kernel
theorem dX3_passHour_11 : decode cX3_passHour 11 = .ok (.istore_n 1, 1) := by decide +kernel
theorem dX3_passHour_12 : decode cX3_passHour 12 = .ok (.iconst 0, 1) := by decide +kernel
theorem dX3_passHour_13 : decode cX3_passHour 13 = .ok (.istore_n 2, 1) := by decide +kernel
theorem dX3_passHour_14 : decode cX3_passHour 14 = .ok (.iload_n 2, 1) := by decide +kernel
theorem dX3_passHour_15 : decode cX3_passHour 15 = .ok (.aload_n 0, 1) := by decide +kernel
theorem dX3_passHour_16 : decode cX3_passHour 16 = .ok (.getfield 29, 3) := by decide +kernel
theorem dX3_passHour_19 : decode cX3_passHour 19 = .ok (.if_icmp .ge 30, 3) := by decide +kernel
theorem dX3_passHour_22 : decode cX3_passHour 22 = .ok (.aload_n 0, 1) := by decide +kernel
theorem dX3_passHour_23 : decode cX3_passHour 23 = .ok (.iload_n 2, 1) := by decide +kernel
theorem dX3_passHour_24 : decode cX3_passHour 24 = .ok (.invokevirtual 38, 3) := by decide +kernel
theorem dX3_passHour_27 : decode cX3_passHour 27 = .ok (.aload_n 0, 1) := by decide +kernel
theorem dX3_passHour_28 : decode cX3_passHour 28 = .ok (.getfield 26, 3) := by decide +kernel
theorem dX3_passHour_31 : decode cX3_passHour 31 = .ok (.if_icmp .lt 12, 3) := by decide +kernel
theorem dX3_passHour_34 : decode cX3_passHour 34 = .ok (.aload_n 0, 1) := by decide +kernel
theorem dX3_passHour_35 : decode cX3_passHour 35 = .ok (.iload_n 2, 1) := by decide +kernel
theorem dX3_passHour_36 : decode cX3_passHour 36 = .ok (.iload_n 1, 1) := by decide +kernel
theorem dX3_passHour_37 : decode cX3_passHour 37 = .ok (.invokevirtual 46, 3) := by decide +kernel
theorem dX3_passHour_40 : decode cX3_passHour 40 = .ok (.iinc 1 1, 3) := by decide +kernel
theorem dX3_passHour_43 : decode cX3_passHour 43 = .ok (.iinc 2 1, 3) := by decide +kernel
theorem dX3_passHour_46 : decode cX3_passHour 46 = .ok (.goto (-32), 3) := by decide +kernel
theorem dX3_passHour_49 : decode cX3_passHour 49 = .ok (.aload_n 0, 1) := by decide +kernel
theorem dX3_passHour_50 : decode cX3_passHour 50 = .ok (.getfield 29, 3) := by decide +kernel
theorem dX3_passHour_53 : decode cX3_passHour 53 = .ok (.iload_n 1, 1) := by decide +kernel
theorem dX3_passHour_54 : decode cX3_passHour 54 = .ok (.isub, 1) := by decide +kernel
theorem dX3_passHour_55 : decode cX3_passHour 55 = .ok (.istore_n 2, 1) := by decide +kernel
theorem dX3_passHour_56 : decode cX3_passHour 56 = .ok (.aload_n 0, 1) := by decide +kernel
theorem dX3_passHour_57 : decode cX3_passHour 57 = .ok (.iload_n 1, 1) := by decide +kernel
theorem dX3_passHour_58 : decode cX3_passHour 58 = .ok (.putfield 29, 3) := by decide +kernel
theorem dX3_passHour_61 : decode cX3_passHour 61 = .ok (.iload_n 2, 1) := by decide +kernel
theorem dX3_passHour_62 : decode cX3_passHour 62 = .ok (.ireturn, 1) := by decide +kernel
theorem dX4_init_0 : decode cX4_init 0 = .ok (.aload_n 0, 1) := by decide +kernel
theorem dX4_init_1 : decode cX4_init 1 = .ok (.invokespecial 3, 3) := by decide +kernel
theorem dX4_init_4 : decode cX4_init 4 = .ok (.aload_n 0, 1) := by decide +kernel
theorem dX4_init_5 : decode cX4_init 5 = .ok (.bipush 36, 2) := by decide +kernel
theorem dX4_init_7 : decode cX4_init 7 = .ok (.newarray .int, 2) := by decide +kernel
theorem dX4_init_9 : decode cX4_init 9 = .ok (.putfield 9, 3) := by decide +kernel
theorem dX4_init_12 : decode cX4_init 12 = .ok (.return_, 1) := by decide +kernel
theorem dX4_fly_0 : decode cX4_fly 0 = .ok (.aload_n 0, 1) := by decide +kernel
theorem dX4_fly_1 : decode cX4_fly 1 = .ok (.getfield 9, 3) := by decide +kernel
theorem dX4_fly_4 : decode cX4_fly 4 = .ok (.iconst 0, 1) := by decide +kernel
theorem dX4_fly_5 : decode cX4_fly 5 = .ok (.aload_n 1, 1) := by decide +kernel
theorem dX4_fly_6 : decode cX4_fly 6 = .ok (.getfield 15, 3) := by decide +kernel
theorem dX4_fly_9 : decode cX4_fly 9 = .ok (.iastore, 1) := by decide +kernel
theorem dX4_fly_10 : decode cX4_fly 10 = .ok (.aload_n 0, 1) := by decide +kernel
theorem dX4_fly_11 : decode cX4_fly 11 = .ok (.iconst 0, 1) := by decide +kernel
theorem dX4_fly_12 : decode cX4_fly 12 = .ok (.putfield 21, 3) := by decide +kernel
theorem dX4_fly_15 : decode cX4_fly 15 = .ok (.iload_n 2, 1) := by decide +kernel
theorem dX4_fly_16 : decode cX4_fly 16 = .ok (.bipush 8, 2) := by decide +kernel
theorem dX4_fly_18 : decode cX4_fly 18 = .ok (.irem, 1) := by decide +kernel
theorem dX4_fly_19 : decode cX4_fly 19 = .ok (.istore_n 3, 1) := by decide +kernel
theorem dX4_fly_20 : decode cX4_fly 20 = .ok (.iload_n 2, 1) := by decide +kernel
theorem dX4_fly_21 : decode cX4_fly 21 = .ok (.bipush 32, 2) := by decide +kernel
theorem dX4_fly_23 : decode cX4_fly 23 = .ok (.if_icmp .ge 7, 3) := by decide +kernel
theorem dX4_fly_26 : decode cX4_fly 26 = .ok (.iconst 1, 1) := by decide +kernel
theorem dX4_fly_27 : decode cX4_fly 27 = .ok (.goto 5, 3) := by decide +kernel
theorem dX4_fly_30 : decode cX4_fly 30 = .ok (.bipush 7, 2) := by decide +kernel
theorem dX4_fly_32 : decode cX4_fly 32 = .ok (.istore 4, 2) := by decide +kernel
theorem dX4_fly_34 : decode cX4_fly 34 = .ok (.iconst 1, 1) := by decide +kernel
theorem dX4_fly_35 : decode cX4_fly 35 = .ok (.istore 5, 2) := by decide +kernel
theorem dX4_fly_37 : decode cX4_fly 37 = .ok (.iconst 0, 1) := by decide +kernel
theorem dX4_fly_38 : decode cX4_fly 38 = .ok (.istore 6, 2) := by decide +kernel
theorem dX4_fly_40 : decode cX4_fly 40 = .ok (.iload 6, 2) := by decide +kernel
theorem dX4_fly_42 : decode cX4_fly 42 = .ok (.bipush 8, 2) := by decide +kernel
theorem dX4_fly_44 : decode cX4_fly 44 = .ok (.if_icmp .ge 78, 3) := by decide +kernel
theorem dX4_fly_47 : decode cX4_fly 47 = .ok (.iload 5, 2) := by decide +kernel
theorem dX4_fly_49 : decode cX4_fly 49 = .ok (.ifCond .eq 73, 3) := by decide +kernel
theorem dX4_fly_52 : decode cX4_fly 52 = .ok (.iconst 0, 1) := by decide +kernel
theorem dX4_fly_53 : decode cX4_fly 53 = .ok (.istore 7, 2) := by decide +kernel
theorem dX4_fly_55 : decode cX4_fly 55 = .ok (.iload 7, 2) := by decide +kernel
theorem dX4_fly_57 : decode cX4_fly 57 = .ok (.iload_n 2, 1) := by decide +kernel
theorem dX4_fly_58 : decode cX4_fly 58 = .ok (.invokestatic 24, 3) := by decide +kernel
theorem dX4_fly_61 : decode cX4_fly 61 = .ok (.if_icmp .ge 22, 3) := by decide +kernel
theorem dX4_fly_64 : decode cX4_fly 64 = .ok (.iload 5, 2) := by decide +kernel
theorem dX4_fly_66 : decode cX4_fly 66 = .ok (.ifCond .eq 17, 3) := by decide +kernel
theorem dX4_fly_69 : decode cX4_fly 69 = .ok (.aload_n 0, 1) := by decide +kernel
theorem dX4_fly_70 : decode cX4_fly 70 = .ok (.aload_n 1, 1) := by decide +kernel
theorem dX4_fly_71 : decode cX4_fly 71 = .ok (.iload_n 3, 1) := by decide +kernel
theorem dX4_fly_72 : decode cX4_fly 72 = .ok (.invokevirtual 28, 3) := by decide +kernel
theorem dX4_fly_75 : decode cX4_fly 75 = .ok (.istore 5, 2) := by decide +kernel
theorem dX4_fly_77 : decode cX4_fly 77 = .ok (.iinc 7 1, 3) := by decide +kernel
theorem dX4_fly_80 : decode cX4_fly 80 = .ok (.goto (-25), 3) := by decide +kernel
theorem dX4_fly_83 : decode cX4_fly 83 = .ok (.iload 5, 2) := by decide +kernel
theorem dX4_fly_85 : decode cX4_fly 85 = .ok (.ifCond .eq 23, 3) := by decide +kernel
theorem dX4_fly_88 : decode cX4_fly 88 = .ok (.iload 6, 2) := by decide +kernel
theorem dX4_fly_90 : decode cX4_fly 90 = .ok (.aload_n 1, 1) := by decide +kernel
theorem dX4_fly_91 : decode cX4_fly 91 = .ok (.getfield 32, 3) := by decide +kernel
theorem dX4_fly_94 : decode cX4_fly 94 = .ok (.if_icmp .ge 14, 3) := by decide +kernel
theorem dX4_fly_97 : decode cX4_fly 97 = .ok (.aload_n 0, 1) := by decide +kernel
theorem dX4_fly_98 : decode cX4_fly 98 = .ok (.aload_n 1, 1) := by decide +kernel
theorem dX4_fly_99 : decode cX4_fly 99 = .ok (.aload_n 1, 1) := by decide +kernel
theorem dX4_fly_100 : decode cX4_fly 100 = .ok (.getfield 35, 3) := by decide +kernel
theorem dX4_fly_103 : decode cX4_fly 103 = .ok (.invokevirtual 28, 3) := by decide +kernel
theorem dX4_fly_106 : decode cX4_fly 106 = .ok (.istore 5, 2) := by decide +kernel
theorem dX4_fly_108 : decode cX4_fly 108 = .ok (.iload_n 3, 1) := by decide +kernel
theorem dX4_fly_109 : decode cX4_fly 109 = .ok (.iload 4, 2) := by decide +kernel
theorem dX4_fly_111 : decode cX4_fly 111 = .ok (.iadd, 1) := by decide +kernel
theorem dX4_fly_112 : decode cX4_fly 112 = .ok (.bipush 8, 2) := by decide +kernel
theorem dX4_fly_114 : decode cX4_fly 114 = .ok (.irem, 1) := by decide +kernel
theorem dX4_fly_115 : decode cX4_fly 115 = .ok (.istore_n 3, 1) := by decide +kernel
theorem dX4_fly_116 : decode cX4_fly 116 = .ok (.iinc 6 1, 3) := by decide +kernel
theorem dX4_fly_119 : decode cX4_fly 119 = .ok (.goto (-79), 3) := by decide +kernel
theorem dX4_fly_122 : decode cX4_fly 122 = .ok (.aload_n 0, 1) := by decide +kernel
theorem dX4_fly_123 : decode cX4_fly 123 = .ok (.iload 5, 2) := by decide +kernel
theorem dX4_fly_125 : decode cX4_fly 125 = .ok (.ifCond .ne 8, 3) := by decide +kernel
theorem dX4_fly_128 : decode cX4_fly 128 = .ok (.bipush 116, 2) := by decide +kernel
theorem dX4_fly_130 : decode cX4_fly 130 = .ok (.goto 26, 3) := by decide +kernel
theorem dX4_fly_133 : decode cX4_fly 133 = .ok (.aload_n 0, 1) := by decide +kernel
theorem dX4_fly_134 : decode cX4_fly 134 = .ok (.getfield 9, 3) := by decide +kernel
theorem dX4_fly_137 : decode cX4_fly 137 = .ok (.aload_n 0, 1) := by decide +kernel
theorem dX4_fly_138 : decode cX4_fly 138 = .ok (.getfield 21, 3) := by decide +kernel
theorem dX4_fly_141 : decode cX4_fly 141 = .ok (.iaload, 1) := by decide +kernel
theorem dX4_fly_142 : decode cX4_fly 142 = .ok (.aload_n 1, 1) := by decide +kernel
theorem dX4_fly_143 : decode cX4_fly 143 = .ok (.getfield 15, 3) := by decide +kernel
theorem dX4_fly_146 : decode cX4_fly 146 = .ok (.if_icmp .ne 8, 3) := by decide +kernel
theorem dX4_fly_149 : decode cX4_fly 149 = .ok (.bipush 99, 2) := by decide +kernel
theorem dX4_fly_151 : decode cX4_fly 151 = .ok (.goto 5, 3) := by decide +kernel
theorem dX4_fly_154 : decode cX4_fly 154 = .ok (.bipush 103, 2) := by decide +kernel
theorem dX4_fly_156 : decode cX4_fly 156 = .ok (.putfield 38, 3) := by decide +kernel
theorem dX4_fly_159 : decode cX4_fly 159 = .ok (.return_, 1) := by decide +kernel
theorem dX4_step_0 : decode cX4_step 0 = .ok (.aload_n 0, 1) := by decide +kernel
theorem dX4_step_1 : decode cX4_step 1 = .ok (.getfield 9, 3) := by decide +kernel
theorem dX4_step_4 : decode cX4_step 4 = .ok (.aload_n 0, 1) := by decide +kernel
theorem dX4_step_5 : decode cX4_step 5 = .ok (.getfield 21, 3) := by decide +kernel
theorem dX4_step_8 : decode cX4_step 8 = .ok (.iaload, 1) := by decide +kernel
theorem dX4_step_9 : decode cX4_step 9 = .ok (.iload_n 2, 1) := by decide +kernel
theorem dX4_step_10 : decode cX4_step 10 = .ok (.invokestatic 42, 3) := by decide +kernel
theorem dX4_step_13 : decode cX4_step 13 = .ok (.istore_n 3, 1) := by decide +kernel
theorem dX4_step_14 : decode cX4_step 14 = .ok (.aload_n 1, 1) := by decide +kernel
theorem dX4_step_15 : decode cX4_step 15 = .ok (.iload_n 3, 1) := by decide +kernel
theorem dX4_step_16 : decode cX4_step 16 = .ok (.invokevirtual 46, 3) := by decide +kernel
theorem dX4_step_19 : decode cX4_step 19 = .ok (.ifCond .ne 12, 3) := by decide +kernel
theorem dX4_step_22 : decode cX4_step 22 = .ok (.aload_n 0, 1) := by decide +kernel
theorem dX4_step_23 : decode cX4_step 23 = .ok (.getfield 21, 3) := by decide +kernel
theorem dX4_step_26 : decode cX4_step 26 = .ok (.bipush 35, 2) := by decide +kernel
theorem dX4_step_28 : decode cX4_step 28 = .ok (.if_icmp .lt 5, 3) := by decide +kernel
theorem dX4_step_31 : decode cX4_step 31 = .ok (.iconst 0, 1) := by decide +kernel
theorem dX4_step_32 : decode cX4_step 32 = .ok (.ireturn, 1) := by decide +kernel
theorem dX4_step_33 : decode cX4_step 33 = .ok (.aload_n 0, 1) := by decide +kernel
theorem dX4_step_34 : decode cX4_step 34 = .ok (.dup, 1) := by decide +kernel
theorem dX4_step_35 : decode cX4_step 35 = .ok (.getfield 21, 3) := by decide +kernel
theorem dX4_step_38 : decode cX4_step 38 = .ok (.iconst 1, 1) := by decide +kernel
theorem dX4_step_39 : decode cX4_step 39 = .ok (.iadd, 1) := by decide +kernel
theorem dX4_step_40 : decode cX4_step 40 = .ok (.putfield 21, 3) := by decide +kernel
theorem dX4_step_43 : decode cX4_step 43 = .ok (.aload_n 0, 1) := by decide +kernel
theorem dX4_step_44 : decode cX4_step 44 = .ok (.getfield 9, 3) := by decide +kernel
theorem dX4_step_47 : decode cX4_step 47 = .ok (.aload_n 0, 1) := by decide +kernel
theorem dX4_step_48 : decode cX4_step 48 = .ok (.getfield 21, 3) := by decide +kernel
theorem dX4_step_51 : decode cX4_step 51 = .ok (.iload_n 3, 1) := by decide +kernel
theorem dX4_step_52 : decode cX4_step 52 = .ok (.iastore, 1) := by decide +kernel
theorem dX4_step_53 : decode cX4_step 53 = .ok (.iconst 1, 1) := by decide +kernel
theorem dX4_step_54 : decode cX4_step 54 = .ok (.ireturn, 1) := by decide +kernel
theorem dX4_stepsTo_0 : decode cX4_stepsTo 0 = .ok (.iconst 1, 1) := by decide +kernel
theorem dX4_stepsTo_1 : decode cX4_stepsTo 1 = .ok (.istore_n 2, 1) := by decide +kernel
theorem dX4_stepsTo_2 : decode cX4_stepsTo 2 = .ok (.iload_n 2, 1) := by decide +kernel
theorem dX4_stepsTo_3 : decode cX4_stepsTo 3 = .ok (.aload_n 0, 1) := by decide +kernel
theorem dX4_stepsTo_4 : decode cX4_stepsTo 4 = .ok (.getfield 21, 3) := by decide +kernel
theorem dX4_stepsTo_7 : decode cX4_stepsTo 7 = .ok (.if_icmp .gt 21, 3) := by decide +kernel
theorem dX4_stepsTo_10 : decode cX4_stepsTo 10 = .ok (.aload_n 0, 1) := by decide +kernel
theorem dX4_stepsTo_11 : decode cX4_stepsTo 11 = .ok (.getfield 9, 3) := by decide +kernel
theorem dX4_stepsTo_14 : decode cX4_stepsTo 14 = .ok (.iload_n 2, 1) := by decide +kernel
theorem dX4_stepsTo_15 : decode cX4_stepsTo 15 = .ok (.iaload, 1) := by decide +kernel
theorem dX4_stepsTo_16 : decode cX4_stepsTo 16 = .ok (.iload_n 1, 1) := by decide +kernel
theorem dX4_stepsTo_17 : decode cX4_stepsTo 17 = .ok (.if_icmp .ne 5, 3) := by decide +kernel
theorem dX4_stepsTo_20 : decode cX4_stepsTo 20 = .ok (.iload_n 2, 1) := by decide +kernel
theorem dX4_stepsTo_21 : decode cX4_stepsTo 21 = .ok (.ireturn, 1) := by decide +kernel
theorem dX4_stepsTo_22 : decode cX4_stepsTo 22 = .ok (.iinc 2 1, 3) := by decide +kernel
theorem dX4_stepsTo_25 : decode cX4_stepsTo 25 = .ok (.goto (-23), 3) := by decide +kernel
theorem dX4_stepsTo_28 : decode cX4_stepsTo 28 = .ok (.iconst (-1), 1) := by decide +kernel
theorem dX4_stepsTo_29 : decode cX4_stepsTo 29 = .ok (.ireturn, 1) := by decide +kernel
theorem dX4_enteredCells_0 : decode cX4_enteredCells 0 = .ok (.lconst 0, 1) := by decide +kernel
theorem dX4_enteredCells_1 : decode cX4_enteredCells 1 = .ok (.lstore_n 1, 1) := by decide +kernel
theorem dX4_enteredCells_2 : decode cX4_enteredCells 2 = .ok (.iconst 1, 1) := by decide +kernel
theorem dX4_enteredCells_3 : decode cX4_enteredCells 3 = .ok (.istore_n 3, 1) := by decide +kernel
theorem dX4_enteredCells_4 : decode cX4_enteredCells 4 = .ok (.iload_n 3, 1) := by decide +kernel
theorem dX4_enteredCells_5 : decode cX4_enteredCells 5 = .ok (.aload_n 0, 1) := by decide +kernel
theorem dX4_enteredCells_6 : decode cX4_enteredCells 6 = .ok (.getfield 21, 3) := by decide +kernel
theorem dX4_enteredCells_9 : decode cX4_enteredCells 9 = .ok (.if_icmp .gt 20, 3) := by decide +kernel
theorem dX4_enteredCells_12 : decode cX4_enteredCells 12 = .ok (.lload_n 1, 1) := by decide +kernel
theorem dX4_enteredCells_13 : decode cX4_enteredCells 13 = .ok (.lconst 1, 1) := by decide +kernel
theorem dX4_enteredCells_14 : decode cX4_enteredCells 14 = .ok (.aload_n 0, 1) := by decide +kernel
theorem dX4_enteredCells_15 : decode cX4_enteredCells 15 = .ok (.getfield 9, 3) := by decide +kernel
theorem dX4_enteredCells_18 : decode cX4_enteredCells 18 = .ok (.iload_n 3, 1) := by decide +kernel
theorem dX4_enteredCells_19 : decode cX4_enteredCells 19 = .ok (.iaload, 1) := by decide +kernel
theorem dX4_enteredCells_20 : decode cX4_enteredCells 20 = .ok (.lshl, 1) := by decide +kernel
theorem dX4_enteredCells_21 : decode cX4_enteredCells 21 = .ok (.lor, 1) := by decide +kernel
theorem dX4_enteredCells_22 : decode cX4_enteredCells 22 = .ok (.lstore_n 1, 1) := by decide +kernel
theorem dX4_enteredCells_23 : decode cX4_enteredCells 23 = .ok (.iinc 3 1, 3) := by decide +kernel
theorem dX4_enteredCells_26 : decode cX4_enteredCells 26 = .ok (.goto (-22), 3) := by decide +kernel
theorem dX4_enteredCells_29 : decode cX4_enteredCells 29 = .ok (.lload_n 1, 1) := by decide +kernel
theorem dX4_enteredCells_30 : decode cX4_enteredCells 30 = .ok (.lreturn, 1) := by decide +kernel
theorem dX5_init_0 : decode cX5_init 0 = .ok (.aload_n 0, 1) := by decide +kernel
theorem dX5_init_1 : decode cX5_init 1 = .ok (.invokespecial 3, 3) := by decide +kernel
theorem dX5_init_4 : decode cX5_init 4 = .ok (.aload_n 0, 1) := by decide +kernel
theorem dX5_init_5 : decode cX5_init 5 = .ok (.bipush 8, 2) := by decide +kernel
theorem dX5_init_7 : decode cX5_init 7 = .ok (.newarray .int, 2) := by decide +kernel
theorem dX5_init_9 : decode cX5_init 9 = .ok (.putfield 9, 3) := by decide +kernel
theorem dX5_init_12 : decode cX5_init 12 = .ok (.aload_n 0, 1) := by decide +kernel
theorem dX5_init_13 : decode cX5_init 13 = .ok (.bipush 8, 2) := by decide +kernel
theorem dX5_init_15 : decode cX5_init 15 = .ok (.newarray .int, 2) := by decide +kernel
theorem dX5_init_17 : decode cX5_init 17 = .ok (.putfield 15, 3) := by decide +kernel
theorem dX5_init_20 : decode cX5_init 20 = .ok (.aload_n 0, 1) := by decide +kernel
theorem dX5_init_21 : decode cX5_init 21 = .ok (.bipush 33, 2) := by decide +kernel
theorem dX5_init_23 : decode cX5_init 23 = .ok (.newarray .int, 2) := by decide +kernel
theorem dX5_init_25 : decode cX5_init 25 = .ok (.putfield 18, 3) := by decide +kernel
theorem dX5_init_28 : decode cX5_init 28 = .ok (.aload_n 0, 1) := by decide +kernel
theorem dX5_init_29 : decode cX5_init 29 = .ok (.bipush 33, 2) := by decide +kernel
theorem dX5_init_31 : decode cX5_init 31 = .ok (.newarray .int, 2) := by decide +kernel
theorem dX5_init_33 : decode cX5_init 33 = .ok (.putfield 21, 3) := by decide +kernel
theorem dX5_init_36 : decode cX5_init 36 = .ok (.return_, 1) := by decide +kernel
theorem dX5_mostByQueue_0 : decode cX5_mostByQueue 0 = .ok (.aload_n 0, 1) := by decide +kernel
theorem dX5_mostByQueue_1 : decode cX5_mostByQueue 1 = .ok (.aload_n 1, 1) := by decide +kernel
theorem dX5_mostByQueue_2 : decode cX5_mostByQueue 2 = .ok (.invokevirtual 24, 3) := by decide +kernel
theorem dX5_mostByQueue_5 : decode cX5_mostByQueue 5 = .ok (.iconst 0, 1) := by decide +kernel
theorem dX5_mostByQueue_6 : decode cX5_mostByQueue 6 = .ok (.istore_n 2, 1) := by decide +kernel
theorem dX5_mostByQueue_7 : decode cX5_mostByQueue 7 = .ok (.iconst 0, 1) := by decide +kernel
theorem dX5_mostByQueue_8 : decode cX5_mostByQueue 8 = .ok (.istore_n 3, 1) := by decide +kernel
theorem dX5_mostByQueue_9 : decode cX5_mostByQueue 9 = .ok (.iconst 0, 1) := by decide +kernel
theorem dX5_mostByQueue_10 : decode cX5_mostByQueue 10 = .ok (.istore 4, 2) := by decide +kernel
theorem dX5_mostByQueue_12 : decode cX5_mostByQueue 12 = .ok (.iload 4, 2) := by decide +kernel
theorem dX5_mostByQueue_14 : decode cX5_mostByQueue 14 = .ok (.bipush 33, 2) := by decide +kernel
theorem dX5_mostByQueue_16 : decode cX5_mostByQueue 16 = .ok (.if_icmp .ge 76, 3) := by decide +kernel
theorem dX5_mostByQueue_19 : decode cX5_mostByQueue 19 = .ok (.aload_n 1, 1) := by decide +kernel
theorem dX5_mostByQueue_20 : decode cX5_mostByQueue 20 = .ok (.getfield 28, 3) := by decide +kernel
theorem dX5_mostByQueue_23 : decode cX5_mostByQueue 23 = .ok (.iload 4, 2) := by decide +kernel
theorem dX5_mostByQueue_25 : decode cX5_mostByQueue 25 = .ok (.iadd, 1) := by decide +kernel
theorem dX5_mostByQueue_26 : decode cX5_mostByQueue 26 = .ok (.istore 5, 2) := by decide +kernel
theorem dX5_mostByQueue_28 : decode cX5_mostByQueue 28 = .ok (.iload_n 3, 1) := by decide +kernel
theorem dX5_mostByQueue_29 : decode cX5_mostByQueue 29 = .ok (.aload_n 1, 1) := by decide +kernel
theorem dX5_mostByQueue_30 : decode cX5_mostByQueue 30 = .ok (.getfield 34, 3) := by decide +kernel
theorem dX5_mostByQueue_33 : decode cX5_mostByQueue 33 = .ok (.if_icmp .ge 24, 3) := by decide +kernel
theorem dX5_mostByQueue_36 : decode cX5_mostByQueue 36 = .ok (.aload_n 1, 1) := by decide +kernel
theorem dX5_mostByQueue_37 : decode cX5_mostByQueue 37 = .ok (.aload_n 0, 1) := by decide +kernel
theorem dX5_mostByQueue_38 : decode cX5_mostByQueue 38 = .ok (.getfield 9, 3) := by decide +kernel
theorem dX5_mostByQueue_41 : decode cX5_mostByQueue 41 = .ok (.iload_n 3, 1) := by decide +kernel
theorem dX5_mostByQueue_42 : decode cX5_mostByQueue 42 = .ok (.iaload, 1) := by decide +kernel
theorem dX5_mostByQueue_43 : decode cX5_mostByQueue 43 = .ok (.invokevirtual 37, 3) := by decide +kernel
theorem dX5_mostByQueue_46 : decode cX5_mostByQueue 46 = .ok (.iload 5, 2) := by decide +kernel
theorem dX5_mostByQueue_48 : decode cX5_mostByQueue 48 = .ok (.if_icmp .ge 9, 3) := by decide +kernel
theorem dX5_mostByQueue_51 : decode cX5_mostByQueue 51 = .ok (.iinc 3 1, 3) := by decide +kernel
theorem dX5_mostByQueue_54 : decode cX5_mostByQueue 54 = .ok (.goto (-26), 3) := by decide +kernel
theorem dX5_mostByQueue_57 : decode cX5_mostByQueue 57 = .ok (.iload_n 3, 1) := by decide +kernel
theorem dX5_mostByQueue_58 : decode cX5_mostByQueue 58 = .ok (.aload_n 1, 1) := by decide +kernel
theorem dX5_mostByQueue_59 : decode cX5_mostByQueue 59 = .ok (.getfield 34, 3) := by decide +kernel
theorem dX5_mostByQueue_62 : decode cX5_mostByQueue 62 = .ok (.if_icmp .ge 24, 3) := by decide +kernel
theorem dX5_mostByQueue_65 : decode cX5_mostByQueue 65 = .ok (.aload_n 1, 1) := by decide +kernel
theorem dX5_mostByQueue_66 : decode cX5_mostByQueue 66 = .ok (.aload_n 0, 1) := by decide +kernel
theorem dX5_mostByQueue_67 : decode cX5_mostByQueue 67 = .ok (.getfield 9, 3) := by decide +kernel
theorem dX5_mostByQueue_70 : decode cX5_mostByQueue 70 = .ok (.iload_n 3, 1) := by decide +kernel
theorem dX5_mostByQueue_71 : decode cX5_mostByQueue 71 = .ok (.iaload, 1) := by decide +kernel
theorem dX5_mostByQueue_72 : decode cX5_mostByQueue 72 = .ok (.iload 5, 2) := by decide +kernel
theorem dX5_mostByQueue_74 : decode cX5_mostByQueue 74 = .ok (.invokevirtual 41, 3) := by decide +kernel
theorem dX5_mostByQueue_77 : decode cX5_mostByQueue 77 = .ok (.ifCond .eq 9, 3) := by decide +kernel
theorem dX5_mostByQueue_80 : decode cX5_mostByQueue 80 = .ok (.iinc 3 1, 3) := by decide +kernel
theorem dX5_mostByQueue_83 : decode cX5_mostByQueue 83 = .ok (.iinc 2 1, 3) := by decide +kernel
theorem dX5_mostByQueue_86 : decode cX5_mostByQueue 86 = .ok (.iinc 4 1, 3) := by decide +kernel
theorem dX5_mostByQueue_89 : decode cX5_mostByQueue 89 = .ok (.goto (-77), 3) := by decide +kernel
theorem dX5_mostByQueue_92 : decode cX5_mostByQueue 92 = .ok (.iload_n 2, 1) := by decide +kernel
theorem dX5_mostByQueue_93 : decode cX5_mostByQueue 93 = .ok (.ireturn, 1) := by decide +kernel
theorem dX5_queueByFirstHour_0 : decode cX5_queueByFirstHour 0 = .ok (.iconst 0, 1) := by decide +kernel
theorem dX5_queueByFirstHour_1 : decode cX5_queueByFirstHour 1 = .ok (.istore_n 2, 1) := by decide +kernel
theorem dX5_queueByFirstHour_2 : decode cX5_queueByFirstHour 2 = .ok (.iload_n 2, 1) := by decide +kernel
theorem dX5_queueByFirstHour_3 : decode cX5_queueByFirstHour 3 = .ok (.aload_n 1, 1) := by decide +kernel
theorem dX5_queueByFirstHour_4 : decode cX5_queueByFirstHour 4 = .ok (.getfield 34, 3) := by decide +kernel
theorem dX5_queueByFirstHour_7 : decode cX5_queueByFirstHour 7 = .ok (.if_icmp .ge 64, 3) := by decide +kernel
theorem dX5_queueByFirstHour_10 : decode cX5_queueByFirstHour 10 = .ok (.iload_n 2, 1) := by decide +kernel
theorem dX5_queueByFirstHour_11 : decode cX5_queueByFirstHour 11 = .ok (.istore_n 3, 1) := by decide +kernel
theorem dX5_queueByFirstHour_12 : decode cX5_queueByFirstHour 12 = .ok (.iload_n 3, 1) := by decide +kernel
theorem dX5_queueByFirstHour_13 : decode cX5_queueByFirstHour 13 = .ok (.ifCond .le 45, 3) := by decide +kernel
theorem dX5_queueByFirstHour_16 : decode cX5_queueByFirstHour 16 = .ok (.aload_n 1, 1) := by decide +kernel
theorem dX5_queueByFirstHour_17 : decode cX5_queueByFirstHour 17 = .ok (.getfield 45, 3) := by decide +kernel
theorem dX5_queueByFirstHour_20 : decode cX5_queueByFirstHour 20 = .ok (.aload_n 0, 1) := by decide +kernel
theorem dX5_queueByFirstHour_21 : decode cX5_queueByFirstHour 21 = .ok (.getfield 9, 3) := by decide +kernel
theorem dX5_queueByFirstHour_24 : decode cX5_queueByFirstHour 24 = .ok (.iload_n 3, 1) := by decide +kernel
theorem dX5_queueByFirstHour_25 : decode cX5_queueByFirstHour 25 = .ok (.iconst 1, 1) := by decide +kernel
theorem dX5_queueByFirstHour_26 : decode cX5_queueByFirstHour 26 = .ok (.isub, 1) := by decide +kernel
theorem dX5_queueByFirstHour_27 : decode cX5_queueByFirstHour 27 = .ok (.iaload, 1) := by decide +kernel
theorem dX5_queueByFirstHour_28 : decode cX5_queueByFirstHour 28 = .ok (.iaload, 1) := by decide +kernel
theorem dX5_queueByFirstHour_29 : decode cX5_queueByFirstHour 29 = .ok (.aload_n 1, 1) := by decide +kernel
theorem dX5_queueByFirstHour_30 : decode cX5_queueByFirstHour 30 = .ok (.getfield 45, 3) := by decide +kernel
theorem dX5_queueByFirstHour_33 : decode cX5_queueByFirstHour 33 = .ok (.iload_n 2, 1) := by decide +kernel
theorem dX5_queueByFirstHour_34 : decode cX5_queueByFirstHour 34 = .ok (.iaload, 1) := by decide +kernel
theorem dX5_queueByFirstHour_35 : decode cX5_queueByFirstHour 35 = .ok (.if_icmp .le 23, 3) := by decide +kernel
theorem dX5_queueByFirstHour_38 : decode cX5_queueByFirstHour 38 = .ok (.aload_n 0, 1) := by decide +kernel
theorem dX5_queueByFirstHour_39 : decode cX5_queueByFirstHour 39 = .ok (.getfield 9, 3) := by decide +kernel
theorem dX5_queueByFirstHour_42 : decode cX5_queueByFirstHour 42 = .ok (.iload_n 3, 1) := by decide +kernel
theorem dX5_queueByFirstHour_43 : decode cX5_queueByFirstHour 43 = .ok (.aload_n 0, 1) := by decide +kernel
theorem dX5_queueByFirstHour_44 : decode cX5_queueByFirstHour 44 = .ok (.getfield 9, 3) := by decide +kernel
theorem dX5_queueByFirstHour_47 : decode cX5_queueByFirstHour 47 = .ok (.iload_n 3, 1) := by decide +kernel
theorem dX5_queueByFirstHour_48 : decode cX5_queueByFirstHour 48 = .ok (.iconst 1, 1) := by decide +kernel
theorem dX5_queueByFirstHour_49 : decode cX5_queueByFirstHour 49 = .ok (.isub, 1) := by decide +kernel
theorem dX5_queueByFirstHour_50 : decode cX5_queueByFirstHour 50 = .ok (.iaload, 1) := by decide +kernel
theorem dX5_queueByFirstHour_51 : decode cX5_queueByFirstHour 51 = .ok (.iastore, 1) := by decide +kernel
theorem dX5_queueByFirstHour_52 : decode cX5_queueByFirstHour 52 = .ok (.iinc 3 (-1), 3) := by decide +kernel
theorem dX5_queueByFirstHour_55 : decode cX5_queueByFirstHour 55 = .ok (.goto (-43), 3) := by decide +kernel
theorem dX5_queueByFirstHour_58 : decode cX5_queueByFirstHour 58 = .ok (.aload_n 0, 1) := by decide +kernel
theorem dX5_queueByFirstHour_59 : decode cX5_queueByFirstHour 59 = .ok (.getfield 9, 3) := by decide +kernel
theorem dX5_queueByFirstHour_62 : decode cX5_queueByFirstHour 62 = .ok (.iload_n 3, 1) := by decide +kernel
theorem dX5_queueByFirstHour_63 : decode cX5_queueByFirstHour 63 = .ok (.iload_n 2, 1) := by decide +kernel
theorem dX5_queueByFirstHour_64 : decode cX5_queueByFirstHour 64 = .ok (.iastore, 1) := by decide +kernel
theorem dX5_queueByFirstHour_65 : decode cX5_queueByFirstHour 65 = .ok (.iinc 2 1, 3) := by decide +kernel
theorem dX5_queueByFirstHour_68 : decode cX5_queueByFirstHour 68 = .ok (.goto (-66), 3) := by decide +kernel
theorem dX5_queueByFirstHour_71 : decode cX5_queueByFirstHour 71 = .ok (.return_, 1) := by decide +kernel
theorem dX5_mostByChains_0 : decode cX5_mostByChains 0 = .ok (.aload_n 0, 1) := by decide +kernel
theorem dX5_mostByChains_1 : decode cX5_mostByChains 1 = .ok (.getfield 15, 3) := by decide +kernel
theorem dX5_mostByChains_4 : decode cX5_mostByChains 4 = .ok (.iconst (-1), 1) := by decide +kernel
theorem dX5_mostByChains_5 : decode cX5_mostByChains 5 = .ok (.invokestatic 48, 3) := by decide +kernel
theorem dX5_mostByChains_8 : decode cX5_mostByChains 8 = .ok (.aload_n 0, 1) := by decide +kernel
theorem dX5_mostByChains_9 : decode cX5_mostByChains 9 = .ok (.getfield 18, 3) := by decide +kernel
theorem dX5_mostByChains_12 : decode cX5_mostByChains 12 = .ok (.iconst (-1), 1) := by decide +kernel
theorem dX5_mostByChains_13 : decode cX5_mostByChains 13 = .ok (.invokestatic 48, 3) := by decide +kernel
theorem dX5_mostByChains_16 : decode cX5_mostByChains 16 = .ok (.iconst 0, 1) := by decide +kernel
theorem dX5_mostByChains_17 : decode cX5_mostByChains 17 = .ok (.istore_n 2, 1) := by decide +kernel
theorem dX5_mostByChains_18 : decode cX5_mostByChains 18 = .ok (.iconst 0, 1) := by decide +kernel
theorem dX5_mostByChains_19 : decode cX5_mostByChains 19 = .ok (.istore_n 3, 1) := by decide +kernel
theorem dX5_mostByChains_20 : decode cX5_mostByChains 20 = .ok (.iload_n 3, 1) := by decide +kernel
theorem dX5_mostByChains_21 : decode cX5_mostByChains 21 = .ok (.aload_n 1, 1) := by decide +kernel
theorem dX5_mostByChains_22 : decode cX5_mostByChains 22 = .ok (.getfield 34, 3) := by decide +kernel
theorem dX5_mostByChains_25 : decode cX5_mostByChains 25 = .ok (.if_icmp .ge 21, 3) := by decide +kernel
theorem dX5_mostByChains_28 : decode cX5_mostByChains 28 = .ok (.aload_n 0, 1) := by decide +kernel
theorem dX5_mostByChains_29 : decode cX5_mostByChains 29 = .ok (.aload_n 1, 1) := by decide +kernel
theorem dX5_mostByChains_30 : decode cX5_mostByChains 30 = .ok (.iload_n 3, 1) := by decide +kernel
theorem dX5_mostByChains_31 : decode cX5_mostByChains 31 = .ok (.invokevirtual 54, 3) := by decide +kernel
theorem dX5_mostByChains_34 : decode cX5_mostByChains 34 = .ok (.ifCond .eq 6, 3) := by decide +kernel
theorem dX5_mostByChains_37 : decode cX5_mostByChains 37 = .ok (.iinc 2 1, 3) := by decide +kernel
theorem dX5_mostByChains_40 : decode cX5_mostByChains 40 = .ok (.iinc 3 1, 3) := by decide +kernel
theorem dX5_mostByChains_43 : decode cX5_mostByChains 43 = .ok (.goto (-23), 3) := by decide +kernel
theorem dX5_mostByChains_46 : decode cX5_mostByChains 46 = .ok (.iload_n 2, 1) := by decide +kernel
theorem dX5_mostByChains_47 : decode cX5_mostByChains 47 = .ok (.ireturn, 1) := by decide +kernel
theorem dX5_findHour_0 : decode cX5_findHour 0 = .ok (.aload_n 0, 1) := by decide +kernel
theorem dX5_findHour_1 : decode cX5_findHour 1 = .ok (.getfield 21, 3) := by decide +kernel
theorem dX5_findHour_4 : decode cX5_findHour 4 = .ok (.iconst (-1), 1) := by decide +kernel
theorem dX5_findHour_5 : decode cX5_findHour 5 = .ok (.invokestatic 48, 3) := by decide +kernel
theorem dX5_findHour_8 : decode cX5_findHour 8 = .ok (.aload_n 0, 1) := by decide +kernel
theorem dX5_findHour_9 : decode cX5_findHour 9 = .ok (.getfield 9, 3) := by decide +kernel
theorem dX5_findHour_12 : decode cX5_findHour 12 = .ok (.iconst 0, 1) := by decide +kernel
theorem dX5_findHour_13 : decode cX5_findHour 13 = .ok (.iload_n 2, 1) := by decide +kernel
theorem dX5_findHour_14 : decode cX5_findHour 14 = .ok (.iastore, 1) := by decide +kernel
theorem dX5_findHour_15 : decode cX5_findHour 15 = .ok (.iconst 1, 1) := by decide +kernel
theorem dX5_findHour_16 : decode cX5_findHour 16 = .ok (.istore_n 3, 1) := by decide +kernel
theorem dX5_findHour_17 : decode cX5_findHour 17 = .ok (.iconst 0, 1) := by decide +kernel
theorem dX5_findHour_18 : decode cX5_findHour 18 = .ok (.istore 4, 2) := by decide +kernel
theorem dX5_findHour_20 : decode cX5_findHour 20 = .ok (.iload 4, 2) := by decide +kernel
theorem dX5_findHour_22 : decode cX5_findHour 22 = .ok (.iload_n 3, 1) := by decide +kernel
theorem dX5_findHour_23 : decode cX5_findHour 23 = .ok (.if_icmp .ge 122, 3) := by decide +kernel
theorem dX5_findHour_26 : decode cX5_findHour 26 = .ok (.iload 4, 2) := by decide +kernel
theorem dX5_findHour_28 : decode cX5_findHour 28 = .ok (.bipush 8, 2) := by decide +kernel
theorem dX5_findHour_30 : decode cX5_findHour 30 = .ok (.if_icmp .ge 115, 3) := by decide +kernel
theorem dX5_findHour_33 : decode cX5_findHour 33 = .ok (.iconst 0, 1) := by decide +kernel
theorem dX5_findHour_34 : decode cX5_findHour 34 = .ok (.istore 5, 2) := by decide +kernel
theorem dX5_findHour_36 : decode cX5_findHour 36 = .ok (.iload 5, 2) := by decide +kernel
theorem dX5_findHour_38 : decode cX5_findHour 38 = .ok (.bipush 33, 2) := by decide +kernel
theorem dX5_findHour_40 : decode cX5_findHour 40 = .ok (.if_icmp .ge 99, 3) := by decide +kernel
theorem dX5_findHour_43 : decode cX5_findHour 43 = .ok (.aload_n 0, 1) := by decide +kernel
theorem dX5_findHour_44 : decode cX5_findHour 44 = .ok (.getfield 21, 3) := by decide +kernel
theorem dX5_findHour_47 : decode cX5_findHour 47 = .ok (.iload 5, 2) := by decide +kernel
theorem dX5_findHour_49 : decode cX5_findHour 49 = .ok (.iaload, 1) := by decide +kernel
theorem dX5_findHour_50 : decode cX5_findHour 50 = .ok (.iconst (-1), 1) := by decide +kernel
theorem dX5_findHour_51 : decode cX5_findHour 51 = .ok (.if_icmp .ne 82, 3) := by decide +kernel
theorem dX5_findHour_54 : decode cX5_findHour 54 = .ok (.aload_n 1, 1) := by decide +kernel
theorem dX5_findHour_55 : decode cX5_findHour 55 = .ok (.aload_n 0, 1) := by decide +kernel
theorem dX5_findHour_56 : decode cX5_findHour 56 = .ok (.getfield 9, 3) := by decide +kernel
theorem dX5_findHour_59 : decode cX5_findHour 59 = .ok (.iload 4, 2) := by decide +kernel
theorem dX5_findHour_61 : decode cX5_findHour 61 = .ok (.iaload, 1) := by decide +kernel
theorem dX5_findHour_62 : decode cX5_findHour 62 = .ok (.aload_n 1, 1) := by decide +kernel
theorem dX5_findHour_63 : decode cX5_findHour 63 = .ok (.getfield 28, 3) := by decide +kernel
theorem dX5_findHour_66 : decode cX5_findHour 66 = .ok (.iload 5, 2) := by decide +kernel
theorem dX5_findHour_68 : decode cX5_findHour 68 = .ok (.iadd, 1) := by decide +kernel
theorem dX5_findHour_69 : decode cX5_findHour 69 = .ok (.invokevirtual 41, 3) := by decide +kernel
theorem dX5_findHour_72 : decode cX5_findHour 72 = .ok (.ifCond .ne 6, 3) := by decide +kernel
theorem dX5_findHour_75 : decode cX5_findHour 75 = .ok (.goto 58, 3) := by decide +kernel
theorem dX5_findHour_78 : decode cX5_findHour 78 = .ok (.aload_n 0, 1) := by decide +kernel
theorem dX5_findHour_79 : decode cX5_findHour 79 = .ok (.getfield 21, 3) := by decide +kernel
theorem dX5_findHour_82 : decode cX5_findHour 82 = .ok (.iload 5, 2) := by decide +kernel
theorem dX5_findHour_84 : decode cX5_findHour 84 = .ok (.aload_n 0, 1) := by decide +kernel
theorem dX5_findHour_85 : decode cX5_findHour 85 = .ok (.getfield 9, 3) := by decide +kernel
theorem dX5_findHour_88 : decode cX5_findHour 88 = .ok (.iload 4, 2) := by decide +kernel
theorem dX5_findHour_90 : decode cX5_findHour 90 = .ok (.iaload, 1) := by decide +kernel
theorem dX5_findHour_91 : decode cX5_findHour 91 = .ok (.iastore, 1) := by decide +kernel
theorem dX5_findHour_92 : decode cX5_findHour 92 = .ok (.aload_n 0, 1) := by decide +kernel
theorem dX5_findHour_93 : decode cX5_findHour 93 = .ok (.getfield 18, 3) := by decide +kernel
theorem dX5_findHour_96 : decode cX5_findHour 96 = .ok (.iload 5, 2) := by decide +kernel
theorem dX5_findHour_98 : decode cX5_findHour 98 = .ok (.iaload, 1) := by decide +kernel
theorem dX5_findHour_99 : decode cX5_findHour 99 = .ok (.iconst (-1), 1) := by decide +kernel
theorem dX5_findHour_100 : decode cX5_findHour 100 = .ok (.if_icmp .ne 11, 3) := by decide +kernel
theorem dX5_findHour_103 : decode cX5_findHour 103 = .ok (.aload_n 0, 1) := by decide +kernel
theorem dX5_findHour_104 : decode cX5_findHour 104 = .ok (.iload 5, 2) := by decide +kernel
theorem dX5_findHour_106 : decode cX5_findHour 106 = .ok (.invokevirtual 58, 3) := by decide +kernel
theorem dX5_findHour_109 : decode cX5_findHour 109 = .ok (.iconst 1, 1) := by decide +kernel
theorem dX5_findHour_110 : decode cX5_findHour 110 = .ok (.ireturn, 1) := by decide +kernel
theorem dX5_findHour_111 : decode cX5_findHour 111 = .ok (.iload_n 3, 1) := by decide +kernel
theorem dX5_findHour_112 : decode cX5_findHour 112 = .ok (.bipush 8, 2) := by decide +kernel
theorem dX5_findHour_114 : decode cX5_findHour 114 = .ok (.if_icmp .ge 19, 3) := by decide +kernel
theorem dX5_findHour_117 : decode cX5_findHour 117 = .ok (.aload_n 0, 1) := by decide +kernel
theorem dX5_findHour_118 : decode cX5_findHour 118 = .ok (.getfield 9, 3) := by decide +kernel
theorem dX5_findHour_121 : decode cX5_findHour 121 = .ok (.iload_n 3, 1) := by decide +kernel
theorem dX5_findHour_122 : decode cX5_findHour 122 = .ok (.aload_n 0, 1) := by decide +kernel
theorem dX5_findHour_123 : decode cX5_findHour 123 = .ok (.getfield 18, 3) := by decide +kernel
theorem dX5_findHour_126 : decode cX5_findHour 126 = .ok (.iload 5, 2) := by decide +kernel
theorem dX5_findHour_128 : decode cX5_findHour 128 = .ok (.iaload, 1) := by decide +kernel
theorem dX5_findHour_129 : decode cX5_findHour 129 = .ok (.iastore, 1) := by decide +kernel
theorem dX5_findHour_130 : decode cX5_findHour 130 = .ok (.iinc 3 1, 3) := by decide +kernel
theorem dX5_findHour_133 : decode cX5_findHour 133 = .ok (.iinc 5 1, 3) := by decide +kernel
theorem dX5_findHour_136 : decode cX5_findHour 136 = .ok (.goto (-100), 3) := by decide +kernel
theorem dX5_findHour_139 : decode cX5_findHour 139 = .ok (.iinc 4 1, 3) := by decide +kernel
theorem dX5_findHour_142 : decode cX5_findHour 142 = .ok (.goto (-122), 3) := by decide +kernel
theorem dX5_findHour_145 : decode cX5_findHour 145 = .ok (.iconst 0, 1) := by decide +kernel
theorem dX5_findHour_146 : decode cX5_findHour 146 = .ok (.ireturn, 1) := by decide +kernel
theorem dX5_giveHoursAlongChain_0 : decode cX5_giveHoursAlongChain 0 = .ok (.iload_n 1, 1) := by decide +kernel
theorem dX5_giveHoursAlongChain_1 : decode cX5_giveHoursAlongChain 1 = .ok (.istore_n 2, 1) := by decide +kernel
theorem dX5_giveHoursAlongChain_2 : decode cX5_giveHoursAlongChain 2 = .ok (.iconst 0, 1) := by decide +kernel
theorem dX5_giveHoursAlongChain_3 : decode cX5_giveHoursAlongChain 3 = .ok (.istore_n 3, 1) := by decide +kernel
theorem dX5_giveHoursAlongChain_4 : decode cX5_giveHoursAlongChain 4 = .ok (.iload_n 3, 1) := by decide +kernel
theorem dX5_giveHoursAlongChain_5 : decode cX5_giveHoursAlongChain 5 = .ok (.bipush 8, 2) := by decide +kernel
theorem dX5_giveHoursAlongChain_7 : decode cX5_giveHoursAlongChain 7 = .ok (.if_icmp .ge 57, 3) := by decide +kernel
theorem dX5_giveHoursAlongChain_10 : decode cX5_giveHoursAlongChain 10 = .ok (.iload_n 2, 1) := by decide +kernel
theorem dX5_giveHoursAlongChain_11 : decode cX5_giveHoursAlongChain 11 = .ok (.iconst (-1), 1) := by decide +kernel
theorem dX5_giveHoursAlongChain_12 : decode cX5_giveHoursAlongChain 12 = .ok (.if_icmp .eq 52, 3) := by decide +kernel
theorem dX5_giveHoursAlongChain_15 : decode cX5_giveHoursAlongChain 15 = .ok (.aload_n 0, 1) := by decide +kernel
theorem dX5_giveHoursAlongChain_16 : decode cX5_giveHoursAlongChain 16 = .ok (.getfield 21, 3) := by decide +kernel
theorem dX5_giveHoursAlongChain_19 : decode cX5_giveHoursAlongChain 19 = .ok (.iload_n 2, 1) := by decide +kernel
theorem dX5_giveHoursAlongChain_20 : decode cX5_giveHoursAlongChain 20 = .ok (.iaload, 1) := by decide +kernel
theorem dX5_giveHoursAlongChain_21 : decode cX5_giveHoursAlongChain 21 = .ok (.istore 4, 2) := by decide +kernel
theorem dX5_giveHoursAlongChain_23 : decode cX5_giveHoursAlongChain 23 = .ok (.iload 4, 2) := by decide +kernel
theorem dX5_giveHoursAlongChain_25 : decode cX5_giveHoursAlongChain 25 = .ok (.iconst (-1), 1) := by decide +kernel
theorem dX5_giveHoursAlongChain_26 : decode cX5_giveHoursAlongChain 26 = .ok (.if_icmp .ne 4, 3) := by decide +kernel
theorem dX5_giveHoursAlongChain_29 : decode cX5_giveHoursAlongChain 29 = .ok (.return_, 1) := by decide +kernel
theorem dX5_giveHoursAlongChain_30 : decode cX5_giveHoursAlongChain 30 = .ok (.aload_n 0, 1) := by decide +kernel
theorem dX5_giveHoursAlongChain_31 : decode cX5_giveHoursAlongChain 31 = .ok (.getfield 15, 3) := by decide +kernel
theorem dX5_giveHoursAlongChain_34 : decode cX5_giveHoursAlongChain 34 = .ok (.iload 4, 2) := by decide +kernel
theorem dX5_giveHoursAlongChain_36 : decode cX5_giveHoursAlongChain 36 = .ok (.iaload, 1) := by decide +kernel
theorem dX5_giveHoursAlongChain_37 : decode cX5_giveHoursAlongChain 37 = .ok (.istore 5, 2) := by decide +kernel
theorem dX5_giveHoursAlongChain_39 : decode cX5_giveHoursAlongChain 39 = .ok (.aload_n 0, 1) := by decide +kernel
theorem dX5_giveHoursAlongChain_40 : decode cX5_giveHoursAlongChain 40 = .ok (.getfield 18, 3) := by decide +kernel
theorem dX5_giveHoursAlongChain_43 : decode cX5_giveHoursAlongChain 43 = .ok (.iload_n 2, 1) := by decide +kernel
theorem dX5_giveHoursAlongChain_44 : decode cX5_giveHoursAlongChain 44 = .ok (.iload 4, 2) := by decide +kernel
theorem dX5_giveHoursAlongChain_46 : decode cX5_giveHoursAlongChain 46 = .ok (.iastore, 1) := by decide +kernel
theorem dX5_giveHoursAlongChain_47 : decode cX5_giveHoursAlongChain 47 = .ok (.aload_n 0, 1) := by decide +kernel
theorem dX5_giveHoursAlongChain_48 : decode cX5_giveHoursAlongChain 48 = .ok (.getfield 15, 3) := by decide +kernel
theorem dX5_giveHoursAlongChain_51 : decode cX5_giveHoursAlongChain 51 = .ok (.iload 4, 2) := by decide +kernel
theorem dX5_giveHoursAlongChain_53 : decode cX5_giveHoursAlongChain 53 = .ok (.iload_n 2, 1) := by decide +kernel
theorem dX5_giveHoursAlongChain_54 : decode cX5_giveHoursAlongChain 54 = .ok (.iastore, 1) := by decide +kernel
theorem dX5_giveHoursAlongChain_55 : decode cX5_giveHoursAlongChain 55 = .ok (.iload 5, 2) := by decide +kernel
theorem dX5_giveHoursAlongChain_57 : decode cX5_giveHoursAlongChain 57 = .ok (.istore_n 2, 1) := by decide +kernel
theorem dX5_giveHoursAlongChain_58 : decode cX5_giveHoursAlongChain 58 = .ok (.iinc 3 1, 3) := by decide +kernel
theorem dX5_giveHoursAlongChain_61 : decode cX5_giveHoursAlongChain 61 = .ok (.goto (-57), 3) := by decide +kernel
theorem dX5_giveHoursAlongChain_64 : decode cX5_giveHoursAlongChain 64 = .ok (.return_, 1) := by decide +kernel
theorem dX6_init_0 : decode cX6_init 0 = .ok (.aload_n 0, 1) := by decide +kernel
theorem dX6_init_1 : decode cX6_init 1 = .ok (.invokespecial 3, 3) := by decide +kernel
theorem dX6_init_4 : decode cX6_init 4 = .ok (.aload_n 0, 1) := by decide +kernel
theorem dX6_init_5 : decode cX6_init 5 = .ok (.bipush 8, 2) := by decide +kernel
theorem dX6_init_7 : decode cX6_init 7 = .ok (.anewarray 9, 3) := by decide +kernel
theorem dX6_init_10 : decode cX6_init 10 = .ok (.putfield 11, 3) := by decide +kernel
theorem dX6_init_13 : decode cX6_init 13 = .ok (.iconst 0, 1) := by decide +kernel
theorem dX6_init_14 : decode cX6_init 14 = .ok (.istore_n 1, 1) := by decide +kernel
theorem dX6_init_15 : decode cX6_init 15 = .ok (.iload_n 1, 1) := by decide +kernel
theorem dX6_init_16 : decode cX6_init 16 = .ok (.bipush 8, 2) := by decide +kernel
theorem dX6_init_18 : decode cX6_init 18 = .ok (.if_icmp .ge 22, 3) := by decide +kernel
theorem dX6_init_21 : decode cX6_init 21 = .ok (.aload_n 0, 1) := by decide +kernel
theorem dX6_init_22 : decode cX6_init 22 = .ok (.getfield 11, 3) := by decide +kernel
theorem dX6_init_25 : decode cX6_init 25 = .ok (.iload_n 1, 1) := by decide +kernel
theorem dX6_init_26 : decode cX6_init 26 = .ok (.new 9, 3) := by decide +kernel
theorem dX6_init_29 : decode cX6_init 29 = .ok (.dup, 1) := by decide +kernel
theorem dX6_init_30 : decode cX6_init 30 = .ok (.invokespecial 17, 3) := by decide +kernel
theorem dX6_init_33 : decode cX6_init 33 = .ok (.aastore, 1) := by decide +kernel
theorem dX6_init_34 : decode cX6_init 34 = .ok (.iinc 1 1, 3) := by decide +kernel
theorem dX6_init_37 : decode cX6_init 37 = .ok (.goto (-22), 3) := by decide +kernel
theorem dX6_init_40 : decode cX6_init 40 = .ok (.return_, 1) := by decide +kernel
theorem dX6_remember_0 : decode cX6_remember 0 = .ok (.aload_n 0, 1) := by decide +kernel
theorem dX6_remember_1 : decode cX6_remember 1 = .ok (.getfield 11, 3) := by decide +kernel
theorem dX6_remember_4 : decode cX6_remember 4 = .ok (.aload_n 0, 1) := by decide +kernel
theorem dX6_remember_5 : decode cX6_remember 5 = .ok (.getfield 18, 3) := by decide +kernel
theorem dX6_remember_8 : decode cX6_remember 8 = .ok (.aaload, 1) := by decide +kernel
theorem dX6_remember_9 : decode cX6_remember 9 = .ok (.aload_n 1, 1) := by decide +kernel
theorem dX6_remember_10 : decode cX6_remember 10 = .ok (.invokevirtual 22, 3) := by decide +kernel
theorem dX6_remember_13 : decode cX6_remember 13 = .ok (.aload_n 0, 1) := by decide +kernel
theorem dX6_remember_14 : decode cX6_remember 14 = .ok (.aload_n 0, 1) := by decide +kernel
theorem dX6_remember_15 : decode cX6_remember 15 = .ok (.getfield 18, 3) := by decide +kernel
theorem dX6_remember_18 : decode cX6_remember 18 = .ok (.iconst 1, 1) := by decide +kernel
theorem dX6_remember_19 : decode cX6_remember 19 = .ok (.iadd, 1) := by decide +kernel
theorem dX6_remember_20 : decode cX6_remember 20 = .ok (.bipush 8, 2) := by decide +kernel
theorem dX6_remember_22 : decode cX6_remember 22 = .ok (.irem, 1) := by decide +kernel
theorem dX6_remember_23 : decode cX6_remember 23 = .ok (.putfield 18, 3) := by decide +kernel
theorem dX6_remember_26 : decode cX6_remember 26 = .ok (.aload_n 0, 1) := by decide +kernel
theorem dX6_remember_27 : decode cX6_remember 27 = .ok (.aload_n 0, 1) := by decide +kernel
theorem dX6_remember_28 : decode cX6_remember 28 = .ok (.getfield 26, 3) := by decide +kernel
theorem dX6_remember_31 : decode cX6_remember 31 = .ok (.iconst 1, 1) := by decide +kernel
theorem dX6_remember_32 : decode cX6_remember 32 = .ok (.iadd, 1) := by decide +kernel
theorem dX6_remember_33 : decode cX6_remember 33 = .ok (.bipush 8, 2) := by decide +kernel
theorem dX6_remember_35 : decode cX6_remember 35 = .ok (.invokestatic 29, 3) := by decide +kernel
theorem dX6_remember_38 : decode cX6_remember 38 = .ok (.putfield 26, 3) := by decide +kernel
theorem dX6_remember_41 : decode cX6_remember 41 = .ok (.return_, 1) := by decide +kernel
theorem dX6_takeBack_0 : decode cX6_takeBack 0 = .ok (.aload_n 0, 1) := by decide +kernel
theorem dX6_takeBack_1 : decode cX6_takeBack 1 = .ok (.aload_n 0, 1) := by decide +kernel
theorem dX6_takeBack_2 : decode cX6_takeBack 2 = .ok (.getfield 18, 3) := by decide +kernel
theorem dX6_takeBack_5 : decode cX6_takeBack 5 = .ok (.bipush 8, 2) := by decide +kernel
theorem dX6_takeBack_7 : decode cX6_takeBack 7 = .ok (.iadd, 1) := by decide +kernel
theorem dX6_takeBack_8 : decode cX6_takeBack 8 = .ok (.iconst 1, 1) := by decide +kernel
theorem dX6_takeBack_9 : decode cX6_takeBack 9 = .ok (.isub, 1) := by decide +kernel
theorem dX6_takeBack_10 : decode cX6_takeBack 10 = .ok (.bipush 8, 2) := by decide +kernel
theorem dX6_takeBack_12 : decode cX6_takeBack 12 = .ok (.irem, 1) := by decide +kernel
theorem dX6_takeBack_13 : decode cX6_takeBack 13 = .ok (.putfield 18, 3) := by decide +kernel
theorem dX6_takeBack_16 : decode cX6_takeBack 16 = .ok (.aload_n 1, 1) := by decide +kernel
theorem dX6_takeBack_17 : decode cX6_takeBack 17 = .ok (.aload_n 0, 1) := by decide +kernel
theorem dX6_takeBack_18 : decode cX6_takeBack 18 = .ok (.getfield 11, 3) := by decide +kernel
theorem dX6_takeBack_21 : decode cX6_takeBack 21 = .ok (.aload_n 0, 1) := by decide +kernel
theorem dX6_takeBack_22 : decode cX6_takeBack 22 = .ok (.getfield 18, 3) := by decide +kernel
theorem dX6_takeBack_25 : decode cX6_takeBack 25 = .ok (.aaload, 1) := by decide +kernel
theorem dX6_takeBack_26 : decode cX6_takeBack 26 = .ok (.invokevirtual 22, 3) := by decide +kernel
theorem dX6_takeBack_29 : decode cX6_takeBack 29 = .ok (.aload_n 0, 1) := by decide +kernel
theorem dX6_takeBack_30 : decode cX6_takeBack 30 = .ok (.dup, 1) := by decide +kernel
theorem dX6_takeBack_31 : decode cX6_takeBack 31 = .ok (.getfield 26, 3) := by decide +kernel
theorem dX6_takeBack_34 : decode cX6_takeBack 34 = .ok (.iconst 1, 1) := by decide +kernel
theorem dX6_takeBack_35 : decode cX6_takeBack 35 = .ok (.isub, 1) := by decide +kernel
theorem dX6_takeBack_36 : decode cX6_takeBack 36 = .ok (.putfield 26, 3) := by decide +kernel
theorem dX6_takeBack_39 : decode cX6_takeBack 39 = .ok (.return_, 1) := by decide +kernel
theorem dX7_init_0 : decode cX7_init 0 = .ok (.aload_n 0, 1) := by decide +kernel
theorem dX7_init_1 : decode cX7_init 1 = .ok (.invokespecial 3, 3) := by decide +kernel
theorem dX7_init_4 : decode cX7_init 4 = .ok (.aload_n 0, 1) := by decide +kernel
theorem dX7_init_5 : decode cX7_init 5 = .ok (.bipush 10, 2) := by decide +kernel
theorem dX7_init_7 : decode cX7_init 7 = .ok (.putfield 9, 3) := by decide +kernel
theorem dX7_init_10 : decode cX7_init 10 = .ok (.aload_n 0, 1) := by decide +kernel
theorem dX7_init_11 : decode cX7_init 11 = .ok (.bipush 50, 2) := by decide +kernel
theorem dX7_init_13 : decode cX7_init 13 = .ok (.putfield 15, 3) := by decide +kernel
theorem dX7_init_16 : decode cX7_init 16 = .ok (.aload_n 0, 1) := by decide +kernel
theorem dX7_init_17 : decode cX7_init 17 = .ok (.bipush 8, 2) := by decide +kernel
theorem dX7_init_19 : decode cX7_init 19 = .ok (.newarray .int, 2) := by decide +kernel
theorem dX7_init_21 : decode cX7_init 21 = .ok (.putfield 18, 3) := by decide +kernel
theorem dX7_init_24 : decode cX7_init 24 = .ok (.return_, 1) := by decide +kernel
theorem dX7_copyFrom_0 : decode cX7_copyFrom 0 = .ok (.aload_n 0, 1) := by decide +kernel
theorem dX7_copyFrom_1 : decode cX7_copyFrom 1 = .ok (.aload_n 1, 1) := by decide +kernel
theorem dX7_copyFrom_2 : decode cX7_copyFrom 2 = .ok (.getfield 9, 3) := by decide +kernel
theorem dX7_copyFrom_5 : decode cX7_copyFrom 5 = .ok (.putfield 9, 3) := by decide +kernel
theorem dX7_copyFrom_8 : decode cX7_copyFrom 8 = .ok (.aload_n 0, 1) := by decide +kernel
theorem dX7_copyFrom_9 : decode cX7_copyFrom 9 = .ok (.aload_n 1, 1) := by decide +kernel
theorem dX7_copyFrom_10 : decode cX7_copyFrom 10 = .ok (.getfield 15, 3) := by decide +kernel
theorem dX7_copyFrom_13 : decode cX7_copyFrom 13 = .ok (.putfield 15, 3) := by decide +kernel
theorem dX7_copyFrom_16 : decode cX7_copyFrom 16 = .ok (.aload_n 0, 1) := by decide +kernel
theorem dX7_copyFrom_17 : decode cX7_copyFrom 17 = .ok (.aload_n 1, 1) := by decide +kernel
theorem dX7_copyFrom_18 : decode cX7_copyFrom 18 = .ok (.getfield 22, 3) := by decide +kernel
theorem dX7_copyFrom_21 : decode cX7_copyFrom 21 = .ok (.putfield 22, 3) := by decide +kernel
theorem dX7_copyFrom_24 : decode cX7_copyFrom 24 = .ok (.aload_n 0, 1) := by decide +kernel
theorem dX7_copyFrom_25 : decode cX7_copyFrom 25 = .ok (.aload_n 1, 1) := by decide +kernel
theorem dX7_copyFrom_26 : decode cX7_copyFrom 26 = .ok (.getfield 25, 3) := by decide +kernel
theorem dX7_copyFrom_29 : decode cX7_copyFrom 29 = .ok (.putfield 25, 3) := by decide +kernel
theorem dX7_copyFrom_32 : decode cX7_copyFrom 32 = .ok (.aload_n 0, 1) := by decide +kernel
theorem dX7_copyFrom_33 : decode cX7_copyFrom 33 = .ok (.aload_n 1, 1) := by decide +kernel
theorem dX7_copyFrom_34 : decode cX7_copyFrom 34 = .ok (.getfield 28, 3) := by decide +kernel
theorem dX7_copyFrom_37 : decode cX7_copyFrom 37 = .ok (.putfield 28, 3) := by decide +kernel
theorem dX7_copyFrom_40 : decode cX7_copyFrom 40 = .ok (.aload_n 0, 1) := by decide +kernel
theorem dX7_copyFrom_41 : decode cX7_copyFrom 41 = .ok (.aload_n 1, 1) := by decide +kernel
theorem dX7_copyFrom_42 : decode cX7_copyFrom 42 = .ok (.getfield 31, 3) := by decide +kernel
theorem dX7_copyFrom_45 : decode cX7_copyFrom 45 = .ok (.putfield 31, 3) := by decide +kernel
theorem dX7_copyFrom_48 : decode cX7_copyFrom 48 = .ok (.aload_n 0, 1) := by decide +kernel
theorem dX7_copyFrom_49 : decode cX7_copyFrom 49 = .ok (.aload_n 1, 1) := by decide +kernel
theorem dX7_copyFrom_50 : decode cX7_copyFrom 50 = .ok (.getfield 34, 3) := by decide +kernel
theorem dX7_copyFrom_53 : decode cX7_copyFrom 53 = .ok (.putfield 34, 3) := by decide +kernel
theorem dX7_copyFrom_56 : decode cX7_copyFrom 56 = .ok (.aload_n 0, 1) := by decide +kernel
theorem dX7_copyFrom_57 : decode cX7_copyFrom 57 = .ok (.aload_n 1, 1) := by decide +kernel
theorem dX7_copyFrom_58 : decode cX7_copyFrom 58 = .ok (.getfield 37, 3) := by decide +kernel
theorem dX7_copyFrom_61 : decode cX7_copyFrom 61 = .ok (.putfield 37, 3) := by decide +kernel
theorem dX7_copyFrom_64 : decode cX7_copyFrom 64 = .ok (.aload_n 1, 1) := by decide +kernel
theorem dX7_copyFrom_65 : decode cX7_copyFrom 65 = .ok (.getfield 18, 3) := by decide +kernel
theorem dX7_copyFrom_68 : decode cX7_copyFrom 68 = .ok (.iconst 0, 1) := by decide +kernel
theorem dX7_copyFrom_69 : decode cX7_copyFrom 69 = .ok (.aload_n 0, 1) := by decide +kernel
theorem dX7_copyFrom_70 : decode cX7_copyFrom 70 = .ok (.getfield 18, 3) := by decide +kernel
theorem dX7_copyFrom_73 : decode cX7_copyFrom 73 = .ok (.iconst 0, 1) := by decide +kernel
theorem dX7_copyFrom_74 : decode cX7_copyFrom 74 = .ok (.bipush 8, 2) := by decide +kernel
theorem dX7_copyFrom_76 : decode cX7_copyFrom 76 = .ok (.invokestatic 40, 3) := by decide +kernel
theorem dX7_copyFrom_79 : decode cX7_copyFrom 79 = .ok (.return_, 1) := by decide +kernel
theorem dX7_enterThrow_0 : decode cX7_enterThrow 0 = .ok (.aload_n 0, 1) := by decide +kernel
theorem dX7_enterThrow_1 : decode cX7_enterThrow 1 = .ok (.dup, 1) := by decide +kernel
theorem dX7_enterThrow_2 : decode cX7_enterThrow 2 = .ok (.getfield 15, 3) := by decide +kernel
theorem dX7_enterThrow_5 : decode cX7_enterThrow 5 = .ok (.iload_n 1, 1) := by decide +kernel
theorem dX7_enterThrow_6 : decode cX7_enterThrow 6 = .ok (.isub, 1) := by decide +kernel
theorem dX7_enterThrow_7 : decode cX7_enterThrow 7 = .ok (.putfield 15, 3) := by decide +kernel
theorem dX7_enterThrow_10 : decode cX7_enterThrow 10 = .ok (.aload_n 0, 1) := by decide +kernel
theorem dX7_enterThrow_11 : decode cX7_enterThrow 11 = .ok (.dup, 1) := by decide +kernel
theorem dX7_enterThrow_12 : decode cX7_enterThrow 12 = .ok (.getfield 25, 3) := by decide +kernel
theorem dX7_enterThrow_15 : decode cX7_enterThrow 15 = .ok (.iload_n 1, 1) := by decide +kernel
theorem dX7_enterThrow_16 : decode cX7_enterThrow 16 = .ok (.iadd, 1) := by decide +kernel
theorem dX7_enterThrow_17 : decode cX7_enterThrow 17 = .ok (.putfield 25, 3) := by decide +kernel
theorem dX7_enterThrow_20 : decode cX7_enterThrow 20 = .ok (.aload_n 0, 1) := by decide +kernel
theorem dX7_enterThrow_21 : decode cX7_enterThrow 21 = .ok (.dup, 1) := by decide +kernel
theorem dX7_enterThrow_22 : decode cX7_enterThrow 22 = .ok (.getfield 31, 3) := by decide +kernel
theorem dX7_enterThrow_25 : decode cX7_enterThrow 25 = .ok (.iconst 1, 1) := by decide +kernel
theorem dX7_enterThrow_26 : decode cX7_enterThrow 26 = .ok (.iadd, 1) := by decide +kernel
theorem dX7_enterThrow_27 : decode cX7_enterThrow 27 = .ok (.putfield 31, 3) := by decide +kernel
theorem dX7_enterThrow_30 : decode cX7_enterThrow 30 = .ok (.aload_n 0, 1) := by decide +kernel
theorem dX7_enterThrow_31 : decode cX7_enterThrow 31 = .ok (.dup, 1) := by decide +kernel
theorem dX7_enterThrow_32 : decode cX7_enterThrow 32 = .ok (.getfield 37, 3) := by decide +kernel
theorem dX7_enterThrow_35 : decode cX7_enterThrow 35 = .ok (.iload_n 2, 1) := by decide +kernel
theorem dX7_enterThrow_36 : decode cX7_enterThrow 36 = .ok (.iadd, 1) := by decide +kernel
theorem dX7_enterThrow_37 : decode cX7_enterThrow 37 = .ok (.putfield 37, 3) := by decide +kernel
theorem dX7_enterThrow_40 : decode cX7_enterThrow 40 = .ok (.iload_n 3, 1) := by decide +kernel
theorem dX7_enterThrow_41 : decode cX7_enterThrow 41 = .ok (.ifCond .eq 16, 3) := by decide +kernel
theorem dX7_enterThrow_44 : decode cX7_enterThrow 44 = .ok (.aload_n 0, 1) := by decide +kernel
theorem dX7_enterThrow_45 : decode cX7_enterThrow 45 = .ok (.dup, 1) := by decide +kernel
theorem dX7_enterThrow_46 : decode cX7_enterThrow 46 = .ok (.getfield 34, 3) := by decide +kernel
theorem dX7_enterThrow_49 : decode cX7_enterThrow 49 = .ok (.iconst 1, 1) := by decide +kernel
theorem dX7_enterThrow_50 : decode cX7_enterThrow 50 = .ok (.iadd, 1) := by decide +kernel
theorem dX7_enterThrow_51 : decode cX7_enterThrow 51 = .ok (.putfield 34, 3) := by decide +kernel
theorem dX7_enterThrow_54 : decode cX7_enterThrow 54 = .ok (.goto 13, 3) := by decide +kernel
theorem dX7_enterThrow_57 : decode cX7_enterThrow 57 = .ok (.aload_n 0, 1) := by decide +kernel
theorem dX7_enterThrow_58 : decode cX7_enterThrow 58 = .ok (.dup, 1) := by decide +kernel
theorem dX7_enterThrow_59 : decode cX7_enterThrow 59 = .ok (.getfield 9, 3) := by decide +kernel
theorem dX7_enterThrow_62 : decode cX7_enterThrow 62 = .ok (.iconst 1, 1) := by decide +kernel
theorem dX7_enterThrow_63 : decode cX7_enterThrow 63 = .ok (.isub, 1) := by decide +kernel
theorem dX7_enterThrow_64 : decode cX7_enterThrow 64 = .ok (.putfield 9, 3) := by decide +kernel
theorem dX7_enterThrow_67 : decode cX7_enterThrow 67 = .ok (.return_, 1) := by decide +kernel
theorem dX7_shareOfCaught_0 : decode cX7_shareOfCaught 0 = .ok (.aload_n 0, 1) := by decide +kernel
theorem dX7_shareOfCaught_1 : decode cX7_shareOfCaught 1 = .ok (.getfield 34, 3) := by decide +kernel
theorem dX7_shareOfCaught_4 : decode cX7_shareOfCaught 4 = .ok (.i2f, 1) := by decide +kernel
theorem dX7_shareOfCaught_5 : decode cX7_shareOfCaught 5 = .ok (.aload_n 0, 1) := by decide +kernel
theorem dX7_shareOfCaught_6 : decode cX7_shareOfCaught 6 = .ok (.getfield 31, 3) := by decide +kernel
theorem dX7_shareOfCaught_9 : decode cX7_shareOfCaught 9 = .ok (.i2f, 1) := by decide +kernel
theorem dX7_shareOfCaught_10 : decode cX7_shareOfCaught 10 = .ok (.fdiv, 1) := by decide +kernel
theorem dX7_shareOfCaught_11 : decode cX7_shareOfCaught 11 = .ok (.freturn, 1) := by decide +kernel
theorem dX8_init_0 : decode cX8_init 0 = .ok (.aload_n 0, 1) := by decide +kernel
theorem dX8_init_1 : decode cX8_init 1 = .ok (.invokespecial 1, 3) := by decide +kernel
theorem dX8_init_4 : decode cX8_init 4 = .ok (.aload_n 0, 1) := by decide +kernel
theorem dX8_init_5 : decode cX8_init 5 = .ok (.bipush 32, 2) := by decide +kernel
theorem dX8_init_7 : decode cX8_init 7 = .ok (.newarray .char, 2) := by decide +kernel
theorem dX8_init_9 : decode cX8_init 9 = .ok (.putfield 7, 3) := by decide +kernel
theorem dX8_init_12 : decode cX8_init 12 = .ok (.return_, 1) := by decide +kernel
theorem dX8_put_0 : decode cX8_put 0 = .ok (.aload_n 0, 1) := by decide +kernel
theorem dX8_put_1 : decode cX8_put 1 = .ok (.getfield 13, 3) := by decide +kernel
theorem dX8_put_4 : decode cX8_put 4 = .ok (.aload_n 0, 1) := by decide +kernel
theorem dX8_put_5 : decode cX8_put 5 = .ok (.getfield 7, 3) := by decide +kernel
theorem dX8_put_8 : decode cX8_put 8 = .ok (.arraylength, 1) := by decide +kernel
theorem dX8_put_9 : decode cX8_put 9 = .ok (.if_icmp .ge 23, 3) := by decide +kernel
theorem dX8_put_12 : decode cX8_put 12 = .ok (.aload_n 0, 1) := by decide +kernel
theorem dX8_put_13 : decode cX8_put 13 = .ok (.getfield 7, 3) := by decide +kernel
theorem dX8_put_16 : decode cX8_put 16 = .ok (.aload_n 0, 1) := by decide +kernel
theorem dX8_put_17 : decode cX8_put 17 = .ok (.getfield 13, 3) := by decide +kernel
theorem dX8_put_20 : decode cX8_put 20 = .ok (.iload_n 1, 1) := by decide +kernel
theorem dX8_put_21 : decode cX8_put 21 = .ok (.castore, 1) := by decide +kernel
theorem dX8_put_22 : decode cX8_put 22 = .ok (.aload_n 0, 1) := by decide +kernel
theorem dX8_put_23 : decode cX8_put 23 = .ok (.dup, 1) := by decide +kernel
theorem dX8_put_24 : decode cX8_put 24 = .ok (.getfield 13, 3) := by decide +kernel
theorem dX8_put_27 : decode cX8_put 27 = .ok (.iconst 1, 1) := by decide +kernel
theorem dX8_put_28 : decode cX8_put 28 = .ok (.iadd, 1) := by decide +kernel
theorem dX8_put_29 : decode cX8_put 29 = .ok (.putfield 13, 3) := by decide +kernel
theorem dX8_put_32 : decode cX8_put 32 = .ok (.return_, 1) := by decide +kernel
theorem dX8_putNumber_0 : decode cX8_putNumber 0 = .ok (.iconst 0, 1) := by decide +kernel
theorem dX8_putNumber_1 : decode cX8_putNumber 1 = .ok (.istore_n 2, 1) := by decide +kernel
theorem dX8_putNumber_2 : decode cX8_putNumber 2 = .ok (.ldc 17, 2) := by decide +kernel
theorem dX8_putNumber_4 : decode cX8_putNumber 4 = .ok (.istore_n 3, 1) := by decide +kernel
theorem dX8_putNumber_5 : decode cX8_putNumber 5 = .ok (.iload_n 3, 1) := by decide +kernel
theorem dX8_putNumber_6 : decode cX8_putNumber 6 = .ok (.ifCond .le 53, 3) := by decide +kernel
theorem dX8_putNumber_9 : decode cX8_putNumber 9 = .ok (.iload_n 1, 1) := by decide +kernel
theorem dX8_putNumber_10 : decode cX8_putNumber 10 = .ok (.iload_n 3, 1) := by decide +kernel
theorem dX8_putNumber_11 : decode cX8_putNumber 11 = .ok (.idiv, 1) := by decide +kernel
theorem dX8_putNumber_12 : decode cX8_putNumber 12 = .ok (.bipush 10, 2) := by decide +kernel
theorem dX8_putNumber_14 : decode cX8_putNumber 14 = .ok (.irem, 1) := by decide +kernel
theorem dX8_putNumber_15 : decode cX8_putNumber 15 = .ok (.istore 4, 2) := by decide +kernel
theorem dX8_putNumber_17 : decode cX8_putNumber 17 = .ok (.iload_n 2, 1) := by decide +kernel
theorem dX8_putNumber_18 : decode cX8_putNumber 18 = .ok (.ifCond .ne 13, 3) := by decide +kernel
theorem dX8_putNumber_21 : decode cX8_putNumber 21 = .ok (.iload 4, 2) := by decide +kernel
theorem dX8_putNumber_23 : decode cX8_putNumber 23 = .ok (.ifCond .ne 8, 3) := by decide +kernel
theorem dX8_putNumber_26 : decode cX8_putNumber 26 = .ok (.iload_n 3, 1) := by decide +kernel
theorem dX8_putNumber_27 : decode cX8_putNumber 27 = .ok (.iconst 1, 1) := by decide +kernel
theorem dX8_putNumber_28 : decode cX8_putNumber 28 = .ok (.if_icmp .ne 7, 3) := by decide +kernel
theorem dX8_putNumber_31 : decode cX8_putNumber 31 = .ok (.iconst 1, 1) := by decide +kernel
theorem dX8_putNumber_32 : decode cX8_putNumber 32 = .ok (.goto 4, 3) := by decide +kernel
theorem dX8_putNumber_35 : decode cX8_putNumber 35 = .ok (.iconst 0, 1) := by decide +kernel
theorem dX8_putNumber_36 : decode cX8_putNumber 36 = .ok (.istore_n 2, 1) := by decide +kernel
theorem dX8_putNumber_37 : decode cX8_putNumber 37 = .ok (.iload_n 2, 1) := by decide +kernel
theorem dX8_putNumber_38 : decode cX8_putNumber 38 = .ok (.ifCond .eq 13, 3) := by decide +kernel
theorem dX8_putNumber_41 : decode cX8_putNumber 41 = .ok (.aload_n 0, 1) := by decide +kernel
theorem dX8_putNumber_42 : decode cX8_putNumber 42 = .ok (.bipush 48, 2) := by decide +kernel
theorem dX8_putNumber_44 : decode cX8_putNumber 44 = .ok (.iload 4, 2) := by decide +kernel
theorem dX8_putNumber_46 : decode cX8_putNumber 46 = .ok (.iadd, 1) := by decide +kernel
theorem dX8_putNumber_47 : decode cX8_putNumber 47 = .ok (.i2c, 1) := by decide +kernel
theorem dX8_putNumber_48 : decode cX8_putNumber 48 = .ok (.invokevirtual 18, 3) := by decide +kernel
theorem dX8_putNumber_51 : decode cX8_putNumber 51 = .ok (.iload_n 3, 1) := by decide +kernel
theorem dX8_putNumber_52 : decode cX8_putNumber 52 = .ok (.bipush 10, 2) := by decide +kernel
theorem dX8_putNumber_54 : decode cX8_putNumber 54 = .ok (.idiv, 1) := by decide +kernel
theorem dX8_putNumber_55 : decode cX8_putNumber 55 = .ok (.istore_n 3, 1) := by decide +kernel
theorem dX8_putNumber_56 : decode cX8_putNumber 56 = .ok (.goto (-51), 3) := by decide +kernel
theorem dX8_putNumber_59 : decode cX8_putNumber 59 = .ok (.return_, 1) := by decide +kernel
theorem dX9_init_0 : decode cX9_init 0 = .ok (.aload_n 0, 1) := by decide +kernel
theorem dX9_init_1 : decode cX9_init 1 = .ok (.invokespecial 1, 3) := by decide +kernel
theorem dX9_init_4 : decode cX9_init 4 = .ok (.aload_n 0, 1) := by decide +kernel
theorem dX9_init_5 : decode cX9_init 5 = .ok (.new 7, 3) := by decide +kernel
theorem dX9_init_8 : decode cX9_init 8 = .ok (.dup, 1) := by decide +kernel
theorem dX9_init_9 : decode cX9_init 9 = .ok (.invokespecial 9, 3) := by decide +kernel
theorem dX9_init_12 : decode cX9_init 12 = .ok (.putfield 10, 3) := by decide +kernel
theorem dX9_init_15 : decode cX9_init 15 = .ok (.aload_n 0, 1) := by decide +kernel
theorem dX9_init_16 : decode cX9_init 16 = .ok (.new 16, 3) := by decide +kernel
theorem dX9_init_19 : decode cX9_init 19 = .ok (.dup, 1) := by decide +kernel
theorem dX9_init_20 : decode cX9_init 20 = .ok (.invokespecial 18, 3) := by decide +kernel
theorem dX9_init_23 : decode cX9_init 23 = .ok (.putfield 19, 3) := by decide +kernel
theorem dX9_init_26 : decode cX9_init 26 = .ok (.aload_n 0, 1) := by decide +kernel
theorem dX9_init_27 : decode cX9_init 27 = .ok (.new 23, 3) := by decide +kernel
theorem dX9_init_30 : decode cX9_init 30 = .ok (.dup, 1) := by decide +kernel
theorem dX9_init_31 : decode cX9_init 31 = .ok (.invokespecial 25, 3) := by decide +kernel
theorem dX9_init_34 : decode cX9_init 34 = .ok (.putfield 26, 3) := by decide +kernel
theorem dX9_init_37 : decode cX9_init 37 = .ok (.return_, 1) := by decide +kernel
theorem dX9_copyFrom_0 : decode cX9_copyFrom 0 = .ok (.aload_n 0, 1) := by decide +kernel
theorem dX9_copyFrom_1 : decode cX9_copyFrom 1 = .ok (.getfield 10, 3) := by decide +kernel
theorem dX9_copyFrom_4 : decode cX9_copyFrom 4 = .ok (.aload_n 1, 1) := by decide +kernel
theorem dX9_copyFrom_5 : decode cX9_copyFrom 5 = .ok (.getfield 10, 3) := by decide +kernel
theorem dX9_copyFrom_8 : decode cX9_copyFrom 8 = .ok (.invokevirtual 30, 3) := by decide +kernel
theorem dX9_copyFrom_11 : decode cX9_copyFrom 11 = .ok (.aload_n 0, 1) := by decide +kernel
theorem dX9_copyFrom_12 : decode cX9_copyFrom 12 = .ok (.getfield 19, 3) := by decide +kernel
theorem dX9_copyFrom_15 : decode cX9_copyFrom 15 = .ok (.aload_n 1, 1) := by decide +kernel
theorem dX9_copyFrom_16 : decode cX9_copyFrom 16 = .ok (.getfield 19, 3) := by decide +kernel
theorem dX9_copyFrom_19 : decode cX9_copyFrom 19 = .ok (.invokevirtual 34, 3) := by decide +kernel
theorem dX9_copyFrom_22 : decode cX9_copyFrom 22 = .ok (.aload_n 0, 1) := by decide +kernel
theorem dX9_copyFrom_23 : decode cX9_copyFrom 23 = .ok (.getfield 26, 3) := by decide +kernel
theorem dX9_copyFrom_26 : decode cX9_copyFrom 26 = .ok (.aload_n 1, 1) := by decide +kernel
theorem dX9_copyFrom_27 : decode cX9_copyFrom 27 = .ok (.getfield 26, 3) := by decide +kernel
theorem dX9_copyFrom_30 : decode cX9_copyFrom 30 = .ok (.invokevirtual 37, 3) := by decide +kernel
theorem dX9_copyFrom_33 : decode cX9_copyFrom 33 = .ok (.return_, 1) := by decide +kernel
theorem dX10_init_0 : decode cX10_init 0 = .ok (.aload_n 0, 1) := by decide +kernel
theorem dX10_init_1 : decode cX10_init 1 = .ok (.invokespecial 3, 3) := by decide +kernel
theorem dX10_init_4 : decode cX10_init 4 = .ok (.aload_n 0, 1) := by decide +kernel
theorem dX10_init_5 : decode cX10_init 5 = .ok (.bipush 8, 2) := by decide +kernel
theorem dX10_init_7 : decode cX10_init 7 = .ok (.newarray .int, 2) := by decide +kernel
theorem dX10_init_9 : decode cX10_init 9 = .ok (.putfield 9, 3) := by decide +kernel
theorem dX10_init_12 : decode cX10_init 12 = .ok (.return_, 1) := by decide +kernel
theorem dX10_copyFrom_0 : decode cX10_copyFrom 0 = .ok (.aload_n 0, 1) := by decide +kernel
theorem dX10_copyFrom_1 : decode cX10_copyFrom 1 = .ok (.aload_n 1, 1) := by decide +kernel
theorem dX10_copyFrom_2 : decode cX10_copyFrom 2 = .ok (.getfield 15, 3) := by decide +kernel
theorem dX10_copyFrom_5 : decode cX10_copyFrom 5 = .ok (.putfield 15, 3) := by decide +kernel
theorem dX10_copyFrom_8 : decode cX10_copyFrom 8 = .ok (.aload_n 0, 1) := by decide +kernel
theorem dX10_copyFrom_9 : decode cX10_copyFrom 9 = .ok (.aload_n 1, 1) := by decide +kernel
theorem dX10_copyFrom_10 : decode cX10_copyFrom 10 = .ok (.getfield 19, 3) := by decide +kernel
theorem dX10_copyFrom_13 : decode cX10_copyFrom 13 = .ok (.putfield 19, 3) := by decide +kernel
theorem dX10_copyFrom_16 : decode cX10_copyFrom 16 = .ok (.aload_n 0, 1) := by decide +kernel
theorem dX10_copyFrom_17 : decode cX10_copyFrom 17 = .ok (.aload_n 1, 1) := by decide +kernel
theorem dX10_copyFrom_18 : decode cX10_copyFrom 18 = .ok (.getfield 23, 3) := by decide +kernel
theorem dX10_copyFrom_21 : decode cX10_copyFrom 21 = .ok (.putfield 23, 3) := by decide +kernel
theorem dX10_copyFrom_24 : decode cX10_copyFrom 24 = .ok (.aload_n 0, 1) := by decide +kernel
theorem dX10_copyFrom_25 : decode cX10_copyFrom 25 = .ok (.aload_n 1, 1) := by decide +kernel
theorem dX10_copyFrom_26 : decode cX10_copyFrom 26 = .ok (.getfield 26, 3) := by decide +kernel
theorem dX10_copyFrom_29 : decode cX10_copyFrom 29 = .ok (.putfield 26, 3) := by decide +kernel
theorem dX10_copyFrom_32 : decode cX10_copyFrom 32 = .ok (.aload_n 0, 1) := by decide +kernel
theorem dX10_copyFrom_33 : decode cX10_copyFrom 33 = .ok (.aload_n 1, 1) := by decide +kernel
theorem dX10_copyFrom_34 : decode cX10_copyFrom 34 = .ok (.getfield 29, 3) := by decide +kernel
theorem dX10_copyFrom_37 : decode cX10_copyFrom 37 = .ok (.putfield 29, 3) := by decide +kernel
theorem dX10_copyFrom_40 : decode cX10_copyFrom 40 = .ok (.aload_n 1, 1) := by decide +kernel
theorem dX10_copyFrom_41 : decode cX10_copyFrom 41 = .ok (.getfield 9, 3) := by decide +kernel
theorem dX10_copyFrom_44 : decode cX10_copyFrom 44 = .ok (.iconst 0, 1) := by decide +kernel
theorem dX10_copyFrom_45 : decode cX10_copyFrom 45 = .ok (.aload_n 0, 1) := by decide +kernel
theorem dX10_copyFrom_46 : decode cX10_copyFrom 46 = .ok (.getfield 9, 3) := by decide +kernel
theorem dX10_copyFrom_49 : decode cX10_copyFrom 49 = .ok (.iconst 0, 1) := by decide +kernel
theorem dX10_copyFrom_50 : decode cX10_copyFrom 50 = .ok (.bipush 8, 2) := by decide +kernel
theorem dX10_copyFrom_52 : decode cX10_copyFrom 52 = .ok (.invokestatic 32, 3) := by decide +kernel
theorem dX10_copyFrom_55 : decode cX10_copyFrom 55 = .ok (.return_, 1) := by decide +kernel
theorem dX10_hasTree_0 : decode cX10_hasTree 0 = .ok (.aload_n 0, 1) := by decide +kernel
theorem dX10_hasTree_1 : decode cX10_hasTree 1 = .ok (.getfield 15, 3) := by decide +kernel
theorem dX10_hasTree_4 : decode cX10_hasTree 4 = .ok (.iload_n 1, 1) := by decide +kernel
theorem dX10_hasTree_5 : decode cX10_hasTree 5 = .ok (.lushr, 1) := by decide +kernel
theorem dX10_hasTree_6 : decode cX10_hasTree 6 = .ok (.lconst 1, 1) := by decide +kernel
theorem dX10_hasTree_7 : decode cX10_hasTree 7 = .ok (.land, 1) := by decide +kernel
theorem dX10_hasTree_8 : decode cX10_hasTree 8 = .ok (.lconst 0, 1) := by decide +kernel
theorem dX10_hasTree_9 : decode cX10_hasTree 9 = .ok (.lcmp, 1) := by decide +kernel
theorem dX10_hasTree_10 : decode cX10_hasTree 10 = .ok (.ifCond .eq 7, 3) := by decide +kernel
theorem dX10_hasTree_13 : decode cX10_hasTree 13 = .ok (.iconst 1, 1) := by decide +kernel
theorem dX10_hasTree_14 : decode cX10_hasTree 14 = .ok (.goto 4, 3) := by decide +kernel
theorem dX10_hasTree_17 : decode cX10_hasTree 17 = .ok (.iconst 0, 1) := by decide +kernel
theorem dX10_hasTree_18 : decode cX10_hasTree 18 = .ok (.ireturn, 1) := by decide +kernel
theorem dX10_hasParty_0 : decode cX10_hasParty 0 = .ok (.iload_n 1, 1) := by decide +kernel
theorem dX10_hasParty_1 : decode cX10_hasParty 1 = .ok (.ifCond .lt 15, 3) := by decide +kernel
theorem dX10_hasParty_4 : decode cX10_hasParty 4 = .ok (.iload_n 1, 1) := by decide +kernel
theorem dX10_hasParty_5 : decode cX10_hasParty 5 = .ok (.aload_n 0, 1) := by decide +kernel
theorem dX10_hasParty_6 : decode cX10_hasParty 6 = .ok (.getfield 29, 3) := by decide +kernel
theorem dX10_hasParty_9 : decode cX10_hasParty 9 = .ok (.if_icmp .ge 7, 3) := by decide +kernel
theorem dX10_hasParty_12 : decode cX10_hasParty 12 = .ok (.iconst 1, 1) := by decide +kernel
theorem dX10_hasParty_13 : decode cX10_hasParty 13 = .ok (.goto 4, 3) := by decide +kernel
theorem dX10_hasParty_16 : decode cX10_hasParty 16 = .ok (.iconst 0, 1) := by decide +kernel
theorem dX10_hasParty_17 : decode cX10_hasParty 17 = .ok (.ireturn, 1) := by decide +kernel
theorem dX10_partyAt_0 : decode cX10_partyAt 0 = .ok (.iconst 0, 1) := by decide +kernel
theorem dX10_partyAt_1 : decode cX10_partyAt 1 = .ok (.istore_n 2, 1) := by decide +kernel
theorem dX10_partyAt_2 : decode cX10_partyAt 2 = .ok (.iload_n 2, 1) := by decide +kernel
theorem dX10_partyAt_3 : decode cX10_partyAt 3 = .ok (.aload_n 0, 1) := by decide +kernel
theorem dX10_partyAt_4 : decode cX10_partyAt 4 = .ok (.getfield 29, 3) := by decide +kernel
theorem dX10_partyAt_7 : decode cX10_partyAt 7 = .ok (.if_icmp .ge 21, 3) := by decide +kernel
theorem dX10_partyAt_10 : decode cX10_partyAt 10 = .ok (.aload_n 0, 1) := by decide +kernel
theorem dX10_partyAt_11 : decode cX10_partyAt 11 = .ok (.getfield 9, 3) := by decide +kernel
theorem dX10_partyAt_14 : decode cX10_partyAt 14 = .ok (.iload_n 2, 1) := by decide +kernel
theorem dX10_partyAt_15 : decode cX10_partyAt 15 = .ok (.iaload, 1) := by decide +kernel
theorem dX10_partyAt_16 : decode cX10_partyAt 16 = .ok (.iload_n 1, 1) := by decide +kernel
theorem dX10_partyAt_17 : decode cX10_partyAt 17 = .ok (.if_icmp .ne 5, 3) := by decide +kernel
theorem dX10_partyAt_20 : decode cX10_partyAt 20 = .ok (.iload_n 2, 1) := by decide +kernel
theorem dX10_partyAt_21 : decode cX10_partyAt 21 = .ok (.ireturn, 1) := by decide +kernel
theorem dX10_partyAt_22 : decode cX10_partyAt 22 = .ok (.iinc 2 1, 3) := by decide +kernel
theorem dX10_partyAt_25 : decode cX10_partyAt 25 = .ok (.goto (-23), 3) := by decide +kernel
theorem dX10_partyAt_28 : decode cX10_partyAt 28 = .ok (.iconst (-1), 1) := by decide +kernel
theorem dX10_partyAt_29 : decode cX10_partyAt 29 = .ok (.ireturn, 1) := by decide +kernel
theorem dX10_signOf_0 : decode cX10_signOf 0 = .ok (.aload_n 0, 1) := by decide +kernel
theorem dX10_signOf_1 : decode cX10_signOf 1 = .ok (.iload_n 1, 1) := by decide +kernel
theorem dX10_signOf_2 : decode cX10_signOf 2 = .ok (.invokevirtual 38, 3) := by decide +kernel
theorem dX10_signOf_5 : decode cX10_signOf 5 = .ok (.istore_n 2, 1) := by decide +kernel
theorem dX10_signOf_6 : decode cX10_signOf 6 = .ok (.iload_n 2, 1) := by decide +kernel
theorem dX10_signOf_7 : decode cX10_signOf 7 = .ok (.iconst (-1), 1) := by decide +kernel
theorem dX10_signOf_8 : decode cX10_signOf 8 = .ok (.if_icmp .eq 9, 3) := by decide +kernel
theorem dX10_signOf_11 : decode cX10_signOf 11 = .ok (.bipush 48, 2) := by decide +kernel
theorem dX10_signOf_13 : decode cX10_signOf 13 = .ok (.iload_n 2, 1) := by decide +kernel
theorem dX10_signOf_14 : decode cX10_signOf 14 = .ok (.iadd, 1) := by decide +kernel
theorem dX10_signOf_15 : decode cX10_signOf 15 = .ok (.i2c, 1) := by decide +kernel
theorem dX10_signOf_16 : decode cX10_signOf 16 = .ok (.ireturn, 1) := by decide +kernel
theorem dX10_signOf_17 : decode cX10_signOf 17 = .ok (.aload_n 0, 1) := by decide +kernel
theorem dX10_signOf_18 : decode cX10_signOf 18 = .ok (.iload_n 1, 1) := by decide +kernel
theorem dX10_signOf_19 : decode cX10_signOf 19 = .ok (.invokevirtual 42, 3) := by decide +kernel
theorem dX10_signOf_22 : decode cX10_signOf 22 = .ok (.ifCond .eq 8, 3) := by decide +kernel
theorem dX10_signOf_25 : decode cX10_signOf 25 = .ok (.bipush 84, 2) := by decide +kernel
theorem dX10_signOf_27 : decode cX10_signOf 27 = .ok (.goto 18, 3) := by decide +kernel
theorem dX10_signOf_30 : decode cX10_signOf 30 = .ok (.iload_n 1, 1) := by decide +kernel
theorem dX10_signOf_31 : decode cX10_signOf 31 = .ok (.aload_n 0, 1) := by decide +kernel
theorem dX10_signOf_32 : decode cX10_signOf 32 = .ok (.getfield 19, 3) := by decide +kernel
theorem dX10_signOf_35 : decode cX10_signOf 35 = .ok (.if_icmp .ne 8, 3) := by decide +kernel
theorem dX10_signOf_38 : decode cX10_signOf 38 = .ok (.bipush 66, 2) := by decide +kernel
theorem dX10_signOf_40 : decode cX10_signOf 40 = .ok (.goto 5, 3) := by decide +kernel
theorem dX10_signOf_43 : decode cX10_signOf 43 = .ok (.bipush 46, 2) := by decide +kernel
theorem dX10_signOf_45 : decode cX10_signOf 45 = .ok (.ireturn, 1) := by decide +kernel
theorem dX10_turnedByExchange_0 : decode cX10_turnedByExchange 0 = .ok (.aload_n 0, 1) := by decide +kernel
theorem dX10_turnedByExchange_1 : decode cX10_turnedByExchange 1 = .ok (.getfield 15, 3) := by decide +kernel
theorem dX10_turnedByExchange_4 : decode cX10_turnedByExchange 4 = .ok (.ldc2_w 46, 3) := by decide +kernel
theorem dX10_turnedByExchange_7 : decode cX10_turnedByExchange 7 = .ok (.bipush 7, 2) := by decide +kernel
theorem dX10_turnedByExchange_9 : decode cX10_turnedByExchange 9 = .ok (.invokestatic 48, 3) := by decide +kernel
theorem dX10_turnedByExchange_12 : decode cX10_turnedByExchange 12 = .ok (.lstore_n 1, 1) := by decide +kernel
theorem dX10_turnedByExchange_13 : decode cX10_turnedByExchange 13 = .ok (.lload_n 1, 1) := by decide +kernel
theorem dX10_turnedByExchange_14 : decode cX10_turnedByExchange 14 = .ok (.ldc2_w 52, 3) := by decide +kernel
theorem dX10_turnedByExchange_17 : decode cX10_turnedByExchange 17 = .ok (.bipush 14, 2) := by decide +kernel
theorem dX10_turnedByExchange_19 : decode cX10_turnedByExchange 19 = .ok (.invokestatic 48, 3) := by decide +kernel
theorem dX10_turnedByExchange_22 : decode cX10_turnedByExchange 22 = .ok (.lstore_n 1, 1) := by decide +kernel
theorem dX10_turnedByExchange_23 : decode cX10_turnedByExchange 23 = .ok (.lload_n 1, 1) := by decide +kernel
theorem dX10_turnedByExchange_24 : decode cX10_turnedByExchange 24 = .ok (.ldc2_w 54, 3) := by decide +kernel
theorem dX10_turnedByExchange_27 : decode cX10_turnedByExchange 27 = .ok (.bipush 28, 2) := by decide +kernel
theorem dX10_turnedByExchange_29 : decode cX10_turnedByExchange 29 = .ok (.invokestatic 48, 3) := by decide +kernel
theorem dX10_turnedByExchange_32 : decode cX10_turnedByExchange 32 = .ok (.lstore_n 1, 1) := by decide +kernel
theorem dX10_turnedByExchange_33 : decode cX10_turnedByExchange 33 = .ok (.lload_n 1, 1) := by decide +kernel
theorem dX10_turnedByExchange_34 : decode cX10_turnedByExchange 34 = .ok (.ldc2_w 56, 3) := by decide +kernel
theorem dX10_turnedByExchange_37 : decode cX10_turnedByExchange 37 = .ok (.iconst 1, 1) := by decide +kernel
theorem dX10_turnedByExchange_38 : decode cX10_turnedByExchange 38 = .ok (.invokestatic 48, 3) := by decide +kernel
theorem dX10_turnedByExchange_41 : decode cX10_turnedByExchange 41 = .ok (.lstore_n 1, 1) := by decide +kernel
theorem dX10_turnedByExchange_42 : decode cX10_turnedByExchange 42 = .ok (.lload_n 1, 1) := by decide +kernel
theorem dX10_turnedByExchange_43 : decode cX10_turnedByExchange 43 = .ok (.ldc2_w 58, 3) := by decide +kernel
theorem dX10_turnedByExchange_46 : decode cX10_turnedByExchange 46 = .ok (.iconst 2, 1) := by decide +kernel
theorem dX10_turnedByExchange_47 : decode cX10_turnedByExchange 47 = .ok (.invokestatic 48, 3) := by decide +kernel
theorem dX10_turnedByExchange_50 : decode cX10_turnedByExchange 50 = .ok (.lstore_n 1, 1) := by decide +kernel
theorem dX10_turnedByExchange_51 : decode cX10_turnedByExchange 51 = .ok (.lload_n 1, 1) := by decide +kernel
theorem dX10_turnedByExchange_52 : decode cX10_turnedByExchange 52 = .ok (.ldc2_w 60, 3) := by decide +kernel
theorem dX10_turnedByExchange_55 : decode cX10_turnedByExchange 55 = .ok (.iconst 4, 1) := by decide +kernel
theorem dX10_turnedByExchange_56 : decode cX10_turnedByExchange 56 = .ok (.invokestatic 48, 3) := by decide +kernel
theorem dX10_turnedByExchange_59 : decode cX10_turnedByExchange 59 = .ok (.lreturn, 1) := by decide +kernel
theorem dX10_exchange_0 : decode cX10_exchange 0 = .ok (.lload_n 0, 1) := by decide +kernel
theorem dX10_exchange_1 : decode cX10_exchange 1 = .ok (.lload_n 0, 1) := by decide +kernel
theorem dX10_exchange_2 : decode cX10_exchange 2 = .ok (.iload 4, 2) := by decide +kernel
theorem dX10_exchange_4 : decode cX10_exchange 4 = .ok (.lushr, 1) := by decide +kernel
theorem dX10_exchange_5 : decode cX10_exchange 5 = .ok (.lxor, 1) := by decide +kernel
theorem dX10_exchange_6 : decode cX10_exchange 6 = .ok (.lload_n 2, 1) := by decide +kernel
theorem dX10_exchange_7 : decode cX10_exchange 7 = .ok (.land, 1) := by decide +kernel
theorem dX10_exchange_8 : decode cX10_exchange 8 = .ok (.lstore 5, 2) := by decide +kernel
theorem dX10_exchange_10 : decode cX10_exchange 10 = .ok (.lload_n 0, 1) := by decide +kernel
theorem dX10_exchange_11 : decode cX10_exchange 11 = .ok (.lload 5, 2) := by decide +kernel
theorem dX10_exchange_13 : decode cX10_exchange 13 = .ok (.lxor, 1) := by decide +kernel
theorem dX10_exchange_14 : decode cX10_exchange 14 = .ok (.lload 5, 2) := by decide +kernel
theorem dX10_exchange_16 : decode cX10_exchange 16 = .ok (.iload 4, 2) := by decide +kernel
theorem dX10_exchange_18 : decode cX10_exchange 18 = .ok (.lshl, 1) := by decide +kernel
theorem dX10_exchange_19 : decode cX10_exchange 19 = .ok (.lxor, 1) := by decide +kernel
theorem dX10_exchange_20 : decode cX10_exchange 20 = .ok (.lreturn, 1) := by decide +kernel
theorem dX10_turnedCellByCell_0 : decode cX10_turnedCellByCell 0 = .ok (.lconst 0, 1) := by decide +kernel
theorem dX10_turnedCellByCell_1 : decode cX10_turnedCellByCell 1 = .ok (.lstore_n 1, 1) := by decide +kernel
theorem dX10_turnedCellByCell_2 : decode cX10_turnedCellByCell 2 = .ok (.iconst 0, 1) := by decide +kernel
theorem dX10_turnedCellByCell_3 : decode cX10_turnedCellByCell 3 = .ok (.istore_n 3, 1) := by decide +kernel
theorem dX10_turnedCellByCell_4 : decode cX10_turnedCellByCell 4 = .ok (.iload_n 3, 1) := by decide +kernel
theorem dX10_turnedCellByCell_5 : decode cX10_turnedCellByCell 5 = .ok (.bipush 8, 2) := by decide +kernel
theorem dX10_turnedCellByCell_7 : decode cX10_turnedCellByCell 7 = .ok (.if_icmp .ge 52, 3) := by decide +kernel
theorem dX10_turnedCellByCell_10 : decode cX10_turnedCellByCell 10 = .ok (.iconst 0, 1) := by decide +kernel
theorem dX10_turnedCellByCell_11 : decode cX10_turnedCellByCell 11 = .ok (.istore 4, 2) := by decide +kernel
theorem dX10_turnedCellByCell_13 : decode cX10_turnedCellByCell 13 = .ok (.iload 4, 2) := by decide +kernel
theorem dX10_turnedCellByCell_15 : decode cX10_turnedCellByCell 15 = .ok (.bipush 8, 2) := by decide +kernel
theorem dX10_turnedCellByCell_17 : decode cX10_turnedCellByCell 17 = .ok (.if_icmp .ge 36, 3) := by decide +kernel
theorem dX10_turnedCellByCell_20 : decode cX10_turnedCellByCell 20 = .ok (.aload_n 0, 1) := by decide +kernel
theorem dX10_turnedCellByCell_21 : decode cX10_turnedCellByCell 21 = .ok (.iload 4, 2) := by decide +kernel
theorem dX10_turnedCellByCell_23 : decode cX10_turnedCellByCell 23 = .ok (.iload_n 3, 1) := by decide +kernel
theorem dX10_turnedCellByCell_24 : decode cX10_turnedCellByCell 24 = .ok (.invokestatic 62, 3) := by decide +kernel
theorem dX10_turnedCellByCell_27 : decode cX10_turnedCellByCell 27 = .ok (.invokevirtual 42, 3) := by decide +kernel
theorem dX10_turnedCellByCell_30 : decode cX10_turnedCellByCell 30 = .ok (.ifCond .eq 17, 3) := by decide +kernel
theorem dX10_turnedCellByCell_33 : decode cX10_turnedCellByCell 33 = .ok (.lload_n 1, 1) := by decide +kernel
theorem dX10_turnedCellByCell_34 : decode cX10_turnedCellByCell 34 = .ok (.lconst 1, 1) := by decide +kernel
theorem dX10_turnedCellByCell_35 : decode cX10_turnedCellByCell 35 = .ok (.bipush 7, 2) := by decide +kernel
theorem dX10_turnedCellByCell_37 : decode cX10_turnedCellByCell 37 = .ok (.iload_n 3, 1) := by decide +kernel
theorem dX10_turnedCellByCell_38 : decode cX10_turnedCellByCell 38 = .ok (.isub, 1) := by decide +kernel
theorem dX10_turnedCellByCell_39 : decode cX10_turnedCellByCell 39 = .ok (.iload 4, 2) := by decide +kernel
theorem dX10_turnedCellByCell_41 : decode cX10_turnedCellByCell 41 = .ok (.invokestatic 62, 3) := by decide +kernel
theorem dX10_turnedCellByCell_44 : decode cX10_turnedCellByCell 44 = .ok (.lshl, 1) := by decide +kernel
theorem dX10_turnedCellByCell_45 : decode cX10_turnedCellByCell 45 = .ok (.lor, 1) := by decide +kernel
theorem dX10_turnedCellByCell_46 : decode cX10_turnedCellByCell 46 = .ok (.lstore_n 1, 1) := by decide +kernel
theorem dX10_turnedCellByCell_47 : decode cX10_turnedCellByCell 47 = .ok (.iinc 4 1, 3) := by decide +kernel
theorem dX10_turnedCellByCell_50 : decode cX10_turnedCellByCell 50 = .ok (.goto (-37), 3) := by decide +kernel
theorem dX10_turnedCellByCell_53 : decode cX10_turnedCellByCell 53 = .ok (.iinc 3 1, 3) := by decide +kernel
theorem dX10_turnedCellByCell_56 : decode cX10_turnedCellByCell 56 = .ok (.goto (-52), 3) := by decide +kernel
theorem dX10_turnedCellByCell_59 : decode cX10_turnedCellByCell 59 = .ok (.lload_n 1, 1) := by decide +kernel
theorem dX10_turnedCellByCell_60 : decode cX10_turnedCellByCell 60 = .ok (.lreturn, 1) := by decide +kernel
theorem dX10_connectedBySets_0 : decode cX10_connectedBySets 0 = .ok (.lconst 1, 1) := by decide +kernel
theorem dX10_connectedBySets_1 : decode cX10_connectedBySets 1 = .ok (.iload_n 1, 1) := by decide +kernel
theorem dX10_connectedBySets_2 : decode cX10_connectedBySets 2 = .ok (.lshl, 1) := by decide +kernel
theorem dX10_connectedBySets_3 : decode cX10_connectedBySets 3 = .ok (.aload_n 0, 1) := by decide +kernel
theorem dX10_connectedBySets_4 : decode cX10_connectedBySets 4 = .ok (.getfield 15, 3) := by decide +kernel
theorem dX10_connectedBySets_7 : decode cX10_connectedBySets 7 = .ok (.ldc2_w 66, 3) := by decide +kernel
theorem dX10_connectedBySets_10 : decode cX10_connectedBySets 10 = .ok (.lxor, 1) := by decide +kernel
theorem dX10_connectedBySets_11 : decode cX10_connectedBySets 11 = .ok (.land, 1) := by decide +kernel
theorem dX10_connectedBySets_12 : decode cX10_connectedBySets 12 = .ok (.lstore_n 2, 1) := by decide +kernel
theorem dX10_connectedBySets_13 : decode cX10_connectedBySets 13 = .ok (.iconst 0, 1) := by decide +kernel
theorem dX10_connectedBySets_14 : decode cX10_connectedBySets 14 = .ok (.istore 4, 2) := by decide +kernel
theorem dX10_connectedBySets_16 : decode cX10_connectedBySets 16 = .ok (.iload 4, 2) := by decide +kernel
theorem dX10_connectedBySets_18 : decode cX10_connectedBySets 18 = .ok (.bipush 64, 2) := by decide +kernel
theorem dX10_connectedBySets_20 : decode cX10_connectedBySets 20 = .ok (.if_icmp .ge 37, 3) := by decide +kernel
theorem dX10_connectedBySets_23 : decode cX10_connectedBySets 23 = .ok (.lload_n 2, 1) := by decide +kernel
theorem dX10_connectedBySets_24 : decode cX10_connectedBySets 24 = .ok (.invokestatic 68, 3) := by decide +kernel
theorem dX10_connectedBySets_27 : decode cX10_connectedBySets 27 = .ok (.aload_n 0, 1) := by decide +kernel
theorem dX10_connectedBySets_28 : decode cX10_connectedBySets 28 = .ok (.getfield 15, 3) := by decide +kernel
theorem dX10_connectedBySets_31 : decode cX10_connectedBySets 31 = .ok (.ldc2_w 66, 3) := by decide +kernel
theorem dX10_connectedBySets_34 : decode cX10_connectedBySets 34 = .ok (.lxor, 1) := by decide +kernel
theorem dX10_connectedBySets_35 : decode cX10_connectedBySets 35 = .ok (.land, 1) := by decide +kernel
theorem dX10_connectedBySets_36 : decode cX10_connectedBySets 36 = .ok (.lstore 5, 2) := by decide +kernel
theorem dX10_connectedBySets_38 : decode cX10_connectedBySets 38 = .ok (.lload 5, 2) := by decide +kernel
theorem dX10_connectedBySets_40 : decode cX10_connectedBySets 40 = .ok (.lload_n 2, 1) := by decide +kernel
theorem dX10_connectedBySets_41 : decode cX10_connectedBySets 41 = .ok (.lcmp, 1) := by decide +kernel
theorem dX10_connectedBySets_42 : decode cX10_connectedBySets 42 = .ok (.ifCond .ne 6, 3) := by decide +kernel
theorem dX10_connectedBySets_45 : decode cX10_connectedBySets 45 = .ok (.goto 12, 3) := by decide +kernel
theorem dX10_connectedBySets_48 : decode cX10_connectedBySets 48 = .ok (.lload 5, 2) := by decide +kernel
theorem dX10_connectedBySets_50 : decode cX10_connectedBySets 50 = .ok (.lstore_n 2, 1) := by decide +kernel
theorem dX10_connectedBySets_51 : decode cX10_connectedBySets 51 = .ok (.iinc 4 1, 3) := by decide +kernel
theorem dX10_connectedBySets_54 : decode cX10_connectedBySets 54 = .ok (.goto (-38), 3) := by decide +kernel
theorem dX10_connectedBySets_57 : decode cX10_connectedBySets 57 = .ok (.lload_n 2, 1) := by decide +kernel
theorem dX10_connectedBySets_58 : decode cX10_connectedBySets 58 = .ok (.lreturn, 1) := by decide +kernel
theorem dX10_withNeighbours_0 : decode cX10_withNeighbours 0 = .ok (.lload_n 0, 1) := by decide +kernel
theorem dX10_withNeighbours_1 : decode cX10_withNeighbours 1 = .ok (.bipush 8, 2) := by decide +kernel
theorem dX10_withNeighbours_3 : decode cX10_withNeighbours 3 = .ok (.lshl, 1) := by decide +kernel
theorem dX10_withNeighbours_4 : decode cX10_withNeighbours 4 = .ok (.lload_n 0, 1) := by decide +kernel
theorem dX10_withNeighbours_5 : decode cX10_withNeighbours 5 = .ok (.bipush 56, 2) := by decide +kernel
theorem dX10_withNeighbours_7 : decode cX10_withNeighbours 7 = .ok (.lushr, 1) := by decide +kernel
theorem dX10_withNeighbours_8 : decode cX10_withNeighbours 8 = .ok (.lor, 1) := by decide +kernel
theorem dX10_withNeighbours_9 : decode cX10_withNeighbours 9 = .ok (.lstore_n 2, 1) := by decide +kernel
theorem dX10_withNeighbours_10 : decode cX10_withNeighbours 10 = .ok (.lload_n 0, 1) := by decide +kernel
theorem dX10_withNeighbours_11 : decode cX10_withNeighbours 11 = .ok (.bipush 8, 2) := by decide +kernel
theorem dX10_withNeighbours_13 : decode cX10_withNeighbours 13 = .ok (.lushr, 1) := by decide +kernel
theorem dX10_withNeighbours_14 : decode cX10_withNeighbours 14 = .ok (.lload_n 0, 1) := by decide +kernel
theorem dX10_withNeighbours_15 : decode cX10_withNeighbours 15 = .ok (.bipush 56, 2) := by decide +kernel
theorem dX10_withNeighbours_17 : decode cX10_withNeighbours 17 = .ok (.lshl, 1) := by decide +kernel
theorem dX10_withNeighbours_18 : decode cX10_withNeighbours 18 = .ok (.lor, 1) := by decide +kernel
theorem dX10_withNeighbours_19 : decode cX10_withNeighbours 19 = .ok (.lstore 4, 2) := by decide +kernel
theorem dX10_withNeighbours_21 : decode cX10_withNeighbours 21 = .ok (.lload_n 0, 1) := by decide +kernel
theorem dX10_withNeighbours_22 : decode cX10_withNeighbours 22 = .ok (.ldc2_w 72, 3) := by decide +kernel
theorem dX10_withNeighbours_25 : decode cX10_withNeighbours 25 = .ok (.land, 1) := by decide +kernel
theorem dX10_withNeighbours_26 : decode cX10_withNeighbours 26 = .ok (.iconst 1, 1) := by decide +kernel
theorem dX10_withNeighbours_27 : decode cX10_withNeighbours 27 = .ok (.lshl, 1) := by decide +kernel
