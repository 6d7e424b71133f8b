theorem dX12_plants_72 : decode cX12_plants 72 = .ok (.aload_n 0, 1) := by decide +kernel
theorem dX12_plants_73 : decode cX12_plants 73 = .ok (.getfield 16, 3) := by decide +kernel
theorem dX12_plants_76 : decode cX12_plants 76 = .ok (.bipush 12, 2) := by decide +kernel
theorem dX12_plants_78 : decode cX12_plants 78 = .ok (.iload 4, 2) := by decide +kernel
theorem dX12_plants_80 : decode cX12_plants 80 = .ok (.iadd, 1) := by decide +kernel
theorem dX12_plants_81 : decode cX12_plants 81 = .ok (.iload_n 3, 1) := by decide +kernel
theorem dX12_plants_82 : decode cX12_plants 82 = .ok (.ifCond .eq 7, 3) := by decide +kernel
theorem dX12_plants_85 : decode cX12_plants 85 = .ok (.iconst 1, 1) := by decide +kernel
theorem dX12_plants_86 : decode cX12_plants 86 = .ok (.goto 4, 3) := by decide +kernel
theorem dX12_plants_89 : decode cX12_plants 89 = .ok (.iconst 0, 1) := by decide +kernel
theorem dX12_plants_90 : decode cX12_plants 90 = .ok (.iastore, 1) := by decide +kernel
theorem dX12_plants_91 : decode cX12_plants 91 = .ok (.aload_n 0, 1) := by decide +kernel
theorem dX12_plants_92 : decode cX12_plants 92 = .ok (.invokevirtual 92, 3) := by decide +kernel
theorem dX12_plants_95 : decode cX12_plants 95 = .ok (.ireturn, 1) := by decide +kernel
theorem dX12_setTree_0 : decode cX12_setTree 0 = .ok (.aload_n 0, 1) := by decide +kernel
theorem dX12_setTree_1 : decode cX12_setTree 1 = .ok (.invokevirtual 96, 3) := by decide +kernel
theorem dX12_setTree_4 : decode cX12_setTree 4 = .ok (.aload_n 0, 1) := by decide +kernel
theorem dX12_setTree_5 : decode cX12_setTree 5 = .ok (.aload_n 0, 1) := by decide +kernel
theorem dX12_setTree_6 : decode cX12_setTree 6 = .ok (.iload_n 1, 1) := by decide +kernel
theorem dX12_setTree_7 : decode cX12_setTree 7 = .ok (.iload_n 2, 1) := by decide +kernel
theorem dX12_setTree_8 : decode cX12_setTree 8 = .ok (.iload_n 3, 1) := by decide +kernel
theorem dX12_setTree_9 : decode cX12_setTree 9 = .ok (.invokevirtual 99, 3) := by decide +kernel
theorem dX12_setTree_12 : decode cX12_setTree 12 = .ok (.invokevirtual 103, 3) := by decide +kernel
theorem dX12_setTree_15 : decode cX12_setTree 15 = .ok (.ireturn, 1) := by decide +kernel
theorem dX12_benches_0 : decode cX12_benches 0 = .ok (.iload_n 1, 1) := by decide +kernel
theorem dX12_benches_1 : decode cX12_benches 1 = .ok (.iload_n 2, 1) := by decide +kernel
theorem dX12_benches_2 : decode cX12_benches 2 = .ok (.invokestatic 81, 3) := by decide +kernel
theorem dX12_benches_5 : decode cX12_benches 5 = .ok (.ifCond .ne 9, 3) := by decide +kernel
theorem dX12_benches_8 : decode cX12_benches 8 = .ok (.aload_n 0, 1) := by decide +kernel
theorem dX12_benches_9 : decode cX12_benches 9 = .ok (.iconst 1, 1) := by decide +kernel
theorem dX12_benches_10 : decode cX12_benches 10 = .ok (.invokevirtual 59, 3) := by decide +kernel
theorem dX12_benches_13 : decode cX12_benches 13 = .ok (.ireturn, 1) := by decide +kernel
theorem dX12_benches_14 : decode cX12_benches 14 = .ok (.bipush 8, 2) := by decide +kernel
theorem dX12_benches_16 : decode cX12_benches 16 = .ok (.iload_n 2, 1) := by decide +kernel
theorem dX12_benches_17 : decode cX12_benches 17 = .ok (.imul, 1) := by decide +kernel
theorem dX12_benches_18 : decode cX12_benches 18 = .ok (.iload_n 1, 1) := by decide +kernel
theorem dX12_benches_19 : decode cX12_benches 19 = .ok (.iadd, 1) := by decide +kernel
theorem dX12_benches_20 : decode cX12_benches 20 = .ok (.istore_n 3, 1) := by decide +kernel
theorem dX12_benches_21 : decode cX12_benches 21 = .ok (.aload_n 0, 1) := by decide +kernel
theorem dX12_benches_22 : decode cX12_benches 22 = .ok (.getfield 16, 3) := by decide +kernel
theorem dX12_benches_25 : decode cX12_benches 25 = .ok (.iconst 3, 1) := by decide +kernel
theorem dX12_benches_26 : decode cX12_benches 26 = .ok (.iaload, 1) := by decide +kernel
theorem dX12_benches_27 : decode cX12_benches 27 = .ok (.istore 4, 2) := by decide +kernel
theorem dX12_benches_29 : decode cX12_benches 29 = .ok (.aload_n 0, 1) := by decide +kernel
theorem dX12_benches_30 : decode cX12_benches 30 = .ok (.iload_n 3, 1) := by decide +kernel
theorem dX12_benches_31 : decode cX12_benches 31 = .ok (.invokevirtual 106, 3) := by decide +kernel
theorem dX12_benches_34 : decode cX12_benches 34 = .ok (.ifCond .eq 11, 3) := by decide +kernel
theorem dX12_benches_37 : decode cX12_benches 37 = .ok (.aload_n 0, 1) := by decide +kernel
theorem dX12_benches_38 : decode cX12_benches 38 = .ok (.iconst 2, 1) := by decide +kernel
theorem dX12_benches_39 : decode cX12_benches 39 = .ok (.iconst 1, 1) := by decide +kernel
theorem dX12_benches_40 : decode cX12_benches 40 = .ok (.iload_n 3, 1) := by decide +kernel
theorem dX12_benches_41 : decode cX12_benches 41 = .ok (.invokevirtual 88, 3) := by decide +kernel
theorem dX12_benches_44 : decode cX12_benches 44 = .ok (.ireturn, 1) := by decide +kernel
theorem dX12_benches_45 : decode cX12_benches 45 = .ok (.aload_n 0, 1) := by decide +kernel
theorem dX12_benches_46 : decode cX12_benches 46 = .ok (.iload_n 3, 1) := by decide +kernel
theorem dX12_benches_47 : decode cX12_benches 47 = .ok (.invokevirtual 85, 3) := by decide +kernel
theorem dX12_benches_50 : decode cX12_benches 50 = .ok (.ifCond .lt 15, 3) := by decide +kernel
theorem dX12_benches_53 : decode cX12_benches 53 = .ok (.aload_n 0, 1) := by decide +kernel
theorem dX12_benches_54 : decode cX12_benches 54 = .ok (.iconst 2, 1) := by decide +kernel
theorem dX12_benches_55 : decode cX12_benches 55 = .ok (.iconst 2, 1) := by decide +kernel
theorem dX12_benches_56 : decode cX12_benches 56 = .ok (.aload_n 0, 1) := by decide +kernel
theorem dX12_benches_57 : decode cX12_benches 57 = .ok (.iload_n 3, 1) := by decide +kernel
theorem dX12_benches_58 : decode cX12_benches 58 = .ok (.invokevirtual 85, 3) := by decide +kernel
theorem dX12_benches_61 : decode cX12_benches 61 = .ok (.invokevirtual 88, 3) := by decide +kernel
theorem dX12_benches_64 : decode cX12_benches 64 = .ok (.ireturn, 1) := by decide +kernel
theorem dX12_benches_65 : decode cX12_benches 65 = .ok (.aload_n 0, 1) := by decide +kernel
theorem dX12_benches_66 : decode cX12_benches 66 = .ok (.getfield 16, 3) := by decide +kernel
theorem dX12_benches_69 : decode cX12_benches 69 = .ok (.iconst 3, 1) := by decide +kernel
theorem dX12_benches_70 : decode cX12_benches 70 = .ok (.iload_n 3, 1) := by decide +kernel
theorem dX12_benches_71 : decode cX12_benches 71 = .ok (.iastore, 1) := by decide +kernel
theorem dX12_benches_72 : decode cX12_benches 72 = .ok (.iload 4, 2) := by decide +kernel
theorem dX12_benches_74 : decode cX12_benches 74 = .ok (.ireturn, 1) := by decide +kernel
theorem dX12_setBench_0 : decode cX12_setBench 0 = .ok (.aload_n 0, 1) := by decide +kernel
theorem dX12_setBench_1 : decode cX12_setBench 1 = .ok (.invokevirtual 96, 3) := by decide +kernel
theorem dX12_setBench_4 : decode cX12_setBench 4 = .ok (.aload_n 0, 1) := by decide +kernel
theorem dX12_setBench_5 : decode cX12_setBench 5 = .ok (.aload_n 0, 1) := by decide +kernel
theorem dX12_setBench_6 : decode cX12_setBench 6 = .ok (.iload_n 1, 1) := by decide +kernel
theorem dX12_setBench_7 : decode cX12_setBench 7 = .ok (.iload_n 2, 1) := by decide +kernel
theorem dX12_setBench_8 : decode cX12_setBench 8 = .ok (.invokevirtual 110, 3) := by decide +kernel
theorem dX12_setBench_11 : decode cX12_setBench 11 = .ok (.invokevirtual 103, 3) := by decide +kernel
theorem dX12_setBench_14 : decode cX12_setBench 14 = .ok (.ireturn, 1) := by decide +kernel
theorem dX12_bits_0 : decode cX12_bits 0 = .ok (.lconst 0, 1) := by decide +kernel
theorem dX12_bits_1 : decode cX12_bits 1 = .ok (.lstore_n 2, 1) := by decide +kernel
theorem dX12_bits_2 : decode cX12_bits 2 = .ok (.iconst 0, 1) := by decide +kernel
theorem dX12_bits_3 : decode cX12_bits 3 = .ok (.istore 4, 2) := by decide +kernel
theorem dX12_bits_5 : decode cX12_bits 5 = .ok (.iload 4, 2) := by decide +kernel
theorem dX12_bits_7 : decode cX12_bits 7 = .ok (.bipush 64, 2) := by decide +kernel
theorem dX12_bits_9 : decode cX12_bits 9 = .ok (.if_icmp .ge 59, 3) := by decide +kernel
theorem dX12_bits_12 : decode cX12_bits 12 = .ok (.iload_n 1, 1) := by decide +kernel
theorem dX12_bits_13 : decode cX12_bits 13 = .ok (.ifCond .eq 25, 3) := by decide +kernel
theorem dX12_bits_16 : decode cX12_bits 16 = .ok (.bipush 8, 2) := by decide +kernel
theorem dX12_bits_18 : decode cX12_bits 18 = .ok (.iload 4, 2) := by decide +kernel
theorem dX12_bits_20 : decode cX12_bits 20 = .ok (.bipush 8, 2) := by decide +kernel
theorem dX12_bits_22 : decode cX12_bits 22 = .ok (.irem, 1) := by decide +kernel
theorem dX12_bits_23 : decode cX12_bits 23 = .ok (.imul, 1) := by decide +kernel
theorem dX12_bits_24 : decode cX12_bits 24 = .ok (.bipush 8, 2) := by decide +kernel
theorem dX12_bits_26 : decode cX12_bits 26 = .ok (.iadd, 1) := by decide +kernel
theorem dX12_bits_27 : decode cX12_bits 27 = .ok (.iconst 1, 1) := by decide +kernel
theorem dX12_bits_28 : decode cX12_bits 28 = .ok (.isub, 1) := by decide +kernel
theorem dX12_bits_29 : decode cX12_bits 29 = .ok (.iload 4, 2) := by decide +kernel
theorem dX12_bits_31 : decode cX12_bits 31 = .ok (.bipush 8, 2) := by decide +kernel
theorem dX12_bits_33 : decode cX12_bits 33 = .ok (.idiv, 1) := by decide +kernel
theorem dX12_bits_34 : decode cX12_bits 34 = .ok (.isub, 1) := by decide +kernel
theorem dX12_bits_35 : decode cX12_bits 35 = .ok (.goto 5, 3) := by decide +kernel
theorem dX12_bits_38 : decode cX12_bits 38 = .ok (.iload 4, 2) := by decide +kernel
theorem dX12_bits_40 : decode cX12_bits 40 = .ok (.istore 5, 2) := by decide +kernel
theorem dX12_bits_42 : decode cX12_bits 42 = .ok (.lload_n 2, 1) := by decide +kernel
theorem dX12_bits_43 : decode cX12_bits 43 = .ok (.aload_n 0, 1) := by decide +kernel
theorem dX12_bits_44 : decode cX12_bits 44 = .ok (.iload 4, 2) := by decide +kernel
theorem dX12_bits_46 : decode cX12_bits 46 = .ok (.invokevirtual 106, 3) := by decide +kernel
theorem dX12_bits_49 : decode cX12_bits 49 = .ok (.ifCond .eq 10, 3) := by decide +kernel
theorem dX12_bits_52 : decode cX12_bits 52 = .ok (.lconst 1, 1) := by decide +kernel
theorem dX12_bits_53 : decode cX12_bits 53 = .ok (.iload 5, 2) := by decide +kernel
theorem dX12_bits_55 : decode cX12_bits 55 = .ok (.lshl, 1) := by decide +kernel
theorem dX12_bits_56 : decode cX12_bits 56 = .ok (.goto 4, 3) := by decide +kernel
theorem dX12_bits_59 : decode cX12_bits 59 = .ok (.lconst 0, 1) := by decide +kernel
theorem dX12_bits_60 : decode cX12_bits 60 = .ok (.lor, 1) := by decide +kernel
theorem dX12_bits_61 : decode cX12_bits 61 = .ok (.lstore_n 2, 1) := by decide +kernel
theorem dX12_bits_62 : decode cX12_bits 62 = .ok (.iinc 4 1, 3) := by decide +kernel
theorem dX12_bits_65 : decode cX12_bits 65 = .ok (.goto (-60), 3) := by decide +kernel
theorem dX12_bits_68 : decode cX12_bits 68 = .ok (.lload_n 2, 1) := by decide +kernel
theorem dX12_bits_69 : decode cX12_bits 69 = .ok (.lreturn, 1) := by decide +kernel
theorem dX12_treeBits_0 : decode cX12_treeBits 0 = .ok (.aload_n 0, 1) := by decide +kernel
theorem dX12_treeBits_1 : decode cX12_treeBits 1 = .ok (.iconst 0, 1) := by decide +kernel
theorem dX12_treeBits_2 : decode cX12_treeBits 2 = .ok (.putfield 50, 3) := by decide +kernel
theorem dX12_treeBits_5 : decode cX12_treeBits 5 = .ok (.aload_n 0, 1) := by decide +kernel
theorem dX12_treeBits_6 : decode cX12_treeBits 6 = .ok (.iconst 0, 1) := by decide +kernel
theorem dX12_treeBits_7 : decode cX12_treeBits 7 = .ok (.invokevirtual 113, 3) := by decide +kernel
theorem dX12_treeBits_10 : decode cX12_treeBits 10 = .ok (.lreturn, 1) := by decide +kernel
theorem dX12_turnedTrees_0 : decode cX12_turnedTrees 0 = .ok (.aload_n 0, 1) := by decide +kernel
theorem dX12_turnedTrees_1 : decode cX12_turnedTrees 1 = .ok (.iconst 0, 1) := by decide +kernel
theorem dX12_turnedTrees_2 : decode cX12_turnedTrees 2 = .ok (.putfield 50, 3) := by decide +kernel
theorem dX12_turnedTrees_5 : decode cX12_turnedTrees 5 = .ok (.aload_n 0, 1) := by decide +kernel
theorem dX12_turnedTrees_6 : decode cX12_turnedTrees 6 = .ok (.iconst 1, 1) := by decide +kernel
theorem dX12_turnedTrees_7 : decode cX12_turnedTrees 7 = .ok (.invokevirtual 113, 3) := by decide +kernel
theorem dX12_turnedTrees_10 : decode cX12_turnedTrees 10 = .ok (.lreturn, 1) := by decide +kernel
theorem dX12_turnedTreesByCells_0 : decode cX12_turnedTreesByCells 0 = .ok (.aload_n 0, 1) := by decide +kernel
theorem dX12_turnedTreesByCells_1 : decode cX12_turnedTreesByCells 1 = .ok (.invokevirtual 117, 3) := by decide +kernel
theorem dX12_turnedTreesByCells_4 : decode cX12_turnedTreesByCells 4 = .ok (.lreturn, 1) := by decide +kernel
theorem dX12_reach_0 : decode cX12_reach 0 = .ok (.aload_n 0, 1) := by decide +kernel
theorem dX12_reach_1 : decode cX12_reach 1 = .ok (.iload_n 1, 1) := by decide +kernel
theorem dX12_reach_2 : decode cX12_reach 2 = .ok (.iload_n 2, 1) := by decide +kernel
theorem dX12_reach_3 : decode cX12_reach 3 = .ok (.invokestatic 81, 3) := by decide +kernel
theorem dX12_reach_6 : decode cX12_reach 6 = .ok (.ifCond .eq 7, 3) := by decide +kernel
theorem dX12_reach_9 : decode cX12_reach 9 = .ok (.iconst 0, 1) := by decide +kernel
theorem dX12_reach_10 : decode cX12_reach 10 = .ok (.goto 4, 3) := by decide +kernel
theorem dX12_reach_13 : decode cX12_reach 13 = .ok (.iconst 1, 1) := by decide +kernel
theorem dX12_reach_14 : decode cX12_reach 14 = .ok (.putfield 50, 3) := by decide +kernel
theorem dX12_reach_17 : decode cX12_reach 17 = .ok (.aload_n 0, 1) := by decide +kernel
theorem dX12_reach_18 : decode cX12_reach 18 = .ok (.getfield 50, 3) := by decide +kernel
theorem dX12_reach_21 : decode cX12_reach 21 = .ok (.ifCond .ne 16, 3) := by decide +kernel
theorem dX12_reach_24 : decode cX12_reach 24 = .ok (.aload_n 0, 1) := by decide +kernel
theorem dX12_reach_25 : decode cX12_reach 25 = .ok (.bipush 8, 2) := by decide +kernel
theorem dX12_reach_27 : decode cX12_reach 27 = .ok (.iload_n 2, 1) := by decide +kernel
theorem dX12_reach_28 : decode cX12_reach 28 = .ok (.imul, 1) := by decide +kernel
theorem dX12_reach_29 : decode cX12_reach 29 = .ok (.iload_n 1, 1) := by decide +kernel
theorem dX12_reach_30 : decode cX12_reach 30 = .ok (.iadd, 1) := by decide +kernel
theorem dX12_reach_31 : decode cX12_reach 31 = .ok (.invokevirtual 106, 3) := by decide +kernel
theorem dX12_reach_34 : decode cX12_reach 34 = .ok (.ifCond .eq 5, 3) := by decide +kernel
theorem dX12_reach_37 : decode cX12_reach 37 = .ok (.lconst 0, 1) := by decide +kernel
theorem dX12_reach_38 : decode cX12_reach 38 = .ok (.lreturn, 1) := by decide +kernel
theorem dX12_reach_39 : decode cX12_reach 39 = .ok (.iconst 0, 1) := by decide +kernel
theorem dX12_reach_40 : decode cX12_reach 40 = .ok (.istore_n 3, 1) := by decide +kernel
theorem dX12_reach_41 : decode cX12_reach 41 = .ok (.iload_n 3, 1) := by decide +kernel
theorem dX12_reach_42 : decode cX12_reach 42 = .ok (.bipush 64, 2) := by decide +kernel
theorem dX12_reach_44 : decode cX12_reach 44 = .ok (.if_icmp .ge 30, 3) := by decide +kernel
theorem dX12_reach_47 : decode cX12_reach 47 = .ok (.aload_n 0, 1) := by decide +kernel
theorem dX12_reach_48 : decode cX12_reach 48 = .ok (.getfield 32, 3) := by decide +kernel
theorem dX12_reach_51 : decode cX12_reach 51 = .ok (.iload_n 3, 1) := by decide +kernel
theorem dX12_reach_52 : decode cX12_reach 52 = .ok (.iload_n 3, 1) := by decide +kernel
theorem dX12_reach_53 : decode cX12_reach 53 = .ok (.bipush 8, 2) := by decide +kernel
theorem dX12_reach_55 : decode cX12_reach 55 = .ok (.iload_n 2, 1) := by decide +kernel
theorem dX12_reach_56 : decode cX12_reach 56 = .ok (.imul, 1) := by decide +kernel
theorem dX12_reach_57 : decode cX12_reach 57 = .ok (.iload_n 1, 1) := by decide +kernel
theorem dX12_reach_58 : decode cX12_reach 58 = .ok (.iadd, 1) := by decide +kernel
theorem dX12_reach_59 : decode cX12_reach 59 = .ok (.if_icmp .ne 7, 3) := by decide +kernel
theorem dX12_reach_62 : decode cX12_reach 62 = .ok (.iconst 1, 1) := by decide +kernel
theorem dX12_reach_63 : decode cX12_reach 63 = .ok (.goto 4, 3) := by decide +kernel
theorem dX12_reach_66 : decode cX12_reach 66 = .ok (.iconst 0, 1) := by decide +kernel
theorem dX12_reach_67 : decode cX12_reach 67 = .ok (.iastore, 1) := by decide +kernel
theorem dX12_reach_68 : decode cX12_reach 68 = .ok (.iinc 3 1, 3) := by decide +kernel
theorem dX12_reach_71 : decode cX12_reach 71 = .ok (.goto (-30), 3) := by decide +kernel
theorem dX12_reach_74 : decode cX12_reach 74 = .ok (.iconst 1, 1) := by decide +kernel
theorem dX12_reach_75 : decode cX12_reach 75 = .ok (.istore_n 3, 1) := by decide +kernel
theorem dX12_reach_76 : decode cX12_reach 76 = .ok (.iload_n 3, 1) := by decide +kernel
theorem dX12_reach_77 : decode cX12_reach 77 = .ok (.ifCond .eq 93, 3) := by decide +kernel
theorem dX12_reach_80 : decode cX12_reach 80 = .ok (.iconst 0, 1) := by decide +kernel
theorem dX12_reach_81 : decode cX12_reach 81 = .ok (.istore_n 3, 1) := by decide +kernel
theorem dX12_reach_82 : decode cX12_reach 82 = .ok (.iconst 0, 1) := by decide +kernel
theorem dX12_reach_83 : decode cX12_reach 83 = .ok (.istore 4, 2) := by decide +kernel
theorem dX12_reach_85 : decode cX12_reach 85 = .ok (.iload 4, 2) := by decide +kernel
theorem dX12_reach_87 : decode cX12_reach 87 = .ok (.bipush 64, 2) := by decide +kernel
theorem dX12_reach_89 : decode cX12_reach 89 = .ok (.if_icmp .ge 78, 3) := by decide +kernel
theorem dX12_reach_92 : decode cX12_reach 92 = .ok (.iconst 0, 1) := by decide +kernel
theorem dX12_reach_93 : decode cX12_reach 93 = .ok (.istore 5, 2) := by decide +kernel
theorem dX12_reach_95 : decode cX12_reach 95 = .ok (.iload 5, 2) := by decide +kernel
theorem dX12_reach_97 : decode cX12_reach 97 = .ok (.bipush 8, 2) := by decide +kernel
theorem dX12_reach_99 : decode cX12_reach 99 = .ok (.if_icmp .ge 62, 3) := by decide +kernel
theorem dX12_reach_102 : decode cX12_reach 102 = .ok (.aload_n 0, 1) := by decide +kernel
theorem dX12_reach_103 : decode cX12_reach 103 = .ok (.getfield 32, 3) := by decide +kernel
theorem dX12_reach_106 : decode cX12_reach 106 = .ok (.iload 4, 2) := by decide +kernel
theorem dX12_reach_108 : decode cX12_reach 108 = .ok (.iaload, 1) := by decide +kernel
theorem dX12_reach_109 : decode cX12_reach 109 = .ok (.iconst 1, 1) := by decide +kernel
theorem dX12_reach_110 : decode cX12_reach 110 = .ok (.if_icmp .ne 51, 3) := by decide +kernel
theorem dX12_reach_113 : decode cX12_reach 113 = .ok (.iload 4, 2) := by decide +kernel
theorem dX12_reach_115 : decode cX12_reach 115 = .ok (.iload 5, 2) := by decide +kernel
theorem dX12_reach_117 : decode cX12_reach 117 = .ok (.invokestatic 121, 3) := by decide +kernel
theorem dX12_reach_120 : decode cX12_reach 120 = .ok (.istore 6, 2) := by decide +kernel
theorem dX12_reach_122 : decode cX12_reach 122 = .ok (.aload_n 0, 1) := by decide +kernel
theorem dX12_reach_123 : decode cX12_reach 123 = .ok (.getfield 32, 3) := by decide +kernel
theorem dX12_reach_126 : decode cX12_reach 126 = .ok (.iload 6, 2) := by decide +kernel
theorem dX12_reach_128 : decode cX12_reach 128 = .ok (.iaload, 1) := by decide +kernel
theorem dX12_reach_129 : decode cX12_reach 129 = .ok (.iconst 1, 1) := by decide +kernel
theorem dX12_reach_130 : decode cX12_reach 130 = .ok (.if_icmp .eq 25, 3) := by decide +kernel
theorem dX12_reach_133 : decode cX12_reach 133 = .ok (.aload_n 0, 1) := by decide +kernel
theorem dX12_reach_134 : decode cX12_reach 134 = .ok (.iload 6, 2) := by decide +kernel
theorem dX12_reach_136 : decode cX12_reach 136 = .ok (.invokevirtual 106, 3) := by decide +kernel
theorem dX12_reach_139 : decode cX12_reach 139 = .ok (.ifCond .eq 6, 3) := by decide +kernel
theorem dX12_reach_142 : decode cX12_reach 142 = .ok (.goto 13, 3) := by decide +kernel
theorem dX12_reach_145 : decode cX12_reach 145 = .ok (.aload_n 0, 1) := by decide +kernel
theorem dX12_reach_146 : decode cX12_reach 146 = .ok (.getfield 32, 3) := by decide +kernel
theorem dX12_reach_149 : decode cX12_reach 149 = .ok (.iload 6, 2) := by decide +kernel
theorem dX12_reach_151 : decode cX12_reach 151 = .ok (.iconst 1, 1) := by decide +kernel
theorem dX12_reach_152 : decode cX12_reach 152 = .ok (.iastore, 1) := by decide +kernel
theorem dX12_reach_153 : decode cX12_reach 153 = .ok (.iconst 1, 1) := by decide +kernel
theorem dX12_reach_154 : decode cX12_reach 154 = .ok (.istore_n 3, 1) := by decide +kernel
theorem dX12_reach_155 : decode cX12_reach 155 = .ok (.iinc 5 2, 3) := by decide +kernel
theorem dX12_reach_158 : decode cX12_reach 158 = .ok (.goto (-63), 3) := by decide +kernel
theorem dX12_reach_161 : decode cX12_reach 161 = .ok (.iinc 4 1, 3) := by decide +kernel
theorem dX12_reach_164 : decode cX12_reach 164 = .ok (.goto (-79), 3) := by decide +kernel
theorem dX12_reach_167 : decode cX12_reach 167 = .ok (.goto (-91), 3) := by decide +kernel
theorem dX12_reach_170 : decode cX12_reach 170 = .ok (.lconst 0, 1) := by decide +kernel
theorem dX12_reach_171 : decode cX12_reach 171 = .ok (.lstore 4, 2) := by decide +kernel
theorem dX12_reach_173 : decode cX12_reach 173 = .ok (.iconst 0, 1) := by decide +kernel
theorem dX12_reach_174 : decode cX12_reach 174 = .ok (.istore 6, 2) := by decide +kernel
theorem dX12_reach_176 : decode cX12_reach 176 = .ok (.iload 6, 2) := by decide +kernel
theorem dX12_reach_178 : decode cX12_reach 178 = .ok (.bipush 64, 2) := by decide +kernel
theorem dX12_reach_180 : decode cX12_reach 180 = .ok (.if_icmp .ge 33, 3) := by decide +kernel
theorem dX12_reach_183 : decode cX12_reach 183 = .ok (.lload 4, 2) := by decide +kernel
theorem dX12_reach_185 : decode cX12_reach 185 = .ok (.aload_n 0, 1) := by decide +kernel
theorem dX12_reach_186 : decode cX12_reach 186 = .ok (.getfield 32, 3) := by decide +kernel
theorem dX12_reach_189 : decode cX12_reach 189 = .ok (.iload 6, 2) := by decide +kernel
theorem dX12_reach_191 : decode cX12_reach 191 = .ok (.iaload, 1) := by decide +kernel
theorem dX12_reach_192 : decode cX12_reach 192 = .ok (.iconst 1, 1) := by decide +kernel
theorem dX12_reach_193 : decode cX12_reach 193 = .ok (.if_icmp .ne 10, 3) := by decide +kernel
theorem dX12_reach_196 : decode cX12_reach 196 = .ok (.lconst 1, 1) := by decide +kernel
theorem dX12_reach_197 : decode cX12_reach 197 = .ok (.iload 6, 2) := by decide +kernel
theorem dX12_reach_199 : decode cX12_reach 199 = .ok (.lshl, 1) := by decide +kernel
theorem dX12_reach_200 : decode cX12_reach 200 = .ok (.goto 4, 3) := by decide +kernel
theorem dX12_reach_203 : decode cX12_reach 203 = .ok (.lconst 0, 1) := by decide +kernel
theorem dX12_reach_204 : decode cX12_reach 204 = .ok (.lor, 1) := by decide +kernel
theorem dX12_reach_205 : decode cX12_reach 205 = .ok (.lstore 4, 2) := by decide +kernel
theorem dX12_reach_207 : decode cX12_reach 207 = .ok (.iinc 6 1, 3) := by decide +kernel
theorem dX12_reach_210 : decode cX12_reach 210 = .ok (.goto (-34), 3) := by decide +kernel
theorem dX12_reach_213 : decode cX12_reach 213 = .ok (.lload 4, 2) := by decide +kernel
theorem dX12_reach_215 : decode cX12_reach 215 = .ok (.lreturn, 1) := by decide +kernel
theorem dX12_reachByQueue_0 : decode cX12_reachByQueue 0 = .ok (.aload_n 0, 1) := by decide +kernel
theorem dX12_reachByQueue_1 : decode cX12_reachByQueue 1 = .ok (.iload_n 1, 1) := by decide +kernel
theorem dX12_reachByQueue_2 : decode cX12_reachByQueue 2 = .ok (.iload_n 2, 1) := by decide +kernel
theorem dX12_reachByQueue_3 : decode cX12_reachByQueue 3 = .ok (.invokevirtual 124, 3) := by decide +kernel
theorem dX12_reachByQueue_6 : decode cX12_reachByQueue 6 = .ok (.lreturn, 1) := by decide +kernel
theorem dX12_blows_0 : decode cX12_blows 0 = .ok (.iload_n 1, 1) := by decide +kernel
theorem dX12_blows_1 : decode cX12_blows 1 = .ok (.iconst 0, 1) := by decide +kernel
theorem dX12_blows_2 : decode cX12_blows 2 = .ok (.bipush 7, 2) := by decide +kernel
theorem dX12_blows_4 : decode cX12_blows 4 = .ok (.invokestatic 70, 3) := by decide +kernel
theorem dX12_blows_7 : decode cX12_blows 7 = .ok (.ifCond .eq 12, 3) := by decide +kernel
theorem dX12_blows_10 : decode cX12_blows 10 = .ok (.iload_n 2, 1) := by decide +kernel
theorem dX12_blows_11 : decode cX12_blows 11 = .ok (.iconst 0, 1) := by decide +kernel
theorem dX12_blows_12 : decode cX12_blows 12 = .ok (.iconst 3, 1) := by decide +kernel
theorem dX12_blows_13 : decode cX12_blows 13 = .ok (.invokestatic 70, 3) := by decide +kernel
theorem dX12_blows_16 : decode cX12_blows 16 = .ok (.ifCond .ne 9, 3) := by decide +kernel
theorem dX12_blows_19 : decode cX12_blows 19 = .ok (.aload_n 0, 1) := by decide +kernel
theorem dX12_blows_20 : decode cX12_blows 20 = .ok (.iconst 1, 1) := by decide +kernel
theorem dX12_blows_21 : decode cX12_blows 21 = .ok (.invokevirtual 59, 3) := by decide +kernel
theorem dX12_blows_24 : decode cX12_blows 24 = .ok (.ireturn, 1) := by decide +kernel
theorem dX12_blows_25 : decode cX12_blows 25 = .ok (.bipush 10, 2) := by decide +kernel
theorem dX12_blows_27 : decode cX12_blows 27 = .ok (.aload_n 0, 1) := by decide +kernel
theorem dX12_blows_28 : decode cX12_blows 28 = .ok (.getfield 16, 3) := by decide +kernel
theorem dX12_blows_31 : decode cX12_blows 31 = .ok (.iconst 4, 1) := by decide +kernel
theorem dX12_blows_32 : decode cX12_blows 32 = .ok (.iaload, 1) := by decide +kernel
theorem dX12_blows_33 : decode cX12_blows 33 = .ok (.imul, 1) := by decide +kernel
theorem dX12_blows_34 : decode cX12_blows 34 = .ok (.aload_n 0, 1) := by decide +kernel
theorem dX12_blows_35 : decode cX12_blows 35 = .ok (.getfield 16, 3) := by decide +kernel
theorem dX12_blows_38 : decode cX12_blows 38 = .ok (.iconst 5, 1) := by decide +kernel
theorem dX12_blows_39 : decode cX12_blows 39 = .ok (.iaload, 1) := by decide +kernel
theorem dX12_blows_40 : decode cX12_blows 40 = .ok (.iadd, 1) := by decide +kernel
theorem dX12_blows_41 : decode cX12_blows 41 = .ok (.istore_n 3, 1) := by decide +kernel
theorem dX12_blows_42 : decode cX12_blows 42 = .ok (.aload_n 0, 1) := by decide +kernel
theorem dX12_blows_43 : decode cX12_blows 43 = .ok (.getfield 16, 3) := by decide +kernel
theorem dX12_blows_46 : decode cX12_blows 46 = .ok (.iconst 4, 1) := by decide +kernel
theorem dX12_blows_47 : decode cX12_blows 47 = .ok (.iload_n 1, 1) := by decide +kernel
theorem dX12_blows_48 : decode cX12_blows 48 = .ok (.iastore, 1) := by decide +kernel
theorem dX12_blows_49 : decode cX12_blows 49 = .ok (.aload_n 0, 1) := by decide +kernel
theorem dX12_blows_50 : decode cX12_blows 50 = .ok (.getfield 16, 3) := by decide +kernel
theorem dX12_blows_53 : decode cX12_blows 53 = .ok (.iconst 5, 1) := by decide +kernel
theorem dX12_blows_54 : decode cX12_blows 54 = .ok (.iload_n 2, 1) := by decide +kernel
theorem dX12_blows_55 : decode cX12_blows 55 = .ok (.iastore, 1) := by decide +kernel
theorem dX12_blows_56 : decode cX12_blows 56 = .ok (.iload_n 3, 1) := by decide +kernel
theorem dX12_blows_57 : decode cX12_blows 57 = .ok (.ireturn, 1) := by decide +kernel
theorem dX12_setWind_0 : decode cX12_setWind 0 = .ok (.aload_n 0, 1) := by decide +kernel
theorem dX12_setWind_1 : decode cX12_setWind 1 = .ok (.invokevirtual 96, 3) := by decide +kernel
theorem dX12_setWind_4 : decode cX12_setWind 4 = .ok (.aload_n 0, 1) := by decide +kernel
theorem dX12_setWind_5 : decode cX12_setWind 5 = .ok (.aload_n 0, 1) := by decide +kernel
theorem dX12_setWind_6 : decode cX12_setWind 6 = .ok (.iload_n 1, 1) := by decide +kernel
theorem dX12_setWind_7 : decode cX12_setWind 7 = .ok (.iload_n 2, 1) := by decide +kernel
theorem dX12_setWind_8 : decode cX12_setWind 8 = .ok (.invokevirtual 128, 3) := by decide +kernel
theorem dX12_setWind_11 : decode cX12_setWind 11 = .ok (.invokevirtual 103, 3) := by decide +kernel
theorem dX12_setWind_14 : decode cX12_setWind 14 = .ok (.ireturn, 1) := by decide +kernel
theorem dX12_tells_0 : decode cX12_tells 0 = .ok (.aload_n 0, 1) := by decide +kernel
theorem dX12_tells_1 : decode cX12_tells 1 = .ok (.iconst 0, 1) := by decide +kernel
theorem dX12_tells_2 : decode cX12_tells 2 = .ok (.putfield 50, 3) := by decide +kernel
theorem dX12_tells_5 : decode cX12_tells 5 = .ok (.aload_n 0, 1) := by decide +kernel
theorem dX12_tells_6 : decode cX12_tells 6 = .ok (.getfield 16, 3) := by decide +kernel
theorem dX12_tells_9 : decode cX12_tells 9 = .ok (.iload_n 1, 1) := by decide +kernel
theorem dX12_tells_10 : decode cX12_tells 10 = .ok (.iaload, 1) := by decide +kernel
theorem dX12_tells_11 : decode cX12_tells 11 = .ok (.ireturn, 1) := by decide +kernel
theorem dX12_bench_0 : decode cX12_bench 0 = .ok (.aload_n 0, 1) := by decide +kernel
theorem dX12_bench_1 : decode cX12_bench 1 = .ok (.iconst 3, 1) := by decide +kernel
theorem dX12_bench_2 : decode cX12_bench 2 = .ok (.invokevirtual 131, 3) := by decide +kernel
theorem dX12_bench_5 : decode cX12_bench 5 = .ok (.ireturn, 1) := by decide +kernel
theorem dX12_mayStand_0 : decode cX12_mayStand 0 = .ok (.aload_n 0, 1) := by decide +kernel
theorem dX12_mayStand_1 : decode cX12_mayStand 1 = .ok (.aload_n 0, 1) := by decide +kernel
theorem dX12_mayStand_2 : decode cX12_mayStand 2 = .ok (.iload_n 1, 1) := by decide +kernel
theorem dX12_mayStand_3 : decode cX12_mayStand 3 = .ok (.invokevirtual 106, 3) := by decide +kernel
theorem dX12_mayStand_6 : decode cX12_mayStand 6 = .ok (.ifCond .ne 30, 3) := by decide +kernel
theorem dX12_mayStand_9 : decode cX12_mayStand 9 = .ok (.aload_n 0, 1) := by decide +kernel
theorem dX12_mayStand_10 : decode cX12_mayStand 10 = .ok (.iload_n 1, 1) := by decide +kernel
theorem dX12_mayStand_11 : decode cX12_mayStand 11 = .ok (.invokevirtual 85, 3) := by decide +kernel
theorem dX12_mayStand_14 : decode cX12_mayStand 14 = .ok (.ifCond .lt 12, 3) := by decide +kernel
theorem dX12_mayStand_17 : decode cX12_mayStand 17 = .ok (.aload_n 0, 1) := by decide +kernel
theorem dX12_mayStand_18 : decode cX12_mayStand 18 = .ok (.iload_n 1, 1) := by decide +kernel
theorem dX12_mayStand_19 : decode cX12_mayStand 19 = .ok (.invokevirtual 85, 3) := by decide +kernel
theorem dX12_mayStand_22 : decode cX12_mayStand 22 = .ok (.iload_n 2, 1) := by decide +kernel
theorem dX12_mayStand_23 : decode cX12_mayStand 23 = .ok (.if_icmp .ne 13, 3) := by decide +kernel
theorem dX12_mayStand_26 : decode cX12_mayStand 26 = .ok (.aload_n 0, 1) := by decide +kernel
theorem dX12_mayStand_27 : decode cX12_mayStand 27 = .ok (.getfield 16, 3) := by decide +kernel
theorem dX12_mayStand_30 : decode cX12_mayStand 30 = .ok (.iconst 3, 1) := by decide +kernel
theorem dX12_mayStand_31 : decode cX12_mayStand 31 = .ok (.iaload, 1) := by decide +kernel
theorem dX12_mayStand_32 : decode cX12_mayStand 32 = .ok (.iload_n 1, 1) := by decide +kernel
theorem dX12_mayStand_33 : decode cX12_mayStand 33 = .ok (.if_icmp .ne 7, 3) := by decide +kernel
theorem dX12_mayStand_36 : decode cX12_mayStand 36 = .ok (.iload_n 3, 1) := by decide +kernel
theorem dX12_mayStand_37 : decode cX12_mayStand 37 = .ok (.goto 4, 3) := by decide +kernel
theorem dX12_mayStand_40 : decode cX12_mayStand 40 = .ok (.iconst 0, 1) := by decide +kernel
theorem dX12_mayStand_41 : decode cX12_mayStand 41 = .ok (.putfield 50, 3) := by decide +kernel
theorem dX12_mayStand_44 : decode cX12_mayStand 44 = .ok (.aload_n 0, 1) := by decide +kernel
theorem dX12_mayStand_45 : decode cX12_mayStand 45 = .ok (.getfield 50, 3) := by decide +kernel
theorem dX12_mayStand_48 : decode cX12_mayStand 48 = .ok (.ifCond .ne 5, 3) := by decide +kernel
theorem dX12_mayStand_51 : decode cX12_mayStand 51 = .ok (.iconst 1, 1) := by decide +kernel
theorem dX12_mayStand_52 : decode cX12_mayStand 52 = .ok (.ireturn, 1) := by decide +kernel
theorem dX12_mayStand_53 : decode cX12_mayStand 53 = .ok (.aload_n 0, 1) := by decide +kernel
theorem dX12_mayStand_54 : decode cX12_mayStand 54 = .ok (.iload_n 1, 1) := by decide +kernel
theorem dX12_mayStand_55 : decode cX12_mayStand 55 = .ok (.invokevirtual 85, 3) := by decide +kernel
theorem dX12_mayStand_58 : decode cX12_mayStand 58 = .ok (.ifCond .lt 16, 3) := by decide +kernel
theorem dX12_mayStand_61 : decode cX12_mayStand 61 = .ok (.aload_n 0, 1) := by decide +kernel
theorem dX12_mayStand_62 : decode cX12_mayStand 62 = .ok (.iload_n 1, 1) := by decide +kernel
theorem dX12_mayStand_63 : decode cX12_mayStand 63 = .ok (.invokevirtual 85, 3) := by decide +kernel
theorem dX12_mayStand_66 : decode cX12_mayStand 66 = .ok (.iload_n 2, 1) := by decide +kernel
theorem dX12_mayStand_67 : decode cX12_mayStand 67 = .ok (.if_icmp .eq 7, 3) := by decide +kernel
theorem dX12_mayStand_70 : decode cX12_mayStand 70 = .ok (.iconst 1, 1) := by decide +kernel
theorem dX12_mayStand_71 : decode cX12_mayStand 71 = .ok (.goto 4, 3) := by decide +kernel
theorem dX12_mayStand_74 : decode cX12_mayStand 74 = .ok (.iconst 0, 1) := by decide +kernel
theorem dX12_mayStand_75 : decode cX12_mayStand 75 = .ok (.istore 4, 2) := by decide +kernel
theorem dX12_mayStand_77 : decode cX12_mayStand 77 = .ok (.aload_n 0, 1) := by decide +kernel
theorem dX12_mayStand_78 : decode cX12_mayStand 78 = .ok (.iload_n 3, 1) := by decide +kernel
theorem dX12_mayStand_79 : decode cX12_mayStand 79 = .ok (.aload_n 0, 1) := by decide +kernel
theorem dX12_mayStand_80 : decode cX12_mayStand 80 = .ok (.iload_n 1, 1) := by decide +kernel
theorem dX12_mayStand_81 : decode cX12_mayStand 81 = .ok (.invokevirtual 106, 3) := by decide +kernel
theorem dX12_mayStand_84 : decode cX12_mayStand 84 = .ok (.ifCond .eq 7, 3) := by decide +kernel
theorem dX12_mayStand_87 : decode cX12_mayStand 87 = .ok (.iconst 1, 1) := by decide +kernel
theorem dX12_mayStand_88 : decode cX12_mayStand 88 = .ok (.goto 13, 3) := by decide +kernel
theorem dX12_mayStand_91 : decode cX12_mayStand 91 = .ok (.iload 4, 2) := by decide +kernel
theorem dX12_mayStand_93 : decode cX12_mayStand 93 = .ok (.ifCond .eq 7, 3) := by decide +kernel
theorem dX12_mayStand_96 : decode cX12_mayStand 96 = .ok (.iconst 2, 1) := by decide +kernel
theorem dX12_mayStand_97 : decode cX12_mayStand 97 = .ok (.goto 4, 3) := by decide +kernel
theorem dX12_mayStand_100 : decode cX12_mayStand 100 = .ok (.iconst 3, 1) := by decide +kernel
theorem dX12_mayStand_101 : decode cX12_mayStand 101 = .ok (.aload_n 0, 1) := by decide +kernel
theorem dX12_mayStand_102 : decode cX12_mayStand 102 = .ok (.iload_n 1, 1) := by decide +kernel
theorem dX12_mayStand_103 : decode cX12_mayStand 103 = .ok (.invokevirtual 106, 3) := by decide +kernel
theorem dX12_mayStand_106 : decode cX12_mayStand 106 = .ok (.ifCond .ne 16, 3) := by decide +kernel
theorem dX12_mayStand_109 : decode cX12_mayStand 109 = .ok (.iload 4, 2) := by decide +kernel
theorem dX12_mayStand_111 : decode cX12_mayStand 111 = .ok (.ifCond .eq 11, 3) := by decide +kernel
theorem dX12_mayStand_114 : decode cX12_mayStand 114 = .ok (.aload_n 0, 1) := by decide +kernel
theorem dX12_mayStand_115 : decode cX12_mayStand 115 = .ok (.iload_n 1, 1) := by decide +kernel
theorem dX12_mayStand_116 : decode cX12_mayStand 116 = .ok (.invokevirtual 85, 3) := by decide +kernel
theorem dX12_mayStand_119 : decode cX12_mayStand 119 = .ok (.goto 4, 3) := by decide +kernel
theorem dX12_mayStand_122 : decode cX12_mayStand 122 = .ok (.iload_n 1, 1) := by decide +kernel
theorem dX12_mayStand_123 : decode cX12_mayStand 123 = .ok (.invokevirtual 88, 3) := by decide +kernel
theorem dX12_mayStand_126 : decode cX12_mayStand 126 = .ok (.istore 5, 2) := by decide +kernel
theorem dX12_mayStand_128 : decode cX12_mayStand 128 = .ok (.iconst 0, 1) := by decide +kernel
theorem dX12_mayStand_129 : decode cX12_mayStand 129 = .ok (.ireturn, 1) := by decide +kernel
theorem dX12_adds_0 : decode cX12_adds 0 = .ok (.iload_n 1, 1) := by decide +kernel
theorem dX12_adds_1 : decode cX12_adds 1 = .ok (.iload_n 2, 1) := by decide +kernel
theorem dX12_adds_2 : decode cX12_adds 2 = .ok (.invokestatic 81, 3) := by decide +kernel
theorem dX12_adds_5 : decode cX12_adds 5 = .ok (.ifCond .ne 9, 3) := by decide +kernel
theorem dX12_adds_8 : decode cX12_adds 8 = .ok (.aload_n 0, 1) := by decide +kernel
theorem dX12_adds_9 : decode cX12_adds 9 = .ok (.iconst 1, 1) := by decide +kernel
theorem dX12_adds_10 : decode cX12_adds 10 = .ok (.invokevirtual 59, 3) := by decide +kernel
theorem dX12_adds_13 : decode cX12_adds 13 = .ok (.ireturn, 1) := by decide +kernel
theorem dX12_adds_14 : decode cX12_adds 14 = .ok (.aload_n 0, 1) := by decide +kernel
theorem dX12_adds_15 : decode cX12_adds 15 = .ok (.getfield 16, 3) := by decide +kernel
theorem dX12_adds_18 : decode cX12_adds 18 = .ok (.bipush 6, 2) := by decide +kernel
theorem dX12_adds_20 : decode cX12_adds 20 = .ok (.iaload, 1) := by decide +kernel
theorem dX12_adds_21 : decode cX12_adds 21 = .ok (.istore_n 3, 1) := by decide +kernel
theorem dX12_adds_22 : decode cX12_adds 22 = .ok (.iload_n 3, 1) := by decide +kernel
theorem dX12_adds_23 : decode cX12_adds 23 = .ok (.bipush 8, 2) := by decide +kernel
theorem dX12_adds_25 : decode cX12_adds 25 = .ok (.if_icmp .ne 9, 3) := by decide +kernel
theorem dX12_adds_28 : decode cX12_adds 28 = .ok (.aload_n 0, 1) := by decide +kernel
theorem dX12_adds_29 : decode cX12_adds 29 = .ok (.iconst 2, 1) := by decide +kernel
theorem dX12_adds_30 : decode cX12_adds 30 = .ok (.invokevirtual 59, 3) := by decide +kernel
theorem dX12_adds_33 : decode cX12_adds 33 = .ok (.ireturn, 1) := by decide +kernel
theorem dX12_adds_34 : decode cX12_adds 34 = .ok (.aload_n 0, 1) := by decide +kernel
theorem dX12_adds_35 : decode cX12_adds 35 = .ok (.bipush 8, 2) := by decide +kernel
theorem dX12_adds_37 : decode cX12_adds 37 = .ok (.iload_n 2, 1) := by decide +kernel
theorem dX12_adds_38 : decode cX12_adds 38 = .ok (.imul, 1) := by decide +kernel
theorem dX12_adds_39 : decode cX12_adds 39 = .ok (.iload_n 1, 1) := by decide +kernel
theorem dX12_adds_40 : decode cX12_adds 40 = .ok (.iadd, 1) := by decide +kernel
theorem dX12_adds_41 : decode cX12_adds 41 = .ok (.iconst (-1), 1) := by decide +kernel
theorem dX12_adds_42 : decode cX12_adds 42 = .ok (.iconst 3, 1) := by decide +kernel
theorem dX12_adds_43 : decode cX12_adds 43 = .ok (.invokevirtual 134, 3) := by decide +kernel
theorem dX12_adds_46 : decode cX12_adds 46 = .ok (.ifCond .ne 5, 3) := by decide +kernel
theorem dX12_adds_49 : decode cX12_adds 49 = .ok (.iconst 0, 1) := by decide +kernel
theorem dX12_adds_50 : decode cX12_adds 50 = .ok (.ireturn, 1) := by decide +kernel
theorem dX12_adds_51 : decode cX12_adds 51 = .ok (.aload_n 0, 1) := by decide +kernel
theorem dX12_adds_52 : decode cX12_adds 52 = .ok (.getfield 16, 3) := by decide +kernel
theorem dX12_adds_55 : decode cX12_adds 55 = .ok (.bipush 76, 2) := by decide +kernel
theorem dX12_adds_57 : decode cX12_adds 57 = .ok (.iconst 2, 1) := by decide +kernel
theorem dX12_adds_58 : decode cX12_adds 58 = .ok (.iload_n 3, 1) := by decide +kernel
theorem dX12_adds_59 : decode cX12_adds 59 = .ok (.imul, 1) := by decide +kernel
theorem dX12_adds_60 : decode cX12_adds 60 = .ok (.iadd, 1) := by decide +kernel
theorem dX12_adds_61 : decode cX12_adds 61 = .ok (.bipush 8, 2) := by decide +kernel
theorem dX12_adds_63 : decode cX12_adds 63 = .ok (.iload_n 2, 1) := by decide +kernel
theorem dX12_adds_64 : decode cX12_adds 64 = .ok (.imul, 1) := by decide +kernel
theorem dX12_adds_65 : decode cX12_adds 65 = .ok (.iload_n 1, 1) := by decide +kernel
theorem dX12_adds_66 : decode cX12_adds 66 = .ok (.iadd, 1) := by decide +kernel
theorem dX12_adds_67 : decode cX12_adds 67 = .ok (.iastore, 1) := by decide +kernel
theorem dX12_adds_68 : decode cX12_adds 68 = .ok (.aload_n 0, 1) := by decide +kernel
theorem dX12_adds_69 : decode cX12_adds 69 = .ok (.getfield 16, 3) := by decide +kernel
theorem dX12_adds_72 : decode cX12_adds 72 = .ok (.bipush 76, 2) := by decide +kernel
theorem dX12_adds_74 : decode cX12_adds 74 = .ok (.iconst 2, 1) := by decide +kernel
theorem dX12_adds_75 : decode cX12_adds 75 = .ok (.iload_n 3, 1) := by decide +kernel
theorem dX12_adds_76 : decode cX12_adds 76 = .ok (.imul, 1) := by decide +kernel
theorem dX12_adds_77 : decode cX12_adds 77 = .ok (.iadd, 1) := by decide +kernel
theorem dX12_adds_78 : decode cX12_adds 78 = .ok (.iconst 1, 1) := by decide +kernel
theorem dX12_adds_79 : decode cX12_adds 79 = .ok (.iadd, 1) := by decide +kernel
theorem dX12_adds_80 : decode cX12_adds 80 = .ok (.iconst 0, 1) := by decide +kernel
theorem dX12_adds_81 : decode cX12_adds 81 = .ok (.iastore, 1) := by decide +kernel
theorem dX12_adds_82 : decode cX12_adds 82 = .ok (.aload_n 0, 1) := by decide +kernel
theorem dX12_adds_83 : decode cX12_adds 83 = .ok (.getfield 16, 3) := by decide +kernel
theorem dX12_adds_86 : decode cX12_adds 86 = .ok (.bipush 6, 2) := by decide +kernel
theorem dX12_adds_88 : decode cX12_adds 88 = .ok (.dup2, 1) := by decide +kernel
theorem dX12_adds_89 : decode cX12_adds 89 = .ok (.iaload, 1) := by decide +kernel
theorem dX12_adds_90 : decode cX12_adds 90 = .ok (.iconst 1, 1) := by decide +kernel
theorem dX12_adds_91 : decode cX12_adds 91 = .ok (.iadd, 1) := by decide +kernel
theorem dX12_adds_92 : decode cX12_adds 92 = .ok (.iastore, 1) := by decide +kernel
theorem dX12_adds_93 : decode cX12_adds 93 = .ok (.iload_n 3, 1) := by decide +kernel
theorem dX12_adds_94 : decode cX12_adds 94 = .ok (.ireturn, 1) := by decide +kernel
theorem dX12_addParty_0 : decode cX12_addParty 0 = .ok (.aload_n 0, 1) := by decide +kernel
theorem dX12_addParty_1 : decode cX12_addParty 1 = .ok (.invokevirtual 96, 3) := by decide +kernel
theorem dX12_addParty_4 : decode cX12_addParty 4 = .ok (.aload_n 0, 1) := by decide +kernel
theorem dX12_addParty_5 : decode cX12_addParty 5 = .ok (.aload_n 0, 1) := by decide +kernel
theorem dX12_addParty_6 : decode cX12_addParty 6 = .ok (.iload_n 1, 1) := by decide +kernel
theorem dX12_addParty_7 : decode cX12_addParty 7 = .ok (.iload_n 2, 1) := by decide +kernel
theorem dX12_addParty_8 : decode cX12_addParty 8 = .ok (.invokevirtual 137, 3) := by decide +kernel
theorem dX12_addParty_11 : decode cX12_addParty 11 = .ok (.invokevirtual 103, 3) := by decide +kernel
theorem dX12_addParty_14 : decode cX12_addParty 14 = .ok (.ireturn, 1) := by decide +kernel
theorem dX12_isParty_0 : decode cX12_isParty 0 = .ok (.iload_n 1, 1) := by decide +kernel
theorem dX12_isParty_1 : decode cX12_isParty 1 = .ok (.iconst 0, 1) := by decide +kernel
theorem dX12_isParty_2 : decode cX12_isParty 2 = .ok (.aload_n 0, 1) := by decide +kernel
theorem dX12_isParty_3 : decode cX12_isParty 3 = .ok (.getfield 16, 3) := by decide +kernel
theorem dX12_isParty_6 : decode cX12_isParty 6 = .ok (.bipush 6, 2) := by decide +kernel
theorem dX12_isParty_8 : decode cX12_isParty 8 = .ok (.iaload, 1) := by decide +kernel
theorem dX12_isParty_9 : decode cX12_isParty 9 = .ok (.iconst 1, 1) := by decide +kernel
theorem dX12_isParty_10 : decode cX12_isParty 10 = .ok (.isub, 1) := by decide +kernel
theorem dX12_isParty_11 : decode cX12_isParty 11 = .ok (.invokestatic 70, 3) := by decide +kernel
theorem dX12_isParty_14 : decode cX12_isParty 14 = .ok (.ireturn, 1) := by decide +kernel
theorem dX12_moves_0 : decode cX12_moves 0 = .ok (.aload_n 0, 1) := by decide +kernel
theorem dX12_moves_1 : decode cX12_moves 1 = .ok (.iload_n 1, 1) := by decide +kernel
theorem dX12_moves_2 : decode cX12_moves 2 = .ok (.invokevirtual 140, 3) := by decide +kernel
theorem dX12_moves_5 : decode cX12_moves 5 = .ok (.ifCond .eq 11, 3) := by decide +kernel
theorem dX12_moves_8 : decode cX12_moves 8 = .ok (.iload_n 2, 1) := by decide +kernel
theorem dX12_moves_9 : decode cX12_moves 9 = .ok (.iload_n 3, 1) := by decide +kernel
theorem dX12_moves_10 : decode cX12_moves 10 = .ok (.invokestatic 81, 3) := by decide +kernel
theorem dX12_moves_13 : decode cX12_moves 13 = .ok (.ifCond .ne 9, 3) := by decide +kernel
theorem dX12_moves_16 : decode cX12_moves 16 = .ok (.aload_n 0, 1) := by decide +kernel
theorem dX12_moves_17 : decode cX12_moves 17 = .ok (.iconst 1, 1) := by decide +kernel
theorem dX12_moves_18 : decode cX12_moves 18 = .ok (.invokevirtual 59, 3) := by decide +kernel
theorem dX12_moves_21 : decode cX12_moves 21 = .ok (.ireturn, 1) := by decide +kernel
theorem dX12_moves_22 : decode cX12_moves 22 = .ok (.aload_n 0, 1) := by decide +kernel
theorem dX12_moves_23 : decode cX12_moves 23 = .ok (.bipush 8, 2) := by decide +kernel
theorem dX12_moves_25 : decode cX12_moves 25 = .ok (.iload_n 3, 1) := by decide +kernel
theorem dX12_moves_26 : decode cX12_moves 26 = .ok (.imul, 1) := by decide +kernel
theorem dX12_moves_27 : decode cX12_moves 27 = .ok (.iload_n 2, 1) := by decide +kernel
theorem dX12_moves_28 : decode cX12_moves 28 = .ok (.iadd, 1) := by decide +kernel
theorem dX12_moves_29 : decode cX12_moves 29 = .ok (.iload_n 1, 1) := by decide +kernel
theorem dX12_moves_30 : decode cX12_moves 30 = .ok (.iconst 2, 1) := by decide +kernel
theorem dX12_moves_31 : decode cX12_moves 31 = .ok (.invokevirtual 134, 3) := by decide +kernel
theorem dX12_moves_34 : decode cX12_moves 34 = .ok (.ifCond .ne 5, 3) := by decide +kernel
theorem dX12_moves_37 : decode cX12_moves 37 = .ok (.iconst 0, 1) := by decide +kernel
theorem dX12_moves_38 : decode cX12_moves 38 = .ok (.ireturn, 1) := by decide +kernel
theorem dX12_moves_39 : decode cX12_moves 39 = .ok (.aload_n 0, 1) := by decide +kernel
theorem dX12_moves_40 : decode cX12_moves 40 = .ok (.iload_n 1, 1) := by decide +kernel
theorem dX12_moves_41 : decode cX12_moves 41 = .ok (.invokevirtual 74, 3) := by decide +kernel
theorem dX12_moves_44 : decode cX12_moves 44 = .ok (.istore 4, 2) := by decide +kernel
theorem dX12_moves_46 : decode cX12_moves 46 = .ok (.aload_n 0, 1) := by decide +kernel
theorem dX12_moves_47 : decode cX12_moves 47 = .ok (.getfield 16, 3) := by decide +kernel
theorem dX12_moves_50 : decode cX12_moves 50 = .ok (.bipush 76, 2) := by decide +kernel
theorem dX12_moves_52 : decode cX12_moves 52 = .ok (.iconst 2, 1) := by decide +kernel
theorem dX12_moves_53 : decode cX12_moves 53 = .ok (.iload_n 1, 1) := by decide +kernel
theorem dX12_moves_54 : decode cX12_moves 54 = .ok (.imul, 1) := by decide +kernel
theorem dX12_moves_55 : decode cX12_moves 55 = .ok (.iadd, 1) := by decide +kernel
theorem dX12_moves_56 : decode cX12_moves 56 = .ok (.bipush 8, 2) := by decide +kernel
theorem dX12_moves_58 : decode cX12_moves 58 = .ok (.iload_n 3, 1) := by decide +kernel
theorem dX12_moves_59 : decode cX12_moves 59 = .ok (.imul, 1) := by decide +kernel
theorem dX12_moves_60 : decode cX12_moves 60 = .ok (.iload_n 2, 1) := by decide +kernel
theorem dX12_moves_61 : decode cX12_moves 61 = .ok (.iadd, 1) := by decide +kernel
theorem dX12_moves_62 : decode cX12_moves 62 = .ok (.iastore, 1) := by decide +kernel
theorem dX12_moves_63 : decode cX12_moves 63 = .ok (.iload 4, 2) := by decide +kernel
theorem dX12_moves_65 : decode cX12_moves 65 = .ok (.ireturn, 1) := by decide +kernel
theorem dX12_moveParty_0 : decode cX12_moveParty 0 = .ok (.aload_n 0, 1) := by decide +kernel
theorem dX12_moveParty_1 : decode cX12_moveParty 1 = .ok (.invokevirtual 96, 3) := by decide +kernel
theorem dX12_moveParty_4 : decode cX12_moveParty 4 = .ok (.aload_n 0, 1) := by decide +kernel
theorem dX12_moveParty_5 : decode cX12_moveParty 5 = .ok (.aload_n 0, 1) := by decide +kernel
theorem dX12_moveParty_6 : decode cX12_moveParty 6 = .ok (.iload_n 1, 1) := by decide +kernel
theorem dX12_moveParty_7 : decode cX12_moveParty 7 = .ok (.iload_n 2, 1) := by decide +kernel
theorem dX12_moveParty_8 : decode cX12_moveParty 8 = .ok (.iload_n 3, 1) := by decide +kernel
theorem dX12_moveParty_9 : decode cX12_moveParty 9 = .ok (.invokevirtual 143, 3) := by decide +kernel
theorem dX12_moveParty_12 : decode cX12_moveParty 12 = .ok (.invokevirtual 103, 3) := by decide +kernel
theorem dX12_moveParty_15 : decode cX12_moveParty 15 = .ok (.ireturn, 1) := by decide +kernel
theorem dX12_partyCount_0 : decode cX12_partyCount 0 = .ok (.aload_n 0, 1) := by decide +kernel
theorem dX12_partyCount_1 : decode cX12_partyCount 1 = .ok (.bipush 6, 2) := by decide +kernel
theorem dX12_partyCount_3 : decode cX12_partyCount 3 = .ok (.invokevirtual 131, 3) := by decide +kernel
theorem dX12_partyCount_6 : decode cX12_partyCount 6 = .ok (.ireturn, 1) := by decide +kernel
theorem dX12_cellOf_0 : decode cX12_cellOf 0 = .ok (.aload_n 0, 1) := by decide +kernel
theorem dX12_cellOf_1 : decode cX12_cellOf 1 = .ok (.aload_n 0, 1) := by decide +kernel
theorem dX12_cellOf_2 : decode cX12_cellOf 2 = .ok (.iload_n 1, 1) := by decide +kernel
theorem dX12_cellOf_3 : decode cX12_cellOf 3 = .ok (.invokevirtual 140, 3) := by decide +kernel
theorem dX12_cellOf_6 : decode cX12_cellOf 6 = .ok (.ifCond .eq 7, 3) := by decide +kernel
theorem dX12_cellOf_9 : decode cX12_cellOf 9 = .ok (.iconst 0, 1) := by decide +kernel
theorem dX12_cellOf_10 : decode cX12_cellOf 10 = .ok (.goto 4, 3) := by decide +kernel
theorem dX12_cellOf_13 : decode cX12_cellOf 13 = .ok (.iconst 1, 1) := by decide +kernel
theorem dX12_cellOf_14 : decode cX12_cellOf 14 = .ok (.putfield 50, 3) := by decide +kernel
theorem dX12_cellOf_17 : decode cX12_cellOf 17 = .ok (.aload_n 0, 1) := by decide +kernel
theorem dX12_cellOf_18 : decode cX12_cellOf 18 = .ok (.getfield 50, 3) := by decide +kernel
theorem dX12_cellOf_21 : decode cX12_cellOf 21 = .ok (.ifCond .ne 11, 3) := by decide +kernel
theorem dX12_cellOf_24 : decode cX12_cellOf 24 = .ok (.aload_n 0, 1) := by decide +kernel
theorem dX12_cellOf_25 : decode cX12_cellOf 25 = .ok (.iload_n 1, 1) := by decide +kernel
theorem dX12_cellOf_26 : decode cX12_cellOf 26 = .ok (.invokevirtual 74, 3) := by decide +kernel
theorem dX12_cellOf_29 : decode cX12_cellOf 29 = .ok (.goto 4, 3) := by decide +kernel
theorem dX12_cellOf_32 : decode cX12_cellOf 32 = .ok (.iconst 0, 1) := by decide +kernel
theorem dX12_cellOf_33 : decode cX12_cellOf 33 = .ok (.ireturn, 1) := by decide +kernel
theorem dX12_partyIn_0 : decode cX12_partyIn 0 = .ok (.aload_n 0, 1) := by decide +kernel
theorem dX12_partyIn_1 : decode cX12_partyIn 1 = .ok (.iload_n 1, 1) := by decide +kernel
theorem dX12_partyIn_2 : decode cX12_partyIn 2 = .ok (.iload_n 2, 1) := by decide +kernel
theorem dX12_partyIn_3 : decode cX12_partyIn 3 = .ok (.invokestatic 81, 3) := by decide +kernel
theorem dX12_partyIn_6 : decode cX12_partyIn 6 = .ok (.ifCond .ne 7, 3) := by decide +kernel
theorem dX12_partyIn_9 : decode cX12_partyIn 9 = .ok (.iconst 1, 1) := by decide +kernel
theorem dX12_partyIn_10 : decode cX12_partyIn 10 = .ok (.goto 21, 3) := by decide +kernel
theorem dX12_partyIn_13 : decode cX12_partyIn 13 = .ok (.aload_n 0, 1) := by decide +kernel
theorem dX12_partyIn_14 : decode cX12_partyIn 14 = .ok (.bipush 8, 2) := by decide +kernel
theorem dX12_partyIn_16 : decode cX12_partyIn 16 = .ok (.iload_n 2, 1) := by decide +kernel
theorem dX12_partyIn_17 : decode cX12_partyIn 17 = .ok (.imul, 1) := by decide +kernel
theorem dX12_partyIn_18 : decode cX12_partyIn 18 = .ok (.iload_n 1, 1) := by decide +kernel
theorem dX12_partyIn_19 : decode cX12_partyIn 19 = .ok (.iadd, 1) := by decide +kernel
theorem dX12_partyIn_20 : decode cX12_partyIn 20 = .ok (.invokevirtual 85, 3) := by decide +kernel
theorem dX12_partyIn_23 : decode cX12_partyIn 23 = .ok (.ifCond .ge 7, 3) := by decide +kernel
theorem dX12_partyIn_26 : decode cX12_partyIn 26 = .ok (.iconst 2, 1) := by decide +kernel
theorem dX12_partyIn_27 : decode cX12_partyIn 27 = .ok (.goto 4, 3) := by decide +kernel
theorem dX12_partyIn_30 : decode cX12_partyIn 30 = .ok (.iconst 0, 1) := by decide +kernel
theorem dX12_partyIn_31 : decode cX12_partyIn 31 = .ok (.putfield 50, 3) := by decide +kernel
theorem dX12_partyIn_34 : decode cX12_partyIn 34 = .ok (.aload_n 0, 1) := by decide +kernel
theorem dX12_partyIn_35 : decode cX12_partyIn 35 = .ok (.getfield 50, 3) := by decide +kernel
theorem dX12_partyIn_38 : decode cX12_partyIn 38 = .ok (.ifCond .ne 16, 3) := by decide +kernel
theorem dX12_partyIn_41 : decode cX12_partyIn 41 = .ok (.aload_n 0, 1) := by decide +kernel
theorem dX12_partyIn_42 : decode cX12_partyIn 42 = .ok (.bipush 8, 2) := by decide +kernel
theorem dX12_partyIn_44 : decode cX12_partyIn 44 = .ok (.iload_n 2, 1) := by decide +kernel
theorem dX12_partyIn_45 : decode cX12_partyIn 45 = .ok (.imul, 1) := by decide +kernel
theorem dX12_partyIn_46 : decode cX12_partyIn 46 = .ok (.iload_n 1, 1) := by decide +kernel
theorem dX12_partyIn_47 : decode cX12_partyIn 47 = .ok (.iadd, 1) := by decide +kernel
theorem dX12_partyIn_48 : decode cX12_partyIn 48 = .ok (.invokevirtual 85, 3) := by decide +kernel
theorem dX12_partyIn_51 : decode cX12_partyIn 51 = .ok (.goto 4, 3) := by decide +kernel
theorem dX12_partyIn_54 : decode cX12_partyIn 54 = .ok (.iconst 0, 1) := by decide +kernel
theorem dX12_partyIn_55 : decode cX12_partyIn 55 = .ok (.ireturn, 1) := by decide +kernel
theorem dX12_servedCount_0 : decode cX12_servedCount 0 = .ok (.aload_n 0, 1) := by decide +kernel
theorem dX12_servedCount_1 : decode cX12_servedCount 1 = .ok (.aload_n 0, 1) := by decide +kernel
theorem dX12_servedCount_2 : decode cX12_servedCount 2 = .ok (.iload_n 1, 1) := by decide +kernel
theorem dX12_servedCount_3 : decode cX12_servedCount 3 = .ok (.invokevirtual 140, 3) := by decide +kernel
theorem dX12_servedCount_6 : decode cX12_servedCount 6 = .ok (.ifCond .eq 7, 3) := by decide +kernel
theorem dX12_servedCount_9 : decode cX12_servedCount 9 = .ok (.iconst 0, 1) := by decide +kernel
theorem dX12_servedCount_10 : decode cX12_servedCount 10 = .ok (.goto 4, 3) := by decide +kernel
theorem dX12_servedCount_13 : decode cX12_servedCount 13 = .ok (.iconst 1, 1) := by decide +kernel
theorem dX12_servedCount_14 : decode cX12_servedCount 14 = .ok (.putfield 50, 3) := by decide +kernel
theorem dX12_servedCount_17 : decode cX12_servedCount 17 = .ok (.aload_n 0, 1) := by decide +kernel
theorem dX12_servedCount_18 : decode cX12_servedCount 18 = .ok (.getfield 50, 3) := by decide +kernel
theorem dX12_servedCount_21 : decode cX12_servedCount 21 = .ok (.ifCond .ne 19, 3) := by decide +kernel
theorem dX12_servedCount_24 : decode cX12_servedCount 24 = .ok (.aload_n 0, 1) := by decide +kernel
theorem dX12_servedCount_25 : decode cX12_servedCount 25 = .ok (.getfield 16, 3) := by decide +kernel
theorem dX12_servedCount_28 : decode cX12_servedCount 28 = .ok (.bipush 76, 2) := by decide +kernel
theorem dX12_servedCount_30 : decode cX12_servedCount 30 = .ok (.iconst 2, 1) := by decide +kernel
theorem dX12_servedCount_31 : decode cX12_servedCount 31 = .ok (.iload_n 1, 1) := by decide +kernel
theorem dX12_servedCount_32 : decode cX12_servedCount 32 = .ok (.imul, 1) := by decide +kernel
theorem dX12_servedCount_33 : decode cX12_servedCount 33 = .ok (.iadd, 1) := by decide +kernel
theorem dX12_servedCount_34 : decode cX12_servedCount 34 = .ok (.iconst 1, 1) := by decide +kernel
theorem dX12_servedCount_35 : decode cX12_servedCount 35 = .ok (.iadd, 1) := by decide +kernel
theorem dX12_servedCount_36 : decode cX12_servedCount 36 = .ok (.iaload, 1) := by decide +kernel
theorem dX12_servedCount_37 : decode cX12_servedCount 37 = .ok (.goto 4, 3) := by decide +kernel
theorem dX12_servedCount_40 : decode cX12_servedCount 40 = .ok (.iconst 0, 1) := by decide +kernel
theorem dX12_servedCount_41 : decode cX12_servedCount 41 = .ok (.ireturn, 1) := by decide +kernel
theorem dX12_arm_0 : decode cX12_arm 0 = .ok (.iconst 1, 1) := by decide +kernel
theorem dX12_arm_1 : decode cX12_arm 1 = .ok (.iload_n 0, 1) := by decide +kernel
theorem dX12_arm_2 : decode cX12_arm 2 = .ok (.bipush 8, 2) := by decide +kernel
theorem dX12_arm_4 : decode cX12_arm 4 = .ok (.idiv, 1) := by decide +kernel
theorem dX12_arm_5 : decode cX12_arm 5 = .ok (.iconst 4, 1) := by decide +kernel
theorem dX12_arm_6 : decode cX12_arm 6 = .ok (.irem, 1) := by decide +kernel
theorem dX12_arm_7 : decode cX12_arm 7 = .ok (.iadd, 1) := by decide +kernel
theorem dX12_arm_8 : decode cX12_arm 8 = .ok (.ireturn, 1) := by decide +kernel
theorem dX12_enters_0 : decode cX12_enters 0 = .ok (.aload_n 0, 1) := by decide +kernel
theorem dX12_enters_1 : decode cX12_enters 1 = .ok (.getfield 29, 3) := by decide +kernel
theorem dX12_enters_4 : decode cX12_enters 4 = .ok (.aload_n 0, 1) := by decide +kernel
theorem dX12_enters_5 : decode cX12_enters 5 = .ok (.getfield 146, 3) := by decide +kernel
theorem dX12_enters_8 : decode cX12_enters 8 = .ok (.iaload, 1) := by decide +kernel
theorem dX12_enters_9 : decode cX12_enters 9 = .ok (.iload_n 1, 1) := by decide +kernel
theorem dX12_enters_10 : decode cX12_enters 10 = .ok (.invokestatic 121, 3) := by decide +kernel
theorem dX12_enters_13 : decode cX12_enters 13 = .ok (.istore_n 2, 1) := by decide +kernel
theorem dX12_enters_14 : decode cX12_enters 14 = .ok (.aload_n 0, 1) := by decide +kernel
theorem dX12_enters_15 : decode cX12_enters 15 = .ok (.aload_n 0, 1) := by decide +kernel
theorem dX12_enters_16 : decode cX12_enters 16 = .ok (.iload_n 2, 1) := by decide +kernel
theorem dX12_enters_17 : decode cX12_enters 17 = .ok (.invokevirtual 106, 3) := by decide +kernel
theorem dX12_enters_20 : decode cX12_enters 20 = .ok (.putfield 149, 3) := by decide +kernel
theorem dX12_enters_23 : decode cX12_enters 23 = .ok (.aload_n 0, 1) := by decide +kernel
theorem dX12_enters_24 : decode cX12_enters 24 = .ok (.getfield 149, 3) := by decide +kernel
theorem dX12_enters_27 : decode cX12_enters 27 = .ok (.ifCond .eq 5, 3) := by decide +kernel
theorem dX12_enters_30 : decode cX12_enters 30 = .ok (.iconst 0, 1) := by decide +kernel
theorem dX12_enters_31 : decode cX12_enters 31 = .ok (.ireturn, 1) := by decide +kernel
theorem dX12_enters_32 : decode cX12_enters 32 = .ok (.aload_n 0, 1) := by decide +kernel
theorem dX12_enters_33 : decode cX12_enters 33 = .ok (.dup, 1) := by decide +kernel
theorem dX12_enters_34 : decode cX12_enters 34 = .ok (.getfield 146, 3) := by decide +kernel
theorem dX12_enters_37 : decode cX12_enters 37 = .ok (.iconst 1, 1) := by decide +kernel
theorem dX12_enters_38 : decode cX12_enters 38 = .ok (.iadd, 1) := by decide +kernel
theorem dX12_enters_39 : decode cX12_enters 39 = .ok (.putfield 146, 3) := by decide +kernel
theorem dX12_enters_42 : decode cX12_enters 42 = .ok (.aload_n 0, 1) := by decide +kernel
theorem dX12_enters_43 : decode cX12_enters 43 = .ok (.getfield 29, 3) := by decide +kernel
theorem dX12_enters_46 : decode cX12_enters 46 = .ok (.aload_n 0, 1) := by decide +kernel
theorem dX12_enters_47 : decode cX12_enters 47 = .ok (.getfield 146, 3) := by decide +kernel
theorem dX12_enters_50 : decode cX12_enters 50 = .ok (.iload_n 2, 1) := by decide +kernel
theorem dX12_enters_51 : decode cX12_enters 51 = .ok (.iastore, 1) := by decide +kernel
theorem dX12_enters_52 : decode cX12_enters 52 = .ok (.iconst 1, 1) := by decide +kernel
theorem dX12_enters_53 : decode cX12_enters 53 = .ok (.ireturn, 1) := by decide +kernel
theorem dX12_flies_0 : decode cX12_flies 0 = .ok (.aload_n 0, 1) := by decide +kernel
theorem dX12_flies_1 : decode cX12_flies 1 = .ok (.iconst 0, 1) := by decide +kernel
theorem dX12_flies_2 : decode cX12_flies 2 = .ok (.putfield 146, 3) := by decide +kernel
theorem dX12_flies_5 : decode cX12_flies 5 = .ok (.aload_n 0, 1) := by decide +kernel
theorem dX12_flies_6 : decode cX12_flies 6 = .ok (.getfield 29, 3) := by decide +kernel
theorem dX12_flies_9 : decode cX12_flies 9 = .ok (.iconst 0, 1) := by decide +kernel
theorem dX12_flies_10 : decode cX12_flies 10 = .ok (.aload_n 0, 1) := by decide +kernel
theorem dX12_flies_11 : decode cX12_flies 11 = .ok (.getfield 16, 3) := by decide +kernel
theorem dX12_flies_14 : decode cX12_flies 14 = .ok (.iconst 3, 1) := by decide +kernel
theorem dX12_flies_15 : decode cX12_flies 15 = .ok (.iaload, 1) := by decide +kernel
theorem dX12_flies_16 : decode cX12_flies 16 = .ok (.iastore, 1) := by decide +kernel
theorem dX12_flies_17 : decode cX12_flies 17 = .ok (.aload_n 0, 1) := by decide +kernel
theorem dX12_flies_18 : decode cX12_flies 18 = .ok (.iconst 0, 1) := by decide +kernel
theorem dX12_flies_19 : decode cX12_flies 19 = .ok (.putfield 149, 3) := by decide +kernel
theorem dX12_flies_22 : decode cX12_flies 22 = .ok (.iload_n 1, 1) := by decide +kernel
theorem dX12_flies_23 : decode cX12_flies 23 = .ok (.bipush 8, 2) := by decide +kernel
theorem dX12_flies_25 : decode cX12_flies 25 = .ok (.irem, 1) := by decide +kernel
theorem dX12_flies_26 : decode cX12_flies 26 = .ok (.istore_n 2, 1) := by decide +kernel
theorem dX12_flies_27 : decode cX12_flies 27 = .ok (.iconst 0, 1) := by decide +kernel
theorem dX12_flies_28 : decode cX12_flies 28 = .ok (.istore_n 3, 1) := by decide +kernel
theorem dX12_flies_29 : decode cX12_flies 29 = .ok (.iload_n 3, 1) := by decide +kernel
theorem dX12_flies_30 : decode cX12_flies 30 = .ok (.bipush 8, 2) := by decide +kernel
theorem dX12_flies_32 : decode cX12_flies 32 = .ok (.if_icmp .ge 86, 3) := by decide +kernel
theorem dX12_flies_35 : decode cX12_flies 35 = .ok (.iconst 0, 1) := by decide +kernel
theorem dX12_flies_36 : decode cX12_flies 36 = .ok (.istore 4, 2) := by decide +kernel
theorem dX12_flies_38 : decode cX12_flies 38 = .ok (.iload 4, 2) := by decide +kernel
theorem dX12_flies_40 : decode cX12_flies 40 = .ok (.iload_n 1, 1) := by decide +kernel
theorem dX12_flies_41 : decode cX12_flies 41 = .ok (.invokestatic 153, 3) := by decide +kernel
theorem dX12_flies_44 : decode cX12_flies 44 = .ok (.if_icmp .ge 22, 3) := by decide +kernel
theorem dX12_flies_47 : decode cX12_flies 47 = .ok (.aload_n 0, 1) := by decide +kernel
theorem dX12_flies_48 : decode cX12_flies 48 = .ok (.iload_n 2, 1) := by decide +kernel
theorem dX12_flies_49 : decode cX12_flies 49 = .ok (.invokevirtual 156, 3) := by decide +kernel
theorem dX12_flies_52 : decode cX12_flies 52 = .ok (.ifCond .ne 8, 3) := by decide +kernel
theorem dX12_flies_55 : decode cX12_flies 55 = .ok (.aload_n 0, 1) := by decide +kernel
theorem dX12_flies_56 : decode cX12_flies 56 = .ok (.getfield 146, 3) := by decide +kernel
theorem dX12_flies_59 : decode cX12_flies 59 = .ok (.ireturn, 1) := by decide +kernel
theorem dX12_flies_60 : decode cX12_flies 60 = .ok (.iinc 4 1, 3) := by decide +kernel
theorem dX12_flies_63 : decode cX12_flies 63 = .ok (.goto (-25), 3) := by decide +kernel
theorem dX12_flies_66 : decode cX12_flies 66 = .ok (.iload_n 3, 1) := by decide +kernel
theorem dX12_flies_67 : decode cX12_flies 67 = .ok (.aload_n 0, 1) := by decide +kernel
theorem dX12_flies_68 : decode cX12_flies 68 = .ok (.getfield 16, 3) := by decide +kernel
theorem dX12_flies_71 : decode cX12_flies 71 = .ok (.iconst 5, 1) := by decide +kernel
theorem dX12_flies_72 : decode cX12_flies 72 = .ok (.iaload, 1) := by decide +kernel
theorem dX12_flies_73 : decode cX12_flies 73 = .ok (.if_icmp .ge 21, 3) := by decide +kernel
theorem dX12_flies_76 : decode cX12_flies 76 = .ok (.aload_n 0, 1) := by decide +kernel
theorem dX12_flies_77 : decode cX12_flies 77 = .ok (.aload_n 0, 1) := by decide +kernel
theorem dX12_flies_78 : decode cX12_flies 78 = .ok (.getfield 16, 3) := by decide +kernel
theorem dX12_flies_81 : decode cX12_flies 81 = .ok (.iconst 4, 1) := by decide +kernel
theorem dX12_flies_82 : decode cX12_flies 82 = .ok (.iaload, 1) := by decide +kernel
theorem dX12_flies_83 : decode cX12_flies 83 = .ok (.invokevirtual 156, 3) := by decide +kernel
theorem dX12_flies_86 : decode cX12_flies 86 = .ok (.ifCond .ne 8, 3) := by decide +kernel
theorem dX12_flies_89 : decode cX12_flies 89 = .ok (.aload_n 0, 1) := by decide +kernel
theorem dX12_flies_90 : decode cX12_flies 90 = .ok (.getfield 146, 3) := by decide +kernel
theorem dX12_flies_93 : decode cX12_flies 93 = .ok (.ireturn, 1) := by decide +kernel
theorem dX12_flies_94 : decode cX12_flies 94 = .ok (.iload_n 2, 1) := by decide +kernel
theorem dX12_flies_95 : decode cX12_flies 95 = .ok (.iload_n 1, 1) := by decide +kernel
theorem dX12_flies_96 : decode cX12_flies 96 = .ok (.bipush 32, 2) := by decide +kernel
theorem dX12_flies_98 : decode cX12_flies 98 = .ok (.if_icmp .ge 7, 3) := by decide +kernel
theorem dX12_flies_101 : decode cX12_flies 101 = .ok (.iconst 1, 1) := by decide +kernel
theorem dX12_flies_102 : decode cX12_flies 102 = .ok (.goto 5, 3) := by decide +kernel
theorem dX12_flies_105 : decode cX12_flies 105 = .ok (.bipush 7, 2) := by decide +kernel
theorem dX12_flies_107 : decode cX12_flies 107 = .ok (.iadd, 1) := by decide +kernel
theorem dX12_flies_108 : decode cX12_flies 108 = .ok (.bipush 8, 2) := by decide +kernel
theorem dX12_flies_110 : decode cX12_flies 110 = .ok (.irem, 1) := by decide +kernel
theorem dX12_flies_111 : decode cX12_flies 111 = .ok (.istore_n 2, 1) := by decide +kernel
theorem dX12_flies_112 : decode cX12_flies 112 = .ok (.iinc 3 1, 3) := by decide +kernel
theorem dX12_flies_115 : decode cX12_flies 115 = .ok (.goto (-86), 3) := by decide +kernel
theorem dX12_flies_118 : decode cX12_flies 118 = .ok (.aload_n 0, 1) := by decide +kernel
theorem dX12_flies_119 : decode cX12_flies 119 = .ok (.getfield 146, 3) := by decide +kernel
theorem dX12_flies_122 : decode cX12_flies 122 = .ok (.ireturn, 1) := by decide +kernel
theorem dX12_isThrow_0 : decode cX12_isThrow 0 = .ok (.aload_n 0, 1) := by decide +kernel
theorem dX12_isThrow_1 : decode cX12_isThrow 1 = .ok (.iload_n 1, 1) := by decide +kernel
theorem dX12_isThrow_2 : decode cX12_isThrow 2 = .ok (.iconst 0, 1) := by decide +kernel
theorem dX12_isThrow_3 : decode cX12_isThrow 3 = .ok (.bipush 63, 2) := by decide +kernel
theorem dX12_isThrow_5 : decode cX12_isThrow 5 = .ok (.invokestatic 70, 3) := by decide +kernel
theorem dX12_isThrow_8 : decode cX12_isThrow 8 = .ok (.ifCond .eq 7, 3) := by decide +kernel
theorem dX12_isThrow_11 : decode cX12_isThrow 11 = .ok (.iconst 0, 1) := by decide +kernel
theorem dX12_isThrow_12 : decode cX12_isThrow 12 = .ok (.goto 4, 3) := by decide +kernel
theorem dX12_isThrow_15 : decode cX12_isThrow 15 = .ok (.iconst 1, 1) := by decide +kernel
theorem dX12_isThrow_16 : decode cX12_isThrow 16 = .ok (.putfield 50, 3) := by decide +kernel
theorem dX12_isThrow_19 : decode cX12_isThrow 19 = .ok (.aload_n 0, 1) := by decide +kernel
theorem dX12_isThrow_20 : decode cX12_isThrow 20 = .ok (.getfield 50, 3) := by decide +kernel
theorem dX12_isThrow_23 : decode cX12_isThrow 23 = .ok (.ifCond .ne 7, 3) := by decide +kernel
theorem dX12_isThrow_26 : decode cX12_isThrow 26 = .ok (.iconst 1, 1) := by decide +kernel
theorem dX12_isThrow_27 : decode cX12_isThrow 27 = .ok (.goto 4, 3) := by decide +kernel
theorem dX12_isThrow_30 : decode cX12_isThrow 30 = .ok (.iconst 0, 1) := by decide +kernel
theorem dX12_isThrow_31 : decode cX12_isThrow 31 = .ok (.ireturn, 1) := by decide +kernel
theorem dX12_flightLength_0 : decode cX12_flightLength 0 = .ok (.aload_n 0, 1) := by decide +kernel
theorem dX12_flightLength_1 : decode cX12_flightLength 1 = .ok (.iload_n 1, 1) := by decide +kernel
theorem dX12_flightLength_2 : decode cX12_flightLength 2 = .ok (.invokevirtual 159, 3) := by decide +kernel
theorem dX12_flightLength_5 : decode cX12_flightLength 5 = .ok (.ifCond .eq 11, 3) := by decide +kernel
theorem dX12_flightLength_8 : decode cX12_flightLength 8 = .ok (.aload_n 0, 1) := by decide +kernel
theorem dX12_flightLength_9 : decode cX12_flightLength 9 = .ok (.iload_n 1, 1) := by decide +kernel
theorem dX12_flightLength_10 : decode cX12_flightLength 10 = .ok (.invokevirtual 162, 3) := by decide +kernel
theorem dX12_flightLength_13 : decode cX12_flightLength 13 = .ok (.goto 4, 3) := by decide +kernel
theorem dX12_flightLength_16 : decode cX12_flightLength 16 = .ok (.iconst 0, 1) := by decide +kernel
theorem dX12_flightLength_17 : decode cX12_flightLength 17 = .ok (.ireturn, 1) := by decide +kernel
theorem dX12_flightCell_0 : decode cX12_flightCell 0 = .ok (.aload_n 0, 1) := by decide +kernel
theorem dX12_flightCell_1 : decode cX12_flightCell 1 = .ok (.iload_n 1, 1) := by decide +kernel
theorem dX12_flightCell_2 : decode cX12_flightCell 2 = .ok (.invokevirtual 159, 3) := by decide +kernel
theorem dX12_flightCell_5 : decode cX12_flightCell 5 = .ok (.ifCond .ne 5, 3) := by decide +kernel
theorem dX12_flightCell_8 : decode cX12_flightCell 8 = .ok (.iconst 0, 1) := by decide +kernel
theorem dX12_flightCell_9 : decode cX12_flightCell 9 = .ok (.ireturn, 1) := by decide +kernel
theorem dX12_flightCell_10 : decode cX12_flightCell 10 = .ok (.iload_n 2, 1) := by decide +kernel
theorem dX12_flightCell_11 : decode cX12_flightCell 11 = .ok (.iconst 0, 1) := by decide +kernel
theorem dX12_flightCell_12 : decode cX12_flightCell 12 = .ok (.aload_n 0, 1) := by decide +kernel
theorem dX12_flightCell_13 : decode cX12_flightCell 13 = .ok (.iload_n 1, 1) := by decide +kernel
theorem dX12_flightCell_14 : decode cX12_flightCell 14 = .ok (.invokevirtual 162, 3) := by decide +kernel
theorem dX12_flightCell_17 : decode cX12_flightCell 17 = .ok (.invokestatic 70, 3) := by decide +kernel
theorem dX12_flightCell_20 : decode cX12_flightCell 20 = .ok (.ifCond .eq 12, 3) := by decide +kernel
theorem dX12_flightCell_23 : decode cX12_flightCell 23 = .ok (.aload_n 0, 1) := by decide +kernel
theorem dX12_flightCell_24 : decode cX12_flightCell 24 = .ok (.getfield 29, 3) := by decide +kernel
theorem dX12_flightCell_27 : decode cX12_flightCell 27 = .ok (.iload_n 2, 1) := by decide +kernel
theorem dX12_flightCell_28 : decode cX12_flightCell 28 = .ok (.iaload, 1) := by decide +kernel
theorem dX12_flightCell_29 : decode cX12_flightCell 29 = .ok (.goto 8, 3) := by decide +kernel
theorem dX12_flightCell_32 : decode cX12_flightCell 32 = .ok (.aload_n 0, 1) := by decide +kernel
theorem dX12_flightCell_33 : decode cX12_flightCell 33 = .ok (.iconst 2, 1) := by decide +kernel
theorem dX12_flightCell_34 : decode cX12_flightCell 34 = .ok (.invokevirtual 59, 3) := by decide +kernel
theorem dX12_flightCell_37 : decode cX12_flightCell 37 = .ok (.ireturn, 1) := by decide +kernel
theorem dX12_endsBy_0 : decode cX12_endsBy 0 = .ok (.aload_n 0, 1) := by decide +kernel
theorem dX12_endsBy_1 : decode cX12_endsBy 1 = .ok (.getfield 149, 3) := by decide +kernel
theorem dX12_endsBy_4 : decode cX12_endsBy 4 = .ok (.ifCond .eq 8, 3) := by decide +kernel
theorem dX12_endsBy_7 : decode cX12_endsBy 7 = .ok (.bipush 116, 2) := by decide +kernel
theorem dX12_endsBy_9 : decode cX12_endsBy 9 = .ok (.goto 28, 3) := by decide +kernel
theorem dX12_endsBy_12 : decode cX12_endsBy 12 = .ok (.aload_n 0, 1) := by decide +kernel
theorem dX12_endsBy_13 : decode cX12_endsBy 13 = .ok (.getfield 29, 3) := by decide +kernel
theorem dX12_endsBy_16 : decode cX12_endsBy 16 = .ok (.aload_n 0, 1) := by decide +kernel
theorem dX12_endsBy_17 : decode cX12_endsBy 17 = .ok (.getfield 146, 3) := by decide +kernel
theorem dX12_endsBy_20 : decode cX12_endsBy 20 = .ok (.iaload, 1) := by decide +kernel
theorem dX12_endsBy_21 : decode cX12_endsBy 21 = .ok (.aload_n 0, 1) := by decide +kernel
theorem dX12_endsBy_22 : decode cX12_endsBy 22 = .ok (.getfield 16, 3) := by decide +kernel
theorem dX12_endsBy_25 : decode cX12_endsBy 25 = .ok (.iconst 3, 1) := by decide +kernel
theorem dX12_endsBy_26 : decode cX12_endsBy 26 = .ok (.iaload, 1) := by decide +kernel
theorem dX12_endsBy_27 : decode cX12_endsBy 27 = .ok (.if_icmp .ne 8, 3) := by decide +kernel
theorem dX12_endsBy_30 : decode cX12_endsBy 30 = .ok (.bipush 99, 2) := by decide +kernel
theorem dX12_endsBy_32 : decode cX12_endsBy 32 = .ok (.goto 5, 3) := by decide +kernel
theorem dX12_endsBy_35 : decode cX12_endsBy 35 = .ok (.bipush 103, 2) := by decide +kernel
theorem dX12_endsBy_37 : decode cX12_endsBy 37 = .ok (.ireturn, 1) := by decide +kernel
theorem dX12_flightEnd_0 : decode cX12_flightEnd 0 = .ok (.aload_n 0, 1) := by decide +kernel
theorem dX12_flightEnd_1 : decode cX12_flightEnd 1 = .ok (.iload_n 1, 1) := by decide +kernel
theorem dX12_flightEnd_2 : decode cX12_flightEnd 2 = .ok (.invokevirtual 159, 3) := by decide +kernel
theorem dX12_flightEnd_5 : decode cX12_flightEnd 5 = .ok (.ifCond .ne 6, 3) := by decide +kernel
theorem dX12_flightEnd_8 : decode cX12_flightEnd 8 = .ok (.bipush 97, 2) := by decide +kernel
theorem dX12_flightEnd_10 : decode cX12_flightEnd 10 = .ok (.ireturn, 1) := by decide +kernel
theorem dX12_flightEnd_11 : decode cX12_flightEnd 11 = .ok (.aload_n 0, 1) := by decide +kernel
theorem dX12_flightEnd_12 : decode cX12_flightEnd 12 = .ok (.iload_n 1, 1) := by decide +kernel
theorem dX12_flightEnd_13 : decode cX12_flightEnd 13 = .ok (.invokevirtual 162, 3) := by decide +kernel
theorem dX12_flightEnd_16 : decode cX12_flightEnd 16 = .ok (.istore_n 2, 1) := by decide +kernel
theorem dX12_flightEnd_17 : decode cX12_flightEnd 17 = .ok (.aload_n 0, 1) := by decide +kernel
theorem dX12_flightEnd_18 : decode cX12_flightEnd 18 = .ok (.invokevirtual 165, 3) := by decide +kernel
theorem dX12_flightEnd_21 : decode cX12_flightEnd 21 = .ok (.i2c, 1) := by decide +kernel
theorem dX12_flightEnd_22 : decode cX12_flightEnd 22 = .ok (.ireturn, 1) := by decide +kernel
theorem dX12_flightBits_0 : decode cX12_flightBits 0 = .ok (.lconst 0, 1) := by decide +kernel
theorem dX12_flightBits_1 : decode cX12_flightBits 1 = .ok (.lstore_n 2, 1) := by decide +kernel
theorem dX12_flightBits_2 : decode cX12_flightBits 2 = .ok (.aload_n 0, 1) := by decide +kernel
theorem dX12_flightBits_3 : decode cX12_flightBits 3 = .ok (.iload_n 1, 1) := by decide +kernel
theorem dX12_flightBits_4 : decode cX12_flightBits 4 = .ok (.invokevirtual 159, 3) := by decide +kernel
theorem dX12_flightBits_7 : decode cX12_flightBits 7 = .ok (.ifCond .ne 5, 3) := by decide +kernel
theorem dX12_flightBits_10 : decode cX12_flightBits 10 = .ok (.lload_n 2, 1) := by decide +kernel
theorem dX12_flightBits_11 : decode cX12_flightBits 11 = .ok (.lreturn, 1) := by decide +kernel
theorem dX12_flightBits_12 : decode cX12_flightBits 12 = .ok (.aload_n 0, 1) := by decide +kernel
theorem dX12_flightBits_13 : decode cX12_flightBits 13 = .ok (.iload_n 1, 1) := by decide +kernel
theorem dX12_flightBits_14 : decode cX12_flightBits 14 = .ok (.invokevirtual 162, 3) := by decide +kernel
theorem dX12_flightBits_17 : decode cX12_flightBits 17 = .ok (.istore 4, 2) := by decide +kernel
theorem dX12_flightBits_19 : decode cX12_flightBits 19 = .ok (.iconst 1, 1) := by decide +kernel
theorem dX12_flightBits_20 : decode cX12_flightBits 20 = .ok (.istore 5, 2) := by decide +kernel
theorem dX12_flightBits_22 : decode cX12_flightBits 22 = .ok (.iload 5, 2) := by decide +kernel
theorem dX12_flightBits_24 : decode cX12_flightBits 24 = .ok (.iload 4, 2) := by decide +kernel
theorem dX12_flightBits_26 : decode cX12_flightBits 26 = .ok (.if_icmp .gt 21, 3) := by decide +kernel
theorem dX12_flightBits_29 : decode cX12_flightBits 29 = .ok (.lload_n 2, 1) := by decide +kernel
theorem dX12_flightBits_30 : decode cX12_flightBits 30 = .ok (.lconst 1, 1) := by decide +kernel
theorem dX12_flightBits_31 : decode cX12_flightBits 31 = .ok (.aload_n 0, 1) := by decide +kernel
theorem dX12_flightBits_32 : decode cX12_flightBits 32 = .ok (.getfield 29, 3) := by decide +kernel
theorem dX12_flightBits_35 : decode cX12_flightBits 35 = .ok (.iload 5, 2) := by decide +kernel
theorem dX12_flightBits_37 : decode cX12_flightBits 37 = .ok (.iaload, 1) := by decide +kernel
theorem dX12_flightBits_38 : decode cX12_flightBits 38 = .ok (.lshl, 1) := by decide +kernel
theorem dX12_flightBits_39 : decode cX12_flightBits 39 = .ok (.lor, 1) := by decide +kernel
theorem dX12_flightBits_40 : decode cX12_flightBits 40 = .ok (.lstore_n 2, 1) := by decide +kernel
theorem dX12_flightBits_41 : decode cX12_flightBits 41 = .ok (.iinc 5 1, 3) := by decide +kernel
theorem dX12_flightBits_44 : decode cX12_flightBits 44 = .ok (.goto (-22), 3) := by decide +kernel
theorem dX12_flightBits_47 : decode cX12_flightBits 47 = .ok (.lload_n 2, 1) := by decide +kernel
theorem dX12_flightBits_48 : decode cX12_flightBits 48 = .ok (.lreturn, 1) := by decide +kernel
theorem dX12_serves_0 : decode cX12_serves 0 = .ok (.aload_n 0, 1) := by decide +kernel
theorem dX12_serves_1 : decode cX12_serves 1 = .ok (.iload_n 1, 1) := by decide +kernel
theorem dX12_serves_2 : decode cX12_serves 2 = .ok (.invokevirtual 162, 3) := by decide +kernel
theorem dX12_serves_5 : decode cX12_serves 5 = .ok (.istore_n 3, 1) := by decide +kernel
theorem dX12_serves_6 : decode cX12_serves 6 = .ok (.iconst 1, 1) := by decide +kernel
theorem dX12_serves_7 : decode cX12_serves 7 = .ok (.istore 4, 2) := by decide +kernel
theorem dX12_serves_9 : decode cX12_serves 9 = .ok (.iload 4, 2) := by decide +kernel
theorem dX12_serves_11 : decode cX12_serves 11 = .ok (.iload_n 3, 1) := by decide +kernel
theorem dX12_serves_12 : decode cX12_serves 12 = .ok (.if_icmp .gt 27, 3) := by decide +kernel
theorem dX12_serves_15 : decode cX12_serves 15 = .ok (.aload_n 0, 1) := by decide +kernel
theorem dX12_serves_16 : decode cX12_serves 16 = .ok (.getfield 29, 3) := by decide +kernel
theorem dX12_serves_19 : decode cX12_serves 19 = .ok (.iload 4, 2) := by decide +kernel
theorem dX12_serves_21 : decode cX12_serves 21 = .ok (.iaload, 1) := by decide +kernel
theorem dX12_serves_22 : decode cX12_serves 22 = .ok (.aload_n 0, 1) := by decide +kernel
theorem dX12_serves_23 : decode cX12_serves 23 = .ok (.iload_n 2, 1) := by decide +kernel
theorem dX12_serves_24 : decode cX12_serves 24 = .ok (.invokevirtual 74, 3) := by decide +kernel
theorem dX12_serves_27 : decode cX12_serves 27 = .ok (.if_icmp .ne 6, 3) := by decide +kernel
theorem dX12_serves_30 : decode cX12_serves 30 = .ok (.iload 4, 2) := by decide +kernel
theorem dX12_serves_32 : decode cX12_serves 32 = .ok (.ireturn, 1) := by decide +kernel
theorem dX12_serves_33 : decode cX12_serves 33 = .ok (.iinc 4 1, 3) := by decide +kernel
theorem dX12_serves_36 : decode cX12_serves 36 = .ok (.goto (-27), 3) := by decide +kernel
theorem dX12_serves_39 : decode cX12_serves 39 = .ok (.iconst 0, 1) := by decide +kernel
theorem dX12_serves_40 : decode cX12_serves 40 = .ok (.ireturn, 1) := by decide +kernel
theorem dX12_servingThrows_0 : decode cX12_servingThrows 0 = .ok (.aload_n 0, 1) := by decide +kernel
theorem dX12_servingThrows_1 : decode cX12_servingThrows 1 = .ok (.aload_n 0, 1) := by decide +kernel
theorem dX12_servingThrows_2 : decode cX12_servingThrows 2 = .ok (.iload_n 1, 1) := by decide +kernel
theorem dX12_servingThrows_3 : decode cX12_servingThrows 3 = .ok (.invokevirtual 140, 3) := by decide +kernel
theorem dX12_servingThrows_6 : decode cX12_servingThrows 6 = .ok (.ifCond .eq 7, 3) := by decide +kernel
theorem dX12_servingThrows_9 : decode cX12_servingThrows 9 = .ok (.iconst 0, 1) := by decide +kernel
theorem dX12_servingThrows_10 : decode cX12_servingThrows 10 = .ok (.goto 4, 3) := by decide +kernel
theorem dX12_servingThrows_13 : decode cX12_servingThrows 13 = .ok (.iconst 1, 1) := by decide +kernel
theorem dX12_servingThrows_14 : decode cX12_servingThrows 14 = .ok (.putfield 50, 3) := by decide +kernel
theorem dX12_servingThrows_17 : decode cX12_servingThrows 17 = .ok (.lconst 0, 1) := by decide +kernel
theorem dX12_servingThrows_18 : decode cX12_servingThrows 18 = .ok (.lstore_n 2, 1) := by decide +kernel
theorem dX12_servingThrows_19 : decode cX12_servingThrows 19 = .ok (.iconst 0, 1) := by decide +kernel
theorem dX12_servingThrows_20 : decode cX12_servingThrows 20 = .ok (.istore 4, 2) := by decide +kernel
theorem dX12_servingThrows_22 : decode cX12_servingThrows 22 = .ok (.iload 4, 2) := by decide +kernel
theorem dX12_servingThrows_24 : decode cX12_servingThrows 24 = .ok (.bipush 64, 2) := by decide +kernel
theorem dX12_servingThrows_26 : decode cX12_servingThrows 26 = .ok (.if_icmp .ge 37, 3) := by decide +kernel
theorem dX12_servingThrows_29 : decode cX12_servingThrows 29 = .ok (.aload_n 0, 1) := by decide +kernel
theorem dX12_servingThrows_30 : decode cX12_servingThrows 30 = .ok (.getfield 50, 3) := by decide +kernel
theorem dX12_servingThrows_33 : decode cX12_servingThrows 33 = .ok (.ifCond .ne 30, 3) := by decide +kernel
theorem dX12_servingThrows_36 : decode cX12_servingThrows 36 = .ok (.lload_n 2, 1) := by decide +kernel
theorem dX12_servingThrows_37 : decode cX12_servingThrows 37 = .ok (.aload_n 0, 1) := by decide +kernel
theorem dX12_servingThrows_38 : decode cX12_servingThrows 38 = .ok (.iload 4, 2) := by decide +kernel
theorem dX12_servingThrows_40 : decode cX12_servingThrows 40 = .ok (.iload_n 1, 1) := by decide +kernel
theorem dX12_servingThrows_41 : decode cX12_servingThrows 41 = .ok (.invokevirtual 168, 3) := by decide +kernel
theorem dX12_servingThrows_44 : decode cX12_servingThrows 44 = .ok (.ifCond .le 10, 3) := by decide +kernel
theorem dX12_servingThrows_47 : decode cX12_servingThrows 47 = .ok (.lconst 1, 1) := by decide +kernel
theorem dX12_servingThrows_48 : decode cX12_servingThrows 48 = .ok (.iload 4, 2) := by decide +kernel
theorem dX12_servingThrows_50 : decode cX12_servingThrows 50 = .ok (.lshl, 1) := by decide +kernel
theorem dX12_servingThrows_51 : decode cX12_servingThrows 51 = .ok (.goto 4, 3) := by decide +kernel
theorem dX12_servingThrows_54 : decode cX12_servingThrows 54 = .ok (.lconst 0, 1) := by decide +kernel
theorem dX12_servingThrows_55 : decode cX12_servingThrows 55 = .ok (.lor, 1) := by decide +kernel
theorem dX12_servingThrows_56 : decode cX12_servingThrows 56 = .ok (.lstore_n 2, 1) := by decide +kernel
theorem dX12_servingThrows_57 : decode cX12_servingThrows 57 = .ok (.iinc 4 1, 3) := by decide +kernel
theorem dX12_servingThrows_60 : decode cX12_servingThrows 60 = .ok (.goto (-38), 3) := by decide +kernel
theorem dX12_servingThrows_63 : decode cX12_servingThrows 63 = .ok (.lload_n 2, 1) := by decide +kernel
theorem dX12_servingThrows_64 : decode cX12_servingThrows 64 = .ok (.lreturn, 1) := by decide +kernel
theorem dX12_servingThrowsBySets_0 : decode cX12_servingThrowsBySets 0 = .ok (.aload_n 0, 1) := by decide +kernel
theorem dX12_servingThrowsBySets_1 : decode cX12_servingThrowsBySets 1 = .ok (.iload_n 1, 1) := by decide +kernel
theorem dX12_servingThrowsBySets_2 : decode cX12_servingThrowsBySets 2 = .ok (.invokevirtual 171, 3) := by decide +kernel
theorem dX12_servingThrowsBySets_5 : decode cX12_servingThrowsBySets 5 = .ok (.lreturn, 1) := by decide +kernel
theorem dX12_bestThrow_0 : decode cX12_bestThrow 0 = .ok (.aload_n 0, 1) := by decide +kernel
theorem dX12_bestThrow_1 : decode cX12_bestThrow 1 = .ok (.aload_n 0, 1) := by decide +kernel
theorem dX12_bestThrow_2 : decode cX12_bestThrow 2 = .ok (.iload_n 1, 1) := by decide +kernel
theorem dX12_bestThrow_3 : decode cX12_bestThrow 3 = .ok (.invokevirtual 140, 3) := by decide +kernel
theorem dX12_bestThrow_6 : decode cX12_bestThrow 6 = .ok (.ifCond .eq 7, 3) := by decide +kernel
theorem dX12_bestThrow_9 : decode cX12_bestThrow 9 = .ok (.iconst 0, 1) := by decide +kernel
theorem dX12_bestThrow_10 : decode cX12_bestThrow 10 = .ok (.goto 4, 3) := by decide +kernel
theorem dX12_bestThrow_13 : decode cX12_bestThrow 13 = .ok (.iconst 1, 1) := by decide +kernel
theorem dX12_bestThrow_14 : decode cX12_bestThrow 14 = .ok (.putfield 50, 3) := by decide +kernel
theorem dX12_bestThrow_17 : decode cX12_bestThrow 17 = .ok (.aload_n 0, 1) := by decide +kernel
theorem dX12_bestThrow_18 : decode cX12_bestThrow 18 = .ok (.getfield 50, 3) := by decide +kernel
theorem dX12_bestThrow_21 : decode cX12_bestThrow 21 = .ok (.ifCond .eq 5, 3) := by decide +kernel
theorem dX12_bestThrow_24 : decode cX12_bestThrow 24 = .ok (.iconst 0, 1) := by decide +kernel
theorem dX12_bestThrow_25 : decode cX12_bestThrow 25 = .ok (.ireturn, 1) := by decide +kernel
theorem dX12_bestThrow_26 : decode cX12_bestThrow 26 = .ok (.iconst (-1), 1) := by decide +kernel
theorem dX12_bestThrow_27 : decode cX12_bestThrow 27 = .ok (.istore_n 2, 1) := by decide +kernel
theorem dX12_bestThrow_28 : decode cX12_bestThrow 28 = .ok (.iconst 0, 1) := by decide +kernel
theorem dX12_bestThrow_29 : decode cX12_bestThrow 29 = .ok (.istore_n 3, 1) := by decide +kernel
theorem dX12_bestThrow_30 : decode cX12_bestThrow 30 = .ok (.iconst 0, 1) := by decide +kernel
theorem dX12_bestThrow_31 : decode cX12_bestThrow 31 = .ok (.istore 4, 2) := by decide +kernel
theorem dX12_bestThrow_33 : decode cX12_bestThrow 33 = .ok (.iload 4, 2) := by decide +kernel
theorem dX12_bestThrow_35 : decode cX12_bestThrow 35 = .ok (.bipush 64, 2) := by decide +kernel
theorem dX12_bestThrow_37 : decode cX12_bestThrow 37 = .ok (.if_icmp .ge 69, 3) := by decide +kernel
theorem dX12_bestThrow_40 : decode cX12_bestThrow 40 = .ok (.aload_n 0, 1) := by decide +kernel
theorem dX12_bestThrow_41 : decode cX12_bestThrow 41 = .ok (.iload 4, 2) := by decide +kernel
theorem dX12_bestThrow_43 : decode cX12_bestThrow 43 = .ok (.iload_n 1, 1) := by decide +kernel
theorem dX12_bestThrow_44 : decode cX12_bestThrow 44 = .ok (.invokevirtual 168, 3) := by decide +kernel
theorem dX12_bestThrow_47 : decode cX12_bestThrow 47 = .ok (.istore 5, 2) := by decide +kernel
theorem dX12_bestThrow_49 : decode cX12_bestThrow 49 = .ok (.iload 5, 2) := by decide +kernel
theorem dX12_bestThrow_51 : decode cX12_bestThrow 51 = .ok (.ifCond .ne 6, 3) := by decide +kernel
theorem dX12_bestThrow_54 : decode cX12_bestThrow 54 = .ok (.goto 46, 3) := by decide +kernel
theorem dX12_bestThrow_57 : decode cX12_bestThrow 57 = .ok (.iload_n 2, 1) := by decide +kernel
theorem dX12_bestThrow_58 : decode cX12_bestThrow 58 = .ok (.ifCond .lt 36, 3) := by decide +kernel
theorem dX12_bestThrow_61 : decode cX12_bestThrow 61 = .ok (.iload 4, 2) := by decide +kernel
theorem dX12_bestThrow_63 : decode cX12_bestThrow 63 = .ok (.invokestatic 153, 3) := by decide +kernel
theorem dX12_bestThrow_66 : decode cX12_bestThrow 66 = .ok (.iload_n 2, 1) := by decide +kernel
theorem dX12_bestThrow_67 : decode cX12_bestThrow 67 = .ok (.invokestatic 153, 3) := by decide +kernel
theorem dX12_bestThrow_70 : decode cX12_bestThrow 70 = .ok (.if_icmp .gt 30, 3) := by decide +kernel
theorem dX12_bestThrow_73 : decode cX12_bestThrow 73 = .ok (.iload 4, 2) := by decide +kernel
theorem dX12_bestThrow_75 : decode cX12_bestThrow 75 = .ok (.invokestatic 153, 3) := by decide +kernel
theorem dX12_bestThrow_78 : decode cX12_bestThrow 78 = .ok (.iload_n 2, 1) := by decide +kernel
theorem dX12_bestThrow_79 : decode cX12_bestThrow 79 = .ok (.invokestatic 153, 3) := by decide +kernel
theorem dX12_bestThrow_82 : decode cX12_bestThrow 82 = .ok (.if_icmp .ne 12, 3) := by decide +kernel
theorem dX12_bestThrow_85 : decode cX12_bestThrow 85 = .ok (.iload 5, 2) := by decide +kernel
theorem dX12_bestThrow_87 : decode cX12_bestThrow 87 = .ok (.iload_n 3, 1) := by decide +kernel
theorem dX12_bestThrow_88 : decode cX12_bestThrow 88 = .ok (.if_icmp .lt 6, 3) := by decide +kernel
theorem dX12_bestThrow_91 : decode cX12_bestThrow 91 = .ok (.goto 9, 3) := by decide +kernel
theorem dX12_bestThrow_94 : decode cX12_bestThrow 94 = .ok (.iload 4, 2) := by decide +kernel
theorem dX12_bestThrow_96 : decode cX12_bestThrow 96 = .ok (.istore_n 2, 1) := by decide +kernel
theorem dX12_bestThrow_97 : decode cX12_bestThrow 97 = .ok (.iload 5, 2) := by decide +kernel
theorem dX12_bestThrow_99 : decode cX12_bestThrow 99 = .ok (.istore_n 3, 1) := by decide +kernel
theorem dX12_bestThrow_100 : decode cX12_bestThrow 100 = .ok (.iinc 4 1, 3) := by decide +kernel
theorem dX12_bestThrow_103 : decode cX12_bestThrow 103 = .ok (.goto (-70), 3) := by decide +kernel
theorem dX12_bestThrow_106 : decode cX12_bestThrow 106 = .ok (.iload_n 2, 1) := by decide +kernel
theorem dX12_bestThrow_107 : decode cX12_bestThrow 107 = .ok (.ifCond .ge 11, 3) := by decide +kernel
theorem dX12_bestThrow_110 : decode cX12_bestThrow 110 = .ok (.aload_n 0, 1) := by decide +kernel
theorem dX12_bestThrow_111 : decode cX12_bestThrow 111 = .ok (.iconst 2, 1) := by decide +kernel
theorem dX12_bestThrow_112 : decode cX12_bestThrow 112 = .ok (.invokevirtual 59, 3) := by decide +kernel
theorem dX12_bestThrow_115 : decode cX12_bestThrow 115 = .ok (.goto 4, 3) := by decide +kernel
theorem dX12_bestThrow_118 : decode cX12_bestThrow 118 = .ok (.iload_n 2, 1) := by decide +kernel
theorem dX12_bestThrow_119 : decode cX12_bestThrow 119 = .ok (.ireturn, 1) := by decide +kernel
theorem dX12_summons_0 : decode cX12_summons 0 = .ok (.aload_n 0, 1) := by decide +kernel
theorem dX12_summons_1 : decode cX12_summons 1 = .ok (.iload_n 1, 1) := by decide +kernel
theorem dX12_summons_2 : decode cX12_summons 2 = .ok (.invokevirtual 140, 3) := by decide +kernel
theorem dX12_summons_5 : decode cX12_summons 5 = .ok (.ifCond .ne 9, 3) := by decide +kernel
theorem dX12_summons_8 : decode cX12_summons 8 = .ok (.aload_n 0, 1) := by decide +kernel
theorem dX12_summons_9 : decode cX12_summons 9 = .ok (.iconst 1, 1) := by decide +kernel
theorem dX12_summons_10 : decode cX12_summons 10 = .ok (.invokevirtual 59, 3) := by decide +kernel
theorem dX12_summons_13 : decode cX12_summons 13 = .ok (.ireturn, 1) := by decide +kernel
theorem dX12_summons_14 : decode cX12_summons 14 = .ok (.iload_n 2, 1) := by decide +kernel
theorem dX12_summons_15 : decode cX12_summons 15 = .ok (.iconst 0, 1) := by decide +kernel
theorem dX12_summons_16 : decode cX12_summons 16 = .ok (.bipush 63, 2) := by decide +kernel
theorem dX12_summons_18 : decode cX12_summons 18 = .ok (.invokestatic 70, 3) := by decide +kernel
theorem dX12_summons_21 : decode cX12_summons 21 = .ok (.ifCond .ne 9, 3) := by decide +kernel
theorem dX12_summons_24 : decode cX12_summons 24 = .ok (.aload_n 0, 1) := by decide +kernel
theorem dX12_summons_25 : decode cX12_summons 25 = .ok (.iconst 2, 1) := by decide +kernel
theorem dX12_summons_26 : decode cX12_summons 26 = .ok (.invokevirtual 59, 3) := by decide +kernel
theorem dX12_summons_29 : decode cX12_summons 29 = .ok (.ireturn, 1) := by decide +kernel
theorem dX12_summons_30 : decode cX12_summons 30 = .ok (.aload_n 0, 1) := by decide +kernel
theorem dX12_summons_31 : decode cX12_summons 31 = .ok (.getfield 16, 3) := by decide +kernel
theorem dX12_summons_34 : decode cX12_summons 34 = .ok (.iconst 2, 1) := by decide +kernel
theorem dX12_summons_35 : decode cX12_summons 35 = .ok (.iaload, 1) := by decide +kernel
theorem dX12_summons_36 : decode cX12_summons 36 = .ok (.ifCond .ne 16, 3) := by decide +kernel
theorem dX12_summons_39 : decode cX12_summons 39 = .ok (.aload_n 0, 1) := by decide +kernel
theorem dX12_summons_40 : decode cX12_summons 40 = .ok (.iconst 3, 1) := by decide +kernel
theorem dX12_summons_41 : decode cX12_summons 41 = .ok (.iconst 4, 1) := by decide +kernel
theorem dX12_summons_42 : decode cX12_summons 42 = .ok (.aload_n 0, 1) := by decide +kernel
theorem dX12_summons_43 : decode cX12_summons 43 = .ok (.getfield 16, 3) := by decide +kernel
theorem dX12_summons_46 : decode cX12_summons 46 = .ok (.iconst 1, 1) := by decide +kernel
theorem dX12_summons_47 : decode cX12_summons 47 = .ok (.iaload, 1) := by decide +kernel
theorem dX12_summons_48 : decode cX12_summons 48 = .ok (.invokevirtual 88, 3) := by decide +kernel
theorem dX12_summons_51 : decode cX12_summons 51 = .ok (.ireturn, 1) := by decide +kernel
theorem dX12_summons_52 : decode cX12_summons 52 = .ok (.aload_n 0, 1) := by decide +kernel
theorem dX12_summons_53 : decode cX12_summons 53 = .ok (.iload_n 1, 1) := by decide +kernel
theorem dX12_summons_54 : decode cX12_summons 54 = .ok (.invokevirtual 175, 3) := by decide +kernel
theorem dX12_summons_57 : decode cX12_summons 57 = .ok (.ifCond .lt 15, 3) := by decide +kernel
theorem dX12_summons_60 : decode cX12_summons 60 = .ok (.aload_n 0, 1) := by decide +kernel
theorem dX12_summons_61 : decode cX12_summons 61 = .ok (.iconst 3, 1) := by decide +kernel
theorem dX12_summons_62 : decode cX12_summons 62 = .ok (.iconst 5, 1) := by decide +kernel
theorem dX12_summons_63 : decode cX12_summons 63 = .ok (.aload_n 0, 1) := by decide +kernel
theorem dX12_summons_64 : decode cX12_summons 64 = .ok (.iload_n 1, 1) := by decide +kernel
theorem dX12_summons_65 : decode cX12_summons 65 = .ok (.invokevirtual 175, 3) := by decide +kernel
theorem dX12_summons_68 : decode cX12_summons 68 = .ok (.invokevirtual 88, 3) := by decide +kernel
theorem dX12_summons_71 : decode cX12_summons 71 = .ok (.ireturn, 1) := by decide +kernel
theorem dX12_summons_72 : decode cX12_summons 72 = .ok (.aload_n 0, 1) := by decide +kernel
theorem dX12_summons_73 : decode cX12_summons 73 = .ok (.iload_n 2, 1) := by decide +kernel
theorem dX12_summons_74 : decode cX12_summons 74 = .ok (.iload_n 1, 1) := by decide +kernel
theorem dX12_summons_75 : decode cX12_summons 75 = .ok (.invokevirtual 168, 3) := by decide +kernel
theorem dX12_summons_78 : decode cX12_summons 78 = .ok (.istore_n 3, 1) := by decide +kernel
theorem dX12_summons_79 : decode cX12_summons 79 = .ok (.aload_n 0, 1) := by decide +kernel
theorem dX12_summons_80 : decode cX12_summons 80 = .ok (.getfield 16, 3) := by decide +kernel
theorem dX12_summons_83 : decode cX12_summons 83 = .ok (.bipush 7, 2) := by decide +kernel
theorem dX12_summons_85 : decode cX12_summons 85 = .ok (.iaload, 1) := by decide +kernel
theorem dX12_summons_86 : decode cX12_summons 86 = .ok (.istore 4, 2) := by decide +kernel
theorem dX12_summons_88 : decode cX12_summons 88 = .ok (.aload_n 0, 1) := by decide +kernel
theorem dX12_summons_89 : decode cX12_summons 89 = .ok (.getfield 16, 3) := by decide +kernel
theorem dX12_summons_92 : decode cX12_summons 92 = .ok (.iconst 1, 1) := by decide +kernel
theorem dX12_summons_93 : decode cX12_summons 93 = .ok (.dup2, 1) := by decide +kernel
theorem dX12_summons_94 : decode cX12_summons 94 = .ok (.iaload, 1) := by decide +kernel
theorem dX12_summons_95 : decode cX12_summons 95 = .ok (.iload_n 2, 1) := by decide +kernel
theorem dX12_summons_96 : decode cX12_summons 96 = .ok (.invokestatic 153, 3) := by decide +kernel
theorem dX12_summons_99 : decode cX12_summons 99 = .ok (.isub, 1) := by decide +kernel
theorem dX12_summons_100 : decode cX12_summons 100 = .ok (.iastore, 1) := by decide +kernel
theorem dX12_summons_101 : decode cX12_summons 101 = .ok (.aload_n 0, 1) := by decide +kernel
theorem dX12_summons_102 : decode cX12_summons 102 = .ok (.getfield 16, 3) := by decide +kernel
theorem dX12_summons_105 : decode cX12_summons 105 = .ok (.bipush 9, 2) := by decide +kernel
theorem dX12_summons_107 : decode cX12_summons 107 = .ok (.dup2, 1) := by decide +kernel
theorem dX12_summons_108 : decode cX12_summons 108 = .ok (.iaload, 1) := by decide +kernel
theorem dX12_summons_109 : decode cX12_summons 109 = .ok (.iconst 1, 1) := by decide +kernel
theorem dX12_summons_110 : decode cX12_summons 110 = .ok (.iadd, 1) := by decide +kernel
theorem dX12_summons_111 : decode cX12_summons 111 = .ok (.iastore, 1) := by decide +kernel
theorem dX12_summons_112 : decode cX12_summons 112 = .ok (.aload_n 0, 1) := by decide +kernel
theorem dX12_summons_113 : decode cX12_summons 113 = .ok (.getfield 16, 3) := by decide +kernel
theorem dX12_summons_116 : decode cX12_summons 116 = .ok (.bipush 11, 2) := by decide +kernel
theorem dX12_summons_118 : decode cX12_summons 118 = .ok (.dup2, 1) := by decide +kernel
theorem dX12_summons_119 : decode cX12_summons 119 = .ok (.iaload, 1) := by decide +kernel
theorem dX12_summons_120 : decode cX12_summons 120 = .ok (.iload_n 3, 1) := by decide +kernel
theorem dX12_summons_121 : decode cX12_summons 121 = .ok (.ifCond .le 7, 3) := by decide +kernel
theorem dX12_summons_124 : decode cX12_summons 124 = .ok (.iload_n 3, 1) := by decide +kernel
theorem dX12_summons_125 : decode cX12_summons 125 = .ok (.goto 7, 3) := by decide +kernel
theorem dX12_summons_128 : decode cX12_summons 128 = .ok (.aload_n 0, 1) := by decide +kernel
theorem dX12_summons_129 : decode cX12_summons 129 = .ok (.getfield 146, 3) := by decide +kernel
theorem dX12_summons_132 : decode cX12_summons 132 = .ok (.iadd, 1) := by decide +kernel
theorem dX12_summons_133 : decode cX12_summons 133 = .ok (.iastore, 1) := by decide +kernel
theorem dX12_summons_134 : decode cX12_summons 134 = .ok (.iload_n 3, 1) := by decide +kernel
theorem dX12_summons_135 : decode cX12_summons 135 = .ok (.ifCond .ne 60, 3) := by decide +kernel
theorem dX12_summons_138 : decode cX12_summons 138 = .ok (.aload_n 0, 1) := by decide +kernel
theorem dX12_summons_139 : decode cX12_summons 139 = .ok (.invokevirtual 165, 3) := by decide +kernel
theorem dX12_summons_142 : decode cX12_summons 142 = .ok (.bipush 99, 2) := by decide +kernel
theorem dX12_summons_144 : decode cX12_summons 144 = .ok (.if_icmp .ne 7, 3) := by decide +kernel
theorem dX12_summons_147 : decode cX12_summons 147 = .ok (.iconst 1, 1) := by decide +kernel
theorem dX12_summons_148 : decode cX12_summons 148 = .ok (.goto 4, 3) := by decide +kernel
theorem dX12_summons_151 : decode cX12_summons 151 = .ok (.iconst 0, 1) := by decide +kernel
theorem dX12_summons_152 : decode cX12_summons 152 = .ok (.istore 5, 2) := by decide +kernel
theorem dX12_summons_154 : decode cX12_summons 154 = .ok (.aload_n 0, 1) := by decide +kernel
theorem dX12_summons_155 : decode cX12_summons 155 = .ok (.getfield 16, 3) := by decide +kernel
theorem dX12_summons_158 : decode cX12_summons 158 = .ok (.bipush 10, 2) := by decide +kernel
theorem dX12_summons_160 : decode cX12_summons 160 = .ok (.dup2, 1) := by decide +kernel
theorem dX12_summons_161 : decode cX12_summons 161 = .ok (.iaload, 1) := by decide +kernel
theorem dX12_summons_162 : decode cX12_summons 162 = .ok (.iload 5, 2) := by decide +kernel
theorem dX12_summons_164 : decode cX12_summons 164 = .ok (.ifCond .eq 7, 3) := by decide +kernel
theorem dX12_summons_167 : decode cX12_summons 167 = .ok (.iconst 1, 1) := by decide +kernel
theorem dX12_summons_168 : decode cX12_summons 168 = .ok (.goto 4, 3) := by decide +kernel
theorem dX12_summons_171 : decode cX12_summons 171 = .ok (.iconst 0, 1) := by decide +kernel
theorem dX12_summons_172 : decode cX12_summons 172 = .ok (.iadd, 1) := by decide +kernel
theorem dX12_summons_173 : decode cX12_summons 173 = .ok (.iastore, 1) := by decide +kernel
theorem dX12_summons_174 : decode cX12_summons 174 = .ok (.aload_n 0, 1) := by decide +kernel
theorem dX12_summons_175 : decode cX12_summons 175 = .ok (.getfield 16, 3) := by decide +kernel
theorem dX12_summons_178 : decode cX12_summons 178 = .ok (.iconst 2, 1) := by decide +kernel
theorem dX12_summons_179 : decode cX12_summons 179 = .ok (.dup2, 1) := by decide +kernel
theorem dX12_summons_180 : decode cX12_summons 180 = .ok (.iaload, 1) := by decide +kernel
theorem dX12_summons_181 : decode cX12_summons 181 = .ok (.iload 5, 2) := by decide +kernel
theorem dX12_summons_183 : decode cX12_summons 183 = .ok (.ifCond .eq 7, 3) := by decide +kernel
theorem dX12_summons_186 : decode cX12_summons 186 = .ok (.iconst 0, 1) := by decide +kernel
theorem dX12_summons_187 : decode cX12_summons 187 = .ok (.goto 4, 3) := by decide +kernel
theorem dX12_summons_190 : decode cX12_summons 190 = .ok (.iconst 1, 1) := by decide +kernel
theorem dX12_summons_191 : decode cX12_summons 191 = .ok (.isub, 1) := by decide +kernel
theorem dX12_summons_192 : decode cX12_summons 192 = .ok (.iastore, 1) := by decide +kernel
theorem dX12_summons_193 : decode cX12_summons 193 = .ok (.iconst 0, 1) := by decide +kernel
theorem dX12_summons_194 : decode cX12_summons 194 = .ok (.ireturn, 1) := by decide +kernel
theorem dX12_summons_195 : decode cX12_summons 195 = .ok (.aload_n 0, 1) := by decide +kernel
theorem dX12_summons_196 : decode cX12_summons 196 = .ok (.getfield 16, 3) := by decide +kernel
theorem dX12_summons_199 : decode cX12_summons 199 = .ok (.iconst 2, 1) := by decide +kernel
theorem dX12_summons_200 : decode cX12_summons 200 = .ok (.dup2, 1) := by decide +kernel
theorem dX12_summons_201 : decode cX12_summons 201 = .ok (.iaload, 1) := by decide +kernel
theorem dX12_summons_202 : decode cX12_summons 202 = .ok (.iconst 1, 1) := by decide +kernel
theorem dX12_summons_203 : decode cX12_summons 203 = .ok (.isub, 1) := by decide +kernel
theorem dX12_summons_204 : decode cX12_summons 204 = .ok (.iastore, 1) := by decide +kernel
theorem dX12_summons_205 : decode cX12_summons 205 = .ok (.aload_n 0, 1) := by decide +kernel
theorem dX12_summons_206 : decode cX12_summons 206 = .ok (.getfield 16, 3) := by decide +kernel
theorem dX12_summons_209 : decode cX12_summons 209 = .ok (.bipush 76, 2) := by decide +kernel
theorem dX12_summons_211 : decode cX12_summons 211 = .ok (.iconst 2, 1) := by decide +kernel
theorem dX12_summons_212 : decode cX12_summons 212 = .ok (.iload_n 1, 1) := by decide +kernel
theorem dX12_summons_213 : decode cX12_summons 213 = .ok (.imul, 1) := by decide +kernel
theorem dX12_summons_214 : decode cX12_summons 214 = .ok (.iadd, 1) := by decide +kernel
theorem dX12_summons_215 : decode cX12_summons 215 = .ok (.iconst 1, 1) := by decide +kernel
theorem dX12_summons_216 : decode cX12_summons 216 = .ok (.iadd, 1) := by decide +kernel
theorem dX12_summons_217 : decode cX12_summons 217 = .ok (.dup2, 1) := by decide +kernel
theorem dX12_summons_218 : decode cX12_summons 218 = .ok (.iaload, 1) := by decide +kernel
theorem dX12_summons_219 : decode cX12_summons 219 = .ok (.iconst 1, 1) := by decide +kernel
theorem dX12_summons_220 : decode cX12_summons 220 = .ok (.iadd, 1) := by decide +kernel
theorem dX12_summons_221 : decode cX12_summons 221 = .ok (.iastore, 1) := by decide +kernel
theorem dX12_summons_222 : decode cX12_summons 222 = .ok (.aload_n 0, 1) := by decide +kernel
theorem dX12_summons_223 : decode cX12_summons 223 = .ok (.getfield 16, 3) := by decide +kernel
theorem dX12_summons_226 : decode cX12_summons 226 = .ok (.iload 4, 2) := by decide +kernel
theorem dX12_summons_228 : decode cX12_summons 228 = .ok (.iconst 0, 1) := by decide +kernel
theorem dX12_summons_229 : decode cX12_summons 229 = .ok (.invokestatic 77, 3) := by decide +kernel
theorem dX12_summons_232 : decode cX12_summons 232 = .ok (.iload_n 1, 1) := by decide +kernel
theorem dX12_summons_233 : decode cX12_summons 233 = .ok (.iastore, 1) := by decide +kernel
theorem dX12_summons_234 : decode cX12_summons 234 = .ok (.aload_n 0, 1) := by decide +kernel
theorem dX12_summons_235 : decode cX12_summons 235 = .ok (.getfield 16, 3) := by decide +kernel
theorem dX12_summons_238 : decode cX12_summons 238 = .ok (.iload 4, 2) := by decide +kernel
theorem dX12_summons_240 : decode cX12_summons 240 = .ok (.iconst 1, 1) := by decide +kernel
theorem dX12_summons_241 : decode cX12_summons 241 = .ok (.invokestatic 77, 3) := by decide +kernel
theorem dX12_summons_244 : decode cX12_summons 244 = .ok (.aload_n 0, 1) := by decide +kernel
theorem dX12_summons_245 : decode cX12_summons 245 = .ok (.getfield 16, 3) := by decide +kernel
theorem dX12_summons_248 : decode cX12_summons 248 = .ok (.iconst 0, 1) := by decide +kernel
theorem dX12_summons_249 : decode cX12_summons 249 = .ok (.iaload, 1) := by decide +kernel
theorem dX12_summons_250 : decode cX12_summons 250 = .ok (.iload_n 3, 1) := by decide +kernel
theorem dX12_summons_251 : decode cX12_summons 251 = .ok (.iconst 4, 1) := by decide +kernel
theorem dX12_summons_252 : decode cX12_summons 252 = .ok (.idiv, 1) := by decide +kernel
theorem dX12_summons_253 : decode cX12_summons 253 = .ok (.iadd, 1) := by decide +kernel
theorem dX12_summons_254 : decode cX12_summons 254 = .ok (.iastore, 1) := by decide +kernel
theorem dX12_summons_255 : decode cX12_summons 255 = .ok (.aload_n 0, 1) := by decide +kernel
theorem dX12_summons_256 : decode cX12_summons 256 = .ok (.getfield 16, 3) := by decide +kernel
theorem dX12_summons_259 : decode cX12_summons 259 = .ok (.iload 4, 2) := by decide +kernel
theorem dX12_summons_261 : decode cX12_summons 261 = .ok (.iconst 2, 1) := by decide +kernel
theorem dX12_summons_262 : decode cX12_summons 262 = .ok (.invokestatic 77, 3) := by decide +kernel
theorem dX12_summons_265 : decode cX12_summons 265 = .ok (.iload_n 2, 1) := by decide +kernel
theorem dX12_summons_266 : decode cX12_summons 266 = .ok (.invokestatic 153, 3) := by decide +kernel
theorem dX12_summons_269 : decode cX12_summons 269 = .ok (.iastore, 1) := by decide +kernel
theorem dX12_summons_270 : decode cX12_summons 270 = .ok (.aload_n 0, 1) := by decide +kernel
theorem dX12_summons_271 : decode cX12_summons 271 = .ok (.getfield 16, 3) := by decide +kernel
theorem dX12_summons_274 : decode cX12_summons 274 = .ok (.bipush 7, 2) := by decide +kernel
theorem dX12_summons_276 : decode cX12_summons 276 = .ok (.dup2, 1) := by decide +kernel
theorem dX12_summons_277 : decode cX12_summons 277 = .ok (.iaload, 1) := by decide +kernel
theorem dX12_summons_278 : decode cX12_summons 278 = .ok (.iconst 1, 1) := by decide +kernel
theorem dX12_summons_279 : decode cX12_summons 279 = .ok (.iadd, 1) := by decide +kernel
theorem dX12_summons_280 : decode cX12_summons 280 = .ok (.iastore, 1) := by decide +kernel
theorem dX12_summons_281 : decode cX12_summons 281 = .ok (.iconst 1, 1) := by decide +kernel
theorem dX12_summons_282 : decode cX12_summons 282 = .ok (.ireturn, 1) := by decide +kernel
theorem dX12_summon_0 : decode cX12_summon 0 = .ok (.aload_n 0, 1) := by decide +kernel
theorem dX12_summon_1 : decode cX12_summon 1 = .ok (.invokevirtual 96, 3) := by decide +kernel
theorem dX12_summon_4 : decode cX12_summon 4 = .ok (.aload_n 0, 1) := by decide +kernel
theorem dX12_summon_5 : decode cX12_summon 5 = .ok (.aload_n 0, 1) := by decide +kernel
theorem dX12_summon_6 : decode cX12_summon 6 = .ok (.iload_n 1, 1) := by decide +kernel
theorem dX12_summon_7 : decode cX12_summon 7 = .ok (.iload_n 2, 1) := by decide +kernel
theorem dX12_summon_8 : decode cX12_summon 8 = .ok (.invokevirtual 178, 3) := by decide +kernel
theorem dX12_summon_11 : decode cX12_summon 11 = .ok (.invokevirtual 103, 3) := by decide +kernel
theorem dX12_summon_14 : decode cX12_summon 14 = .ok (.iconst 1, 1) := by decide +kernel
theorem dX12_summon_15 : decode cX12_summon 15 = .ok (.if_icmp .ne 7, 3) := by decide +kernel
theorem dX12_summon_18 : decode cX12_summon 18 = .ok (.iconst 1, 1) := by decide +kernel
theorem dX12_summon_19 : decode cX12_summon 19 = .ok (.goto 4, 3) := by decide +kernel
theorem dX12_summon_22 : decode cX12_summon 22 = .ok (.iconst 0, 1) := by decide +kernel
theorem dX12_summon_23 : decode cX12_summon 23 = .ok (.ireturn, 1) := by decide +kernel
theorem dX12_buys_0 : decode cX12_buys 0 = .ok (.iload_n 1, 1) := by decide +kernel
theorem dX12_buys_1 : decode cX12_buys 1 = .ok (.iconst 1, 1) := by decide +kernel
theorem dX12_buys_2 : decode cX12_buys 2 = .ok (.bipush 20, 2) := by decide +kernel
theorem dX12_buys_4 : decode cX12_buys 4 = .ok (.invokestatic 70, 3) := by decide +kernel
theorem dX12_buys_7 : decode cX12_buys 7 = .ok (.ifCond .ne 9, 3) := by decide +kernel
theorem dX12_buys_10 : decode cX12_buys 10 = .ok (.aload_n 0, 1) := by decide +kernel
theorem dX12_buys_11 : decode cX12_buys 11 = .ok (.iconst 1, 1) := by decide +kernel
theorem dX12_buys_12 : decode cX12_buys 12 = .ok (.invokevirtual 59, 3) := by decide +kernel
theorem dX12_buys_15 : decode cX12_buys 15 = .ok (.ireturn, 1) := by decide +kernel
theorem dX12_buys_16 : decode cX12_buys 16 = .ok (.aload_n 0, 1) := by decide +kernel
theorem dX12_buys_17 : decode cX12_buys 17 = .ok (.getfield 16, 3) := by decide +kernel
theorem dX12_buys_20 : decode cX12_buys 20 = .ok (.iconst 1, 1) := by decide +kernel
theorem dX12_buys_21 : decode cX12_buys 21 = .ok (.iaload, 1) := by decide +kernel
theorem dX12_buys_22 : decode cX12_buys 22 = .ok (.iconst 2, 1) := by decide +kernel
theorem dX12_buys_23 : decode cX12_buys 23 = .ok (.iload_n 1, 1) := by decide +kernel
theorem dX12_buys_24 : decode cX12_buys 24 = .ok (.imul, 1) := by decide +kernel
theorem dX12_buys_25 : decode cX12_buys 25 = .ok (.if_icmp .ge 9, 3) := by decide +kernel
theorem dX12_buys_28 : decode cX12_buys 28 = .ok (.aload_n 0, 1) := by decide +kernel
theorem dX12_buys_29 : decode cX12_buys 29 = .ok (.iconst 2, 1) := by decide +kernel
theorem dX12_buys_30 : decode cX12_buys 30 = .ok (.invokevirtual 59, 3) := by decide +kernel
theorem dX12_buys_33 : decode cX12_buys 33 = .ok (.ireturn, 1) := by decide +kernel
theorem dX12_buys_34 : decode cX12_buys 34 = .ok (.aload_n 0, 1) := by decide +kernel
theorem dX12_buys_35 : decode cX12_buys 35 = .ok (.getfield 16, 3) := by decide +kernel
theorem dX12_buys_38 : decode cX12_buys 38 = .ok (.iconst 1, 1) := by decide +kernel
theorem dX12_buys_39 : decode cX12_buys 39 = .ok (.dup2, 1) := by decide +kernel
theorem dX12_buys_40 : decode cX12_buys 40 = .ok (.iaload, 1) := by decide +kernel
theorem dX12_buys_41 : decode cX12_buys 41 = .ok (.iconst 2, 1) := by decide +kernel
theorem dX12_buys_42 : decode cX12_buys 42 = .ok (.iload_n 1, 1) := by decide +kernel
theorem dX12_buys_43 : decode cX12_buys 43 = .ok (.imul, 1) := by decide +kernel
theorem dX12_buys_44 : decode cX12_buys 44 = .ok (.isub, 1) := by decide +kernel
theorem dX12_buys_45 : decode cX12_buys 45 = .ok (.iastore, 1) := by decide +kernel
theorem dX12_buys_46 : decode cX12_buys 46 = .ok (.aload_n 0, 1) := by decide +kernel
theorem dX12_buys_47 : decode cX12_buys 47 = .ok (.getfield 16, 3) := by decide +kernel
theorem dX12_buys_50 : decode cX12_buys 50 = .ok (.iconst 2, 1) := by decide +kernel
theorem dX12_buys_51 : decode cX12_buys 51 = .ok (.dup2, 1) := by decide +kernel
theorem dX12_buys_52 : decode cX12_buys 52 = .ok (.iaload, 1) := by decide +kernel
theorem dX12_buys_53 : decode cX12_buys 53 = .ok (.iload_n 1, 1) := by decide +kernel
theorem dX12_buys_54 : decode cX12_buys 54 = .ok (.iadd, 1) := by decide +kernel
theorem dX12_buys_55 : decode cX12_buys 55 = .ok (.iastore, 1) := by decide +kernel
theorem dX12_buys_56 : decode cX12_buys 56 = .ok (.aload_n 0, 1) := by decide +kernel
theorem dX12_buys_57 : decode cX12_buys 57 = .ok (.getfield 16, 3) := by decide +kernel
theorem dX12_buys_60 : decode cX12_buys 60 = .ok (.iconst 2, 1) := by decide +kernel
theorem dX12_buys_61 : decode cX12_buys 61 = .ok (.iaload, 1) := by decide +kernel
theorem dX12_buys_62 : decode cX12_buys 62 = .ok (.ireturn, 1) := by decide +kernel
theorem dX12_buyBoomerangs_0 : decode cX12_buyBoomerangs 0 = .ok (.aload_n 0, 1) := by decide +kernel
theorem dX12_buyBoomerangs_1 : decode cX12_buyBoomerangs 1 = .ok (.invokevirtual 96, 3) := by decide +kernel
theorem dX12_buyBoomerangs_4 : decode cX12_buyBoomerangs 4 = .ok (.aload_n 0, 1) := by decide +kernel
theorem dX12_buyBoomerangs_5 : decode cX12_buyBoomerangs 5 = .ok (.aload_n 0, 1) := by decide +kernel
theorem dX12_buyBoomerangs_6 : decode cX12_buyBoomerangs 6 = .ok (.iload_n 1, 1) := by decide +kernel
theorem dX12_buyBoomerangs_7 : decode cX12_buyBoomerangs 7 = .ok (.invokevirtual 181, 3) := by decide +kernel
theorem dX12_buyBoomerangs_10 : decode cX12_buyBoomerangs 10 = .ok (.invokevirtual 103, 3) := by decide +kernel
theorem dX12_buyBoomerangs_13 : decode cX12_buyBoomerangs 13 = .ok (.ireturn, 1) := by decide +kernel
theorem dX12_boomerangs_0 : decode cX12_boomerangs 0 = .ok (.aload_n 0, 1) := by decide +kernel
theorem dX12_boomerangs_1 : decode cX12_boomerangs 1 = .ok (.iconst 2, 1) := by decide +kernel
theorem dX12_boomerangs_2 : decode cX12_boomerangs 2 = .ok (.invokevirtual 131, 3) := by decide +kernel
theorem dX12_boomerangs_5 : decode cX12_boomerangs 5 = .ok (.ireturn, 1) := by decide +kernel
theorem dX12_throwCount_0 : decode cX12_throwCount 0 = .ok (.aload_n 0, 1) := by decide +kernel
theorem dX12_throwCount_1 : decode cX12_throwCount 1 = .ok (.bipush 9, 2) := by decide +kernel
theorem dX12_throwCount_3 : decode cX12_throwCount 3 = .ok (.invokevirtual 131, 3) := by decide +kernel
theorem dX12_throwCount_6 : decode cX12_throwCount 6 = .ok (.ireturn, 1) := by decide +kernel
theorem dX12_sitsAt_0 : decode cX12_sitsAt 0 = .ok (.aload_n 0, 1) := by decide +kernel
theorem dX12_sitsAt_1 : decode cX12_sitsAt 1 = .ok (.getfield 16, 3) := by decide +kernel
theorem dX12_sitsAt_4 : decode cX12_sitsAt 4 = .ok (.bipush 8, 2) := by decide +kernel
theorem dX12_sitsAt_6 : decode cX12_sitsAt 6 = .ok (.iaload, 1) := by decide +kernel
theorem dX12_sitsAt_7 : decode cX12_sitsAt 7 = .ok (.iload_n 1, 1) := by decide +kernel
theorem dX12_sitsAt_8 : decode cX12_sitsAt 8 = .ok (.bipush 24, 2) := by decide +kernel
theorem dX12_sitsAt_10 : decode cX12_sitsAt 10 = .ok (.irem, 1) := by decide +kernel
theorem dX12_sitsAt_11 : decode cX12_sitsAt 11 = .ok (.ishr, 1) := by decide +kernel
theorem dX12_sitsAt_12 : decode cX12_sitsAt 12 = .ok (.iconst 1, 1) := by decide +kernel
theorem dX12_sitsAt_13 : decode cX12_sitsAt 13 = .ok (.iand, 1) := by decide +kernel
theorem dX12_sitsAt_14 : decode cX12_sitsAt 14 = .ok (.iconst 1, 1) := by decide +kernel
theorem dX12_sitsAt_15 : decode cX12_sitsAt 15 = .ok (.if_icmp .ne 7, 3) := by decide +kernel
theorem dX12_sitsAt_18 : decode cX12_sitsAt 18 = .ok (.iconst 1, 1) := by decide +kernel
theorem dX12_sitsAt_19 : decode cX12_sitsAt 19 = .ok (.goto 4, 3) := by decide +kernel
theorem dX12_sitsAt_22 : decode cX12_sitsAt 22 = .ok (.iconst 0, 1) := by decide +kernel
theorem dX12_sitsAt_23 : decode cX12_sitsAt 23 = .ok (.ireturn, 1) := by decide +kernel
theorem dX12_seats_0 : decode cX12_seats 0 = .ok (.iload_n 1, 1) := by decide +kernel
theorem dX12_seats_1 : decode cX12_seats 1 = .ok (.iconst 0, 1) := by decide +kernel
theorem dX12_seats_2 : decode cX12_seats 2 = .ok (.bipush 23, 2) := by decide +kernel
theorem dX12_seats_4 : decode cX12_seats 4 = .ok (.invokestatic 70, 3) := by decide +kernel
theorem dX12_seats_7 : decode cX12_seats 7 = .ok (.ifCond .ne 9, 3) := by decide +kernel
theorem dX12_seats_10 : decode cX12_seats 10 = .ok (.aload_n 0, 1) := by decide +kernel
theorem dX12_seats_11 : decode cX12_seats 11 = .ok (.iconst 1, 1) := by decide +kernel
theorem dX12_seats_12 : decode cX12_seats 12 = .ok (.invokevirtual 59, 3) := by decide +kernel
theorem dX12_seats_15 : decode cX12_seats 15 = .ok (.ireturn, 1) := by decide +kernel
theorem dX12_seats_16 : decode cX12_seats 16 = .ok (.aload_n 0, 1) := by decide +kernel
theorem dX12_seats_17 : decode cX12_seats 17 = .ok (.iload_n 1, 1) := by decide +kernel
theorem dX12_seats_18 : decode cX12_seats 18 = .ok (.invokevirtual 184, 3) := by decide +kernel
theorem dX12_seats_21 : decode cX12_seats 21 = .ok (.ifCond .eq 7, 3) := by decide +kernel
theorem dX12_seats_24 : decode cX12_seats 24 = .ok (.iconst 1, 1) := by decide +kernel
theorem dX12_seats_25 : decode cX12_seats 25 = .ok (.goto 4, 3) := by decide +kernel
theorem dX12_seats_28 : decode cX12_seats 28 = .ok (.iconst 0, 1) := by decide +kernel
theorem dX12_seats_29 : decode cX12_seats 29 = .ok (.istore_n 3, 1) := by decide +kernel
theorem dX12_seats_30 : decode cX12_seats 30 = .ok (.iload_n 3, 1) := by decide +kernel
theorem dX12_seats_31 : decode cX12_seats 31 = .ok (.iload_n 2, 1) := by decide +kernel
theorem dX12_seats_32 : decode cX12_seats 32 = .ok (.ifCond .eq 7, 3) := by decide +kernel
theorem dX12_seats_35 : decode cX12_seats 35 = .ok (.iconst 1, 1) := by decide +kernel
theorem dX12_seats_36 : decode cX12_seats 36 = .ok (.goto 4, 3) := by decide +kernel
theorem dX12_seats_39 : decode cX12_seats 39 = .ok (.iconst 0, 1) := by decide +kernel
theorem dX12_seats_40 : decode cX12_seats 40 = .ok (.if_icmp .eq 16, 3) := by decide +kernel
theorem dX12_seats_43 : decode cX12_seats 43 = .ok (.aload_n 0, 1) := by decide +kernel
theorem dX12_seats_44 : decode cX12_seats 44 = .ok (.getfield 16, 3) := by decide +kernel
theorem dX12_seats_47 : decode cX12_seats 47 = .ok (.bipush 8, 2) := by decide +kernel
theorem dX12_seats_49 : decode cX12_seats 49 = .ok (.dup2, 1) := by decide +kernel
theorem dX12_seats_50 : decode cX12_seats 50 = .ok (.iaload, 1) := by decide +kernel
theorem dX12_seats_51 : decode cX12_seats 51 = .ok (.iconst 1, 1) := by decide +kernel
theorem dX12_seats_52 : decode cX12_seats 52 = .ok (.iload_n 1, 1) := by decide +kernel
theorem dX12_seats_53 : decode cX12_seats 53 = .ok (.ishl, 1) := by decide +kernel
theorem dX12_seats_54 : decode cX12_seats 54 = .ok (.ixor, 1) := by decide +kernel
theorem dX12_seats_55 : decode cX12_seats 55 = .ok (.iastore, 1) := by decide +kernel
theorem dX12_seats_56 : decode cX12_seats 56 = .ok (.iload_n 3, 1) := by decide +kernel
theorem dX12_seats_57 : decode cX12_seats 57 = .ok (.ireturn, 1) := by decide +kernel
theorem dX12_setSitting_0 : decode cX12_setSitting 0 = .ok (.aload_n 0, 1) := by decide +kernel
theorem dX12_setSitting_1 : decode cX12_setSitting 1 = .ok (.invokevirtual 96, 3) := by decide +kernel
theorem dX12_setSitting_4 : decode cX12_setSitting 4 = .ok (.aload_n 0, 1) := by decide +kernel
theorem dX12_setSitting_5 : decode cX12_setSitting 5 = .ok (.aload_n 0, 1) := by decide +kernel
theorem dX12_setSitting_6 : decode cX12_setSitting 6 = .ok (.iload_n 1, 1) := by decide +kernel
theorem dX12_setSitting_7 : decode cX12_setSitting 7 = .ok (.iload_n 2, 1) := by decide +kernel
theorem dX12_setSitting_8 : decode cX12_setSitting 8 = .ok (.invokevirtual 187, 3) := by decide +kernel
theorem dX12_setSitting_11 : decode cX12_setSitting 11 = .ok (.invokevirtual 103, 3) := by decide +kernel
theorem dX12_setSitting_14 : decode cX12_setSitting 14 = .ok (.iconst 1, 1) := by decide +kernel
theorem dX12_setSitting_15 : decode cX12_setSitting 15 = .ok (.if_icmp .ne 7, 3) := by decide +kernel
theorem dX12_setSitting_18 : decode cX12_setSitting 18 = .ok (.iconst 1, 1) := by decide +kernel
theorem dX12_setSitting_19 : decode cX12_setSitting 19 = .ok (.goto 4, 3) := by decide +kernel
theorem dX12_setSitting_22 : decode cX12_setSitting 22 = .ok (.iconst 0, 1) := by decide +kernel
theorem dX12_setSitting_23 : decode cX12_setSitting 23 = .ok (.ireturn, 1) := by decide +kernel
theorem dX12_sittingBits_0 : decode cX12_sittingBits 0 = .ok (.aload_n 0, 1) := by decide +kernel
theorem dX12_sittingBits_1 : decode cX12_sittingBits 1 = .ok (.bipush 8, 2) := by decide +kernel
theorem dX12_sittingBits_3 : decode cX12_sittingBits 3 = .ok (.invokevirtual 131, 3) := by decide +kernel
theorem dX12_sittingBits_6 : decode cX12_sittingBits 6 = .ok (.ireturn, 1) := by decide +kernel
theorem dX12_pleaCount_0 : decode cX12_pleaCount 0 = .ok (.aload_n 0, 1) := by decide +kernel
theorem dX12_pleaCount_1 : decode cX12_pleaCount 1 = .ok (.bipush 7, 2) := by decide +kernel
theorem dX12_pleaCount_3 : decode cX12_pleaCount 3 = .ok (.invokevirtual 131, 3) := by decide +kernel
theorem dX12_pleaCount_6 : decode cX12_pleaCount 6 = .ok (.ireturn, 1) := by decide +kernel
theorem dX12_isPlea_0 : decode cX12_isPlea 0 = .ok (.iload_n 1, 1) := by decide +kernel
theorem dX12_isPlea_1 : decode cX12_isPlea 1 = .ok (.iconst 0, 1) := by decide +kernel
theorem dX12_isPlea_2 : decode cX12_isPlea 2 = .ok (.aload_n 0, 1) := by decide +kernel
theorem dX12_isPlea_3 : decode cX12_isPlea 3 = .ok (.getfield 16, 3) := by decide +kernel
theorem dX12_isPlea_6 : decode cX12_isPlea 6 = .ok (.bipush 7, 2) := by decide +kernel
theorem dX12_isPlea_8 : decode cX12_isPlea 8 = .ok (.iaload, 1) := by decide +kernel
theorem dX12_isPlea_9 : decode cX12_isPlea 9 = .ok (.iconst 1, 1) := by decide +kernel
theorem dX12_isPlea_10 : decode cX12_isPlea 10 = .ok (.isub, 1) := by decide +kernel
theorem dX12_isPlea_11 : decode cX12_isPlea 11 = .ok (.invokestatic 70, 3) := by decide +kernel
theorem dX12_isPlea_14 : decode cX12_isPlea 14 = .ok (.ireturn, 1) := by decide +kernel
theorem dX12_looks_0 : decode cX12_looks 0 = .ok (.aload_n 0, 1) := by decide +kernel
theorem dX12_looks_1 : decode cX12_looks 1 = .ok (.aload_n 0, 1) := by decide +kernel
theorem dX12_looks_2 : decode cX12_looks 2 = .ok (.iload_n 1, 1) := by decide +kernel
theorem dX12_looks_3 : decode cX12_looks 3 = .ok (.invokevirtual 191, 3) := by decide +kernel
theorem dX12_looks_6 : decode cX12_looks 6 = .ok (.ifCond .eq 7, 3) := by decide +kernel
theorem dX12_looks_9 : decode cX12_looks 9 = .ok (.iconst 0, 1) := by decide +kernel
theorem dX12_looks_10 : decode cX12_looks 10 = .ok (.goto 4, 3) := by decide +kernel
theorem dX12_looks_13 : decode cX12_looks 13 = .ok (.iconst 1, 1) := by decide +kernel
theorem dX12_looks_14 : decode cX12_looks 14 = .ok (.putfield 50, 3) := by decide +kernel
theorem dX12_looks_17 : decode cX12_looks 17 = .ok (.aload_n 0, 1) := by decide +kernel
theorem dX12_looks_18 : decode cX12_looks 18 = .ok (.getfield 50, 3) := by decide +kernel
theorem dX12_looks_21 : decode cX12_looks 21 = .ok (.ifCond .ne 7, 3) := by decide +kernel
theorem dX12_looks_24 : decode cX12_looks 24 = .ok (.iconst 1, 1) := by decide +kernel
theorem dX12_looks_25 : decode cX12_looks 25 = .ok (.goto 4, 3) := by decide +kernel
theorem dX12_looks_28 : decode cX12_looks 28 = .ok (.iconst 0, 1) := by decide +kernel
theorem dX12_looks_29 : decode cX12_looks 29 = .ok (.ireturn, 1) := by decide +kernel
theorem dX12_pleaParty_0 : decode cX12_pleaParty 0 = .ok (.aload_n 0, 1) := by decide +kernel
theorem dX12_pleaParty_1 : decode cX12_pleaParty 1 = .ok (.iload_n 1, 1) := by decide +kernel
theorem dX12_pleaParty_2 : decode cX12_pleaParty 2 = .ok (.invokevirtual 194, 3) := by decide +kernel
theorem dX12_pleaParty_5 : decode cX12_pleaParty 5 = .ok (.ifCond .eq 16, 3) := by decide +kernel
theorem dX12_pleaParty_8 : decode cX12_pleaParty 8 = .ok (.aload_n 0, 1) := by decide +kernel
theorem dX12_pleaParty_9 : decode cX12_pleaParty 9 = .ok (.getfield 16, 3) := by decide +kernel
theorem dX12_pleaParty_12 : decode cX12_pleaParty 12 = .ok (.iload_n 1, 1) := by decide +kernel
theorem dX12_pleaParty_13 : decode cX12_pleaParty 13 = .ok (.iconst 0, 1) := by decide +kernel
theorem dX12_pleaParty_14 : decode cX12_pleaParty 14 = .ok (.invokestatic 77, 3) := by decide +kernel
theorem dX12_pleaParty_17 : decode cX12_pleaParty 17 = .ok (.iaload, 1) := by decide +kernel
theorem dX12_pleaParty_18 : decode cX12_pleaParty 18 = .ok (.goto 4, 3) := by decide +kernel
theorem dX12_pleaParty_21 : decode cX12_pleaParty 21 = .ok (.iconst 0, 1) := by decide +kernel
theorem dX12_pleaParty_22 : decode cX12_pleaParty 22 = .ok (.ireturn, 1) := by decide +kernel
theorem dX12_pleaFrom_0 : decode cX12_pleaFrom 0 = .ok (.aload_n 0, 1) := by decide +kernel
theorem dX12_pleaFrom_1 : decode cX12_pleaFrom 1 = .ok (.iload_n 1, 1) := by decide +kernel
theorem dX12_pleaFrom_2 : decode cX12_pleaFrom 2 = .ok (.invokevirtual 194, 3) := by decide +kernel
theorem dX12_pleaFrom_5 : decode cX12_pleaFrom 5 = .ok (.ifCond .eq 16, 3) := by decide +kernel
theorem dX12_pleaFrom_8 : decode cX12_pleaFrom 8 = .ok (.aload_n 0, 1) := by decide +kernel
theorem dX12_pleaFrom_9 : decode cX12_pleaFrom 9 = .ok (.getfield 16, 3) := by decide +kernel
theorem dX12_pleaFrom_12 : decode cX12_pleaFrom 12 = .ok (.iload_n 1, 1) := by decide +kernel
theorem dX12_pleaFrom_13 : decode cX12_pleaFrom 13 = .ok (.iconst 1, 1) := by decide +kernel
theorem dX12_pleaFrom_14 : decode cX12_pleaFrom 14 = .ok (.invokestatic 77, 3) := by decide +kernel
theorem dX12_pleaFrom_17 : decode cX12_pleaFrom 17 = .ok (.iaload, 1) := by decide +kernel
theorem dX12_pleaFrom_18 : decode cX12_pleaFrom 18 = .ok (.goto 4, 3) := by decide +kernel
theorem dX12_pleaFrom_21 : decode cX12_pleaFrom 21 = .ok (.iconst 0, 1) := by decide +kernel
theorem dX12_pleaFrom_22 : decode cX12_pleaFrom 22 = .ok (.ireturn, 1) := by decide +kernel
theorem dX12_pleaUntil_0 : decode cX12_pleaUntil 0 = .ok (.aload_n 0, 1) := by decide +kernel
theorem dX12_pleaUntil_1 : decode cX12_pleaUntil 1 = .ok (.iload_n 1, 1) := by decide +kernel
theorem dX12_pleaUntil_2 : decode cX12_pleaUntil 2 = .ok (.invokevirtual 194, 3) := by decide +kernel
theorem dX12_pleaUntil_5 : decode cX12_pleaUntil 5 = .ok (.ifCond .eq 11, 3) := by decide +kernel
theorem dX12_pleaUntil_8 : decode cX12_pleaUntil 8 = .ok (.aload_n 0, 1) := by decide +kernel
theorem dX12_pleaUntil_9 : decode cX12_pleaUntil 9 = .ok (.iload_n 1, 1) := by decide +kernel
theorem dX12_pleaUntil_10 : decode cX12_pleaUntil 10 = .ok (.invokevirtual 197, 3) := by decide +kernel
theorem dX12_pleaUntil_13 : decode cX12_pleaUntil 13 = .ok (.goto 4, 3) := by decide +kernel
theorem dX12_pleaUntil_16 : decode cX12_pleaUntil 16 = .ok (.iconst 0, 1) := by decide +kernel
theorem dX12_pleaUntil_17 : decode cX12_pleaUntil 17 = .ok (.ireturn, 1) := by decide +kernel
theorem dX12_hourPasses_0 : decode cX12_hourPasses 0 = .ok (.aload_n 0, 1) := by decide +kernel
theorem dX12_hourPasses_1 : decode cX12_hourPasses 1 = .ok (.getfield 16, 3) := by decide +kernel
theorem dX12_hourPasses_4 : decode cX12_hourPasses 4 = .ok (.iconst 0, 1) := by decide +kernel
theorem dX12_hourPasses_5 : decode cX12_hourPasses 5 = .ok (.dup2, 1) := by decide +kernel
theorem dX12_hourPasses_6 : decode cX12_hourPasses 6 = .ok (.iaload, 1) := by decide +kernel
theorem dX12_hourPasses_7 : decode cX12_hourPasses 7 = .ok (.iconst 1, 1) := by decide +kernel
theorem dX12_hourPasses_8 : decode cX12_hourPasses 8 = .ok (.iadd, 1) := by decide +kernel
theorem dX12_hourPasses_9 : decode cX12_hourPasses 9 = .ok (.iastore, 1) := by decide +kernel
theorem dX12_hourPasses_10 : decode cX12_hourPasses 10 = .ok (.iconst 0, 1) := by decide +kernel
theorem dX12_hourPasses_11 : decode cX12_hourPasses 11 = .ok (.istore_n 1, 1) := by decide +kernel
theorem dX12_hourPasses_12 : decode cX12_hourPasses 12 = .ok (.aload_n 0, 1) := by decide +kernel
theorem dX12_hourPasses_13 : decode cX12_hourPasses 13 = .ok (.getfield 16, 3) := by decide +kernel
theorem dX12_hourPasses_16 : decode cX12_hourPasses 16 = .ok (.bipush 7, 2) := by decide +kernel
theorem dX12_hourPasses_18 : decode cX12_hourPasses 18 = .ok (.iaload, 1) := by decide +kernel
theorem dX12_hourPasses_19 : decode cX12_hourPasses 19 = .ok (.iconst 1, 1) := by decide +kernel
theorem dX12_hourPasses_20 : decode cX12_hourPasses 20 = .ok (.isub, 1) := by decide +kernel
theorem dX12_hourPasses_21 : decode cX12_hourPasses 21 = .ok (.istore_n 2, 1) := by decide +kernel
theorem dX12_hourPasses_22 : decode cX12_hourPasses 22 = .ok (.iload_n 2, 1) := by decide +kernel
theorem dX12_hourPasses_23 : decode cX12_hourPasses 23 = .ok (.ifCond .lt 34, 3) := by decide +kernel
theorem dX12_hourPasses_26 : decode cX12_hourPasses 26 = .ok (.aload_n 0, 1) := by decide +kernel
theorem dX12_hourPasses_27 : decode cX12_hourPasses 27 = .ok (.iload_n 2, 1) := by decide +kernel
theorem dX12_hourPasses_28 : decode cX12_hourPasses 28 = .ok (.invokevirtual 197, 3) := by decide +kernel
theorem dX12_hourPasses_31 : decode cX12_hourPasses 31 = .ok (.aload_n 0, 1) := by decide +kernel
theorem dX12_hourPasses_32 : decode cX12_hourPasses 32 = .ok (.getfield 16, 3) := by decide +kernel
theorem dX12_hourPasses_35 : decode cX12_hourPasses 35 = .ok (.iconst 0, 1) := by decide +kernel
theorem dX12_hourPasses_36 : decode cX12_hourPasses 36 = .ok (.iaload, 1) := by decide +kernel
theorem dX12_hourPasses_37 : decode cX12_hourPasses 37 = .ok (.if_icmp .lt 6, 3) := by decide +kernel
theorem dX12_hourPasses_40 : decode cX12_hourPasses 40 = .ok (.goto 11, 3) := by decide +kernel
theorem dX12_hourPasses_43 : decode cX12_hourPasses 43 = .ok (.aload_n 0, 1) := by decide +kernel
theorem dX12_hourPasses_44 : decode cX12_hourPasses 44 = .ok (.iload_n 2, 1) := by decide +kernel
theorem dX12_hourPasses_45 : decode cX12_hourPasses 45 = .ok (.invokevirtual 200, 3) := by decide +kernel
theorem dX12_hourPasses_48 : decode cX12_hourPasses 48 = .ok (.iinc 1 1, 3) := by decide +kernel
theorem dX12_hourPasses_51 : decode cX12_hourPasses 51 = .ok (.iinc 2 (-1), 3) := by decide +kernel
theorem dX12_hourPasses_54 : decode cX12_hourPasses 54 = .ok (.goto (-32), 3) := by decide +kernel
theorem dX12_hourPasses_57 : decode cX12_hourPasses 57 = .ok (.iload_n 1, 1) := by decide +kernel
theorem dX12_hourPasses_58 : decode cX12_hourPasses 58 = .ok (.ireturn, 1) := by decide +kernel
theorem dX12_hears_0 : decode cX12_hears 0 = .ok (.aload_n 0, 1) := by decide +kernel
theorem dX12_hears_1 : decode cX12_hears 1 = .ok (.iload_n 1, 1) := by decide +kernel
theorem dX12_hears_2 : decode cX12_hears 2 = .ok (.invokevirtual 191, 3) := by decide +kernel
theorem dX12_hears_5 : decode cX12_hears 5 = .ok (.ifCond .ne 9, 3) := by decide +kernel
theorem dX12_hears_8 : decode cX12_hears 8 = .ok (.aload_n 0, 1) := by decide +kernel
theorem dX12_hears_9 : decode cX12_hears 9 = .ok (.iconst 1, 1) := by decide +kernel
theorem dX12_hears_10 : decode cX12_hears 10 = .ok (.invokevirtual 59, 3) := by decide +kernel
theorem dX12_hears_13 : decode cX12_hears 13 = .ok (.ireturn, 1) := by decide +kernel
theorem dX12_hears_14 : decode cX12_hears 14 = .ok (.aload_n 0, 1) := by decide +kernel
theorem dX12_hears_15 : decode cX12_hears 15 = .ok (.aload_n 0, 1) := by decide +kernel
theorem dX12_hears_16 : decode cX12_hears 16 = .ok (.getfield 16, 3) := by decide +kernel
theorem dX12_hears_19 : decode cX12_hears 19 = .ok (.iconst 0, 1) := by decide +kernel
theorem dX12_hears_20 : decode cX12_hears 20 = .ok (.iaload, 1) := by decide +kernel
theorem dX12_hears_21 : decode cX12_hears 21 = .ok (.invokevirtual 184, 3) := by decide +kernel
theorem dX12_hears_24 : decode cX12_hears 24 = .ok (.ifCond .ne 20, 3) := by decide +kernel
theorem dX12_hears_27 : decode cX12_hears 27 = .ok (.aload_n 0, 1) := by decide +kernel
theorem dX12_hears_28 : decode cX12_hears 28 = .ok (.iconst 2, 1) := by decide +kernel
theorem dX12_hears_29 : decode cX12_hears 29 = .ok (.bipush 6, 2) := by decide +kernel
theorem dX12_hears_31 : decode cX12_hears 31 = .ok (.aload_n 0, 1) := by decide +kernel
theorem dX12_hears_32 : decode cX12_hears 32 = .ok (.getfield 16, 3) := by decide +kernel
theorem dX12_hears_35 : decode cX12_hears 35 = .ok (.iconst 0, 1) := by decide +kernel
theorem dX12_hears_36 : decode cX12_hears 36 = .ok (.iaload, 1) := by decide +kernel
theorem dX12_hears_37 : decode cX12_hears 37 = .ok (.bipush 24, 2) := by decide +kernel
theorem dX12_hears_39 : decode cX12_hears 39 = .ok (.irem, 1) := by decide +kernel
theorem dX12_hears_40 : decode cX12_hears 40 = .ok (.invokevirtual 88, 3) := by decide +kernel
theorem dX12_hears_43 : decode cX12_hears 43 = .ok (.ireturn, 1) := by decide +kernel
theorem dX12_hears_44 : decode cX12_hears 44 = .ok (.aload_n 0, 1) := by decide +kernel
theorem dX12_hears_45 : decode cX12_hears 45 = .ok (.getfield 16, 3) := by decide +kernel
theorem dX12_hears_48 : decode cX12_hears 48 = .ok (.iconst 0, 1) := by decide +kernel
theorem dX12_hears_49 : decode cX12_hears 49 = .ok (.iaload, 1) := by decide +kernel
theorem dX12_hears_50 : decode cX12_hears 50 = .ok (.aload_n 0, 1) := by decide +kernel
theorem dX12_hears_51 : decode cX12_hears 51 = .ok (.getfield 16, 3) := by decide +kernel
theorem dX12_hears_54 : decode cX12_hears 54 = .ok (.iload_n 1, 1) := by decide +kernel
theorem dX12_hears_55 : decode cX12_hears 55 = .ok (.iconst 1, 1) := by decide +kernel
theorem dX12_hears_56 : decode cX12_hears 56 = .ok (.invokestatic 77, 3) := by decide +kernel
theorem dX12_hears_59 : decode cX12_hears 59 = .ok (.iaload, 1) := by decide +kernel
theorem dX12_hears_60 : decode cX12_hears 60 = .ok (.isub, 1) := by decide +kernel
theorem dX12_hears_61 : decode cX12_hears 61 = .ok (.istore_n 2, 1) := by decide +kernel
theorem dX12_hears_62 : decode cX12_hears 62 = .ok (.iload_n 2, 1) := by decide +kernel
theorem dX12_hears_63 : decode cX12_hears 63 = .ok (.ifCond .ge 13, 3) := by decide +kernel
theorem dX12_hears_66 : decode cX12_hears 66 = .ok (.aload_n 0, 1) := by decide +kernel
theorem dX12_hears_67 : decode cX12_hears 67 = .ok (.iconst 2, 1) := by decide +kernel
theorem dX12_hears_68 : decode cX12_hears 68 = .ok (.bipush 7, 2) := by decide +kernel
theorem dX12_hears_70 : decode cX12_hears 70 = .ok (.iload_n 2, 1) := by decide +kernel
theorem dX12_hears_71 : decode cX12_hears 71 = .ok (.ineg, 1) := by decide +kernel
theorem dX12_hears_72 : decode cX12_hears 72 = .ok (.invokevirtual 88, 3) := by decide +kernel
theorem dX12_hears_75 : decode cX12_hears 75 = .ok (.ireturn, 1) := by decide +kernel
theorem dX12_hears_76 : decode cX12_hears 76 = .ok (.iconst 3, 1) := by decide +kernel
theorem dX12_hears_77 : decode cX12_hears 77 = .ok (.aload_n 0, 1) := by decide +kernel
theorem dX12_hears_78 : decode cX12_hears 78 = .ok (.getfield 16, 3) := by decide +kernel
theorem dX12_hears_81 : decode cX12_hears 81 = .ok (.iload_n 1, 1) := by decide +kernel
theorem dX12_hears_82 : decode cX12_hears 82 = .ok (.iconst 2, 1) := by decide +kernel
theorem dX12_hears_83 : decode cX12_hears 83 = .ok (.invokestatic 77, 3) := by decide +kernel
theorem dX12_hears_86 : decode cX12_hears 86 = .ok (.iaload, 1) := by decide +kernel
theorem dX12_hears_87 : decode cX12_hears 87 = .ok (.imul, 1) := by decide +kernel
theorem dX12_hears_88 : decode cX12_hears 88 = .ok (.iload_n 2, 1) := by decide +kernel
theorem dX12_hears_89 : decode cX12_hears 89 = .ok (.iadd, 1) := by decide +kernel
theorem dX12_hears_90 : decode cX12_hears 90 = .ok (.istore_n 3, 1) := by decide +kernel
theorem dX12_hears_91 : decode cX12_hears 91 = .ok (.aload_n 0, 1) := by decide +kernel
theorem dX12_hears_92 : decode cX12_hears 92 = .ok (.getfield 16, 3) := by decide +kernel
theorem dX12_hears_95 : decode cX12_hears 95 = .ok (.iconst 1, 1) := by decide +kernel
theorem dX12_hears_96 : decode cX12_hears 96 = .ok (.dup2, 1) := by decide +kernel
theorem dX12_hears_97 : decode cX12_hears 97 = .ok (.iaload, 1) := by decide +kernel
theorem dX12_hears_98 : decode cX12_hears 98 = .ok (.iload_n 3, 1) := by decide +kernel
theorem dX12_hears_99 : decode cX12_hears 99 = .ok (.iadd, 1) := by decide +kernel
theorem dX12_hears_100 : decode cX12_hears 100 = .ok (.iastore, 1) := by decide +kernel
theorem dX12_hears_101 : decode cX12_hears 101 = .ok (.aload_n 0, 1) := by decide +kernel
theorem dX12_hears_102 : decode cX12_hears 102 = .ok (.iload_n 1, 1) := by decide +kernel
theorem dX12_hears_103 : decode cX12_hears 103 = .ok (.invokevirtual 200, 3) := by decide +kernel
theorem dX12_hears_106 : decode cX12_hears 106 = .ok (.aload_n 0, 1) := by decide +kernel
theorem dX12_hears_107 : decode cX12_hears 107 = .ok (.invokevirtual 204, 3) := by decide +kernel
theorem dX12_hears_110 : decode cX12_hears 110 = .ok (.istore 4, 2) := by decide +kernel
theorem dX12_hears_112 : decode cX12_hears 112 = .ok (.iload_n 3, 1) := by decide +kernel
theorem dX12_hears_113 : decode cX12_hears 113 = .ok (.ireturn, 1) := by decide +kernel
theorem dX12_hear_0 : decode cX12_hear 0 = .ok (.aload_n 0, 1) := by decide +kernel
theorem dX12_hear_1 : decode cX12_hear 1 = .ok (.invokevirtual 96, 3) := by decide +kernel
theorem dX12_hear_4 : decode cX12_hear 4 = .ok (.aload_n 0, 1) := by decide +kernel
theorem dX12_hear_5 : decode cX12_hear 5 = .ok (.aload_n 0, 1) := by decide +kernel
theorem dX12_hear_6 : decode cX12_hear 6 = .ok (.iload_n 1, 1) := by decide +kernel
theorem dX12_hear_7 : decode cX12_hear 7 = .ok (.invokevirtual 207, 3) := by decide +kernel
theorem dX12_hear_10 : decode cX12_hear 10 = .ok (.invokevirtual 103, 3) := by decide +kernel
theorem dX12_hear_13 : decode cX12_hear 13 = .ok (.ireturn, 1) := by decide +kernel
theorem dX12_mostHearings_0 : decode cX12_mostHearings 0 = .ok (.aload_n 0, 1) := by decide +kernel
theorem dX12_mostHearings_1 : decode cX12_mostHearings 1 = .ok (.iconst 0, 1) := by decide +kernel
theorem dX12_mostHearings_2 : decode cX12_mostHearings 2 = .ok (.putfield 50, 3) := by decide +kernel
theorem dX12_mostHearings_5 : decode cX12_mostHearings 5 = .ok (.iconst 0, 1) := by decide +kernel
theorem dX12_mostHearings_6 : decode cX12_mostHearings 6 = .ok (.istore_n 1, 1) := by decide +kernel
theorem dX12_mostHearings_7 : decode cX12_mostHearings 7 = .ok (.iconst 0, 1) := by decide +kernel
theorem dX12_mostHearings_8 : decode cX12_mostHearings 8 = .ok (.istore_n 2, 1) := by decide +kernel
theorem dX12_mostHearings_9 : decode cX12_mostHearings 9 = .ok (.aload_n 0, 1) := by decide +kernel
theorem dX12_mostHearings_10 : decode cX12_mostHearings 10 = .ok (.getfield 16, 3) := by decide +kernel
theorem dX12_mostHearings_13 : decode cX12_mostHearings 13 = .ok (.iconst 0, 1) := by decide +kernel
theorem dX12_mostHearings_14 : decode cX12_mostHearings 14 = .ok (.iaload, 1) := by decide +kernel
theorem dX12_mostHearings_15 : decode cX12_mostHearings 15 = .ok (.istore_n 3, 1) := by decide +kernel
theorem dX12_mostHearings_16 : decode cX12_mostHearings 16 = .ok (.iload_n 3, 1) := by decide +kernel
theorem dX12_mostHearings_17 : decode cX12_mostHearings 17 = .ok (.aload_n 0, 1) := by decide +kernel
theorem dX12_mostHearings_18 : decode cX12_mostHearings 18 = .ok (.getfield 16, 3) := by decide +kernel
theorem dX12_mostHearings_21 : decode cX12_mostHearings 21 = .ok (.iconst 0, 1) := by decide +kernel
theorem dX12_mostHearings_22 : decode cX12_mostHearings 22 = .ok (.iaload, 1) := by decide +kernel
theorem dX12_mostHearings_23 : decode cX12_mostHearings 23 = .ok (.bipush 48, 2) := by decide +kernel
theorem dX12_mostHearings_25 : decode cX12_mostHearings 25 = .ok (.iadd, 1) := by decide +kernel
theorem dX12_mostHearings_26 : decode cX12_mostHearings 26 = .ok (.if_icmp .gt 121, 3) := by decide +kernel
theorem dX12_mostHearings_29 : decode cX12_mostHearings 29 = .ok (.iconst (-1), 1) := by decide +kernel
theorem dX12_mostHearings_30 : decode cX12_mostHearings 30 = .ok (.istore 4, 2) := by decide +kernel
theorem dX12_mostHearings_32 : decode cX12_mostHearings 32 = .ok (.iconst 0, 1) := by decide +kernel
theorem dX12_mostHearings_33 : decode cX12_mostHearings 33 = .ok (.istore 5, 2) := by decide +kernel
theorem dX12_mostHearings_35 : decode cX12_mostHearings 35 = .ok (.iload 5, 2) := by decide +kernel
theorem dX12_mostHearings_37 : decode cX12_mostHearings 37 = .ok (.aload_n 0, 1) := by decide +kernel
theorem dX12_mostHearings_38 : decode cX12_mostHearings 38 = .ok (.getfield 16, 3) := by decide +kernel
theorem dX12_mostHearings_41 : decode cX12_mostHearings 41 = .ok (.bipush 7, 2) := by decide +kernel
theorem dX12_mostHearings_43 : decode cX12_mostHearings 43 = .ok (.iaload, 1) := by decide +kernel
theorem dX12_mostHearings_44 : decode cX12_mostHearings 44 = .ok (.if_icmp .ge 79, 3) := by decide +kernel
theorem dX12_mostHearings_47 : decode cX12_mostHearings 47 = .ok (.aload_n 0, 1) := by decide +kernel
theorem dX12_mostHearings_48 : decode cX12_mostHearings 48 = .ok (.iload_n 3, 1) := by decide +kernel
theorem dX12_mostHearings_49 : decode cX12_mostHearings 49 = .ok (.invokevirtual 184, 3) := by decide +kernel
theorem dX12_mostHearings_52 : decode cX12_mostHearings 52 = .ok (.ifCond .eq 71, 3) := by decide +kernel
theorem dX12_mostHearings_55 : decode cX12_mostHearings 55 = .ok (.iload_n 1, 1) := by decide +kernel
theorem dX12_mostHearings_56 : decode cX12_mostHearings 56 = .ok (.iload 5, 2) := by decide +kernel
theorem dX12_mostHearings_58 : decode cX12_mostHearings 58 = .ok (.ishr, 1) := by decide +kernel
theorem dX12_mostHearings_59 : decode cX12_mostHearings 59 = .ok (.iconst 1, 1) := by decide +kernel
theorem dX12_mostHearings_60 : decode cX12_mostHearings 60 = .ok (.iand, 1) := by decide +kernel
