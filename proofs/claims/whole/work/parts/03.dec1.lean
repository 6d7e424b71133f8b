theorem dX10_withNeighbours_28 : decode cX10_withNeighbours 28 = .ok (.lload_n 0, 1) := by decide +kernel
theorem dX10_withNeighbours_29 : decode cX10_withNeighbours 29 = .ok (.ldc2_w 74, 3) := by decide +kernel
theorem dX10_withNeighbours_32 : decode cX10_withNeighbours 32 = .ok (.land, 1) := by decide +kernel
theorem dX10_withNeighbours_33 : decode cX10_withNeighbours 33 = .ok (.bipush 7, 2) := by decide +kernel
theorem dX10_withNeighbours_35 : decode cX10_withNeighbours 35 = .ok (.lushr, 1) := by decide +kernel
theorem dX10_withNeighbours_36 : decode cX10_withNeighbours 36 = .ok (.lor, 1) := by decide +kernel
theorem dX10_withNeighbours_37 : decode cX10_withNeighbours 37 = .ok (.lstore 6, 2) := by decide +kernel
theorem dX10_withNeighbours_39 : decode cX10_withNeighbours 39 = .ok (.lload_n 0, 1) := by decide +kernel
theorem dX10_withNeighbours_40 : decode cX10_withNeighbours 40 = .ok (.ldc2_w 76, 3) := by decide +kernel
theorem dX10_withNeighbours_43 : decode cX10_withNeighbours 43 = .ok (.land, 1) := by decide +kernel
theorem dX10_withNeighbours_44 : decode cX10_withNeighbours 44 = .ok (.iconst 1, 1) := by decide +kernel
theorem dX10_withNeighbours_45 : decode cX10_withNeighbours 45 = .ok (.lushr, 1) := by decide +kernel
theorem dX10_withNeighbours_46 : decode cX10_withNeighbours 46 = .ok (.lload_n 0, 1) := by decide +kernel
theorem dX10_withNeighbours_47 : decode cX10_withNeighbours 47 = .ok (.ldc2_w 78, 3) := by decide +kernel
theorem dX10_withNeighbours_50 : decode cX10_withNeighbours 50 = .ok (.land, 1) := by decide +kernel
theorem dX10_withNeighbours_51 : decode cX10_withNeighbours 51 = .ok (.bipush 7, 2) := by decide +kernel
theorem dX10_withNeighbours_53 : decode cX10_withNeighbours 53 = .ok (.lshl, 1) := by decide +kernel
theorem dX10_withNeighbours_54 : decode cX10_withNeighbours 54 = .ok (.lor, 1) := by decide +kernel
theorem dX10_withNeighbours_55 : decode cX10_withNeighbours 55 = .ok (.lstore 8, 2) := by decide +kernel
theorem dX10_withNeighbours_57 : decode cX10_withNeighbours 57 = .ok (.lload_n 0, 1) := by decide +kernel
theorem dX10_withNeighbours_58 : decode cX10_withNeighbours 58 = .ok (.lload_n 2, 1) := by decide +kernel
theorem dX10_withNeighbours_59 : decode cX10_withNeighbours 59 = .ok (.lor, 1) := by decide +kernel
theorem dX10_withNeighbours_60 : decode cX10_withNeighbours 60 = .ok (.lload 4, 2) := by decide +kernel
theorem dX10_withNeighbours_62 : decode cX10_withNeighbours 62 = .ok (.lor, 1) := by decide +kernel
theorem dX10_withNeighbours_63 : decode cX10_withNeighbours 63 = .ok (.lload 6, 2) := by decide +kernel
theorem dX10_withNeighbours_65 : decode cX10_withNeighbours 65 = .ok (.lor, 1) := by decide +kernel
theorem dX10_withNeighbours_66 : decode cX10_withNeighbours 66 = .ok (.lload 8, 2) := by decide +kernel
theorem dX10_withNeighbours_68 : decode cX10_withNeighbours 68 = .ok (.lor, 1) := by decide +kernel
theorem dX10_withNeighbours_69 : decode cX10_withNeighbours 69 = .ok (.lreturn, 1) := by decide +kernel
theorem dX11_init_0 : decode cX11_init 0 = .ok (.aload_n 0, 1) := by decide +kernel
theorem dX11_init_1 : decode cX11_init 1 = .ok (.invokespecial 3, 3) := by decide +kernel
theorem dX11_init_4 : decode cX11_init 4 = .ok (.aload_n 0, 1) := by decide +kernel
theorem dX11_init_5 : decode cX11_init 5 = .ok (.new 9, 3) := by decide +kernel
theorem dX11_init_8 : decode cX11_init 8 = .ok (.dup, 1) := by decide +kernel
theorem dX11_init_9 : decode cX11_init 9 = .ok (.invokespecial 11, 3) := by decide +kernel
theorem dX11_init_12 : decode cX11_init 12 = .ok (.putfield 12, 3) := by decide +kernel
theorem dX11_init_15 : decode cX11_init 15 = .ok (.aload_n 0, 1) := by decide +kernel
theorem dX11_init_16 : decode cX11_init 16 = .ok (.new 9, 3) := by decide +kernel
theorem dX11_init_19 : decode cX11_init 19 = .ok (.dup, 1) := by decide +kernel
theorem dX11_init_20 : decode cX11_init 20 = .ok (.invokespecial 11, 3) := by decide +kernel
theorem dX11_init_23 : decode cX11_init 23 = .ok (.putfield 16, 3) := by decide +kernel
theorem dX11_init_26 : decode cX11_init 26 = .ok (.aload_n 0, 1) := by decide +kernel
theorem dX11_init_27 : decode cX11_init 27 = .ok (.new 9, 3) := by decide +kernel
theorem dX11_init_30 : decode cX11_init 30 = .ok (.dup, 1) := by decide +kernel
theorem dX11_init_31 : decode cX11_init 31 = .ok (.invokespecial 11, 3) := by decide +kernel
theorem dX11_init_34 : decode cX11_init 34 = .ok (.putfield 19, 3) := by decide +kernel
theorem dX11_init_37 : decode cX11_init 37 = .ok (.aload_n 0, 1) := by decide +kernel
theorem dX11_init_38 : decode cX11_init 38 = .ok (.new 22, 3) := by decide +kernel
theorem dX11_init_41 : decode cX11_init 41 = .ok (.dup, 1) := by decide +kernel
theorem dX11_init_42 : decode cX11_init 42 = .ok (.invokespecial 24, 3) := by decide +kernel
theorem dX11_init_45 : decode cX11_init 45 = .ok (.putfield 25, 3) := by decide +kernel
theorem dX11_init_48 : decode cX11_init 48 = .ok (.aload_n 0, 1) := by decide +kernel
theorem dX11_init_49 : decode cX11_init 49 = .ok (.new 29, 3) := by decide +kernel
theorem dX11_init_52 : decode cX11_init 52 = .ok (.dup, 1) := by decide +kernel
theorem dX11_init_53 : decode cX11_init 53 = .ok (.invokespecial 31, 3) := by decide +kernel
theorem dX11_init_56 : decode cX11_init 56 = .ok (.putfield 32, 3) := by decide +kernel
theorem dX11_init_59 : decode cX11_init 59 = .ok (.aload_n 0, 1) := by decide +kernel
theorem dX11_init_60 : decode cX11_init 60 = .ok (.new 36, 3) := by decide +kernel
theorem dX11_init_63 : decode cX11_init 63 = .ok (.dup, 1) := by decide +kernel
theorem dX11_init_64 : decode cX11_init 64 = .ok (.invokespecial 38, 3) := by decide +kernel
theorem dX11_init_67 : decode cX11_init 67 = .ok (.putfield 39, 3) := by decide +kernel
theorem dX11_init_70 : decode cX11_init 70 = .ok (.aload_n 0, 1) := by decide +kernel
theorem dX11_init_71 : decode cX11_init 71 = .ok (.new 43, 3) := by decide +kernel
theorem dX11_init_74 : decode cX11_init 74 = .ok (.dup, 1) := by decide +kernel
theorem dX11_init_75 : decode cX11_init 75 = .ok (.invokespecial 45, 3) := by decide +kernel
theorem dX11_init_78 : decode cX11_init 78 = .ok (.putfield 46, 3) := by decide +kernel
theorem dX11_init_81 : decode cX11_init 81 = .ok (.aload_n 0, 1) := by decide +kernel
theorem dX11_init_82 : decode cX11_init 82 = .ok (.new 50, 3) := by decide +kernel
theorem dX11_init_85 : decode cX11_init 85 = .ok (.dup, 1) := by decide +kernel
theorem dX11_init_86 : decode cX11_init 86 = .ok (.invokespecial 52, 3) := by decide +kernel
theorem dX11_init_89 : decode cX11_init 89 = .ok (.putfield 53, 3) := by decide +kernel
theorem dX11_init_92 : decode cX11_init 92 = .ok (.aload_n 0, 1) := by decide +kernel
theorem dX11_init_93 : decode cX11_init 93 = .ok (.bipush 64, 2) := by decide +kernel
theorem dX11_init_95 : decode cX11_init 95 = .ok (.newarray .int, 2) := by decide +kernel
theorem dX11_init_97 : decode cX11_init 97 = .ok (.putfield 57, 3) := by decide +kernel
theorem dX11_init_100 : decode cX11_init 100 = .ok (.aload_n 0, 1) := by decide +kernel
theorem dX11_init_101 : decode cX11_init 101 = .ok (.iconst (-1), 1) := by decide +kernel
theorem dX11_init_102 : decode cX11_init 102 = .ok (.putfield 61, 3) := by decide +kernel
theorem dX11_init_105 : decode cX11_init 105 = .ok (.aload_n 0, 1) := by decide +kernel
theorem dX11_init_106 : decode cX11_init 106 = .ok (.iconst (-1), 1) := by decide +kernel
theorem dX11_init_107 : decode cX11_init 107 = .ok (.putfield 65, 3) := by decide +kernel
theorem dX11_init_110 : decode cX11_init 110 = .ok (.return_, 1) := by decide +kernel
theorem dX11_setTree_0 : decode cX11_setTree 0 = .ok (.aload_n 0, 1) := by decide +kernel
theorem dX11_setTree_1 : decode cX11_setTree 1 = .ok (.iload_n 1, 1) := by decide +kernel
theorem dX11_setTree_2 : decode cX11_setTree 2 = .ok (.iload_n 2, 1) := by decide +kernel
theorem dX11_setTree_3 : decode cX11_setTree 3 = .ok (.iload_n 3, 1) := by decide +kernel
theorem dX11_setTree_4 : decode cX11_setTree 4 = .ok (.invokevirtual 68, 3) := by decide +kernel
theorem dX11_setTree_7 : decode cX11_setTree 7 = .ok (.istore 4, 2) := by decide +kernel
theorem dX11_setTree_9 : decode cX11_setTree 9 = .ok (.iload 4, 2) := by decide +kernel
theorem dX11_setTree_11 : decode cX11_setTree 11 = .ok (.iconst 1, 1) := by decide +kernel
theorem dX11_setTree_12 : decode cX11_setTree 12 = .ok (.if_icmp .ne 13, 3) := by decide +kernel
theorem dX11_setTree_15 : decode cX11_setTree 15 = .ok (.new 72, 3) := by decide +kernel
theorem dX11_setTree_18 : decode cX11_setTree 18 = .ok (.dup, 1) := by decide +kernel
theorem dX11_setTree_19 : decode cX11_setTree 19 = .ok (.ldc 74, 2) := by decide +kernel
theorem dX11_setTree_21 : decode cX11_setTree 21 = .ok (.invokespecial 76, 3) := by decide +kernel
theorem dX11_setTree_24 : decode cX11_setTree 24 = .ok (.athrow, 1) := by decide +kernel
theorem dX11_setTree_25 : decode cX11_setTree 25 = .ok (.iload 4, 2) := by decide +kernel
theorem dX11_setTree_27 : decode cX11_setTree 27 = .ok (.iconst 4, 1) := by decide +kernel
theorem dX11_setTree_28 : decode cX11_setTree 28 = .ok (.if_icmp .ne 13, 3) := by decide +kernel
theorem dX11_setTree_31 : decode cX11_setTree 31 = .ok (.new 79, 3) := by decide +kernel
theorem dX11_setTree_34 : decode cX11_setTree 34 = .ok (.dup, 1) := by decide +kernel
theorem dX11_setTree_35 : decode cX11_setTree 35 = .ok (.ldc 81, 2) := by decide +kernel
theorem dX11_setTree_37 : decode cX11_setTree 37 = .ok (.invokespecial 83, 3) := by decide +kernel
theorem dX11_setTree_40 : decode cX11_setTree 40 = .ok (.athrow, 1) := by decide +kernel
theorem dX11_setTree_41 : decode cX11_setTree 41 = .ok (.aload_n 0, 1) := by decide +kernel
theorem dX11_setTree_42 : decode cX11_setTree 42 = .ok (.getfield 25, 3) := by decide +kernel
theorem dX11_setTree_45 : decode cX11_setTree 45 = .ok (.aload_n 0, 1) := by decide +kernel
theorem dX11_setTree_46 : decode cX11_setTree 46 = .ok (.getfield 12, 3) := by decide +kernel
theorem dX11_setTree_49 : decode cX11_setTree 49 = .ok (.invokevirtual 84, 3) := by decide +kernel
theorem dX11_setTree_52 : decode cX11_setTree 52 = .ok (.aload_n 0, 1) := by decide +kernel
theorem dX11_setTree_53 : decode cX11_setTree 53 = .ok (.iload_n 1, 1) := by decide +kernel
theorem dX11_setTree_54 : decode cX11_setTree 54 = .ok (.iload_n 2, 1) := by decide +kernel
theorem dX11_setTree_55 : decode cX11_setTree 55 = .ok (.iload_n 3, 1) := by decide +kernel
theorem dX11_setTree_56 : decode cX11_setTree 56 = .ok (.invokevirtual 88, 3) := by decide +kernel
theorem dX11_setTree_59 : decode cX11_setTree 59 = .ok (.ireturn, 1) := by decide +kernel
theorem dX11_setBench_0 : decode cX11_setBench 0 = .ok (.aload_n 0, 1) := by decide +kernel
theorem dX11_setBench_1 : decode cX11_setBench 1 = .ok (.iload_n 1, 1) := by decide +kernel
theorem dX11_setBench_2 : decode cX11_setBench 2 = .ok (.iload_n 2, 1) := by decide +kernel
theorem dX11_setBench_3 : decode cX11_setBench 3 = .ok (.invokevirtual 91, 3) := by decide +kernel
theorem dX11_setBench_6 : decode cX11_setBench 6 = .ok (.istore_n 3, 1) := by decide +kernel
theorem dX11_setBench_7 : decode cX11_setBench 7 = .ok (.iload_n 3, 1) := by decide +kernel
theorem dX11_setBench_8 : decode cX11_setBench 8 = .ok (.iconst 1, 1) := by decide +kernel
theorem dX11_setBench_9 : decode cX11_setBench 9 = .ok (.if_icmp .ne 13, 3) := by decide +kernel
theorem dX11_setBench_12 : decode cX11_setBench 12 = .ok (.new 72, 3) := by decide +kernel
theorem dX11_setBench_15 : decode cX11_setBench 15 = .ok (.dup, 1) := by decide +kernel
theorem dX11_setBench_16 : decode cX11_setBench 16 = .ok (.ldc 74, 2) := by decide +kernel
theorem dX11_setBench_18 : decode cX11_setBench 18 = .ok (.invokespecial 76, 3) := by decide +kernel
theorem dX11_setBench_21 : decode cX11_setBench 21 = .ok (.athrow, 1) := by decide +kernel
theorem dX11_setBench_22 : decode cX11_setBench 22 = .ok (.iload_n 3, 1) := by decide +kernel
theorem dX11_setBench_23 : decode cX11_setBench 23 = .ok (.iconst 4, 1) := by decide +kernel
theorem dX11_setBench_24 : decode cX11_setBench 24 = .ok (.if_icmp .ne 13, 3) := by decide +kernel
theorem dX11_setBench_27 : decode cX11_setBench 27 = .ok (.new 79, 3) := by decide +kernel
theorem dX11_setBench_30 : decode cX11_setBench 30 = .ok (.dup, 1) := by decide +kernel
theorem dX11_setBench_31 : decode cX11_setBench 31 = .ok (.ldc 95, 2) := by decide +kernel
theorem dX11_setBench_33 : decode cX11_setBench 33 = .ok (.invokespecial 83, 3) := by decide +kernel
theorem dX11_setBench_36 : decode cX11_setBench 36 = .ok (.athrow, 1) := by decide +kernel
theorem dX11_setBench_37 : decode cX11_setBench 37 = .ok (.aload_n 0, 1) := by decide +kernel
theorem dX11_setBench_38 : decode cX11_setBench 38 = .ok (.getfield 25, 3) := by decide +kernel
theorem dX11_setBench_41 : decode cX11_setBench 41 = .ok (.aload_n 0, 1) := by decide +kernel
theorem dX11_setBench_42 : decode cX11_setBench 42 = .ok (.getfield 12, 3) := by decide +kernel
theorem dX11_setBench_45 : decode cX11_setBench 45 = .ok (.invokevirtual 84, 3) := by decide +kernel
theorem dX11_setBench_48 : decode cX11_setBench 48 = .ok (.aload_n 0, 1) := by decide +kernel
theorem dX11_setBench_49 : decode cX11_setBench 49 = .ok (.iload_n 1, 1) := by decide +kernel
theorem dX11_setBench_50 : decode cX11_setBench 50 = .ok (.iload_n 2, 1) := by decide +kernel
theorem dX11_setBench_51 : decode cX11_setBench 51 = .ok (.invokevirtual 97, 3) := by decide +kernel
theorem dX11_setBench_54 : decode cX11_setBench 54 = .ok (.ireturn, 1) := by decide +kernel
theorem dX11_treeBits_0 : decode cX11_treeBits 0 = .ok (.aload_n 0, 1) := by decide +kernel
theorem dX11_treeBits_1 : decode cX11_treeBits 1 = .ok (.getfield 12, 3) := by decide +kernel
theorem dX11_treeBits_4 : decode cX11_treeBits 4 = .ok (.getfield 100, 3) := by decide +kernel
theorem dX11_treeBits_7 : decode cX11_treeBits 7 = .ok (.getfield 104, 3) := by decide +kernel
theorem dX11_treeBits_10 : decode cX11_treeBits 10 = .ok (.lreturn, 1) := by decide +kernel
theorem dX11_turnedTrees_0 : decode cX11_turnedTrees 0 = .ok (.aload_n 0, 1) := by decide +kernel
theorem dX11_turnedTrees_1 : decode cX11_turnedTrees 1 = .ok (.getfield 12, 3) := by decide +kernel
theorem dX11_turnedTrees_4 : decode cX11_turnedTrees 4 = .ok (.getfield 100, 3) := by decide +kernel
theorem dX11_turnedTrees_7 : decode cX11_turnedTrees 7 = .ok (.invokevirtual 110, 3) := by decide +kernel
theorem dX11_turnedTrees_10 : decode cX11_turnedTrees 10 = .ok (.lreturn, 1) := by decide +kernel
theorem dX11_turnedTreesByCells_0 : decode cX11_turnedTreesByCells 0 = .ok (.aload_n 0, 1) := by decide +kernel
theorem dX11_turnedTreesByCells_1 : decode cX11_turnedTreesByCells 1 = .ok (.getfield 12, 3) := by decide +kernel
theorem dX11_turnedTreesByCells_4 : decode cX11_turnedTreesByCells 4 = .ok (.getfield 100, 3) := by decide +kernel
theorem dX11_turnedTreesByCells_7 : decode cX11_turnedTreesByCells 7 = .ok (.invokevirtual 114, 3) := by decide +kernel
theorem dX11_turnedTreesByCells_10 : decode cX11_turnedTreesByCells 10 = .ok (.lreturn, 1) := by decide +kernel
theorem dX11_reach_0 : decode cX11_reach 0 = .ok (.iload_n 1, 1) := by decide +kernel
theorem dX11_reach_1 : decode cX11_reach 1 = .ok (.iload_n 2, 1) := by decide +kernel
theorem dX11_reach_2 : decode cX11_reach 2 = .ok (.invokestatic 117, 3) := by decide +kernel
theorem dX11_reach_5 : decode cX11_reach 5 = .ok (.ifCond .ne 13, 3) := by decide +kernel
theorem dX11_reach_8 : decode cX11_reach 8 = .ok (.new 72, 3) := by decide +kernel
theorem dX11_reach_11 : decode cX11_reach 11 = .ok (.dup, 1) := by decide +kernel
theorem dX11_reach_12 : decode cX11_reach 12 = .ok (.ldc 74, 2) := by decide +kernel
theorem dX11_reach_14 : decode cX11_reach 14 = .ok (.invokespecial 76, 3) := by decide +kernel
theorem dX11_reach_17 : decode cX11_reach 17 = .ok (.athrow, 1) := by decide +kernel
theorem dX11_reach_18 : decode cX11_reach 18 = .ok (.aload_n 0, 1) := by decide +kernel
theorem dX11_reach_19 : decode cX11_reach 19 = .ok (.getfield 12, 3) := by decide +kernel
theorem dX11_reach_22 : decode cX11_reach 22 = .ok (.getfield 100, 3) := by decide +kernel
theorem dX11_reach_25 : decode cX11_reach 25 = .ok (.iload_n 1, 1) := by decide +kernel
theorem dX11_reach_26 : decode cX11_reach 26 = .ok (.iload_n 2, 1) := by decide +kernel
theorem dX11_reach_27 : decode cX11_reach 27 = .ok (.invokestatic 121, 3) := by decide +kernel
theorem dX11_reach_30 : decode cX11_reach 30 = .ok (.invokevirtual 124, 3) := by decide +kernel
theorem dX11_reach_33 : decode cX11_reach 33 = .ok (.lreturn, 1) := by decide +kernel
theorem dX11_reachByQueue_0 : decode cX11_reachByQueue 0 = .ok (.iload_n 1, 1) := by decide +kernel
theorem dX11_reachByQueue_1 : decode cX11_reachByQueue 1 = .ok (.iload_n 2, 1) := by decide +kernel
theorem dX11_reachByQueue_2 : decode cX11_reachByQueue 2 = .ok (.invokestatic 117, 3) := by decide +kernel
theorem dX11_reachByQueue_5 : decode cX11_reachByQueue 5 = .ok (.ifCond .ne 13, 3) := by decide +kernel
theorem dX11_reachByQueue_8 : decode cX11_reachByQueue 8 = .ok (.new 72, 3) := by decide +kernel
theorem dX11_reachByQueue_11 : decode cX11_reachByQueue 11 = .ok (.dup, 1) := by decide +kernel
theorem dX11_reachByQueue_12 : decode cX11_reachByQueue 12 = .ok (.ldc 74, 2) := by decide +kernel
theorem dX11_reachByQueue_14 : decode cX11_reachByQueue 14 = .ok (.invokespecial 76, 3) := by decide +kernel
theorem dX11_reachByQueue_17 : decode cX11_reachByQueue 17 = .ok (.athrow, 1) := by decide +kernel
theorem dX11_reachByQueue_18 : decode cX11_reachByQueue 18 = .ok (.aload_n 0, 1) := by decide +kernel
theorem dX11_reachByQueue_19 : decode cX11_reachByQueue 19 = .ok (.iload_n 1, 1) := by decide +kernel
theorem dX11_reachByQueue_20 : decode cX11_reachByQueue 20 = .ok (.iload_n 2, 1) := by decide +kernel
theorem dX11_reachByQueue_21 : decode cX11_reachByQueue 21 = .ok (.invokestatic 121, 3) := by decide +kernel
theorem dX11_reachByQueue_24 : decode cX11_reachByQueue 24 = .ok (.invokevirtual 128, 3) := by decide +kernel
theorem dX11_reachByQueue_27 : decode cX11_reachByQueue 27 = .ok (.lreturn, 1) := by decide +kernel
theorem dX11_setWind_0 : decode cX11_setWind 0 = .ok (.aload_n 0, 1) := by decide +kernel
theorem dX11_setWind_1 : decode cX11_setWind 1 = .ok (.iload_n 1, 1) := by decide +kernel
theorem dX11_setWind_2 : decode cX11_setWind 2 = .ok (.iload_n 2, 1) := by decide +kernel
theorem dX11_setWind_3 : decode cX11_setWind 3 = .ok (.invokevirtual 131, 3) := by decide +kernel
theorem dX11_setWind_6 : decode cX11_setWind 6 = .ok (.ifCond .eq 13, 3) := by decide +kernel
theorem dX11_setWind_9 : decode cX11_setWind 9 = .ok (.new 134, 3) := by decide +kernel
theorem dX11_setWind_12 : decode cX11_setWind 12 = .ok (.dup, 1) := by decide +kernel
theorem dX11_setWind_13 : decode cX11_setWind 13 = .ok (.ldc 136, 2) := by decide +kernel
theorem dX11_setWind_15 : decode cX11_setWind 15 = .ok (.invokespecial 138, 3) := by decide +kernel
theorem dX11_setWind_18 : decode cX11_setWind 18 = .ok (.athrow, 1) := by decide +kernel
theorem dX11_setWind_19 : decode cX11_setWind 19 = .ok (.aload_n 0, 1) := by decide +kernel
theorem dX11_setWind_20 : decode cX11_setWind 20 = .ok (.getfield 25, 3) := by decide +kernel
theorem dX11_setWind_23 : decode cX11_setWind 23 = .ok (.aload_n 0, 1) := by decide +kernel
theorem dX11_setWind_24 : decode cX11_setWind 24 = .ok (.getfield 12, 3) := by decide +kernel
theorem dX11_setWind_27 : decode cX11_setWind 27 = .ok (.invokevirtual 84, 3) := by decide +kernel
theorem dX11_setWind_30 : decode cX11_setWind 30 = .ok (.aload_n 0, 1) := by decide +kernel
theorem dX11_setWind_31 : decode cX11_setWind 31 = .ok (.iload_n 1, 1) := by decide +kernel
theorem dX11_setWind_32 : decode cX11_setWind 32 = .ok (.iload_n 2, 1) := by decide +kernel
theorem dX11_setWind_33 : decode cX11_setWind 33 = .ok (.invokevirtual 139, 3) := by decide +kernel
theorem dX11_setWind_36 : decode cX11_setWind 36 = .ok (.ireturn, 1) := by decide +kernel
theorem dX11_bench_0 : decode cX11_bench 0 = .ok (.aload_n 0, 1) := by decide +kernel
theorem dX11_bench_1 : decode cX11_bench 1 = .ok (.getfield 12, 3) := by decide +kernel
theorem dX11_bench_4 : decode cX11_bench 4 = .ok (.getfield 100, 3) := by decide +kernel
theorem dX11_bench_7 : decode cX11_bench 7 = .ok (.getfield 142, 3) := by decide +kernel
theorem dX11_bench_10 : decode cX11_bench 10 = .ok (.ireturn, 1) := by decide +kernel
theorem dX11_addParty_0 : decode cX11_addParty 0 = .ok (.aload_n 0, 1) := by decide +kernel
theorem dX11_addParty_1 : decode cX11_addParty 1 = .ok (.iload_n 1, 1) := by decide +kernel
theorem dX11_addParty_2 : decode cX11_addParty 2 = .ok (.iload_n 2, 1) := by decide +kernel
theorem dX11_addParty_3 : decode cX11_addParty 3 = .ok (.invokevirtual 145, 3) := by decide +kernel
theorem dX11_addParty_6 : decode cX11_addParty 6 = .ok (.istore_n 3, 1) := by decide +kernel
theorem dX11_addParty_7 : decode cX11_addParty 7 = .ok (.iload_n 3, 1) := by decide +kernel
theorem dX11_addParty_8 : decode cX11_addParty 8 = .ok (.iconst 1, 1) := by decide +kernel
theorem dX11_addParty_9 : decode cX11_addParty 9 = .ok (.if_icmp .ne 13, 3) := by decide +kernel
theorem dX11_addParty_12 : decode cX11_addParty 12 = .ok (.new 72, 3) := by decide +kernel
theorem dX11_addParty_15 : decode cX11_addParty 15 = .ok (.dup, 1) := by decide +kernel
theorem dX11_addParty_16 : decode cX11_addParty 16 = .ok (.ldc 74, 2) := by decide +kernel
theorem dX11_addParty_18 : decode cX11_addParty 18 = .ok (.invokespecial 76, 3) := by decide +kernel
theorem dX11_addParty_21 : decode cX11_addParty 21 = .ok (.athrow, 1) := by decide +kernel
theorem dX11_addParty_22 : decode cX11_addParty 22 = .ok (.iload_n 3, 1) := by decide +kernel
theorem dX11_addParty_23 : decode cX11_addParty 23 = .ok (.iconst 3, 1) := by decide +kernel
theorem dX11_addParty_24 : decode cX11_addParty 24 = .ok (.if_icmp .ne 13, 3) := by decide +kernel
theorem dX11_addParty_27 : decode cX11_addParty 27 = .ok (.new 148, 3) := by decide +kernel
theorem dX11_addParty_30 : decode cX11_addParty 30 = .ok (.dup, 1) := by decide +kernel
theorem dX11_addParty_31 : decode cX11_addParty 31 = .ok (.ldc 150, 2) := by decide +kernel
theorem dX11_addParty_33 : decode cX11_addParty 33 = .ok (.invokespecial 152, 3) := by decide +kernel
theorem dX11_addParty_36 : decode cX11_addParty 36 = .ok (.athrow, 1) := by decide +kernel
theorem dX11_addParty_37 : decode cX11_addParty 37 = .ok (.iload_n 3, 1) := by decide +kernel
theorem dX11_addParty_38 : decode cX11_addParty 38 = .ok (.iconst 4, 1) := by decide +kernel
theorem dX11_addParty_39 : decode cX11_addParty 39 = .ok (.if_icmp .ne 13, 3) := by decide +kernel
theorem dX11_addParty_42 : decode cX11_addParty 42 = .ok (.new 79, 3) := by decide +kernel
theorem dX11_addParty_45 : decode cX11_addParty 45 = .ok (.dup, 1) := by decide +kernel
theorem dX11_addParty_46 : decode cX11_addParty 46 = .ok (.ldc 153, 2) := by decide +kernel
theorem dX11_addParty_48 : decode cX11_addParty 48 = .ok (.invokespecial 83, 3) := by decide +kernel
theorem dX11_addParty_51 : decode cX11_addParty 51 = .ok (.athrow, 1) := by decide +kernel
theorem dX11_addParty_52 : decode cX11_addParty 52 = .ok (.aload_n 0, 1) := by decide +kernel
theorem dX11_addParty_53 : decode cX11_addParty 53 = .ok (.getfield 25, 3) := by decide +kernel
theorem dX11_addParty_56 : decode cX11_addParty 56 = .ok (.aload_n 0, 1) := by decide +kernel
theorem dX11_addParty_57 : decode cX11_addParty 57 = .ok (.getfield 12, 3) := by decide +kernel
theorem dX11_addParty_60 : decode cX11_addParty 60 = .ok (.invokevirtual 84, 3) := by decide +kernel
theorem dX11_addParty_63 : decode cX11_addParty 63 = .ok (.aload_n 0, 1) := by decide +kernel
theorem dX11_addParty_64 : decode cX11_addParty 64 = .ok (.iload_n 1, 1) := by decide +kernel
theorem dX11_addParty_65 : decode cX11_addParty 65 = .ok (.iload_n 2, 1) := by decide +kernel
theorem dX11_addParty_66 : decode cX11_addParty 66 = .ok (.invokevirtual 155, 3) := by decide +kernel
theorem dX11_addParty_69 : decode cX11_addParty 69 = .ok (.ireturn, 1) := by decide +kernel
theorem dX11_moveParty_0 : decode cX11_moveParty 0 = .ok (.aload_n 0, 1) := by decide +kernel
theorem dX11_moveParty_1 : decode cX11_moveParty 1 = .ok (.iload_n 1, 1) := by decide +kernel
theorem dX11_moveParty_2 : decode cX11_moveParty 2 = .ok (.iload_n 2, 1) := by decide +kernel
theorem dX11_moveParty_3 : decode cX11_moveParty 3 = .ok (.iload_n 3, 1) := by decide +kernel
theorem dX11_moveParty_4 : decode cX11_moveParty 4 = .ok (.invokevirtual 158, 3) := by decide +kernel
theorem dX11_moveParty_7 : decode cX11_moveParty 7 = .ok (.istore 4, 2) := by decide +kernel
theorem dX11_moveParty_9 : decode cX11_moveParty 9 = .ok (.iload 4, 2) := by decide +kernel
theorem dX11_moveParty_11 : decode cX11_moveParty 11 = .ok (.iconst 1, 1) := by decide +kernel
theorem dX11_moveParty_12 : decode cX11_moveParty 12 = .ok (.if_icmp .ne 13, 3) := by decide +kernel
theorem dX11_moveParty_15 : decode cX11_moveParty 15 = .ok (.new 72, 3) := by decide +kernel
theorem dX11_moveParty_18 : decode cX11_moveParty 18 = .ok (.dup, 1) := by decide +kernel
theorem dX11_moveParty_19 : decode cX11_moveParty 19 = .ok (.ldc 162, 2) := by decide +kernel
theorem dX11_moveParty_21 : decode cX11_moveParty 21 = .ok (.invokespecial 76, 3) := by decide +kernel
theorem dX11_moveParty_24 : decode cX11_moveParty 24 = .ok (.athrow, 1) := by decide +kernel
theorem dX11_moveParty_25 : decode cX11_moveParty 25 = .ok (.iload 4, 2) := by decide +kernel
theorem dX11_moveParty_27 : decode cX11_moveParty 27 = .ok (.iconst 4, 1) := by decide +kernel
theorem dX11_moveParty_28 : decode cX11_moveParty 28 = .ok (.if_icmp .ne 13, 3) := by decide +kernel
theorem dX11_moveParty_31 : decode cX11_moveParty 31 = .ok (.new 79, 3) := by decide +kernel
theorem dX11_moveParty_34 : decode cX11_moveParty 34 = .ok (.dup, 1) := by decide +kernel
theorem dX11_moveParty_35 : decode cX11_moveParty 35 = .ok (.ldc 164, 2) := by decide +kernel
theorem dX11_moveParty_37 : decode cX11_moveParty 37 = .ok (.invokespecial 83, 3) := by decide +kernel
theorem dX11_moveParty_40 : decode cX11_moveParty 40 = .ok (.athrow, 1) := by decide +kernel
theorem dX11_moveParty_41 : decode cX11_moveParty 41 = .ok (.aload_n 0, 1) := by decide +kernel
theorem dX11_moveParty_42 : decode cX11_moveParty 42 = .ok (.getfield 25, 3) := by decide +kernel
theorem dX11_moveParty_45 : decode cX11_moveParty 45 = .ok (.aload_n 0, 1) := by decide +kernel
theorem dX11_moveParty_46 : decode cX11_moveParty 46 = .ok (.getfield 12, 3) := by decide +kernel
theorem dX11_moveParty_49 : decode cX11_moveParty 49 = .ok (.invokevirtual 84, 3) := by decide +kernel
theorem dX11_moveParty_52 : decode cX11_moveParty 52 = .ok (.aload_n 0, 1) := by decide +kernel
theorem dX11_moveParty_53 : decode cX11_moveParty 53 = .ok (.iload_n 1, 1) := by decide +kernel
theorem dX11_moveParty_54 : decode cX11_moveParty 54 = .ok (.iload_n 2, 1) := by decide +kernel
theorem dX11_moveParty_55 : decode cX11_moveParty 55 = .ok (.iload_n 3, 1) := by decide +kernel
theorem dX11_moveParty_56 : decode cX11_moveParty 56 = .ok (.invokevirtual 166, 3) := by decide +kernel
theorem dX11_moveParty_59 : decode cX11_moveParty 59 = .ok (.ireturn, 1) := by decide +kernel
theorem dX11_partyCount_0 : decode cX11_partyCount 0 = .ok (.aload_n 0, 1) := by decide +kernel
theorem dX11_partyCount_1 : decode cX11_partyCount 1 = .ok (.getfield 12, 3) := by decide +kernel
theorem dX11_partyCount_4 : decode cX11_partyCount 4 = .ok (.getfield 100, 3) := by decide +kernel
theorem dX11_partyCount_7 : decode cX11_partyCount 7 = .ok (.getfield 169, 3) := by decide +kernel
theorem dX11_partyCount_10 : decode cX11_partyCount 10 = .ok (.ireturn, 1) := by decide +kernel
theorem dX11_cellOf_0 : decode cX11_cellOf 0 = .ok (.aload_n 0, 1) := by decide +kernel
theorem dX11_cellOf_1 : decode cX11_cellOf 1 = .ok (.getfield 12, 3) := by decide +kernel
theorem dX11_cellOf_4 : decode cX11_cellOf 4 = .ok (.getfield 100, 3) := by decide +kernel
theorem dX11_cellOf_7 : decode cX11_cellOf 7 = .ok (.iload_n 1, 1) := by decide +kernel
theorem dX11_cellOf_8 : decode cX11_cellOf 8 = .ok (.invokevirtual 172, 3) := by decide +kernel
theorem dX11_cellOf_11 : decode cX11_cellOf 11 = .ok (.ifCond .ne 13, 3) := by decide +kernel
theorem dX11_cellOf_14 : decode cX11_cellOf 14 = .ok (.new 72, 3) := by decide +kernel
theorem dX11_cellOf_17 : decode cX11_cellOf 17 = .ok (.dup, 1) := by decide +kernel
theorem dX11_cellOf_18 : decode cX11_cellOf 18 = .ok (.ldc 176, 2) := by decide +kernel
theorem dX11_cellOf_20 : decode cX11_cellOf 20 = .ok (.invokespecial 76, 3) := by decide +kernel
theorem dX11_cellOf_23 : decode cX11_cellOf 23 = .ok (.athrow, 1) := by decide +kernel
theorem dX11_cellOf_24 : decode cX11_cellOf 24 = .ok (.aload_n 0, 1) := by decide +kernel
theorem dX11_cellOf_25 : decode cX11_cellOf 25 = .ok (.getfield 12, 3) := by decide +kernel
theorem dX11_cellOf_28 : decode cX11_cellOf 28 = .ok (.getfield 100, 3) := by decide +kernel
theorem dX11_cellOf_31 : decode cX11_cellOf 31 = .ok (.getfield 178, 3) := by decide +kernel
theorem dX11_cellOf_34 : decode cX11_cellOf 34 = .ok (.iload_n 1, 1) := by decide +kernel
theorem dX11_cellOf_35 : decode cX11_cellOf 35 = .ok (.iaload, 1) := by decide +kernel
theorem dX11_cellOf_36 : decode cX11_cellOf 36 = .ok (.ireturn, 1) := by decide +kernel
theorem dX11_partyIn_0 : decode cX11_partyIn 0 = .ok (.iload_n 1, 1) := by decide +kernel
theorem dX11_partyIn_1 : decode cX11_partyIn 1 = .ok (.iload_n 2, 1) := by decide +kernel
theorem dX11_partyIn_2 : decode cX11_partyIn 2 = .ok (.invokestatic 117, 3) := by decide +kernel
theorem dX11_partyIn_5 : decode cX11_partyIn 5 = .ok (.ifCond .ne 13, 3) := by decide +kernel
theorem dX11_partyIn_8 : decode cX11_partyIn 8 = .ok (.new 72, 3) := by decide +kernel
theorem dX11_partyIn_11 : decode cX11_partyIn 11 = .ok (.dup, 1) := by decide +kernel
theorem dX11_partyIn_12 : decode cX11_partyIn 12 = .ok (.ldc 74, 2) := by decide +kernel
theorem dX11_partyIn_14 : decode cX11_partyIn 14 = .ok (.invokespecial 76, 3) := by decide +kernel
theorem dX11_partyIn_17 : decode cX11_partyIn 17 = .ok (.athrow, 1) := by decide +kernel
theorem dX11_partyIn_18 : decode cX11_partyIn 18 = .ok (.aload_n 0, 1) := by decide +kernel
theorem dX11_partyIn_19 : decode cX11_partyIn 19 = .ok (.getfield 12, 3) := by decide +kernel
theorem dX11_partyIn_22 : decode cX11_partyIn 22 = .ok (.getfield 100, 3) := by decide +kernel
theorem dX11_partyIn_25 : decode cX11_partyIn 25 = .ok (.iload_n 1, 1) := by decide +kernel
theorem dX11_partyIn_26 : decode cX11_partyIn 26 = .ok (.iload_n 2, 1) := by decide +kernel
theorem dX11_partyIn_27 : decode cX11_partyIn 27 = .ok (.invokestatic 121, 3) := by decide +kernel
theorem dX11_partyIn_30 : decode cX11_partyIn 30 = .ok (.invokevirtual 181, 3) := by decide +kernel
theorem dX11_partyIn_33 : decode cX11_partyIn 33 = .ok (.istore_n 3, 1) := by decide +kernel
theorem dX11_partyIn_34 : decode cX11_partyIn 34 = .ok (.iload_n 3, 1) := by decide +kernel
theorem dX11_partyIn_35 : decode cX11_partyIn 35 = .ok (.iconst (-1), 1) := by decide +kernel
theorem dX11_partyIn_36 : decode cX11_partyIn 36 = .ok (.if_icmp .ne 13, 3) := by decide +kernel
theorem dX11_partyIn_39 : decode cX11_partyIn 39 = .ok (.new 185, 3) := by decide +kernel
theorem dX11_partyIn_42 : decode cX11_partyIn 42 = .ok (.dup, 1) := by decide +kernel
theorem dX11_partyIn_43 : decode cX11_partyIn 43 = .ok (.ldc 187, 2) := by decide +kernel
theorem dX11_partyIn_45 : decode cX11_partyIn 45 = .ok (.invokespecial 189, 3) := by decide +kernel
theorem dX11_partyIn_48 : decode cX11_partyIn 48 = .ok (.athrow, 1) := by decide +kernel
theorem dX11_partyIn_49 : decode cX11_partyIn 49 = .ok (.iload_n 3, 1) := by decide +kernel
theorem dX11_partyIn_50 : decode cX11_partyIn 50 = .ok (.ireturn, 1) := by decide +kernel
theorem dX11_servedCount_0 : decode cX11_servedCount 0 = .ok (.aload_n 0, 1) := by decide +kernel
theorem dX11_servedCount_1 : decode cX11_servedCount 1 = .ok (.getfield 12, 3) := by decide +kernel
theorem dX11_servedCount_4 : decode cX11_servedCount 4 = .ok (.getfield 100, 3) := by decide +kernel
theorem dX11_servedCount_7 : decode cX11_servedCount 7 = .ok (.iload_n 1, 1) := by decide +kernel
theorem dX11_servedCount_8 : decode cX11_servedCount 8 = .ok (.invokevirtual 172, 3) := by decide +kernel
theorem dX11_servedCount_11 : decode cX11_servedCount 11 = .ok (.ifCond .ne 13, 3) := by decide +kernel
theorem dX11_servedCount_14 : decode cX11_servedCount 14 = .ok (.new 72, 3) := by decide +kernel
theorem dX11_servedCount_17 : decode cX11_servedCount 17 = .ok (.dup, 1) := by decide +kernel
theorem dX11_servedCount_18 : decode cX11_servedCount 18 = .ok (.ldc 176, 2) := by decide +kernel
theorem dX11_servedCount_20 : decode cX11_servedCount 20 = .ok (.invokespecial 76, 3) := by decide +kernel
theorem dX11_servedCount_23 : decode cX11_servedCount 23 = .ok (.athrow, 1) := by decide +kernel
theorem dX11_servedCount_24 : decode cX11_servedCount 24 = .ok (.aload_n 0, 1) := by decide +kernel
theorem dX11_servedCount_25 : decode cX11_servedCount 25 = .ok (.getfield 12, 3) := by decide +kernel
theorem dX11_servedCount_28 : decode cX11_servedCount 28 = .ok (.getfield 190, 3) := by decide +kernel
theorem dX11_servedCount_31 : decode cX11_servedCount 31 = .ok (.getfield 194, 3) := by decide +kernel
theorem dX11_servedCount_34 : decode cX11_servedCount 34 = .ok (.iload_n 1, 1) := by decide +kernel
theorem dX11_servedCount_35 : decode cX11_servedCount 35 = .ok (.iaload, 1) := by decide +kernel
theorem dX11_servedCount_36 : decode cX11_servedCount 36 = .ok (.ireturn, 1) := by decide +kernel
theorem dX11_flightLength_0 : decode cX11_flightLength 0 = .ok (.iload_n 1, 1) := by decide +kernel
theorem dX11_flightLength_1 : decode cX11_flightLength 1 = .ok (.invokestatic 199, 3) := by decide +kernel
theorem dX11_flightLength_4 : decode cX11_flightLength 4 = .ok (.ifCond .ne 13, 3) := by decide +kernel
theorem dX11_flightLength_7 : decode cX11_flightLength 7 = .ok (.new 134, 3) := by decide +kernel
theorem dX11_flightLength_10 : decode cX11_flightLength 10 = .ok (.dup, 1) := by decide +kernel
theorem dX11_flightLength_11 : decode cX11_flightLength 11 = .ok (.ldc 202, 2) := by decide +kernel
theorem dX11_flightLength_13 : decode cX11_flightLength 13 = .ok (.invokespecial 138, 3) := by decide +kernel
theorem dX11_flightLength_16 : decode cX11_flightLength 16 = .ok (.athrow, 1) := by decide +kernel
theorem dX11_flightLength_17 : decode cX11_flightLength 17 = .ok (.aload_n 0, 1) := by decide +kernel
theorem dX11_flightLength_18 : decode cX11_flightLength 18 = .ok (.getfield 32, 3) := by decide +kernel
theorem dX11_flightLength_21 : decode cX11_flightLength 21 = .ok (.aload_n 0, 1) := by decide +kernel
theorem dX11_flightLength_22 : decode cX11_flightLength 22 = .ok (.getfield 12, 3) := by decide +kernel
theorem dX11_flightLength_25 : decode cX11_flightLength 25 = .ok (.getfield 100, 3) := by decide +kernel
theorem dX11_flightLength_28 : decode cX11_flightLength 28 = .ok (.iload_n 1, 1) := by decide +kernel
theorem dX11_flightLength_29 : decode cX11_flightLength 29 = .ok (.invokevirtual 204, 3) := by decide +kernel
theorem dX11_flightLength_32 : decode cX11_flightLength 32 = .ok (.aload_n 0, 1) := by decide +kernel
theorem dX11_flightLength_33 : decode cX11_flightLength 33 = .ok (.getfield 32, 3) := by decide +kernel
theorem dX11_flightLength_36 : decode cX11_flightLength 36 = .ok (.getfield 208, 3) := by decide +kernel
theorem dX11_flightLength_39 : decode cX11_flightLength 39 = .ok (.ireturn, 1) := by decide +kernel
theorem dX11_flightCell_0 : decode cX11_flightCell 0 = .ok (.iload_n 1, 1) := by decide +kernel
theorem dX11_flightCell_1 : decode cX11_flightCell 1 = .ok (.invokestatic 199, 3) := by decide +kernel
theorem dX11_flightCell_4 : decode cX11_flightCell 4 = .ok (.ifCond .ne 13, 3) := by decide +kernel
theorem dX11_flightCell_7 : decode cX11_flightCell 7 = .ok (.new 134, 3) := by decide +kernel
theorem dX11_flightCell_10 : decode cX11_flightCell 10 = .ok (.dup, 1) := by decide +kernel
theorem dX11_flightCell_11 : decode cX11_flightCell 11 = .ok (.ldc 202, 2) := by decide +kernel
theorem dX11_flightCell_13 : decode cX11_flightCell 13 = .ok (.invokespecial 138, 3) := by decide +kernel
theorem dX11_flightCell_16 : decode cX11_flightCell 16 = .ok (.athrow, 1) := by decide +kernel
theorem dX11_flightCell_17 : decode cX11_flightCell 17 = .ok (.aload_n 0, 1) := by decide +kernel
theorem dX11_flightCell_18 : decode cX11_flightCell 18 = .ok (.getfield 32, 3) := by decide +kernel
theorem dX11_flightCell_21 : decode cX11_flightCell 21 = .ok (.aload_n 0, 1) := by decide +kernel
theorem dX11_flightCell_22 : decode cX11_flightCell 22 = .ok (.getfield 12, 3) := by decide +kernel
theorem dX11_flightCell_25 : decode cX11_flightCell 25 = .ok (.getfield 100, 3) := by decide +kernel
theorem dX11_flightCell_28 : decode cX11_flightCell 28 = .ok (.iload_n 1, 1) := by decide +kernel
theorem dX11_flightCell_29 : decode cX11_flightCell 29 = .ok (.invokevirtual 204, 3) := by decide +kernel
theorem dX11_flightCell_32 : decode cX11_flightCell 32 = .ok (.iload_n 2, 1) := by decide +kernel
theorem dX11_flightCell_33 : decode cX11_flightCell 33 = .ok (.ifCond .lt 14, 3) := by decide +kernel
theorem dX11_flightCell_36 : decode cX11_flightCell 36 = .ok (.iload_n 2, 1) := by decide +kernel
theorem dX11_flightCell_37 : decode cX11_flightCell 37 = .ok (.aload_n 0, 1) := by decide +kernel
theorem dX11_flightCell_38 : decode cX11_flightCell 38 = .ok (.getfield 32, 3) := by decide +kernel
theorem dX11_flightCell_41 : decode cX11_flightCell 41 = .ok (.getfield 208, 3) := by decide +kernel
theorem dX11_flightCell_44 : decode cX11_flightCell 44 = .ok (.if_icmp .le 13, 3) := by decide +kernel
theorem dX11_flightCell_47 : decode cX11_flightCell 47 = .ok (.new 185, 3) := by decide +kernel
theorem dX11_flightCell_50 : decode cX11_flightCell 50 = .ok (.dup, 1) := by decide +kernel
theorem dX11_flightCell_51 : decode cX11_flightCell 51 = .ok (.ldc 211, 2) := by decide +kernel
theorem dX11_flightCell_53 : decode cX11_flightCell 53 = .ok (.invokespecial 189, 3) := by decide +kernel
theorem dX11_flightCell_56 : decode cX11_flightCell 56 = .ok (.athrow, 1) := by decide +kernel
theorem dX11_flightCell_57 : decode cX11_flightCell 57 = .ok (.aload_n 0, 1) := by decide +kernel
theorem dX11_flightCell_58 : decode cX11_flightCell 58 = .ok (.getfield 32, 3) := by decide +kernel
theorem dX11_flightCell_61 : decode cX11_flightCell 61 = .ok (.getfield 213, 3) := by decide +kernel
theorem dX11_flightCell_64 : decode cX11_flightCell 64 = .ok (.iload_n 2, 1) := by decide +kernel
theorem dX11_flightCell_65 : decode cX11_flightCell 65 = .ok (.iaload, 1) := by decide +kernel
theorem dX11_flightCell_66 : decode cX11_flightCell 66 = .ok (.ireturn, 1) := by decide +kernel
theorem dX11_flightEnd_0 : decode cX11_flightEnd 0 = .ok (.iload_n 1, 1) := by decide +kernel
theorem dX11_flightEnd_1 : decode cX11_flightEnd 1 = .ok (.invokestatic 199, 3) := by decide +kernel
theorem dX11_flightEnd_4 : decode cX11_flightEnd 4 = .ok (.ifCond .ne 13, 3) := by decide +kernel
theorem dX11_flightEnd_7 : decode cX11_flightEnd 7 = .ok (.new 134, 3) := by decide +kernel
theorem dX11_flightEnd_10 : decode cX11_flightEnd 10 = .ok (.dup, 1) := by decide +kernel
theorem dX11_flightEnd_11 : decode cX11_flightEnd 11 = .ok (.ldc 202, 2) := by decide +kernel
theorem dX11_flightEnd_13 : decode cX11_flightEnd 13 = .ok (.invokespecial 138, 3) := by decide +kernel
theorem dX11_flightEnd_16 : decode cX11_flightEnd 16 = .ok (.athrow, 1) := by decide +kernel
theorem dX11_flightEnd_17 : decode cX11_flightEnd 17 = .ok (.aload_n 0, 1) := by decide +kernel
theorem dX11_flightEnd_18 : decode cX11_flightEnd 18 = .ok (.getfield 32, 3) := by decide +kernel
theorem dX11_flightEnd_21 : decode cX11_flightEnd 21 = .ok (.aload_n 0, 1) := by decide +kernel
theorem dX11_flightEnd_22 : decode cX11_flightEnd 22 = .ok (.getfield 12, 3) := by decide +kernel
theorem dX11_flightEnd_25 : decode cX11_flightEnd 25 = .ok (.getfield 100, 3) := by decide +kernel
theorem dX11_flightEnd_28 : decode cX11_flightEnd 28 = .ok (.iload_n 1, 1) := by decide +kernel
theorem dX11_flightEnd_29 : decode cX11_flightEnd 29 = .ok (.invokevirtual 204, 3) := by decide +kernel
theorem dX11_flightEnd_32 : decode cX11_flightEnd 32 = .ok (.aload_n 0, 1) := by decide +kernel
theorem dX11_flightEnd_33 : decode cX11_flightEnd 33 = .ok (.getfield 32, 3) := by decide +kernel
theorem dX11_flightEnd_36 : decode cX11_flightEnd 36 = .ok (.getfield 216, 3) := by decide +kernel
theorem dX11_flightEnd_39 : decode cX11_flightEnd 39 = .ok (.ireturn, 1) := by decide +kernel
theorem dX11_flightBits_0 : decode cX11_flightBits 0 = .ok (.iload_n 1, 1) := by decide +kernel
theorem dX11_flightBits_1 : decode cX11_flightBits 1 = .ok (.invokestatic 199, 3) := by decide +kernel
theorem dX11_flightBits_4 : decode cX11_flightBits 4 = .ok (.ifCond .ne 13, 3) := by decide +kernel
theorem dX11_flightBits_7 : decode cX11_flightBits 7 = .ok (.new 134, 3) := by decide +kernel
theorem dX11_flightBits_10 : decode cX11_flightBits 10 = .ok (.dup, 1) := by decide +kernel
theorem dX11_flightBits_11 : decode cX11_flightBits 11 = .ok (.ldc 202, 2) := by decide +kernel
theorem dX11_flightBits_13 : decode cX11_flightBits 13 = .ok (.invokespecial 138, 3) := by decide +kernel
theorem dX11_flightBits_16 : decode cX11_flightBits 16 = .ok (.athrow, 1) := by decide +kernel
theorem dX11_flightBits_17 : decode cX11_flightBits 17 = .ok (.aload_n 0, 1) := by decide +kernel
theorem dX11_flightBits_18 : decode cX11_flightBits 18 = .ok (.getfield 32, 3) := by decide +kernel
theorem dX11_flightBits_21 : decode cX11_flightBits 21 = .ok (.aload_n 0, 1) := by decide +kernel
theorem dX11_flightBits_22 : decode cX11_flightBits 22 = .ok (.getfield 12, 3) := by decide +kernel
theorem dX11_flightBits_25 : decode cX11_flightBits 25 = .ok (.getfield 100, 3) := by decide +kernel
theorem dX11_flightBits_28 : decode cX11_flightBits 28 = .ok (.iload_n 1, 1) := by decide +kernel
theorem dX11_flightBits_29 : decode cX11_flightBits 29 = .ok (.invokevirtual 204, 3) := by decide +kernel
theorem dX11_flightBits_32 : decode cX11_flightBits 32 = .ok (.aload_n 0, 1) := by decide +kernel
theorem dX11_flightBits_33 : decode cX11_flightBits 33 = .ok (.getfield 32, 3) := by decide +kernel
theorem dX11_flightBits_36 : decode cX11_flightBits 36 = .ok (.invokevirtual 220, 3) := by decide +kernel
theorem dX11_flightBits_39 : decode cX11_flightBits 39 = .ok (.lreturn, 1) := by decide +kernel
theorem dX11_servingThrows_0 : decode cX11_servingThrows 0 = .ok (.aload_n 0, 1) := by decide +kernel
theorem dX11_servingThrows_1 : decode cX11_servingThrows 1 = .ok (.getfield 12, 3) := by decide +kernel
theorem dX11_servingThrows_4 : decode cX11_servingThrows 4 = .ok (.getfield 100, 3) := by decide +kernel
theorem dX11_servingThrows_7 : decode cX11_servingThrows 7 = .ok (.iload_n 1, 1) := by decide +kernel
theorem dX11_servingThrows_8 : decode cX11_servingThrows 8 = .ok (.invokevirtual 172, 3) := by decide +kernel
theorem dX11_servingThrows_11 : decode cX11_servingThrows 11 = .ok (.ifCond .ne 13, 3) := by decide +kernel
theorem dX11_servingThrows_14 : decode cX11_servingThrows 14 = .ok (.new 72, 3) := by decide +kernel
theorem dX11_servingThrows_17 : decode cX11_servingThrows 17 = .ok (.dup, 1) := by decide +kernel
theorem dX11_servingThrows_18 : decode cX11_servingThrows 18 = .ok (.ldc 176, 2) := by decide +kernel
theorem dX11_servingThrows_20 : decode cX11_servingThrows 20 = .ok (.invokespecial 76, 3) := by decide +kernel
theorem dX11_servingThrows_23 : decode cX11_servingThrows 23 = .ok (.athrow, 1) := by decide +kernel
theorem dX11_servingThrows_24 : decode cX11_servingThrows 24 = .ok (.aload_n 0, 1) := by decide +kernel
theorem dX11_servingThrows_25 : decode cX11_servingThrows 25 = .ok (.getfield 12, 3) := by decide +kernel
theorem dX11_servingThrows_28 : decode cX11_servingThrows 28 = .ok (.getfield 100, 3) := by decide +kernel
theorem dX11_servingThrows_31 : decode cX11_servingThrows 31 = .ok (.getfield 178, 3) := by decide +kernel
theorem dX11_servingThrows_34 : decode cX11_servingThrows 34 = .ok (.iload_n 1, 1) := by decide +kernel
theorem dX11_servingThrows_35 : decode cX11_servingThrows 35 = .ok (.iaload, 1) := by decide +kernel
theorem dX11_servingThrows_36 : decode cX11_servingThrows 36 = .ok (.istore_n 2, 1) := by decide +kernel
theorem dX11_servingThrows_37 : decode cX11_servingThrows 37 = .ok (.lconst 0, 1) := by decide +kernel
theorem dX11_servingThrows_38 : decode cX11_servingThrows 38 = .ok (.lstore_n 3, 1) := by decide +kernel
theorem dX11_servingThrows_39 : decode cX11_servingThrows 39 = .ok (.iconst 0, 1) := by decide +kernel
theorem dX11_servingThrows_40 : decode cX11_servingThrows 40 = .ok (.istore 5, 2) := by decide +kernel
theorem dX11_servingThrows_42 : decode cX11_servingThrows 42 = .ok (.iload 5, 2) := by decide +kernel
theorem dX11_servingThrows_44 : decode cX11_servingThrows 44 = .ok (.bipush 64, 2) := by decide +kernel
theorem dX11_servingThrows_46 : decode cX11_servingThrows 46 = .ok (.if_icmp .ge 44, 3) := by decide +kernel
theorem dX11_servingThrows_49 : decode cX11_servingThrows 49 = .ok (.aload_n 0, 1) := by decide +kernel
theorem dX11_servingThrows_50 : decode cX11_servingThrows 50 = .ok (.getfield 32, 3) := by decide +kernel
theorem dX11_servingThrows_53 : decode cX11_servingThrows 53 = .ok (.aload_n 0, 1) := by decide +kernel
theorem dX11_servingThrows_54 : decode cX11_servingThrows 54 = .ok (.getfield 12, 3) := by decide +kernel
theorem dX11_servingThrows_57 : decode cX11_servingThrows 57 = .ok (.getfield 100, 3) := by decide +kernel
theorem dX11_servingThrows_60 : decode cX11_servingThrows 60 = .ok (.iload 5, 2) := by decide +kernel
theorem dX11_servingThrows_62 : decode cX11_servingThrows 62 = .ok (.invokevirtual 204, 3) := by decide +kernel
theorem dX11_servingThrows_65 : decode cX11_servingThrows 65 = .ok (.aload_n 0, 1) := by decide +kernel
theorem dX11_servingThrows_66 : decode cX11_servingThrows 66 = .ok (.getfield 32, 3) := by decide +kernel
theorem dX11_servingThrows_69 : decode cX11_servingThrows 69 = .ok (.iload_n 2, 1) := by decide +kernel
theorem dX11_servingThrows_70 : decode cX11_servingThrows 70 = .ok (.invokevirtual 223, 3) := by decide +kernel
theorem dX11_servingThrows_73 : decode cX11_servingThrows 73 = .ok (.iconst (-1), 1) := by decide +kernel
theorem dX11_servingThrows_74 : decode cX11_servingThrows 74 = .ok (.if_icmp .eq 10, 3) := by decide +kernel
theorem dX11_servingThrows_77 : decode cX11_servingThrows 77 = .ok (.lload_n 3, 1) := by decide +kernel
theorem dX11_servingThrows_78 : decode cX11_servingThrows 78 = .ok (.lconst 1, 1) := by decide +kernel
theorem dX11_servingThrows_79 : decode cX11_servingThrows 79 = .ok (.iload 5, 2) := by decide +kernel
theorem dX11_servingThrows_81 : decode cX11_servingThrows 81 = .ok (.lshl, 1) := by decide +kernel
theorem dX11_servingThrows_82 : decode cX11_servingThrows 82 = .ok (.lor, 1) := by decide +kernel
theorem dX11_servingThrows_83 : decode cX11_servingThrows 83 = .ok (.lstore_n 3, 1) := by decide +kernel
theorem dX11_servingThrows_84 : decode cX11_servingThrows 84 = .ok (.iinc 5 1, 3) := by decide +kernel
theorem dX11_servingThrows_87 : decode cX11_servingThrows 87 = .ok (.goto (-45), 3) := by decide +kernel
theorem dX11_servingThrows_90 : decode cX11_servingThrows 90 = .ok (.lload_n 3, 1) := by decide +kernel
theorem dX11_servingThrows_91 : decode cX11_servingThrows 91 = .ok (.lreturn, 1) := by decide +kernel
theorem dX11_servingThrowsBySets_0 : decode cX11_servingThrowsBySets 0 = .ok (.aload_n 0, 1) := by decide +kernel
theorem dX11_servingThrowsBySets_1 : decode cX11_servingThrowsBySets 1 = .ok (.getfield 12, 3) := by decide +kernel
theorem dX11_servingThrowsBySets_4 : decode cX11_servingThrowsBySets 4 = .ok (.getfield 100, 3) := by decide +kernel
theorem dX11_servingThrowsBySets_7 : decode cX11_servingThrowsBySets 7 = .ok (.iload_n 1, 1) := by decide +kernel
theorem dX11_servingThrowsBySets_8 : decode cX11_servingThrowsBySets 8 = .ok (.invokevirtual 172, 3) := by decide +kernel
theorem dX11_servingThrowsBySets_11 : decode cX11_servingThrowsBySets 11 = .ok (.ifCond .ne 13, 3) := by decide +kernel
theorem dX11_servingThrowsBySets_14 : decode cX11_servingThrowsBySets 14 = .ok (.new 72, 3) := by decide +kernel
theorem dX11_servingThrowsBySets_17 : decode cX11_servingThrowsBySets 17 = .ok (.dup, 1) := by decide +kernel
theorem dX11_servingThrowsBySets_18 : decode cX11_servingThrowsBySets 18 = .ok (.ldc 176, 2) := by decide +kernel
theorem dX11_servingThrowsBySets_20 : decode cX11_servingThrowsBySets 20 = .ok (.invokespecial 76, 3) := by decide +kernel
theorem dX11_servingThrowsBySets_23 : decode cX11_servingThrowsBySets 23 = .ok (.athrow, 1) := by decide +kernel
theorem dX11_servingThrowsBySets_24 : decode cX11_servingThrowsBySets 24 = .ok (.aload_n 0, 1) := by decide +kernel
theorem dX11_servingThrowsBySets_25 : decode cX11_servingThrowsBySets 25 = .ok (.getfield 12, 3) := by decide +kernel
theorem dX11_servingThrowsBySets_28 : decode cX11_servingThrowsBySets 28 = .ok (.getfield 100, 3) := by decide +kernel
theorem dX11_servingThrowsBySets_31 : decode cX11_servingThrowsBySets 31 = .ok (.getfield 178, 3) := by decide +kernel
theorem dX11_servingThrowsBySets_34 : decode cX11_servingThrowsBySets 34 = .ok (.iload_n 1, 1) := by decide +kernel
theorem dX11_servingThrowsBySets_35 : decode cX11_servingThrowsBySets 35 = .ok (.iaload, 1) := by decide +kernel
theorem dX11_servingThrowsBySets_36 : decode cX11_servingThrowsBySets 36 = .ok (.istore_n 2, 1) := by decide +kernel
theorem dX11_servingThrowsBySets_37 : decode cX11_servingThrowsBySets 37 = .ok (.lconst 0, 1) := by decide +kernel
theorem dX11_servingThrowsBySets_38 : decode cX11_servingThrowsBySets 38 = .ok (.lstore_n 3, 1) := by decide +kernel
theorem dX11_servingThrowsBySets_39 : decode cX11_servingThrowsBySets 39 = .ok (.iconst 0, 1) := by decide +kernel
theorem dX11_servingThrowsBySets_40 : decode cX11_servingThrowsBySets 40 = .ok (.istore 5, 2) := by decide +kernel
theorem dX11_servingThrowsBySets_42 : decode cX11_servingThrowsBySets 42 = .ok (.iload 5, 2) := by decide +kernel
theorem dX11_servingThrowsBySets_44 : decode cX11_servingThrowsBySets 44 = .ok (.bipush 64, 2) := by decide +kernel
theorem dX11_servingThrowsBySets_46 : decode cX11_servingThrowsBySets 46 = .ok (.if_icmp .ge 25, 3) := by decide +kernel
theorem dX11_servingThrowsBySets_49 : decode cX11_servingThrowsBySets 49 = .ok (.lload_n 3, 1) := by decide +kernel
theorem dX11_servingThrowsBySets_50 : decode cX11_servingThrowsBySets 50 = .ok (.aload_n 0, 1) := by decide +kernel
theorem dX11_servingThrowsBySets_51 : decode cX11_servingThrowsBySets 51 = .ok (.iload 5, 2) := by decide +kernel
theorem dX11_servingThrowsBySets_53 : decode cX11_servingThrowsBySets 53 = .ok (.invokevirtual 226, 3) := by decide +kernel
theorem dX11_servingThrowsBySets_56 : decode cX11_servingThrowsBySets 56 = .ok (.iload_n 2, 1) := by decide +kernel
theorem dX11_servingThrowsBySets_57 : decode cX11_servingThrowsBySets 57 = .ok (.lushr, 1) := by decide +kernel
theorem dX11_servingThrowsBySets_58 : decode cX11_servingThrowsBySets 58 = .ok (.lconst 1, 1) := by decide +kernel
theorem dX11_servingThrowsBySets_59 : decode cX11_servingThrowsBySets 59 = .ok (.land, 1) := by decide +kernel
theorem dX11_servingThrowsBySets_60 : decode cX11_servingThrowsBySets 60 = .ok (.iload 5, 2) := by decide +kernel
theorem dX11_servingThrowsBySets_62 : decode cX11_servingThrowsBySets 62 = .ok (.lshl, 1) := by decide +kernel
theorem dX11_servingThrowsBySets_63 : decode cX11_servingThrowsBySets 63 = .ok (.lor, 1) := by decide +kernel
theorem dX11_servingThrowsBySets_64 : decode cX11_servingThrowsBySets 64 = .ok (.lstore_n 3, 1) := by decide +kernel
theorem dX11_servingThrowsBySets_65 : decode cX11_servingThrowsBySets 65 = .ok (.iinc 5 1, 3) := by decide +kernel
theorem dX11_servingThrowsBySets_68 : decode cX11_servingThrowsBySets 68 = .ok (.goto (-26), 3) := by decide +kernel
theorem dX11_servingThrowsBySets_71 : decode cX11_servingThrowsBySets 71 = .ok (.lload_n 3, 1) := by decide +kernel
theorem dX11_servingThrowsBySets_72 : decode cX11_servingThrowsBySets 72 = .ok (.lreturn, 1) := by decide +kernel
theorem dX11_bestThrow_0 : decode cX11_bestThrow 0 = .ok (.aload_n 0, 1) := by decide +kernel
theorem dX11_bestThrow_1 : decode cX11_bestThrow 1 = .ok (.getfield 12, 3) := by decide +kernel
theorem dX11_bestThrow_4 : decode cX11_bestThrow 4 = .ok (.getfield 100, 3) := by decide +kernel
theorem dX11_bestThrow_7 : decode cX11_bestThrow 7 = .ok (.iload_n 1, 1) := by decide +kernel
theorem dX11_bestThrow_8 : decode cX11_bestThrow 8 = .ok (.invokevirtual 172, 3) := by decide +kernel
theorem dX11_bestThrow_11 : decode cX11_bestThrow 11 = .ok (.ifCond .ne 13, 3) := by decide +kernel
theorem dX11_bestThrow_14 : decode cX11_bestThrow 14 = .ok (.new 72, 3) := by decide +kernel
theorem dX11_bestThrow_17 : decode cX11_bestThrow 17 = .ok (.dup, 1) := by decide +kernel
theorem dX11_bestThrow_18 : decode cX11_bestThrow 18 = .ok (.ldc 176, 2) := by decide +kernel
theorem dX11_bestThrow_20 : decode cX11_bestThrow 20 = .ok (.invokespecial 76, 3) := by decide +kernel
theorem dX11_bestThrow_23 : decode cX11_bestThrow 23 = .ok (.athrow, 1) := by decide +kernel
theorem dX11_bestThrow_24 : decode cX11_bestThrow 24 = .ok (.aload_n 0, 1) := by decide +kernel
theorem dX11_bestThrow_25 : decode cX11_bestThrow 25 = .ok (.aload_n 0, 1) := by decide +kernel
theorem dX11_bestThrow_26 : decode cX11_bestThrow 26 = .ok (.getfield 12, 3) := by decide +kernel
theorem dX11_bestThrow_29 : decode cX11_bestThrow 29 = .ok (.getfield 100, 3) := by decide +kernel
theorem dX11_bestThrow_32 : decode cX11_bestThrow 32 = .ok (.getfield 178, 3) := by decide +kernel
theorem dX11_bestThrow_35 : decode cX11_bestThrow 35 = .ok (.iload_n 1, 1) := by decide +kernel
theorem dX11_bestThrow_36 : decode cX11_bestThrow 36 = .ok (.iaload, 1) := by decide +kernel
theorem dX11_bestThrow_37 : decode cX11_bestThrow 37 = .ok (.invokevirtual 229, 3) := by decide +kernel
theorem dX11_bestThrow_40 : decode cX11_bestThrow 40 = .ok (.istore_n 2, 1) := by decide +kernel
theorem dX11_bestThrow_41 : decode cX11_bestThrow 41 = .ok (.iload_n 2, 1) := by decide +kernel
theorem dX11_bestThrow_42 : decode cX11_bestThrow 42 = .ok (.iconst (-1), 1) := by decide +kernel
theorem dX11_bestThrow_43 : decode cX11_bestThrow 43 = .ok (.if_icmp .ne 13, 3) := by decide +kernel
theorem dX11_bestThrow_46 : decode cX11_bestThrow 46 = .ok (.new 185, 3) := by decide +kernel
theorem dX11_bestThrow_49 : decode cX11_bestThrow 49 = .ok (.dup, 1) := by decide +kernel
theorem dX11_bestThrow_50 : decode cX11_bestThrow 50 = .ok (.ldc 232, 2) := by decide +kernel
theorem dX11_bestThrow_52 : decode cX11_bestThrow 52 = .ok (.invokespecial 189, 3) := by decide +kernel
theorem dX11_bestThrow_55 : decode cX11_bestThrow 55 = .ok (.athrow, 1) := by decide +kernel
theorem dX11_bestThrow_56 : decode cX11_bestThrow 56 = .ok (.iload_n 2, 1) := by decide +kernel
theorem dX11_bestThrow_57 : decode cX11_bestThrow 57 = .ok (.ireturn, 1) := by decide +kernel
theorem dX11_summon_0 : decode cX11_summon 0 = .ok (.aload_n 0, 1) := by decide +kernel
theorem dX11_summon_1 : decode cX11_summon 1 = .ok (.iload_n 1, 1) := by decide +kernel
theorem dX11_summon_2 : decode cX11_summon 2 = .ok (.iload_n 2, 1) := by decide +kernel
theorem dX11_summon_3 : decode cX11_summon 3 = .ok (.invokevirtual 234, 3) := by decide +kernel
theorem dX11_summon_6 : decode cX11_summon 6 = .ok (.istore_n 3, 1) := by decide +kernel
theorem dX11_summon_7 : decode cX11_summon 7 = .ok (.iload_n 3, 1) := by decide +kernel
theorem dX11_summon_8 : decode cX11_summon 8 = .ok (.iconst 1, 1) := by decide +kernel
theorem dX11_summon_9 : decode cX11_summon 9 = .ok (.if_icmp .ne 13, 3) := by decide +kernel
theorem dX11_summon_12 : decode cX11_summon 12 = .ok (.new 72, 3) := by decide +kernel
theorem dX11_summon_15 : decode cX11_summon 15 = .ok (.dup, 1) := by decide +kernel
theorem dX11_summon_16 : decode cX11_summon 16 = .ok (.ldc 176, 2) := by decide +kernel
theorem dX11_summon_18 : decode cX11_summon 18 = .ok (.invokespecial 76, 3) := by decide +kernel
theorem dX11_summon_21 : decode cX11_summon 21 = .ok (.athrow, 1) := by decide +kernel
theorem dX11_summon_22 : decode cX11_summon 22 = .ok (.iload_n 3, 1) := by decide +kernel
theorem dX11_summon_23 : decode cX11_summon 23 = .ok (.iconst 2, 1) := by decide +kernel
theorem dX11_summon_24 : decode cX11_summon 24 = .ok (.if_icmp .ne 13, 3) := by decide +kernel
theorem dX11_summon_27 : decode cX11_summon 27 = .ok (.new 134, 3) := by decide +kernel
theorem dX11_summon_30 : decode cX11_summon 30 = .ok (.dup, 1) := by decide +kernel
theorem dX11_summon_31 : decode cX11_summon 31 = .ok (.ldc 202, 2) := by decide +kernel
theorem dX11_summon_33 : decode cX11_summon 33 = .ok (.invokespecial 138, 3) := by decide +kernel
theorem dX11_summon_36 : decode cX11_summon 36 = .ok (.athrow, 1) := by decide +kernel
theorem dX11_summon_37 : decode cX11_summon 37 = .ok (.iload_n 3, 1) := by decide +kernel
theorem dX11_summon_38 : decode cX11_summon 38 = .ok (.iconst 4, 1) := by decide +kernel
theorem dX11_summon_39 : decode cX11_summon 39 = .ok (.if_icmp .ne 13, 3) := by decide +kernel
theorem dX11_summon_42 : decode cX11_summon 42 = .ok (.new 79, 3) := by decide +kernel
theorem dX11_summon_45 : decode cX11_summon 45 = .ok (.dup, 1) := by decide +kernel
theorem dX11_summon_46 : decode cX11_summon 46 = .ok (.ldc 237, 2) := by decide +kernel
theorem dX11_summon_48 : decode cX11_summon 48 = .ok (.invokespecial 83, 3) := by decide +kernel
theorem dX11_summon_51 : decode cX11_summon 51 = .ok (.athrow, 1) := by decide +kernel
theorem dX11_summon_52 : decode cX11_summon 52 = .ok (.aload_n 0, 1) := by decide +kernel
theorem dX11_summon_53 : decode cX11_summon 53 = .ok (.getfield 25, 3) := by decide +kernel
theorem dX11_summon_56 : decode cX11_summon 56 = .ok (.aload_n 0, 1) := by decide +kernel
theorem dX11_summon_57 : decode cX11_summon 57 = .ok (.getfield 12, 3) := by decide +kernel
theorem dX11_summon_60 : decode cX11_summon 60 = .ok (.invokevirtual 84, 3) := by decide +kernel
theorem dX11_summon_63 : decode cX11_summon 63 = .ok (.aload_n 0, 1) := by decide +kernel
theorem dX11_summon_64 : decode cX11_summon 64 = .ok (.iload_n 1, 1) := by decide +kernel
theorem dX11_summon_65 : decode cX11_summon 65 = .ok (.iload_n 2, 1) := by decide +kernel
theorem dX11_summon_66 : decode cX11_summon 66 = .ok (.invokevirtual 239, 3) := by decide +kernel
theorem dX11_summon_69 : decode cX11_summon 69 = .ok (.ireturn, 1) := by decide +kernel
theorem dX11_buyBoomerangs_0 : decode cX11_buyBoomerangs 0 = .ok (.aload_n 0, 1) := by decide +kernel
theorem dX11_buyBoomerangs_1 : decode cX11_buyBoomerangs 1 = .ok (.iload_n 1, 1) := by decide +kernel
theorem dX11_buyBoomerangs_2 : decode cX11_buyBoomerangs 2 = .ok (.invokevirtual 242, 3) := by decide +kernel
theorem dX11_buyBoomerangs_5 : decode cX11_buyBoomerangs 5 = .ok (.istore_n 2, 1) := by decide +kernel
theorem dX11_buyBoomerangs_6 : decode cX11_buyBoomerangs 6 = .ok (.iload_n 2, 1) := by decide +kernel
theorem dX11_buyBoomerangs_7 : decode cX11_buyBoomerangs 7 = .ok (.iconst 2, 1) := by decide +kernel
theorem dX11_buyBoomerangs_8 : decode cX11_buyBoomerangs 8 = .ok (.if_icmp .ne 13, 3) := by decide +kernel
theorem dX11_buyBoomerangs_11 : decode cX11_buyBoomerangs 11 = .ok (.new 134, 3) := by decide +kernel
theorem dX11_buyBoomerangs_14 : decode cX11_buyBoomerangs 14 = .ok (.dup, 1) := by decide +kernel
theorem dX11_buyBoomerangs_15 : decode cX11_buyBoomerangs 15 = .ok (.ldc 245, 2) := by decide +kernel
theorem dX11_buyBoomerangs_17 : decode cX11_buyBoomerangs 17 = .ok (.invokespecial 138, 3) := by decide +kernel
theorem dX11_buyBoomerangs_20 : decode cX11_buyBoomerangs 20 = .ok (.athrow, 1) := by decide +kernel
theorem dX11_buyBoomerangs_21 : decode cX11_buyBoomerangs 21 = .ok (.iload_n 2, 1) := by decide +kernel
theorem dX11_buyBoomerangs_22 : decode cX11_buyBoomerangs 22 = .ok (.iconst 3, 1) := by decide +kernel
theorem dX11_buyBoomerangs_23 : decode cX11_buyBoomerangs 23 = .ok (.if_icmp .ne 13, 3) := by decide +kernel
theorem dX11_buyBoomerangs_26 : decode cX11_buyBoomerangs 26 = .ok (.new 148, 3) := by decide +kernel
theorem dX11_buyBoomerangs_29 : decode cX11_buyBoomerangs 29 = .ok (.dup, 1) := by decide +kernel
theorem dX11_buyBoomerangs_30 : decode cX11_buyBoomerangs 30 = .ok (.ldc 247, 2) := by decide +kernel
theorem dX11_buyBoomerangs_32 : decode cX11_buyBoomerangs 32 = .ok (.invokespecial 152, 3) := by decide +kernel
theorem dX11_buyBoomerangs_35 : decode cX11_buyBoomerangs 35 = .ok (.athrow, 1) := by decide +kernel
theorem dX11_buyBoomerangs_36 : decode cX11_buyBoomerangs 36 = .ok (.aload_n 0, 1) := by decide +kernel
theorem dX11_buyBoomerangs_37 : decode cX11_buyBoomerangs 37 = .ok (.getfield 25, 3) := by decide +kernel
theorem dX11_buyBoomerangs_40 : decode cX11_buyBoomerangs 40 = .ok (.aload_n 0, 1) := by decide +kernel
theorem dX11_buyBoomerangs_41 : decode cX11_buyBoomerangs 41 = .ok (.getfield 12, 3) := by decide +kernel
theorem dX11_buyBoomerangs_44 : decode cX11_buyBoomerangs 44 = .ok (.invokevirtual 84, 3) := by decide +kernel
theorem dX11_buyBoomerangs_47 : decode cX11_buyBoomerangs 47 = .ok (.aload_n 0, 1) := by decide +kernel
theorem dX11_buyBoomerangs_48 : decode cX11_buyBoomerangs 48 = .ok (.iload_n 1, 1) := by decide +kernel
theorem dX11_buyBoomerangs_49 : decode cX11_buyBoomerangs 49 = .ok (.invokevirtual 249, 3) := by decide +kernel
theorem dX11_buyBoomerangs_52 : decode cX11_buyBoomerangs 52 = .ok (.ireturn, 1) := by decide +kernel
theorem dX11_boomerangs_0 : decode cX11_boomerangs 0 = .ok (.aload_n 0, 1) := by decide +kernel
theorem dX11_boomerangs_1 : decode cX11_boomerangs 1 = .ok (.getfield 12, 3) := by decide +kernel
theorem dX11_boomerangs_4 : decode cX11_boomerangs 4 = .ok (.getfield 190, 3) := by decide +kernel
theorem dX11_boomerangs_7 : decode cX11_boomerangs 7 = .ok (.getfield 252, 3) := by decide +kernel
theorem dX11_boomerangs_10 : decode cX11_boomerangs 10 = .ok (.ireturn, 1) := by decide +kernel
theorem dX11_throwCount_0 : decode cX11_throwCount 0 = .ok (.aload_n 0, 1) := by decide +kernel
theorem dX11_throwCount_1 : decode cX11_throwCount 1 = .ok (.getfield 12, 3) := by decide +kernel
theorem dX11_throwCount_4 : decode cX11_throwCount 4 = .ok (.getfield 190, 3) := by decide +kernel
theorem dX11_throwCount_7 : decode cX11_throwCount 7 = .ok (.getfield 255, 3) := by decide +kernel
theorem dX11_throwCount_10 : decode cX11_throwCount 10 = .ok (.ireturn, 1) := by decide +kernel
theorem dX11_setSitting_0 : decode cX11_setSitting 0 = .ok (.iload_n 1, 1) := by decide +kernel
theorem dX11_setSitting_1 : decode cX11_setSitting 1 = .ok (.ifCond .lt 9, 3) := by decide +kernel
theorem dX11_setSitting_4 : decode cX11_setSitting 4 = .ok (.iload_n 1, 1) := by decide +kernel
theorem dX11_setSitting_5 : decode cX11_setSitting 5 = .ok (.bipush 24, 2) := by decide +kernel
theorem dX11_setSitting_7 : decode cX11_setSitting 7 = .ok (.if_icmp .lt 14, 3) := by decide +kernel
theorem dX11_setSitting_10 : decode cX11_setSitting 10 = .ok (.new 72, 3) := by decide +kernel
theorem dX11_setSitting_13 : decode cX11_setSitting 13 = .ok (.dup, 1) := by decide +kernel
theorem dX11_setSitting_14 : decode cX11_setSitting 14 = .ok (.ldc_w 258, 3) := by decide +kernel
theorem dX11_setSitting_17 : decode cX11_setSitting 17 = .ok (.invokespecial 76, 3) := by decide +kernel
theorem dX11_setSitting_20 : decode cX11_setSitting 20 = .ok (.athrow, 1) := by decide +kernel
theorem dX11_setSitting_21 : decode cX11_setSitting 21 = .ok (.aload_n 0, 1) := by decide +kernel
theorem dX11_setSitting_22 : decode cX11_setSitting 22 = .ok (.getfield 25, 3) := by decide +kernel
theorem dX11_setSitting_25 : decode cX11_setSitting 25 = .ok (.aload_n 0, 1) := by decide +kernel
theorem dX11_setSitting_26 : decode cX11_setSitting 26 = .ok (.getfield 12, 3) := by decide +kernel
theorem dX11_setSitting_29 : decode cX11_setSitting 29 = .ok (.invokevirtual 84, 3) := by decide +kernel
theorem dX11_setSitting_32 : decode cX11_setSitting 32 = .ok (.aload_n 0, 1) := by decide +kernel
theorem dX11_setSitting_33 : decode cX11_setSitting 33 = .ok (.getfield 12, 3) := by decide +kernel
theorem dX11_setSitting_36 : decode cX11_setSitting 36 = .ok (.getfield 260, 3) := by decide +kernel
theorem dX11_setSitting_39 : decode cX11_setSitting 39 = .ok (.iload_n 1, 1) := by decide +kernel
theorem dX11_setSitting_40 : decode cX11_setSitting 40 = .ok (.invokevirtual 264, 3) := by decide +kernel
theorem dX11_setSitting_43 : decode cX11_setSitting 43 = .ok (.istore_n 3, 1) := by decide +kernel
theorem dX11_setSitting_44 : decode cX11_setSitting 44 = .ok (.iconst 1, 1) := by decide +kernel
theorem dX11_setSitting_45 : decode cX11_setSitting 45 = .ok (.iload_n 1, 1) := by decide +kernel
theorem dX11_setSitting_46 : decode cX11_setSitting 46 = .ok (.ishl, 1) := by decide +kernel
theorem dX11_setSitting_47 : decode cX11_setSitting 47 = .ok (.istore 4, 2) := by decide +kernel
theorem dX11_setSitting_49 : decode cX11_setSitting 49 = .ok (.aload_n 0, 1) := by decide +kernel
theorem dX11_setSitting_50 : decode cX11_setSitting 50 = .ok (.getfield 12, 3) := by decide +kernel
theorem dX11_setSitting_53 : decode cX11_setSitting 53 = .ok (.getfield 260, 3) := by decide +kernel
theorem dX11_setSitting_56 : decode cX11_setSitting 56 = .ok (.iload_n 2, 1) := by decide +kernel
theorem dX11_setSitting_57 : decode cX11_setSitting 57 = .ok (.ifCond .eq 19, 3) := by decide +kernel
theorem dX11_setSitting_60 : decode cX11_setSitting 60 = .ok (.aload_n 0, 1) := by decide +kernel
theorem dX11_setSitting_61 : decode cX11_setSitting 61 = .ok (.getfield 12, 3) := by decide +kernel
theorem dX11_setSitting_64 : decode cX11_setSitting 64 = .ok (.getfield 260, 3) := by decide +kernel
theorem dX11_setSitting_67 : decode cX11_setSitting 67 = .ok (.getfield 269, 3) := by decide +kernel
theorem dX11_setSitting_70 : decode cX11_setSitting 70 = .ok (.iload 4, 2) := by decide +kernel
theorem dX11_setSitting_72 : decode cX11_setSitting 72 = .ok (.ior, 1) := by decide +kernel
theorem dX11_setSitting_73 : decode cX11_setSitting 73 = .ok (.goto 18, 3) := by decide +kernel
theorem dX11_setSitting_76 : decode cX11_setSitting 76 = .ok (.aload_n 0, 1) := by decide +kernel
theorem dX11_setSitting_77 : decode cX11_setSitting 77 = .ok (.getfield 12, 3) := by decide +kernel
theorem dX11_setSitting_80 : decode cX11_setSitting 80 = .ok (.getfield 260, 3) := by decide +kernel
theorem dX11_setSitting_83 : decode cX11_setSitting 83 = .ok (.getfield 269, 3) := by decide +kernel
theorem dX11_setSitting_86 : decode cX11_setSitting 86 = .ok (.iload 4, 2) := by decide +kernel
theorem dX11_setSitting_88 : decode cX11_setSitting 88 = .ok (.iconst (-1), 1) := by decide +kernel
theorem dX11_setSitting_89 : decode cX11_setSitting 89 = .ok (.ixor, 1) := by decide +kernel
theorem dX11_setSitting_90 : decode cX11_setSitting 90 = .ok (.iand, 1) := by decide +kernel
theorem dX11_setSitting_91 : decode cX11_setSitting 91 = .ok (.putfield 269, 3) := by decide +kernel
theorem dX11_setSitting_94 : decode cX11_setSitting 94 = .ok (.iload_n 3, 1) := by decide +kernel
theorem dX11_setSitting_95 : decode cX11_setSitting 95 = .ok (.ireturn, 1) := by decide +kernel
theorem dX11_sittingBits_0 : decode cX11_sittingBits 0 = .ok (.aload_n 0, 1) := by decide +kernel
theorem dX11_sittingBits_1 : decode cX11_sittingBits 1 = .ok (.getfield 12, 3) := by decide +kernel
theorem dX11_sittingBits_4 : decode cX11_sittingBits 4 = .ok (.getfield 260, 3) := by decide +kernel
theorem dX11_sittingBits_7 : decode cX11_sittingBits 7 = .ok (.getfield 269, 3) := by decide +kernel
theorem dX11_sittingBits_10 : decode cX11_sittingBits 10 = .ok (.ireturn, 1) := by decide +kernel
theorem dX11_pleaCount_0 : decode cX11_pleaCount 0 = .ok (.aload_n 0, 1) := by decide +kernel
theorem dX11_pleaCount_1 : decode cX11_pleaCount 1 = .ok (.getfield 12, 3) := by decide +kernel
theorem dX11_pleaCount_4 : decode cX11_pleaCount 4 = .ok (.getfield 260, 3) := by decide +kernel
theorem dX11_pleaCount_7 : decode cX11_pleaCount 7 = .ok (.getfield 272, 3) := by decide +kernel
theorem dX11_pleaCount_10 : decode cX11_pleaCount 10 = .ok (.ireturn, 1) := by decide +kernel
theorem dX11_pleaParty_0 : decode cX11_pleaParty 0 = .ok (.aload_n 0, 1) := by decide +kernel
theorem dX11_pleaParty_1 : decode cX11_pleaParty 1 = .ok (.getfield 12, 3) := by decide +kernel
theorem dX11_pleaParty_4 : decode cX11_pleaParty 4 = .ok (.getfield 260, 3) := by decide +kernel
theorem dX11_pleaParty_7 : decode cX11_pleaParty 7 = .ok (.iload_n 1, 1) := by decide +kernel
theorem dX11_pleaParty_8 : decode cX11_pleaParty 8 = .ok (.invokevirtual 275, 3) := by decide +kernel
theorem dX11_pleaParty_11 : decode cX11_pleaParty 11 = .ok (.ifCond .ne 14, 3) := by decide +kernel
theorem dX11_pleaParty_14 : decode cX11_pleaParty 14 = .ok (.new 72, 3) := by decide +kernel
theorem dX11_pleaParty_17 : decode cX11_pleaParty 17 = .ok (.dup, 1) := by decide +kernel
theorem dX11_pleaParty_18 : decode cX11_pleaParty 18 = .ok (.ldc_w 278, 3) := by decide +kernel
theorem dX11_pleaParty_21 : decode cX11_pleaParty 21 = .ok (.invokespecial 76, 3) := by decide +kernel
theorem dX11_pleaParty_24 : decode cX11_pleaParty 24 = .ok (.athrow, 1) := by decide +kernel
theorem dX11_pleaParty_25 : decode cX11_pleaParty 25 = .ok (.aload_n 0, 1) := by decide +kernel
theorem dX11_pleaParty_26 : decode cX11_pleaParty 26 = .ok (.getfield 12, 3) := by decide +kernel
theorem dX11_pleaParty_29 : decode cX11_pleaParty 29 = .ok (.getfield 260, 3) := by decide +kernel
theorem dX11_pleaParty_32 : decode cX11_pleaParty 32 = .ok (.getfield 280, 3) := by decide +kernel
theorem dX11_pleaParty_35 : decode cX11_pleaParty 35 = .ok (.iload_n 1, 1) := by decide +kernel
theorem dX11_pleaParty_36 : decode cX11_pleaParty 36 = .ok (.iaload, 1) := by decide +kernel
theorem dX11_pleaParty_37 : decode cX11_pleaParty 37 = .ok (.ireturn, 1) := by decide +kernel
theorem dX11_pleaFrom_0 : decode cX11_pleaFrom 0 = .ok (.aload_n 0, 1) := by decide +kernel
theorem dX11_pleaFrom_1 : decode cX11_pleaFrom 1 = .ok (.getfield 12, 3) := by decide +kernel
theorem dX11_pleaFrom_4 : decode cX11_pleaFrom 4 = .ok (.getfield 260, 3) := by decide +kernel
theorem dX11_pleaFrom_7 : decode cX11_pleaFrom 7 = .ok (.iload_n 1, 1) := by decide +kernel
theorem dX11_pleaFrom_8 : decode cX11_pleaFrom 8 = .ok (.invokevirtual 275, 3) := by decide +kernel
theorem dX11_pleaFrom_11 : decode cX11_pleaFrom 11 = .ok (.ifCond .ne 14, 3) := by decide +kernel
theorem dX11_pleaFrom_14 : decode cX11_pleaFrom 14 = .ok (.new 72, 3) := by decide +kernel
theorem dX11_pleaFrom_17 : decode cX11_pleaFrom 17 = .ok (.dup, 1) := by decide +kernel
theorem dX11_pleaFrom_18 : decode cX11_pleaFrom 18 = .ok (.ldc_w 278, 3) := by decide +kernel
theorem dX11_pleaFrom_21 : decode cX11_pleaFrom 21 = .ok (.invokespecial 76, 3) := by decide +kernel
theorem dX11_pleaFrom_24 : decode cX11_pleaFrom 24 = .ok (.athrow, 1) := by decide +kernel
theorem dX11_pleaFrom_25 : decode cX11_pleaFrom 25 = .ok (.aload_n 0, 1) := by decide +kernel
theorem dX11_pleaFrom_26 : decode cX11_pleaFrom 26 = .ok (.getfield 12, 3) := by decide +kernel
theorem dX11_pleaFrom_29 : decode cX11_pleaFrom 29 = .ok (.getfield 260, 3) := by decide +kernel
theorem dX11_pleaFrom_32 : decode cX11_pleaFrom 32 = .ok (.getfield 282, 3) := by decide +kernel
theorem dX11_pleaFrom_35 : decode cX11_pleaFrom 35 = .ok (.iload_n 1, 1) := by decide +kernel
theorem dX11_pleaFrom_36 : decode cX11_pleaFrom 36 = .ok (.iaload, 1) := by decide +kernel
theorem dX11_pleaFrom_37 : decode cX11_pleaFrom 37 = .ok (.ireturn, 1) := by decide +kernel
theorem dX11_pleaUntil_0 : decode cX11_pleaUntil 0 = .ok (.aload_n 0, 1) := by decide +kernel
theorem dX11_pleaUntil_1 : decode cX11_pleaUntil 1 = .ok (.getfield 12, 3) := by decide +kernel
theorem dX11_pleaUntil_4 : decode cX11_pleaUntil 4 = .ok (.getfield 260, 3) := by decide +kernel
theorem dX11_pleaUntil_7 : decode cX11_pleaUntil 7 = .ok (.iload_n 1, 1) := by decide +kernel
theorem dX11_pleaUntil_8 : decode cX11_pleaUntil 8 = .ok (.invokevirtual 275, 3) := by decide +kernel
theorem dX11_pleaUntil_11 : decode cX11_pleaUntil 11 = .ok (.ifCond .ne 14, 3) := by decide +kernel
theorem dX11_pleaUntil_14 : decode cX11_pleaUntil 14 = .ok (.new 72, 3) := by decide +kernel
theorem dX11_pleaUntil_17 : decode cX11_pleaUntil 17 = .ok (.dup, 1) := by decide +kernel
theorem dX11_pleaUntil_18 : decode cX11_pleaUntil 18 = .ok (.ldc_w 278, 3) := by decide +kernel
theorem dX11_pleaUntil_21 : decode cX11_pleaUntil 21 = .ok (.invokespecial 76, 3) := by decide +kernel
theorem dX11_pleaUntil_24 : decode cX11_pleaUntil 24 = .ok (.athrow, 1) := by decide +kernel
theorem dX11_pleaUntil_25 : decode cX11_pleaUntil 25 = .ok (.aload_n 0, 1) := by decide +kernel
theorem dX11_pleaUntil_26 : decode cX11_pleaUntil 26 = .ok (.getfield 12, 3) := by decide +kernel
theorem dX11_pleaUntil_29 : decode cX11_pleaUntil 29 = .ok (.getfield 260, 3) := by decide +kernel
theorem dX11_pleaUntil_32 : decode cX11_pleaUntil 32 = .ok (.iload_n 1, 1) := by decide +kernel
theorem dX11_pleaUntil_33 : decode cX11_pleaUntil 33 = .ok (.invokevirtual 285, 3) := by decide +kernel
theorem dX11_pleaUntil_36 : decode cX11_pleaUntil 36 = .ok (.ireturn, 1) := by decide +kernel
theorem dX11_hear_0 : decode cX11_hear 0 = .ok (.aload_n 0, 1) := by decide +kernel
theorem dX11_hear_1 : decode cX11_hear 1 = .ok (.iload_n 1, 1) := by decide +kernel
theorem dX11_hear_2 : decode cX11_hear 2 = .ok (.invokevirtual 288, 3) := by decide +kernel
theorem dX11_hear_5 : decode cX11_hear 5 = .ok (.istore_n 2, 1) := by decide +kernel
theorem dX11_hear_6 : decode cX11_hear 6 = .ok (.iload_n 2, 1) := by decide +kernel
theorem dX11_hear_7 : decode cX11_hear 7 = .ok (.iconst 1, 1) := by decide +kernel
theorem dX11_hear_8 : decode cX11_hear 8 = .ok (.if_icmp .ne 14, 3) := by decide +kernel
theorem dX11_hear_11 : decode cX11_hear 11 = .ok (.new 72, 3) := by decide +kernel
theorem dX11_hear_14 : decode cX11_hear 14 = .ok (.dup, 1) := by decide +kernel
theorem dX11_hear_15 : decode cX11_hear 15 = .ok (.ldc_w 278, 3) := by decide +kernel
theorem dX11_hear_18 : decode cX11_hear 18 = .ok (.invokespecial 76, 3) := by decide +kernel
theorem dX11_hear_21 : decode cX11_hear 21 = .ok (.athrow, 1) := by decide +kernel
theorem dX11_hear_22 : decode cX11_hear 22 = .ok (.iload_n 2, 1) := by decide +kernel
theorem dX11_hear_23 : decode cX11_hear 23 = .ok (.iconst 4, 1) := by decide +kernel
theorem dX11_hear_24 : decode cX11_hear 24 = .ok (.if_icmp .ne 14, 3) := by decide +kernel
theorem dX11_hear_27 : decode cX11_hear 27 = .ok (.new 79, 3) := by decide +kernel
theorem dX11_hear_30 : decode cX11_hear 30 = .ok (.dup, 1) := by decide +kernel
theorem dX11_hear_31 : decode cX11_hear 31 = .ok (.ldc_w 291, 3) := by decide +kernel
theorem dX11_hear_34 : decode cX11_hear 34 = .ok (.invokespecial 83, 3) := by decide +kernel
theorem dX11_hear_37 : decode cX11_hear 37 = .ok (.athrow, 1) := by decide +kernel
theorem dX11_hear_38 : decode cX11_hear 38 = .ok (.aload_n 0, 1) := by decide +kernel
theorem dX11_hear_39 : decode cX11_hear 39 = .ok (.getfield 25, 3) := by decide +kernel
theorem dX11_hear_42 : decode cX11_hear 42 = .ok (.aload_n 0, 1) := by decide +kernel
theorem dX11_hear_43 : decode cX11_hear 43 = .ok (.getfield 12, 3) := by decide +kernel
theorem dX11_hear_46 : decode cX11_hear 46 = .ok (.invokevirtual 84, 3) := by decide +kernel
theorem dX11_hear_49 : decode cX11_hear 49 = .ok (.aload_n 0, 1) := by decide +kernel
theorem dX11_hear_50 : decode cX11_hear 50 = .ok (.iload_n 1, 1) := by decide +kernel
theorem dX11_hear_51 : decode cX11_hear 51 = .ok (.invokevirtual 293, 3) := by decide +kernel
theorem dX11_hear_54 : decode cX11_hear 54 = .ok (.ireturn, 1) := by decide +kernel
theorem dX11_mostHearings_0 : decode cX11_mostHearings 0 = .ok (.aload_n 0, 1) := by decide +kernel
theorem dX11_mostHearings_1 : decode cX11_mostHearings 1 = .ok (.getfield 39, 3) := by decide +kernel
theorem dX11_mostHearings_4 : decode cX11_mostHearings 4 = .ok (.aload_n 0, 1) := by decide +kernel
theorem dX11_mostHearings_5 : decode cX11_mostHearings 5 = .ok (.getfield 12, 3) := by decide +kernel
theorem dX11_mostHearings_8 : decode cX11_mostHearings 8 = .ok (.getfield 260, 3) := by decide +kernel
theorem dX11_mostHearings_11 : decode cX11_mostHearings 11 = .ok (.invokevirtual 296, 3) := by decide +kernel
theorem dX11_mostHearings_14 : decode cX11_mostHearings 14 = .ok (.ireturn, 1) := by decide +kernel
theorem dX11_mostHearingsByChains_0 : decode cX11_mostHearingsByChains 0 = .ok (.aload_n 0, 1) := by decide +kernel
theorem dX11_mostHearingsByChains_1 : decode cX11_mostHearingsByChains 1 = .ok (.getfield 39, 3) := by decide +kernel
theorem dX11_mostHearingsByChains_4 : decode cX11_mostHearingsByChains 4 = .ok (.aload_n 0, 1) := by decide +kernel
theorem dX11_mostHearingsByChains_5 : decode cX11_mostHearingsByChains 5 = .ok (.getfield 12, 3) := by decide +kernel
theorem dX11_mostHearingsByChains_8 : decode cX11_mostHearingsByChains 8 = .ok (.getfield 260, 3) := by decide +kernel
theorem dX11_mostHearingsByChains_11 : decode cX11_mostHearingsByChains 11 = .ok (.invokevirtual 300, 3) := by decide +kernel
theorem dX11_mostHearingsByChains_14 : decode cX11_mostHearingsByChains 14 = .ok (.ireturn, 1) := by decide +kernel
theorem dX11_pass_0 : decode cX11_pass 0 = .ok (.aload_n 0, 1) := by decide +kernel
theorem dX11_pass_1 : decode cX11_pass 1 = .ok (.iload_n 1, 1) := by decide +kernel
theorem dX11_pass_2 : decode cX11_pass 2 = .ok (.invokevirtual 303, 3) := by decide +kernel
theorem dX11_pass_5 : decode cX11_pass 5 = .ok (.ifCond .eq 13, 3) := by decide +kernel
theorem dX11_pass_8 : decode cX11_pass 8 = .ok (.new 134, 3) := by decide +kernel
theorem dX11_pass_11 : decode cX11_pass 11 = .ok (.dup, 1) := by decide +kernel
theorem dX11_pass_12 : decode cX11_pass 12 = .ok (.ldc 245, 2) := by decide +kernel
theorem dX11_pass_14 : decode cX11_pass 14 = .ok (.invokespecial 138, 3) := by decide +kernel
theorem dX11_pass_17 : decode cX11_pass 17 = .ok (.athrow, 1) := by decide +kernel
theorem dX11_pass_18 : decode cX11_pass 18 = .ok (.aload_n 0, 1) := by decide +kernel
theorem dX11_pass_19 : decode cX11_pass 19 = .ok (.getfield 25, 3) := by decide +kernel
theorem dX11_pass_22 : decode cX11_pass 22 = .ok (.aload_n 0, 1) := by decide +kernel
theorem dX11_pass_23 : decode cX11_pass 23 = .ok (.getfield 12, 3) := by decide +kernel
theorem dX11_pass_26 : decode cX11_pass 26 = .ok (.invokevirtual 84, 3) := by decide +kernel
theorem dX11_pass_29 : decode cX11_pass 29 = .ok (.aload_n 0, 1) := by decide +kernel
theorem dX11_pass_30 : decode cX11_pass 30 = .ok (.iload_n 1, 1) := by decide +kernel
theorem dX11_pass_31 : decode cX11_pass 31 = .ok (.invokevirtual 306, 3) := by decide +kernel
theorem dX11_pass_34 : decode cX11_pass 34 = .ok (.ireturn, 1) := by decide +kernel
theorem dX11_hour_0 : decode cX11_hour 0 = .ok (.aload_n 0, 1) := by decide +kernel
theorem dX11_hour_1 : decode cX11_hour 1 = .ok (.getfield 12, 3) := by decide +kernel
theorem dX11_hour_4 : decode cX11_hour 4 = .ok (.getfield 260, 3) := by decide +kernel
theorem dX11_hour_7 : decode cX11_hour 7 = .ok (.getfield 309, 3) := by decide +kernel
theorem dX11_hour_10 : decode cX11_hour 10 = .ok (.ireturn, 1) := by decide +kernel
theorem dX11_coins_0 : decode cX11_coins 0 = .ok (.aload_n 0, 1) := by decide +kernel
theorem dX11_coins_1 : decode cX11_coins 1 = .ok (.getfield 12, 3) := by decide +kernel
theorem dX11_coins_4 : decode cX11_coins 4 = .ok (.getfield 190, 3) := by decide +kernel
theorem dX11_coins_7 : decode cX11_coins 7 = .ok (.getfield 312, 3) := by decide +kernel
theorem dX11_coins_10 : decode cX11_coins 10 = .ok (.ireturn, 1) := by decide +kernel
theorem dX11_coinsByAccounts_0 : decode cX11_coinsByAccounts 0 = .ok (.aload_n 0, 1) := by decide +kernel
theorem dX11_coinsByAccounts_1 : decode cX11_coinsByAccounts 1 = .ok (.getfield 12, 3) := by decide +kernel
theorem dX11_coinsByAccounts_4 : decode cX11_coinsByAccounts 4 = .ok (.getfield 190, 3) := by decide +kernel
theorem dX11_coinsByAccounts_7 : decode cX11_coinsByAccounts 7 = .ok (.astore_n 1, 1) := by decide +kernel
theorem dX11_coinsByAccounts_8 : decode cX11_coinsByAccounts 8 = .ok (.bipush 50, 2) := by decide +kernel
theorem dX11_coinsByAccounts_10 : decode cX11_coinsByAccounts 10 = .ok (.aload_n 1, 1) := by decide +kernel
theorem dX11_coinsByAccounts_11 : decode cX11_coinsByAccounts 11 = .ok (.getfield 315, 3) := by decide +kernel
theorem dX11_coinsByAccounts_14 : decode cX11_coinsByAccounts 14 = .ok (.iadd, 1) := by decide +kernel
theorem dX11_coinsByAccounts_15 : decode cX11_coinsByAccounts 15 = .ok (.aload_n 1, 1) := by decide +kernel
theorem dX11_coinsByAccounts_16 : decode cX11_coinsByAccounts 16 = .ok (.getfield 318, 3) := by decide +kernel
theorem dX11_coinsByAccounts_19 : decode cX11_coinsByAccounts 19 = .ok (.isub, 1) := by decide +kernel
theorem dX11_coinsByAccounts_20 : decode cX11_coinsByAccounts 20 = .ok (.aload_n 1, 1) := by decide +kernel
theorem dX11_coinsByAccounts_21 : decode cX11_coinsByAccounts 21 = .ok (.getfield 321, 3) := by decide +kernel
theorem dX11_coinsByAccounts_24 : decode cX11_coinsByAccounts 24 = .ok (.isub, 1) := by decide +kernel
theorem dX11_coinsByAccounts_25 : decode cX11_coinsByAccounts 25 = .ok (.ireturn, 1) := by decide +kernel
theorem dX11_refusalReason_0 : decode cX11_refusalReason 0 = .ok (.aload_n 0, 1) := by decide +kernel
theorem dX11_refusalReason_1 : decode cX11_refusalReason 1 = .ok (.getfield 324, 3) := by decide +kernel
theorem dX11_refusalReason_4 : decode cX11_refusalReason 4 = .ok (.ifCond .ne 14, 3) := by decide +kernel
theorem dX11_refusalReason_7 : decode cX11_refusalReason 7 = .ok (.new 185, 3) := by decide +kernel
theorem dX11_refusalReason_10 : decode cX11_refusalReason 10 = .ok (.dup, 1) := by decide +kernel
theorem dX11_refusalReason_11 : decode cX11_refusalReason 11 = .ok (.ldc_w 327, 3) := by decide +kernel
theorem dX11_refusalReason_14 : decode cX11_refusalReason 14 = .ok (.invokespecial 189, 3) := by decide +kernel
theorem dX11_refusalReason_17 : decode cX11_refusalReason 17 = .ok (.athrow, 1) := by decide +kernel
theorem dX11_refusalReason_18 : decode cX11_refusalReason 18 = .ok (.aload_n 0, 1) := by decide +kernel
theorem dX11_refusalReason_19 : decode cX11_refusalReason 19 = .ok (.getfield 324, 3) := by decide +kernel
theorem dX11_refusalReason_22 : decode cX11_refusalReason 22 = .ok (.ireturn, 1) := by decide +kernel
theorem dX11_refusalDetail_0 : decode cX11_refusalDetail 0 = .ok (.aload_n 0, 1) := by decide +kernel
theorem dX11_refusalDetail_1 : decode cX11_refusalDetail 1 = .ok (.getfield 324, 3) := by decide +kernel
theorem dX11_refusalDetail_4 : decode cX11_refusalDetail 4 = .ok (.ifCond .ne 14, 3) := by decide +kernel
theorem dX11_refusalDetail_7 : decode cX11_refusalDetail 7 = .ok (.new 185, 3) := by decide +kernel
theorem dX11_refusalDetail_10 : decode cX11_refusalDetail 10 = .ok (.dup, 1) := by decide +kernel
theorem dX11_refusalDetail_11 : decode cX11_refusalDetail 11 = .ok (.ldc_w 327, 3) := by decide +kernel
theorem dX11_refusalDetail_14 : decode cX11_refusalDetail 14 = .ok (.invokespecial 189, 3) := by decide +kernel
theorem dX11_refusalDetail_17 : decode cX11_refusalDetail 17 = .ok (.athrow, 1) := by decide +kernel
theorem dX11_refusalDetail_18 : decode cX11_refusalDetail 18 = .ok (.aload_n 0, 1) := by decide +kernel
theorem dX11_refusalDetail_19 : decode cX11_refusalDetail 19 = .ok (.getfield 329, 3) := by decide +kernel
theorem dX11_refusalDetail_22 : decode cX11_refusalDetail 22 = .ok (.ireturn, 1) := by decide +kernel
theorem dX11_caughtShare_0 : decode cX11_caughtShare 0 = .ok (.aload_n 0, 1) := by decide +kernel
theorem dX11_caughtShare_1 : decode cX11_caughtShare 1 = .ok (.getfield 12, 3) := by decide +kernel
theorem dX11_caughtShare_4 : decode cX11_caughtShare 4 = .ok (.getfield 190, 3) := by decide +kernel
theorem dX11_caughtShare_7 : decode cX11_caughtShare 7 = .ok (.getfield 255, 3) := by decide +kernel
theorem dX11_caughtShare_10 : decode cX11_caughtShare 10 = .ok (.ifCond .ne 14, 3) := by decide +kernel
theorem dX11_caughtShare_13 : decode cX11_caughtShare 13 = .ok (.new 332, 3) := by decide +kernel
theorem dX11_caughtShare_16 : decode cX11_caughtShare 16 = .ok (.dup, 1) := by decide +kernel
theorem dX11_caughtShare_17 : decode cX11_caughtShare 17 = .ok (.ldc_w 334, 3) := by decide +kernel
theorem dX11_caughtShare_20 : decode cX11_caughtShare 20 = .ok (.invokespecial 336, 3) := by decide +kernel
theorem dX11_caughtShare_23 : decode cX11_caughtShare 23 = .ok (.athrow, 1) := by decide +kernel
theorem dX11_caughtShare_24 : decode cX11_caughtShare 24 = .ok (.aload_n 0, 1) := by decide +kernel
theorem dX11_caughtShare_25 : decode cX11_caughtShare 25 = .ok (.getfield 12, 3) := by decide +kernel
theorem dX11_caughtShare_28 : decode cX11_caughtShare 28 = .ok (.getfield 190, 3) := by decide +kernel
theorem dX11_caughtShare_31 : decode cX11_caughtShare 31 = .ok (.invokevirtual 337, 3) := by decide +kernel
theorem dX11_caughtShare_34 : decode cX11_caughtShare 34 = .ok (.freturn, 1) := by decide +kernel
theorem dX11_caughtShareBits_0 : decode cX11_caughtShareBits 0 = .ok (.aload_n 0, 1) := by decide +kernel
theorem dX11_caughtShareBits_1 : decode cX11_caughtShareBits 1 = .ok (.getfield 12, 3) := by decide +kernel
theorem dX11_caughtShareBits_4 : decode cX11_caughtShareBits 4 = .ok (.getfield 190, 3) := by decide +kernel
theorem dX11_caughtShareBits_7 : decode cX11_caughtShareBits 7 = .ok (.getfield 255, 3) := by decide +kernel
theorem dX11_caughtShareBits_10 : decode cX11_caughtShareBits 10 = .ok (.ifCond .ne 14, 3) := by decide +kernel
theorem dX11_caughtShareBits_13 : decode cX11_caughtShareBits 13 = .ok (.new 332, 3) := by decide +kernel
theorem dX11_caughtShareBits_16 : decode cX11_caughtShareBits 16 = .ok (.dup, 1) := by decide +kernel
theorem dX11_caughtShareBits_17 : decode cX11_caughtShareBits 17 = .ok (.ldc_w 334, 3) := by decide +kernel
theorem dX11_caughtShareBits_20 : decode cX11_caughtShareBits 20 = .ok (.invokespecial 336, 3) := by decide +kernel
theorem dX11_caughtShareBits_23 : decode cX11_caughtShareBits 23 = .ok (.athrow, 1) := by decide +kernel
theorem dX11_caughtShareBits_24 : decode cX11_caughtShareBits 24 = .ok (.aload_n 0, 1) := by decide +kernel
theorem dX11_caughtShareBits_25 : decode cX11_caughtShareBits 25 = .ok (.getfield 12, 3) := by decide +kernel
theorem dX11_caughtShareBits_28 : decode cX11_caughtShareBits 28 = .ok (.getfield 190, 3) := by decide +kernel
theorem dX11_caughtShareBits_31 : decode cX11_caughtShareBits 31 = .ok (.invokevirtual 337, 3) := by decide +kernel
theorem dX11_caughtShareBits_34 : decode cX11_caughtShareBits 34 = .ok (.invokestatic 341, 3) := by decide +kernel
theorem dX11_caughtShareBits_37 : decode cX11_caughtShareBits 37 = .ok (.ireturn, 1) := by decide +kernel
theorem dX11_meanSteps_0 : decode cX11_meanSteps 0 = .ok (.aload_n 0, 1) := by decide +kernel
theorem dX11_meanSteps_1 : decode cX11_meanSteps 1 = .ok (.getfield 12, 3) := by decide +kernel
theorem dX11_meanSteps_4 : decode cX11_meanSteps 4 = .ok (.getfield 190, 3) := by decide +kernel
theorem dX11_meanSteps_7 : decode cX11_meanSteps 7 = .ok (.getfield 255, 3) := by decide +kernel
theorem dX11_meanSteps_10 : decode cX11_meanSteps 10 = .ok (.ifCond .ne 14, 3) := by decide +kernel
theorem dX11_meanSteps_13 : decode cX11_meanSteps 13 = .ok (.new 332, 3) := by decide +kernel
theorem dX11_meanSteps_16 : decode cX11_meanSteps 16 = .ok (.dup, 1) := by decide +kernel
theorem dX11_meanSteps_17 : decode cX11_meanSteps 17 = .ok (.ldc_w 334, 3) := by decide +kernel
theorem dX11_meanSteps_20 : decode cX11_meanSteps 20 = .ok (.invokespecial 336, 3) := by decide +kernel
theorem dX11_meanSteps_23 : decode cX11_meanSteps 23 = .ok (.athrow, 1) := by decide +kernel
theorem dX11_meanSteps_24 : decode cX11_meanSteps 24 = .ok (.aload_n 0, 1) := by decide +kernel
theorem dX11_meanSteps_25 : decode cX11_meanSteps 25 = .ok (.getfield 12, 3) := by decide +kernel
theorem dX11_meanSteps_28 : decode cX11_meanSteps 28 = .ok (.getfield 190, 3) := by decide +kernel
theorem dX11_meanSteps_31 : decode cX11_meanSteps 31 = .ok (.getfield 345, 3) := by decide +kernel
theorem dX11_meanSteps_34 : decode cX11_meanSteps 34 = .ok (.i2d, 1) := by decide +kernel
theorem dX11_meanSteps_35 : decode cX11_meanSteps 35 = .ok (.aload_n 0, 1) := by decide +kernel
theorem dX11_meanSteps_36 : decode cX11_meanSteps 36 = .ok (.getfield 12, 3) := by decide +kernel
theorem dX11_meanSteps_39 : decode cX11_meanSteps 39 = .ok (.getfield 190, 3) := by decide +kernel
theorem dX11_meanSteps_42 : decode cX11_meanSteps 42 = .ok (.getfield 255, 3) := by decide +kernel
theorem dX11_meanSteps_45 : decode cX11_meanSteps 45 = .ok (.i2d, 1) := by decide +kernel
theorem dX11_meanSteps_46 : decode cX11_meanSteps 46 = .ok (.ddiv, 1) := by decide +kernel
theorem dX11_meanSteps_47 : decode cX11_meanSteps 47 = .ok (.dreturn, 1) := by decide +kernel
theorem dX11_signature_0 : decode cX11_signature 0 = .ok (.aload_n 0, 1) := by decide +kernel
theorem dX11_signature_1 : decode cX11_signature 1 = .ok (.getfield 12, 3) := by decide +kernel
theorem dX11_signature_4 : decode cX11_signature 4 = .ok (.getfield 100, 3) := by decide +kernel
theorem dX11_signature_7 : decode cX11_signature 7 = .ok (.getfield 104, 3) := by decide +kernel
theorem dX11_signature_10 : decode cX11_signature 10 = .ok (.ldc2_w 348, 3) := by decide +kernel
theorem dX11_signature_13 : decode cX11_signature 13 = .ok (.lmul, 1) := by decide +kernel
theorem dX11_signature_14 : decode cX11_signature 14 = .ok (.lstore_n 1, 1) := by decide +kernel
theorem dX11_signature_15 : decode cX11_signature 15 = .ok (.iconst 0, 1) := by decide +kernel
theorem dX11_signature_16 : decode cX11_signature 16 = .ok (.istore_n 3, 1) := by decide +kernel
theorem dX11_signature_17 : decode cX11_signature 17 = .ok (.iload_n 3, 1) := by decide +kernel
theorem dX11_signature_18 : decode cX11_signature 18 = .ok (.aload_n 0, 1) := by decide +kernel
theorem dX11_signature_19 : decode cX11_signature 19 = .ok (.getfield 12, 3) := by decide +kernel
theorem dX11_signature_22 : decode cX11_signature 22 = .ok (.getfield 100, 3) := by decide +kernel
theorem dX11_signature_25 : decode cX11_signature 25 = .ok (.getfield 169, 3) := by decide +kernel
theorem dX11_signature_28 : decode cX11_signature 28 = .ok (.if_icmp .ge 30, 3) := by decide +kernel
theorem dX11_signature_31 : decode cX11_signature 31 = .ok (.lload_n 1, 1) := by decide +kernel
theorem dX11_signature_32 : decode cX11_signature 32 = .ok (.lconst 1, 1) := by decide +kernel
theorem dX11_signature_33 : decode cX11_signature 33 = .ok (.aload_n 0, 1) := by decide +kernel
theorem dX11_signature_34 : decode cX11_signature 34 = .ok (.getfield 12, 3) := by decide +kernel
theorem dX11_signature_37 : decode cX11_signature 37 = .ok (.getfield 100, 3) := by decide +kernel
theorem dX11_signature_40 : decode cX11_signature 40 = .ok (.getfield 178, 3) := by decide +kernel
theorem dX11_signature_43 : decode cX11_signature 43 = .ok (.iload_n 3, 1) := by decide +kernel
theorem dX11_signature_44 : decode cX11_signature 44 = .ok (.iaload, 1) := by decide +kernel
theorem dX11_signature_45 : decode cX11_signature 45 = .ok (.lshl, 1) := by decide +kernel
theorem dX11_signature_46 : decode cX11_signature 46 = .ok (.lxor, 1) := by decide +kernel
theorem dX11_signature_47 : decode cX11_signature 47 = .ok (.ldc2_w 348, 3) := by decide +kernel
theorem dX11_signature_50 : decode cX11_signature 50 = .ok (.lmul, 1) := by decide +kernel
theorem dX11_signature_51 : decode cX11_signature 51 = .ok (.lstore_n 1, 1) := by decide +kernel
theorem dX11_signature_52 : decode cX11_signature 52 = .ok (.iinc 3 1, 3) := by decide +kernel
theorem dX11_signature_55 : decode cX11_signature 55 = .ok (.goto (-38), 3) := by decide +kernel
theorem dX11_signature_58 : decode cX11_signature 58 = .ok (.lload_n 1, 1) := by decide +kernel
theorem dX11_signature_59 : decode cX11_signature 59 = .ok (.lreturn, 1) := by decide +kernel
theorem dX11_append_0 : decode cX11_append 0 = .ok (.iload_n 1, 1) := by decide +kernel
theorem dX11_append_1 : decode cX11_append 1 = .ok (.bipush 32, 2) := by decide +kernel
theorem dX11_append_3 : decode cX11_append 3 = .ok (.if_icmp .lt 9, 3) := by decide +kernel
theorem dX11_append_6 : decode cX11_append 6 = .ok (.iload_n 1, 1) := by decide +kernel
theorem dX11_append_7 : decode cX11_append 7 = .ok (.bipush 126, 2) := by decide +kernel
theorem dX11_append_9 : decode cX11_append 9 = .ok (.if_icmp .le 14, 3) := by decide +kernel
theorem dX11_append_12 : decode cX11_append 12 = .ok (.new 134, 3) := by decide +kernel
theorem dX11_append_15 : decode cX11_append 15 = .ok (.dup, 1) := by decide +kernel
theorem dX11_append_16 : decode cX11_append 16 = .ok (.ldc_w 350, 3) := by decide +kernel
theorem dX11_append_19 : decode cX11_append 19 = .ok (.invokespecial 138, 3) := by decide +kernel
theorem dX11_append_22 : decode cX11_append 22 = .ok (.athrow, 1) := by decide +kernel
theorem dX11_append_23 : decode cX11_append 23 = .ok (.aload_n 0, 1) := by decide +kernel
theorem dX11_append_24 : decode cX11_append 24 = .ok (.getfield 46, 3) := by decide +kernel
theorem dX11_append_27 : decode cX11_append 27 = .ok (.getfield 352, 3) := by decide +kernel
theorem dX11_append_30 : decode cX11_append 30 = .ok (.bipush 60, 2) := by decide +kernel
theorem dX11_append_32 : decode cX11_append 32 = .ok (.if_icmp .lt 14, 3) := by decide +kernel
theorem dX11_append_35 : decode cX11_append 35 = .ok (.new 148, 3) := by decide +kernel
theorem dX11_append_38 : decode cX11_append 38 = .ok (.dup, 1) := by decide +kernel
theorem dX11_append_39 : decode cX11_append 39 = .ok (.ldc_w 353, 3) := by decide +kernel
theorem dX11_append_42 : decode cX11_append 42 = .ok (.invokespecial 152, 3) := by decide +kernel
theorem dX11_append_45 : decode cX11_append 45 = .ok (.athrow, 1) := by decide +kernel
theorem dX11_append_46 : decode cX11_append 46 = .ok (.aload_n 0, 1) := by decide +kernel
theorem dX11_append_47 : decode cX11_append 47 = .ok (.getfield 46, 3) := by decide +kernel
theorem dX11_append_50 : decode cX11_append 50 = .ok (.iload_n 1, 1) := by decide +kernel
theorem dX11_append_51 : decode cX11_append 51 = .ok (.invokevirtual 355, 3) := by decide +kernel
theorem dX11_append_54 : decode cX11_append 54 = .ok (.aload_n 0, 1) := by decide +kernel
theorem dX11_append_55 : decode cX11_append 55 = .ok (.getfield 46, 3) := by decide +kernel
theorem dX11_append_58 : decode cX11_append 58 = .ok (.getfield 352, 3) := by decide +kernel
theorem dX11_append_61 : decode cX11_append 61 = .ok (.ireturn, 1) := by decide +kernel
theorem dX11_run_0 : decode cX11_run 0 = .ok (.aload_n 0, 1) := by decide +kernel
theorem dX11_run_1 : decode cX11_run 1 = .ok (.getfield 46, 3) := by decide +kernel
theorem dX11_run_4 : decode cX11_run 4 = .ok (.invokevirtual 359, 3) := by decide +kernel
theorem dX11_run_7 : decode cX11_run 7 = .ok (.istore_n 1, 1) := by decide +kernel
theorem dX11_run_8 : decode cX11_run 8 = .ok (.aload_n 0, 1) := by decide +kernel
theorem dX11_run_9 : decode cX11_run 9 = .ok (.getfield 46, 3) := by decide +kernel
theorem dX11_run_12 : decode cX11_run 12 = .ok (.iconst 0, 1) := by decide +kernel
theorem dX11_run_13 : decode cX11_run 13 = .ok (.putfield 352, 3) := by decide +kernel
theorem dX11_run_16 : decode cX11_run 16 = .ok (.iload_n 1, 1) := by decide +kernel
theorem dX11_run_17 : decode cX11_run 17 = .ok (.ifCond .ne 25, 3) := by decide +kernel
theorem dX11_run_20 : decode cX11_run 20 = .ok (.aload_n 0, 1) := by decide +kernel
theorem dX11_run_21 : decode cX11_run 21 = .ok (.aload_n 0, 1) := by decide +kernel
theorem dX11_run_22 : decode cX11_run 22 = .ok (.getfield 46, 3) := by decide +kernel
theorem dX11_run_25 : decode cX11_run 25 = .ok (.getfield 363, 3) := by decide +kernel
theorem dX11_run_28 : decode cX11_run 28 = .ok (.putfield 61, 3) := by decide +kernel
theorem dX11_run_31 : decode cX11_run 31 = .ok (.new 134, 3) := by decide +kernel
theorem dX11_run_34 : decode cX11_run 34 = .ok (.dup, 1) := by decide +kernel
theorem dX11_run_35 : decode cX11_run 35 = .ok (.ldc_w 366, 3) := by decide +kernel
theorem dX11_run_38 : decode cX11_run 38 = .ok (.invokespecial 138, 3) := by decide +kernel
theorem dX11_run_41 : decode cX11_run 41 = .ok (.athrow, 1) := by decide +kernel
theorem dX11_run_42 : decode cX11_run 42 = .ok (.aload_n 0, 1) := by decide +kernel
theorem dX11_run_43 : decode cX11_run 43 = .ok (.getfield 19, 3) := by decide +kernel
theorem dX11_run_46 : decode cX11_run 46 = .ok (.aload_n 0, 1) := by decide +kernel
theorem dX11_run_47 : decode cX11_run 47 = .ok (.getfield 12, 3) := by decide +kernel
theorem dX11_run_50 : decode cX11_run 50 = .ok (.invokevirtual 368, 3) := by decide +kernel
theorem dX11_run_53 : decode cX11_run 53 = .ok (.aload_n 0, 1) := by decide +kernel
theorem dX11_run_54 : decode cX11_run 54 = .ok (.invokevirtual 371, 3) := by decide +kernel
theorem dX11_run_57 : decode cX11_run 57 = .ok (.istore_n 2, 1) := by decide +kernel
theorem dX11_run_58 : decode cX11_run 58 = .ok (.iload_n 2, 1) := by decide +kernel
theorem dX11_run_59 : decode cX11_run 59 = .ok (.iconst (-1), 1) := by decide +kernel
theorem dX11_run_60 : decode cX11_run 60 = .ok (.if_icmp .eq 30, 3) := by decide +kernel
theorem dX11_run_63 : decode cX11_run 63 = .ok (.aload_n 0, 1) := by decide +kernel
theorem dX11_run_64 : decode cX11_run 64 = .ok (.getfield 12, 3) := by decide +kernel
theorem dX11_run_67 : decode cX11_run 67 = .ok (.aload_n 0, 1) := by decide +kernel
theorem dX11_run_68 : decode cX11_run 68 = .ok (.getfield 19, 3) := by decide +kernel
theorem dX11_run_71 : decode cX11_run 71 = .ok (.invokevirtual 368, 3) := by decide +kernel
theorem dX11_run_74 : decode cX11_run 74 = .ok (.aload_n 0, 1) := by decide +kernel
theorem dX11_run_75 : decode cX11_run 75 = .ok (.iload_n 2, 1) := by decide +kernel
theorem dX11_run_76 : decode cX11_run 76 = .ok (.putfield 65, 3) := by decide +kernel
theorem dX11_run_79 : decode cX11_run 79 = .ok (.new 148, 3) := by decide +kernel
theorem dX11_run_82 : decode cX11_run 82 = .ok (.dup, 1) := by decide +kernel
theorem dX11_run_83 : decode cX11_run 83 = .ok (.ldc_w 375, 3) := by decide +kernel
theorem dX11_run_86 : decode cX11_run 86 = .ok (.invokespecial 152, 3) := by decide +kernel
theorem dX11_run_89 : decode cX11_run 89 = .ok (.athrow, 1) := by decide +kernel
theorem dX11_run_90 : decode cX11_run 90 = .ok (.aload_n 0, 1) := by decide +kernel
theorem dX11_run_91 : decode cX11_run 91 = .ok (.getfield 25, 3) := by decide +kernel
theorem dX11_run_94 : decode cX11_run 94 = .ok (.aload_n 0, 1) := by decide +kernel
theorem dX11_run_95 : decode cX11_run 95 = .ok (.getfield 19, 3) := by decide +kernel
theorem dX11_run_98 : decode cX11_run 98 = .ok (.invokevirtual 84, 3) := by decide +kernel
theorem dX11_run_101 : decode cX11_run 101 = .ok (.aload_n 0, 1) := by decide +kernel
theorem dX11_run_102 : decode cX11_run 102 = .ok (.getfield 46, 3) := by decide +kernel
theorem dX11_run_105 : decode cX11_run 105 = .ok (.getfield 377, 3) := by decide +kernel
theorem dX11_run_108 : decode cX11_run 108 = .ok (.ireturn, 1) := by decide +kernel
theorem dX11_errorPosition_0 : decode cX11_errorPosition 0 = .ok (.aload_n 0, 1) := by decide +kernel
theorem dX11_errorPosition_1 : decode cX11_errorPosition 1 = .ok (.getfield 61, 3) := by decide +kernel
theorem dX11_errorPosition_4 : decode cX11_errorPosition 4 = .ok (.iconst (-1), 1) := by decide +kernel
theorem dX11_errorPosition_5 : decode cX11_errorPosition 5 = .ok (.if_icmp .ne 14, 3) := by decide +kernel
theorem dX11_errorPosition_8 : decode cX11_errorPosition 8 = .ok (.new 185, 3) := by decide +kernel
theorem dX11_errorPosition_11 : decode cX11_errorPosition 11 = .ok (.dup, 1) := by decide +kernel
theorem dX11_errorPosition_12 : decode cX11_errorPosition 12 = .ok (.ldc_w 378, 3) := by decide +kernel
theorem dX11_errorPosition_15 : decode cX11_errorPosition 15 = .ok (.invokespecial 189, 3) := by decide +kernel
theorem dX11_errorPosition_18 : decode cX11_errorPosition 18 = .ok (.athrow, 1) := by decide +kernel
theorem dX11_errorPosition_19 : decode cX11_errorPosition 19 = .ok (.aload_n 0, 1) := by decide +kernel
theorem dX11_errorPosition_20 : decode cX11_errorPosition 20 = .ok (.getfield 61, 3) := by decide +kernel
theorem dX11_errorPosition_23 : decode cX11_errorPosition 23 = .ok (.ireturn, 1) := by decide +kernel
theorem dX11_failedCommand_0 : decode cX11_failedCommand 0 = .ok (.aload_n 0, 1) := by decide +kernel
theorem dX11_failedCommand_1 : decode cX11_failedCommand 1 = .ok (.getfield 65, 3) := by decide +kernel
theorem dX11_failedCommand_4 : decode cX11_failedCommand 4 = .ok (.iconst (-1), 1) := by decide +kernel
theorem dX11_failedCommand_5 : decode cX11_failedCommand 5 = .ok (.if_icmp .ne 14, 3) := by decide +kernel
theorem dX11_failedCommand_8 : decode cX11_failedCommand 8 = .ok (.new 185, 3) := by decide +kernel
theorem dX11_failedCommand_11 : decode cX11_failedCommand 11 = .ok (.dup, 1) := by decide +kernel
theorem dX11_failedCommand_12 : decode cX11_failedCommand 12 = .ok (.ldc_w 380, 3) := by decide +kernel
theorem dX11_failedCommand_15 : decode cX11_failedCommand 15 = .ok (.invokespecial 189, 3) := by decide +kernel
theorem dX11_failedCommand_18 : decode cX11_failedCommand 18 = .ok (.athrow, 1) := by decide +kernel
theorem dX11_failedCommand_19 : decode cX11_failedCommand 19 = .ok (.aload_n 0, 1) := by decide +kernel
theorem dX11_failedCommand_20 : decode cX11_failedCommand 20 = .ok (.getfield 65, 3) := by decide +kernel
theorem dX11_failedCommand_23 : decode cX11_failedCommand 23 = .ok (.ireturn, 1) := by decide +kernel
theorem dX11_describeRow_0 : decode cX11_describeRow 0 = .ok (.iconst 0, 1) := by decide +kernel
theorem dX11_describeRow_1 : decode cX11_describeRow 1 = .ok (.iload_n 1, 1) := by decide +kernel
theorem dX11_describeRow_2 : decode cX11_describeRow 2 = .ok (.invokestatic 117, 3) := by decide +kernel
theorem dX11_describeRow_5 : decode cX11_describeRow 5 = .ok (.ifCond .ne 14, 3) := by decide +kernel
theorem dX11_describeRow_8 : decode cX11_describeRow 8 = .ok (.new 72, 3) := by decide +kernel
theorem dX11_describeRow_11 : decode cX11_describeRow 11 = .ok (.dup, 1) := by decide +kernel
theorem dX11_describeRow_12 : decode cX11_describeRow 12 = .ok (.ldc_w 382, 3) := by decide +kernel
theorem dX11_describeRow_15 : decode cX11_describeRow 15 = .ok (.invokespecial 76, 3) := by decide +kernel
theorem dX11_describeRow_18 : decode cX11_describeRow 18 = .ok (.athrow, 1) := by decide +kernel
theorem dX11_describeRow_19 : decode cX11_describeRow 19 = .ok (.aload_n 0, 1) := by decide +kernel
theorem dX11_describeRow_20 : decode cX11_describeRow 20 = .ok (.getfield 53, 3) := by decide +kernel
theorem dX11_describeRow_23 : decode cX11_describeRow 23 = .ok (.iconst 0, 1) := by decide +kernel
theorem dX11_describeRow_24 : decode cX11_describeRow 24 = .ok (.putfield 384, 3) := by decide +kernel
theorem dX11_describeRow_27 : decode cX11_describeRow 27 = .ok (.iconst 0, 1) := by decide +kernel
theorem dX11_describeRow_28 : decode cX11_describeRow 28 = .ok (.istore_n 2, 1) := by decide +kernel
theorem dX11_describeRow_29 : decode cX11_describeRow 29 = .ok (.iload_n 2, 1) := by decide +kernel
theorem dX11_describeRow_30 : decode cX11_describeRow 30 = .ok (.bipush 8, 2) := by decide +kernel
theorem dX11_describeRow_32 : decode cX11_describeRow 32 = .ok (.if_icmp .ge 31, 3) := by decide +kernel
theorem dX11_describeRow_35 : decode cX11_describeRow 35 = .ok (.aload_n 0, 1) := by decide +kernel
theorem dX11_describeRow_36 : decode cX11_describeRow 36 = .ok (.getfield 53, 3) := by decide +kernel
theorem dX11_describeRow_39 : decode cX11_describeRow 39 = .ok (.aload_n 0, 1) := by decide +kernel
theorem dX11_describeRow_40 : decode cX11_describeRow 40 = .ok (.getfield 12, 3) := by decide +kernel
theorem dX11_describeRow_43 : decode cX11_describeRow 43 = .ok (.getfield 100, 3) := by decide +kernel
theorem dX11_describeRow_46 : decode cX11_describeRow 46 = .ok (.iload_n 2, 1) := by decide +kernel
theorem dX11_describeRow_47 : decode cX11_describeRow 47 = .ok (.iload_n 1, 1) := by decide +kernel
theorem dX11_describeRow_48 : decode cX11_describeRow 48 = .ok (.invokestatic 121, 3) := by decide +kernel
theorem dX11_describeRow_51 : decode cX11_describeRow 51 = .ok (.invokevirtual 385, 3) := by decide +kernel
theorem dX11_describeRow_54 : decode cX11_describeRow 54 = .ok (.invokevirtual 389, 3) := by decide +kernel
theorem dX11_describeRow_57 : decode cX11_describeRow 57 = .ok (.iinc 2 1, 3) := by decide +kernel
theorem dX11_describeRow_60 : decode cX11_describeRow 60 = .ok (.goto (-31), 3) := by decide +kernel
theorem dX11_describeRow_63 : decode cX11_describeRow 63 = .ok (.aload_n 0, 1) := by decide +kernel
theorem dX11_describeRow_64 : decode cX11_describeRow 64 = .ok (.getfield 53, 3) := by decide +kernel
theorem dX11_describeRow_67 : decode cX11_describeRow 67 = .ok (.getfield 384, 3) := by decide +kernel
theorem dX11_describeRow_70 : decode cX11_describeRow 70 = .ok (.ireturn, 1) := by decide +kernel
theorem dX11_describePlea_0 : decode cX11_describePlea 0 = .ok (.aload_n 0, 1) := by decide +kernel
theorem dX11_describePlea_1 : decode cX11_describePlea 1 = .ok (.getfield 12, 3) := by decide +kernel
theorem dX11_describePlea_4 : decode cX11_describePlea 4 = .ok (.getfield 260, 3) := by decide +kernel
theorem dX11_describePlea_7 : decode cX11_describePlea 7 = .ok (.astore_n 2, 1) := by decide +kernel
theorem dX11_describePlea_8 : decode cX11_describePlea 8 = .ok (.aload_n 2, 1) := by decide +kernel
theorem dX11_describePlea_9 : decode cX11_describePlea 9 = .ok (.iload_n 1, 1) := by decide +kernel
theorem dX11_describePlea_10 : decode cX11_describePlea 10 = .ok (.invokevirtual 275, 3) := by decide +kernel
theorem dX11_describePlea_13 : decode cX11_describePlea 13 = .ok (.ifCond .ne 14, 3) := by decide +kernel
theorem dX11_describePlea_16 : decode cX11_describePlea 16 = .ok (.new 72, 3) := by decide +kernel
theorem dX11_describePlea_19 : decode cX11_describePlea 19 = .ok (.dup, 1) := by decide +kernel
theorem dX11_describePlea_20 : decode cX11_describePlea 20 = .ok (.ldc_w 278, 3) := by decide +kernel
theorem dX11_describePlea_23 : decode cX11_describePlea 23 = .ok (.invokespecial 76, 3) := by decide +kernel
theorem dX11_describePlea_26 : decode cX11_describePlea 26 = .ok (.athrow, 1) := by decide +kernel
theorem dX11_describePlea_27 : decode cX11_describePlea 27 = .ok (.aload_n 0, 1) := by decide +kernel
theorem dX11_describePlea_28 : decode cX11_describePlea 28 = .ok (.getfield 53, 3) := by decide +kernel
theorem dX11_describePlea_31 : decode cX11_describePlea 31 = .ok (.iconst 0, 1) := by decide +kernel
theorem dX11_describePlea_32 : decode cX11_describePlea 32 = .ok (.putfield 384, 3) := by decide +kernel
theorem dX11_describePlea_35 : decode cX11_describePlea 35 = .ok (.aload_n 0, 1) := by decide +kernel
theorem dX11_describePlea_36 : decode cX11_describePlea 36 = .ok (.getfield 53, 3) := by decide +kernel
theorem dX11_describePlea_39 : decode cX11_describePlea 39 = .ok (.bipush 112, 2) := by decide +kernel
theorem dX11_describePlea_41 : decode cX11_describePlea 41 = .ok (.invokevirtual 389, 3) := by decide +kernel
theorem dX11_describePlea_44 : decode cX11_describePlea 44 = .ok (.aload_n 0, 1) := by decide +kernel
theorem dX11_describePlea_45 : decode cX11_describePlea 45 = .ok (.getfield 53, 3) := by decide +kernel
theorem dX11_describePlea_48 : decode cX11_describePlea 48 = .ok (.aload_n 2, 1) := by decide +kernel
theorem dX11_describePlea_49 : decode cX11_describePlea 49 = .ok (.getfield 280, 3) := by decide +kernel
theorem dX11_describePlea_52 : decode cX11_describePlea 52 = .ok (.iload_n 1, 1) := by decide +kernel
theorem dX11_describePlea_53 : decode cX11_describePlea 53 = .ok (.iaload, 1) := by decide +kernel
theorem dX11_describePlea_54 : decode cX11_describePlea 54 = .ok (.invokevirtual 390, 3) := by decide +kernel
theorem dX11_describePlea_57 : decode cX11_describePlea 57 = .ok (.aload_n 0, 1) := by decide +kernel
theorem dX11_describePlea_58 : decode cX11_describePlea 58 = .ok (.getfield 53, 3) := by decide +kernel
theorem dX11_describePlea_61 : decode cX11_describePlea 61 = .ok (.bipush 58, 2) := by decide +kernel
theorem dX11_describePlea_63 : decode cX11_describePlea 63 = .ok (.invokevirtual 389, 3) := by decide +kernel
theorem dX11_describePlea_66 : decode cX11_describePlea 66 = .ok (.aload_n 0, 1) := by decide +kernel
theorem dX11_describePlea_67 : decode cX11_describePlea 67 = .ok (.getfield 53, 3) := by decide +kernel
theorem dX11_describePlea_70 : decode cX11_describePlea 70 = .ok (.aload_n 2, 1) := by decide +kernel
theorem dX11_describePlea_71 : decode cX11_describePlea 71 = .ok (.getfield 282, 3) := by decide +kernel
theorem dX11_describePlea_74 : decode cX11_describePlea 74 = .ok (.iload_n 1, 1) := by decide +kernel
theorem dX11_describePlea_75 : decode cX11_describePlea 75 = .ok (.iaload, 1) := by decide +kernel
theorem dX11_describePlea_76 : decode cX11_describePlea 76 = .ok (.invokevirtual 390, 3) := by decide +kernel
theorem dX11_describePlea_79 : decode cX11_describePlea 79 = .ok (.aload_n 0, 1) := by decide +kernel
theorem dX11_describePlea_80 : decode cX11_describePlea 80 = .ok (.getfield 53, 3) := by decide +kernel
theorem dX11_describePlea_83 : decode cX11_describePlea 83 = .ok (.bipush 45, 2) := by decide +kernel
theorem dX11_describePlea_85 : decode cX11_describePlea 85 = .ok (.invokevirtual 389, 3) := by decide +kernel
theorem dX11_describePlea_88 : decode cX11_describePlea 88 = .ok (.aload_n 0, 1) := by decide +kernel
theorem dX11_describePlea_89 : decode cX11_describePlea 89 = .ok (.getfield 53, 3) := by decide +kernel
theorem dX11_describePlea_92 : decode cX11_describePlea 92 = .ok (.aload_n 2, 1) := by decide +kernel
theorem dX11_describePlea_93 : decode cX11_describePlea 93 = .ok (.iload_n 1, 1) := by decide +kernel
theorem dX11_describePlea_94 : decode cX11_describePlea 94 = .ok (.invokevirtual 285, 3) := by decide +kernel
theorem dX11_describePlea_97 : decode cX11_describePlea 97 = .ok (.invokevirtual 390, 3) := by decide +kernel
theorem dX11_describePlea_100 : decode cX11_describePlea 100 = .ok (.aload_n 2, 1) := by decide +kernel
theorem dX11_describePlea_101 : decode cX11_describePlea 101 = .ok (.iload_n 1, 1) := by decide +kernel
theorem dX11_describePlea_102 : decode cX11_describePlea 102 = .ok (.aload_n 2, 1) := by decide +kernel
theorem dX11_describePlea_103 : decode cX11_describePlea 103 = .ok (.getfield 309, 3) := by decide +kernel
theorem dX11_describePlea_106 : decode cX11_describePlea 106 = .ok (.invokevirtual 394, 3) := by decide +kernel
theorem dX11_describePlea_109 : decode cX11_describePlea 109 = .ok (.ifCond .eq 12, 3) := by decide +kernel
theorem dX11_describePlea_112 : decode cX11_describePlea 112 = .ok (.aload_n 0, 1) := by decide +kernel
theorem dX11_describePlea_113 : decode cX11_describePlea 113 = .ok (.getfield 53, 3) := by decide +kernel
theorem dX11_describePlea_116 : decode cX11_describePlea 116 = .ok (.bipush 42, 2) := by decide +kernel
theorem dX11_describePlea_118 : decode cX11_describePlea 118 = .ok (.invokevirtual 389, 3) := by decide +kernel
theorem dX11_describePlea_121 : decode cX11_describePlea 121 = .ok (.aload_n 0, 1) := by decide +kernel
theorem dX11_describePlea_122 : decode cX11_describePlea 122 = .ok (.getfield 53, 3) := by decide +kernel
theorem dX11_describePlea_125 : decode cX11_describePlea 125 = .ok (.getfield 384, 3) := by decide +kernel
theorem dX11_describePlea_128 : decode cX11_describePlea 128 = .ok (.ireturn, 1) := by decide +kernel
theorem dX11_lineAt_0 : decode cX11_lineAt 0 = .ok (.iload_n 1, 1) := by decide +kernel
theorem dX11_lineAt_1 : decode cX11_lineAt 1 = .ok (.ifCond .lt 14, 3) := by decide +kernel
theorem dX11_lineAt_4 : decode cX11_lineAt 4 = .ok (.iload_n 1, 1) := by decide +kernel
theorem dX11_lineAt_5 : decode cX11_lineAt 5 = .ok (.aload_n 0, 1) := by decide +kernel
theorem dX11_lineAt_6 : decode cX11_lineAt 6 = .ok (.getfield 53, 3) := by decide +kernel
theorem dX11_lineAt_9 : decode cX11_lineAt 9 = .ok (.getfield 384, 3) := by decide +kernel
theorem dX11_lineAt_12 : decode cX11_lineAt 12 = .ok (.if_icmp .lt 14, 3) := by decide +kernel
theorem dX11_lineAt_15 : decode cX11_lineAt 15 = .ok (.new 72, 3) := by decide +kernel
theorem dX11_lineAt_18 : decode cX11_lineAt 18 = .ok (.dup, 1) := by decide +kernel
theorem dX11_lineAt_19 : decode cX11_lineAt 19 = .ok (.ldc_w 397, 3) := by decide +kernel
theorem dX11_lineAt_22 : decode cX11_lineAt 22 = .ok (.invokespecial 76, 3) := by decide +kernel
theorem dX11_lineAt_25 : decode cX11_lineAt 25 = .ok (.athrow, 1) := by decide +kernel
theorem dX11_lineAt_26 : decode cX11_lineAt 26 = .ok (.aload_n 0, 1) := by decide +kernel
theorem dX11_lineAt_27 : decode cX11_lineAt 27 = .ok (.getfield 53, 3) := by decide +kernel
theorem dX11_lineAt_30 : decode cX11_lineAt 30 = .ok (.getfield 399, 3) := by decide +kernel
theorem dX11_lineAt_33 : decode cX11_lineAt 33 = .ok (.iload_n 1, 1) := by decide +kernel
theorem dX11_lineAt_34 : decode cX11_lineAt 34 = .ok (.caload, 1) := by decide +kernel
theorem dX11_lineAt_35 : decode cX11_lineAt 35 = .ok (.ireturn, 1) := by decide +kernel
theorem dX11_isConsistent_0 : decode cX11_isConsistent 0 = .ok (.aload_n 0, 1) := by decide +kernel
theorem dX11_isConsistent_1 : decode cX11_isConsistent 1 = .ok (.invokevirtual 403, 3) := by decide +kernel
theorem dX11_isConsistent_4 : decode cX11_isConsistent 4 = .ok (.aload_n 0, 1) := by decide +kernel
theorem dX11_isConsistent_5 : decode cX11_isConsistent 5 = .ok (.invokevirtual 406, 3) := by decide +kernel
theorem dX11_isConsistent_8 : decode cX11_isConsistent 8 = .ok (.lcmp, 1) := by decide +kernel
theorem dX11_isConsistent_9 : decode cX11_isConsistent 9 = .ok (.ifCond .ne 88, 3) := by decide +kernel
theorem dX11_isConsistent_12 : decode cX11_isConsistent 12 = .ok (.aload_n 0, 1) := by decide +kernel
theorem dX11_isConsistent_13 : decode cX11_isConsistent 13 = .ok (.iconst 0, 1) := by decide +kernel
theorem dX11_isConsistent_14 : decode cX11_isConsistent 14 = .ok (.invokevirtual 409, 3) := by decide +kernel
theorem dX11_isConsistent_17 : decode cX11_isConsistent 17 = .ok (.ifCond .eq 80, 3) := by decide +kernel
theorem dX11_isConsistent_20 : decode cX11_isConsistent 20 = .ok (.aload_n 0, 1) := by decide +kernel
theorem dX11_isConsistent_21 : decode cX11_isConsistent 21 = .ok (.bipush 21, 2) := by decide +kernel
theorem dX11_isConsistent_23 : decode cX11_isConsistent 23 = .ok (.invokevirtual 409, 3) := by decide +kernel
theorem dX11_isConsistent_26 : decode cX11_isConsistent 26 = .ok (.ifCond .eq 71, 3) := by decide +kernel
theorem dX11_isConsistent_29 : decode cX11_isConsistent 29 = .ok (.aload_n 0, 1) := by decide +kernel
theorem dX11_isConsistent_30 : decode cX11_isConsistent 30 = .ok (.bipush 42, 2) := by decide +kernel
theorem dX11_isConsistent_32 : decode cX11_isConsistent 32 = .ok (.invokevirtual 409, 3) := by decide +kernel
theorem dX11_isConsistent_35 : decode cX11_isConsistent 35 = .ok (.ifCond .eq 62, 3) := by decide +kernel
theorem dX11_isConsistent_38 : decode cX11_isConsistent 38 = .ok (.aload_n 0, 1) := by decide +kernel
theorem dX11_isConsistent_39 : decode cX11_isConsistent 39 = .ok (.bipush 63, 2) := by decide +kernel
theorem dX11_isConsistent_41 : decode cX11_isConsistent 41 = .ok (.invokevirtual 409, 3) := by decide +kernel
theorem dX11_isConsistent_44 : decode cX11_isConsistent 44 = .ok (.ifCond .eq 53, 3) := by decide +kernel
theorem dX11_isConsistent_47 : decode cX11_isConsistent 47 = .ok (.aload_n 0, 1) := by decide +kernel
theorem dX11_isConsistent_48 : decode cX11_isConsistent 48 = .ok (.aload_n 0, 1) := by decide +kernel
theorem dX11_isConsistent_49 : decode cX11_isConsistent 49 = .ok (.getfield 12, 3) := by decide +kernel
theorem dX11_isConsistent_52 : decode cX11_isConsistent 52 = .ok (.getfield 100, 3) := by decide +kernel
theorem dX11_isConsistent_55 : decode cX11_isConsistent 55 = .ok (.getfield 142, 3) := by decide +kernel
theorem dX11_isConsistent_58 : decode cX11_isConsistent 58 = .ok (.invokevirtual 409, 3) := by decide +kernel
theorem dX11_isConsistent_61 : decode cX11_isConsistent 61 = .ok (.ifCond .eq 36, 3) := by decide +kernel
theorem dX11_isConsistent_64 : decode cX11_isConsistent 64 = .ok (.aload_n 0, 1) := by decide +kernel
theorem dX11_isConsistent_65 : decode cX11_isConsistent 65 = .ok (.invokevirtual 412, 3) := by decide +kernel
theorem dX11_isConsistent_68 : decode cX11_isConsistent 68 = .ok (.ifCond .eq 29, 3) := by decide +kernel
theorem dX11_isConsistent_71 : decode cX11_isConsistent 71 = .ok (.aload_n 0, 1) := by decide +kernel
theorem dX11_isConsistent_72 : decode cX11_isConsistent 72 = .ok (.invokevirtual 415, 3) := by decide +kernel
theorem dX11_isConsistent_75 : decode cX11_isConsistent 75 = .ok (.aload_n 0, 1) := by decide +kernel
theorem dX11_isConsistent_76 : decode cX11_isConsistent 76 = .ok (.invokevirtual 418, 3) := by decide +kernel
theorem dX11_isConsistent_79 : decode cX11_isConsistent 79 = .ok (.if_icmp .ne 18, 3) := by decide +kernel
theorem dX11_isConsistent_82 : decode cX11_isConsistent 82 = .ok (.aload_n 0, 1) := by decide +kernel
theorem dX11_isConsistent_83 : decode cX11_isConsistent 83 = .ok (.invokevirtual 421, 3) := by decide +kernel
theorem dX11_isConsistent_86 : decode cX11_isConsistent 86 = .ok (.aload_n 0, 1) := by decide +kernel
theorem dX11_isConsistent_87 : decode cX11_isConsistent 87 = .ok (.invokevirtual 423, 3) := by decide +kernel
theorem dX11_isConsistent_90 : decode cX11_isConsistent 90 = .ok (.if_icmp .ne 7, 3) := by decide +kernel
theorem dX11_isConsistent_93 : decode cX11_isConsistent 93 = .ok (.iconst 1, 1) := by decide +kernel
theorem dX11_isConsistent_94 : decode cX11_isConsistent 94 = .ok (.goto 4, 3) := by decide +kernel
theorem dX11_isConsistent_97 : decode cX11_isConsistent 97 = .ok (.iconst 0, 1) := by decide +kernel
theorem dX11_isConsistent_98 : decode cX11_isConsistent 98 = .ok (.ireturn, 1) := by decide +kernel
theorem dX11_undo_0 : decode cX11_undo 0 = .ok (.aload_n 0, 1) := by decide +kernel
theorem dX11_undo_1 : decode cX11_undo 1 = .ok (.getfield 25, 3) := by decide +kernel
theorem dX11_undo_4 : decode cX11_undo 4 = .ok (.getfield 426, 3) := by decide +kernel
theorem dX11_undo_7 : decode cX11_undo 7 = .ok (.ifCond .ne 14, 3) := by decide +kernel
theorem dX11_undo_10 : decode cX11_undo 10 = .ok (.new 148, 3) := by decide +kernel
theorem dX11_undo_13 : decode cX11_undo 13 = .ok (.dup, 1) := by decide +kernel
theorem dX11_undo_14 : decode cX11_undo 14 = .ok (.ldc_w 427, 3) := by decide +kernel
theorem dX11_undo_17 : decode cX11_undo 17 = .ok (.invokespecial 152, 3) := by decide +kernel
theorem dX11_undo_20 : decode cX11_undo 20 = .ok (.athrow, 1) := by decide +kernel
theorem dX11_undo_21 : decode cX11_undo 21 = .ok (.aload_n 0, 1) := by decide +kernel
theorem dX11_undo_22 : decode cX11_undo 22 = .ok (.getfield 25, 3) := by decide +kernel
theorem dX11_undo_25 : decode cX11_undo 25 = .ok (.aload_n 0, 1) := by decide +kernel
theorem dX11_undo_26 : decode cX11_undo 26 = .ok (.getfield 12, 3) := by decide +kernel
theorem dX11_undo_29 : decode cX11_undo 29 = .ok (.invokevirtual 429, 3) := by decide +kernel
theorem dX11_undo_32 : decode cX11_undo 32 = .ok (.aload_n 0, 1) := by decide +kernel
theorem dX11_undo_33 : decode cX11_undo 33 = .ok (.getfield 25, 3) := by decide +kernel
theorem dX11_undo_36 : decode cX11_undo 36 = .ok (.getfield 426, 3) := by decide +kernel
theorem dX11_undo_39 : decode cX11_undo 39 = .ok (.ireturn, 1) := by decide +kernel
theorem dX11_save_0 : decode cX11_save 0 = .ok (.aload_n 0, 1) := by decide +kernel
theorem dX11_save_1 : decode cX11_save 1 = .ok (.getfield 16, 3) := by decide +kernel
theorem dX11_save_4 : decode cX11_save 4 = .ok (.aload_n 0, 1) := by decide +kernel
theorem dX11_save_5 : decode cX11_save 5 = .ok (.getfield 12, 3) := by decide +kernel
theorem dX11_save_8 : decode cX11_save 8 = .ok (.invokevirtual 368, 3) := by decide +kernel
theorem dX11_save_11 : decode cX11_save 11 = .ok (.aload_n 0, 1) := by decide +kernel
theorem dX11_save_12 : decode cX11_save 12 = .ok (.iconst 1, 1) := by decide +kernel
theorem dX11_save_13 : decode cX11_save 13 = .ok (.putfield 432, 3) := by decide +kernel
theorem dX11_save_16 : decode cX11_save 16 = .ok (.aload_n 0, 1) := by decide +kernel
theorem dX11_save_17 : decode cX11_save 17 = .ok (.getfield 12, 3) := by decide +kernel
theorem dX11_save_20 : decode cX11_save 20 = .ok (.getfield 100, 3) := by decide +kernel
theorem dX11_save_23 : decode cX11_save 23 = .ok (.getfield 169, 3) := by decide +kernel
theorem dX11_save_26 : decode cX11_save 26 = .ok (.ireturn, 1) := by decide +kernel
theorem dX11_restore_0 : decode cX11_restore 0 = .ok (.aload_n 0, 1) := by decide +kernel
theorem dX11_restore_1 : decode cX11_restore 1 = .ok (.getfield 432, 3) := by decide +kernel
theorem dX11_restore_4 : decode cX11_restore 4 = .ok (.ifCond .ne 14, 3) := by decide +kernel
theorem dX11_restore_7 : decode cX11_restore 7 = .ok (.new 148, 3) := by decide +kernel
theorem dX11_restore_10 : decode cX11_restore 10 = .ok (.dup, 1) := by decide +kernel
theorem dX11_restore_11 : decode cX11_restore 11 = .ok (.ldc_w 436, 3) := by decide +kernel
theorem dX11_restore_14 : decode cX11_restore 14 = .ok (.invokespecial 152, 3) := by decide +kernel
theorem dX11_restore_17 : decode cX11_restore 17 = .ok (.athrow, 1) := by decide +kernel
theorem dX11_restore_18 : decode cX11_restore 18 = .ok (.aload_n 0, 1) := by decide +kernel
theorem dX11_restore_19 : decode cX11_restore 19 = .ok (.getfield 12, 3) := by decide +kernel
theorem dX11_restore_22 : decode cX11_restore 22 = .ok (.aload_n 0, 1) := by decide +kernel
theorem dX11_restore_23 : decode cX11_restore 23 = .ok (.getfield 16, 3) := by decide +kernel
theorem dX11_restore_26 : decode cX11_restore 26 = .ok (.invokevirtual 368, 3) := by decide +kernel
theorem dX11_restore_29 : decode cX11_restore 29 = .ok (.aload_n 0, 1) := by decide +kernel
theorem dX11_restore_30 : decode cX11_restore 30 = .ok (.getfield 25, 3) := by decide +kernel
theorem dX11_restore_33 : decode cX11_restore 33 = .ok (.iconst 0, 1) := by decide +kernel
theorem dX11_restore_34 : decode cX11_restore 34 = .ok (.putfield 426, 3) := by decide +kernel
theorem dX11_restore_37 : decode cX11_restore 37 = .ok (.aload_n 0, 1) := by decide +kernel
theorem dX11_restore_38 : decode cX11_restore 38 = .ok (.getfield 12, 3) := by decide +kernel
theorem dX11_restore_41 : decode cX11_restore 41 = .ok (.getfield 100, 3) := by decide +kernel
theorem dX11_restore_44 : decode cX11_restore 44 = .ok (.getfield 169, 3) := by decide +kernel
theorem dX11_restore_47 : decode cX11_restore 47 = .ok (.ireturn, 1) := by decide +kernel
theorem dX11_isCell_0 : decode cX11_isCell 0 = .ok (.iload_n 0, 1) := by decide +kernel
theorem dX11_isCell_1 : decode cX11_isCell 1 = .ok (.ifCond .lt 23, 3) := by decide +kernel
theorem dX11_isCell_4 : decode cX11_isCell 4 = .ok (.iload_n 0, 1) := by decide +kernel
theorem dX11_isCell_5 : decode cX11_isCell 5 = .ok (.bipush 8, 2) := by decide +kernel
theorem dX11_isCell_7 : decode cX11_isCell 7 = .ok (.if_icmp .ge 17, 3) := by decide +kernel
theorem dX11_isCell_10 : decode cX11_isCell 10 = .ok (.iload_n 1, 1) := by decide +kernel
theorem dX11_isCell_11 : decode cX11_isCell 11 = .ok (.ifCond .lt 13, 3) := by decide +kernel
theorem dX11_isCell_14 : decode cX11_isCell 14 = .ok (.iload_n 1, 1) := by decide +kernel
theorem dX11_isCell_15 : decode cX11_isCell 15 = .ok (.bipush 8, 2) := by decide +kernel
theorem dX11_isCell_17 : decode cX11_isCell 17 = .ok (.if_icmp .ge 7, 3) := by decide +kernel
theorem dX11_isCell_20 : decode cX11_isCell 20 = .ok (.iconst 1, 1) := by decide +kernel
theorem dX11_isCell_21 : decode cX11_isCell 21 = .ok (.goto 4, 3) := by decide +kernel
theorem dX11_isCell_24 : decode cX11_isCell 24 = .ok (.iconst 0, 1) := by decide +kernel
theorem dX11_isCell_25 : decode cX11_isCell 25 = .ok (.ireturn, 1) := by decide +kernel
theorem dX11_cellAt_0 : decode cX11_cellAt 0 = .ok (.bipush 8, 2) := by decide +kernel
theorem dX11_cellAt_2 : decode cX11_cellAt 2 = .ok (.iload_n 1, 1) := by decide +kernel
theorem dX11_cellAt_3 : decode cX11_cellAt 3 = .ok (.imul, 1) := by decide +kernel
theorem dX11_cellAt_4 : decode cX11_cellAt 4 = .ok (.iload_n 0, 1) := by decide +kernel
theorem dX11_cellAt_5 : decode cX11_cellAt 5 = .ok (.iadd, 1) := by decide +kernel
theorem dX11_cellAt_6 : decode cX11_cellAt 6 = .ok (.ireturn, 1) := by decide +kernel
theorem dX11_neighbour_0 : decode cX11_neighbour 0 = .ok (.iload_n 0, 1) := by decide +kernel
theorem dX11_neighbour_1 : decode cX11_neighbour 1 = .ok (.getstatic 438, 3) := by decide +kernel
theorem dX11_neighbour_4 : decode cX11_neighbour 4 = .ok (.iload_n 1, 1) := by decide +kernel
theorem dX11_neighbour_5 : decode cX11_neighbour 5 = .ok (.bipush 7, 2) := by decide +kernel
theorem dX11_neighbour_7 : decode cX11_neighbour 7 = .ok (.iand, 1) := by decide +kernel
theorem dX11_neighbour_8 : decode cX11_neighbour 8 = .ok (.iaload, 1) := by decide +kernel
theorem dX11_neighbour_9 : decode cX11_neighbour 9 = .ok (.iadd, 1) := by decide +kernel
theorem dX11_neighbour_10 : decode cX11_neighbour 10 = .ok (.bipush 7, 2) := by decide +kernel
theorem dX11_neighbour_12 : decode cX11_neighbour 12 = .ok (.iand, 1) := by decide +kernel
theorem dX11_neighbour_13 : decode cX11_neighbour 13 = .ok (.istore_n 2, 1) := by decide +kernel
theorem dX11_neighbour_14 : decode cX11_neighbour 14 = .ok (.iload_n 0, 1) := by decide +kernel
theorem dX11_neighbour_15 : decode cX11_neighbour 15 = .ok (.iconst 3, 1) := by decide +kernel
theorem dX11_neighbour_16 : decode cX11_neighbour 16 = .ok (.ishr, 1) := by decide +kernel
theorem dX11_neighbour_17 : decode cX11_neighbour 17 = .ok (.getstatic 441, 3) := by decide +kernel
theorem dX11_neighbour_20 : decode cX11_neighbour 20 = .ok (.iload_n 1, 1) := by decide +kernel
theorem dX11_neighbour_21 : decode cX11_neighbour 21 = .ok (.bipush 7, 2) := by decide +kernel
theorem dX11_neighbour_23 : decode cX11_neighbour 23 = .ok (.iand, 1) := by decide +kernel
theorem dX11_neighbour_24 : decode cX11_neighbour 24 = .ok (.iaload, 1) := by decide +kernel
theorem dX11_neighbour_25 : decode cX11_neighbour 25 = .ok (.iadd, 1) := by decide +kernel
theorem dX11_neighbour_26 : decode cX11_neighbour 26 = .ok (.bipush 7, 2) := by decide +kernel
theorem dX11_neighbour_28 : decode cX11_neighbour 28 = .ok (.iand, 1) := by decide +kernel
theorem dX11_neighbour_29 : decode cX11_neighbour 29 = .ok (.istore_n 3, 1) := by decide +kernel
theorem dX11_neighbour_30 : decode cX11_neighbour 30 = .ok (.bipush 8, 2) := by decide +kernel
theorem dX11_neighbour_32 : decode cX11_neighbour 32 = .ok (.iload_n 3, 1) := by decide +kernel
theorem dX11_neighbour_33 : decode cX11_neighbour 33 = .ok (.imul, 1) := by decide +kernel
theorem dX11_neighbour_34 : decode cX11_neighbour 34 = .ok (.iload_n 2, 1) := by decide +kernel
theorem dX11_neighbour_35 : decode cX11_neighbour 35 = .ok (.iadd, 1) := by decide +kernel
theorem dX11_neighbour_36 : decode cX11_neighbour 36 = .ok (.ireturn, 1) := by decide +kernel
theorem dX11_isThrow_0 : decode cX11_isThrow 0 = .ok (.iload_n 0, 1) := by decide +kernel
theorem dX11_isThrow_1 : decode cX11_isThrow 1 = .ok (.ifCond .lt 13, 3) := by decide +kernel
theorem dX11_isThrow_4 : decode cX11_isThrow 4 = .ok (.iload_n 0, 1) := by decide +kernel
theorem dX11_isThrow_5 : decode cX11_isThrow 5 = .ok (.bipush 64, 2) := by decide +kernel
theorem dX11_isThrow_7 : decode cX11_isThrow 7 = .ok (.if_icmp .ge 7, 3) := by decide +kernel
theorem dX11_isThrow_10 : decode cX11_isThrow 10 = .ok (.iconst 1, 1) := by decide +kernel
theorem dX11_isThrow_11 : decode cX11_isThrow 11 = .ok (.goto 4, 3) := by decide +kernel
theorem dX11_isThrow_14 : decode cX11_isThrow 14 = .ok (.iconst 0, 1) := by decide +kernel
theorem dX11_isThrow_15 : decode cX11_isThrow 15 = .ok (.ireturn, 1) := by decide +kernel
theorem dX11_armOf_0 : decode cX11_armOf 0 = .ok (.iconst 1, 1) := by decide +kernel
theorem dX11_armOf_1 : decode cX11_armOf 1 = .ok (.iload_n 0, 1) := by decide +kernel
theorem dX11_armOf_2 : decode cX11_armOf 2 = .ok (.bipush 8, 2) := by decide +kernel
theorem dX11_armOf_4 : decode cX11_armOf 4 = .ok (.idiv, 1) := by decide +kernel
theorem dX11_armOf_5 : decode cX11_armOf 5 = .ok (.iconst 4, 1) := by decide +kernel
theorem dX11_armOf_6 : decode cX11_armOf 6 = .ok (.irem, 1) := by decide +kernel
theorem dX11_armOf_7 : decode cX11_armOf 7 = .ok (.iadd, 1) := by decide +kernel
theorem dX11_armOf_8 : decode cX11_armOf 8 = .ok (.ireturn, 1) := by decide +kernel
theorem dX11_refuse_0 : decode cX11_refuse 0 = .ok (.aload_n 0, 1) := by decide +kernel
theorem dX11_refuse_1 : decode cX11_refuse 1 = .ok (.iload_n 1, 1) := by decide +kernel
theorem dX11_refuse_2 : decode cX11_refuse 2 = .ok (.putfield 324, 3) := by decide +kernel
theorem dX11_refuse_5 : decode cX11_refuse 5 = .ok (.aload_n 0, 1) := by decide +kernel
theorem dX11_refuse_6 : decode cX11_refuse 6 = .ok (.iload_n 2, 1) := by decide +kernel
theorem dX11_refuse_7 : decode cX11_refuse 7 = .ok (.putfield 329, 3) := by decide +kernel
theorem dX11_refuse_10 : decode cX11_refuse 10 = .ok (.iconst 4, 1) := by decide +kernel
theorem dX11_refuse_11 : decode cX11_refuse 11 = .ok (.ireturn, 1) := by decide +kernel
theorem dX11_refuseTreeIn_0 : decode cX11_refuseTreeIn 0 = .ok (.aload_n 0, 1) := by decide +kernel
theorem dX11_refuseTreeIn_1 : decode cX11_refuseTreeIn 1 = .ok (.getfield 12, 3) := by decide +kernel
theorem dX11_refuseTreeIn_4 : decode cX11_refuseTreeIn 4 = .ok (.getfield 100, 3) := by decide +kernel
theorem dX11_refuseTreeIn_7 : decode cX11_refuseTreeIn 7 = .ok (.iload_n 1, 1) := by decide +kernel
theorem dX11_refuseTreeIn_8 : decode cX11_refuseTreeIn 8 = .ok (.invokevirtual 444, 3) := by decide +kernel
theorem dX11_refuseTreeIn_11 : decode cX11_refuseTreeIn 11 = .ok (.ifCond .eq 12, 3) := by decide +kernel
theorem dX11_refuseTreeIn_14 : decode cX11_refuseTreeIn 14 = .ok (.aload_n 0, 1) := by decide +kernel
theorem dX11_refuseTreeIn_15 : decode cX11_refuseTreeIn 15 = .ok (.iconst 1, 1) := by decide +kernel
theorem dX11_refuseTreeIn_16 : decode cX11_refuseTreeIn 16 = .ok (.iload_n 1, 1) := by decide +kernel
theorem dX11_refuseTreeIn_17 : decode cX11_refuseTreeIn 17 = .ok (.invokevirtual 447, 3) := by decide +kernel
theorem dX11_refuseTreeIn_20 : decode cX11_refuseTreeIn 20 = .ok (.goto 4, 3) := by decide +kernel
theorem dX11_refuseTreeIn_23 : decode cX11_refuseTreeIn 23 = .ok (.iconst 0, 1) := by decide +kernel
theorem dX11_refuseTreeIn_24 : decode cX11_refuseTreeIn 24 = .ok (.ireturn, 1) := by decide +kernel
theorem dX11_refusePartyIn_0 : decode cX11_refusePartyIn 0 = .ok (.aload_n 0, 1) := by decide +kernel
theorem dX11_refusePartyIn_1 : decode cX11_refusePartyIn 1 = .ok (.getfield 12, 3) := by decide +kernel
theorem dX11_refusePartyIn_4 : decode cX11_refusePartyIn 4 = .ok (.getfield 100, 3) := by decide +kernel
theorem dX11_refusePartyIn_7 : decode cX11_refusePartyIn 7 = .ok (.iload_n 1, 1) := by decide +kernel
theorem dX11_refusePartyIn_8 : decode cX11_refusePartyIn 8 = .ok (.invokevirtual 181, 3) := by decide +kernel
theorem dX11_refusePartyIn_11 : decode cX11_refusePartyIn 11 = .ok (.istore_n 2, 1) := by decide +kernel
theorem dX11_refusePartyIn_12 : decode cX11_refusePartyIn 12 = .ok (.iload_n 2, 1) := by decide +kernel
theorem dX11_refusePartyIn_13 : decode cX11_refusePartyIn 13 = .ok (.iconst (-1), 1) := by decide +kernel
theorem dX11_refusePartyIn_14 : decode cX11_refusePartyIn 14 = .ok (.if_icmp .eq 12, 3) := by decide +kernel
theorem dX11_refusePartyIn_17 : decode cX11_refusePartyIn 17 = .ok (.aload_n 0, 1) := by decide +kernel
theorem dX11_refusePartyIn_18 : decode cX11_refusePartyIn 18 = .ok (.iconst 2, 1) := by decide +kernel
theorem dX11_refusePartyIn_19 : decode cX11_refusePartyIn 19 = .ok (.iload_n 2, 1) := by decide +kernel
theorem dX11_refusePartyIn_20 : decode cX11_refusePartyIn 20 = .ok (.invokevirtual 447, 3) := by decide +kernel
theorem dX11_refusePartyIn_23 : decode cX11_refusePartyIn 23 = .ok (.goto 4, 3) := by decide +kernel
theorem dX11_refusePartyIn_26 : decode cX11_refusePartyIn 26 = .ok (.iconst 0, 1) := by decide +kernel
theorem dX11_refusePartyIn_27 : decode cX11_refusePartyIn 27 = .ok (.ireturn, 1) := by decide +kernel
theorem dX11_refuseBenchIn_0 : decode cX11_refuseBenchIn 0 = .ok (.aload_n 0, 1) := by decide +kernel
theorem dX11_refuseBenchIn_1 : decode cX11_refuseBenchIn 1 = .ok (.getfield 12, 3) := by decide +kernel
theorem dX11_refuseBenchIn_4 : decode cX11_refuseBenchIn 4 = .ok (.getfield 100, 3) := by decide +kernel
theorem dX11_refuseBenchIn_7 : decode cX11_refuseBenchIn 7 = .ok (.getfield 142, 3) := by decide +kernel
theorem dX11_refuseBenchIn_10 : decode cX11_refuseBenchIn 10 = .ok (.iload_n 1, 1) := by decide +kernel
theorem dX11_refuseBenchIn_11 : decode cX11_refuseBenchIn 11 = .ok (.if_icmp .ne 12, 3) := by decide +kernel
theorem dX11_refuseBenchIn_14 : decode cX11_refuseBenchIn 14 = .ok (.aload_n 0, 1) := by decide +kernel
theorem dX11_refuseBenchIn_15 : decode cX11_refuseBenchIn 15 = .ok (.iconst 3, 1) := by decide +kernel
theorem dX11_refuseBenchIn_16 : decode cX11_refuseBenchIn 16 = .ok (.iload_n 1, 1) := by decide +kernel
theorem dX11_refuseBenchIn_17 : decode cX11_refuseBenchIn 17 = .ok (.invokevirtual 447, 3) := by decide +kernel
theorem dX11_refuseBenchIn_20 : decode cX11_refuseBenchIn 20 = .ok (.goto 4, 3) := by decide +kernel
theorem dX11_refuseBenchIn_23 : decode cX11_refuseBenchIn 23 = .ok (.iconst 0, 1) := by decide +kernel
theorem dX11_refuseBenchIn_24 : decode cX11_refuseBenchIn 24 = .ok (.ireturn, 1) := by decide +kernel
theorem dX11_refuseAnythingIn_0 : decode cX11_refuseAnythingIn 0 = .ok (.aload_n 0, 1) := by decide +kernel
theorem dX11_refuseAnythingIn_1 : decode cX11_refuseAnythingIn 1 = .ok (.iload_n 1, 1) := by decide +kernel
theorem dX11_refuseAnythingIn_2 : decode cX11_refuseAnythingIn 2 = .ok (.invokevirtual 450, 3) := by decide +kernel
theorem dX11_refuseAnythingIn_5 : decode cX11_refuseAnythingIn 5 = .ok (.istore_n 2, 1) := by decide +kernel
theorem dX11_refuseAnythingIn_6 : decode cX11_refuseAnythingIn 6 = .ok (.iload_n 2, 1) := by decide +kernel
theorem dX11_refuseAnythingIn_7 : decode cX11_refuseAnythingIn 7 = .ok (.ifCond .ne 9, 3) := by decide +kernel
theorem dX11_refuseAnythingIn_10 : decode cX11_refuseAnythingIn 10 = .ok (.aload_n 0, 1) := by decide +kernel
theorem dX11_refuseAnythingIn_11 : decode cX11_refuseAnythingIn 11 = .ok (.iload_n 1, 1) := by decide +kernel
theorem dX11_refuseAnythingIn_12 : decode cX11_refuseAnythingIn 12 = .ok (.invokevirtual 453, 3) := by decide +kernel
theorem dX11_refuseAnythingIn_15 : decode cX11_refuseAnythingIn 15 = .ok (.istore_n 2, 1) := by decide +kernel
theorem dX11_refuseAnythingIn_16 : decode cX11_refuseAnythingIn 16 = .ok (.iload_n 2, 1) := by decide +kernel
theorem dX11_refuseAnythingIn_17 : decode cX11_refuseAnythingIn 17 = .ok (.ifCond .ne 11, 3) := by decide +kernel
theorem dX11_refuseAnythingIn_20 : decode cX11_refuseAnythingIn 20 = .ok (.aload_n 0, 1) := by decide +kernel
theorem dX11_refuseAnythingIn_21 : decode cX11_refuseAnythingIn 21 = .ok (.iload_n 1, 1) := by decide +kernel
theorem dX11_refuseAnythingIn_22 : decode cX11_refuseAnythingIn 22 = .ok (.invokevirtual 456, 3) := by decide +kernel
theorem dX11_refuseAnythingIn_25 : decode cX11_refuseAnythingIn 25 = .ok (.goto 4, 3) := by decide +kernel
theorem dX11_refuseAnythingIn_28 : decode cX11_refuseAnythingIn 28 = .ok (.iload_n 2, 1) := by decide +kernel
theorem dX11_refuseAnythingIn_29 : decode cX11_refuseAnythingIn 29 = .ok (.ireturn, 1) := by decide +kernel
theorem dX11_checkTree_0 : decode cX11_checkTree 0 = .ok (.iload_n 1, 1) := by decide +kernel
theorem dX11_checkTree_1 : decode cX11_checkTree 1 = .ok (.iload_n 2, 1) := by decide +kernel
theorem dX11_checkTree_2 : decode cX11_checkTree 2 = .ok (.invokestatic 117, 3) := by decide +kernel
theorem dX11_checkTree_5 : decode cX11_checkTree 5 = .ok (.ifCond .ne 5, 3) := by decide +kernel
theorem dX11_checkTree_8 : decode cX11_checkTree 8 = .ok (.iconst 1, 1) := by decide +kernel
theorem dX11_checkTree_9 : decode cX11_checkTree 9 = .ok (.ireturn, 1) := by decide +kernel
theorem dX11_checkTree_10 : decode cX11_checkTree 10 = .ok (.iload_n 3, 1) := by decide +kernel
theorem dX11_checkTree_11 : decode cX11_checkTree 11 = .ok (.ifCond .ne 5, 3) := by decide +kernel
theorem dX11_checkTree_14 : decode cX11_checkTree 14 = .ok (.iconst 0, 1) := by decide +kernel
theorem dX11_checkTree_15 : decode cX11_checkTree 15 = .ok (.ireturn, 1) := by decide +kernel
theorem dX11_checkTree_16 : decode cX11_checkTree 16 = .ok (.aload_n 0, 1) := by decide +kernel
theorem dX11_checkTree_17 : decode cX11_checkTree 17 = .ok (.iload_n 1, 1) := by decide +kernel
theorem dX11_checkTree_18 : decode cX11_checkTree 18 = .ok (.iload_n 2, 1) := by decide +kernel
theorem dX11_checkTree_19 : decode cX11_checkTree 19 = .ok (.invokestatic 121, 3) := by decide +kernel
theorem dX11_checkTree_22 : decode cX11_checkTree 22 = .ok (.invokevirtual 453, 3) := by decide +kernel
theorem dX11_checkTree_25 : decode cX11_checkTree 25 = .ok (.istore 4, 2) := by decide +kernel
theorem dX11_checkTree_27 : decode cX11_checkTree 27 = .ok (.iload 4, 2) := by decide +kernel
theorem dX11_checkTree_29 : decode cX11_checkTree 29 = .ok (.ifCond .ne 15, 3) := by decide +kernel
theorem dX11_checkTree_32 : decode cX11_checkTree 32 = .ok (.aload_n 0, 1) := by decide +kernel
theorem dX11_checkTree_33 : decode cX11_checkTree 33 = .ok (.iload_n 1, 1) := by decide +kernel
theorem dX11_checkTree_34 : decode cX11_checkTree 34 = .ok (.iload_n 2, 1) := by decide +kernel
theorem dX11_checkTree_35 : decode cX11_checkTree 35 = .ok (.invokestatic 121, 3) := by decide +kernel
theorem dX11_checkTree_38 : decode cX11_checkTree 38 = .ok (.invokevirtual 456, 3) := by decide +kernel
theorem dX11_checkTree_41 : decode cX11_checkTree 41 = .ok (.goto 5, 3) := by decide +kernel
theorem dX11_checkTree_44 : decode cX11_checkTree 44 = .ok (.iload 4, 2) := by decide +kernel
theorem dX11_checkTree_46 : decode cX11_checkTree 46 = .ok (.ireturn, 1) := by decide +kernel
theorem dX11_checkBench_0 : decode cX11_checkBench 0 = .ok (.iload_n 1, 1) := by decide +kernel
theorem dX11_checkBench_1 : decode cX11_checkBench 1 = .ok (.iload_n 2, 1) := by decide +kernel
theorem dX11_checkBench_2 : decode cX11_checkBench 2 = .ok (.invokestatic 117, 3) := by decide +kernel
theorem dX11_checkBench_5 : decode cX11_checkBench 5 = .ok (.ifCond .ne 5, 3) := by decide +kernel
theorem dX11_checkBench_8 : decode cX11_checkBench 8 = .ok (.iconst 1, 1) := by decide +kernel
theorem dX11_checkBench_9 : decode cX11_checkBench 9 = .ok (.ireturn, 1) := by decide +kernel
theorem dX11_checkBench_10 : decode cX11_checkBench 10 = .ok (.aload_n 0, 1) := by decide +kernel
theorem dX11_checkBench_11 : decode cX11_checkBench 11 = .ok (.iload_n 1, 1) := by decide +kernel
theorem dX11_checkBench_12 : decode cX11_checkBench 12 = .ok (.iload_n 2, 1) := by decide +kernel
theorem dX11_checkBench_13 : decode cX11_checkBench 13 = .ok (.invokestatic 121, 3) := by decide +kernel
theorem dX11_checkBench_16 : decode cX11_checkBench 16 = .ok (.invokevirtual 450, 3) := by decide +kernel
theorem dX11_checkBench_19 : decode cX11_checkBench 19 = .ok (.istore_n 3, 1) := by decide +kernel
theorem dX11_checkBench_20 : decode cX11_checkBench 20 = .ok (.iload_n 3, 1) := by decide +kernel
theorem dX11_checkBench_21 : decode cX11_checkBench 21 = .ok (.ifCond .ne 15, 3) := by decide +kernel
theorem dX11_checkBench_24 : decode cX11_checkBench 24 = .ok (.aload_n 0, 1) := by decide +kernel
theorem dX11_checkBench_25 : decode cX11_checkBench 25 = .ok (.iload_n 1, 1) := by decide +kernel
theorem dX11_checkBench_26 : decode cX11_checkBench 26 = .ok (.iload_n 2, 1) := by decide +kernel
theorem dX11_checkBench_27 : decode cX11_checkBench 27 = .ok (.invokestatic 121, 3) := by decide +kernel
theorem dX11_checkBench_30 : decode cX11_checkBench 30 = .ok (.invokevirtual 453, 3) := by decide +kernel
theorem dX11_checkBench_33 : decode cX11_checkBench 33 = .ok (.goto 4, 3) := by decide +kernel
theorem dX11_checkBench_36 : decode cX11_checkBench 36 = .ok (.iload_n 3, 1) := by decide +kernel
theorem dX11_checkBench_37 : decode cX11_checkBench 37 = .ok (.ireturn, 1) := by decide +kernel
theorem dX11_checkWind_0 : decode cX11_checkWind 0 = .ok (.iload_n 1, 1) := by decide +kernel
theorem dX11_checkWind_1 : decode cX11_checkWind 1 = .ok (.ifCond .lt 13, 3) := by decide +kernel
theorem dX11_checkWind_4 : decode cX11_checkWind 4 = .ok (.iload_n 1, 1) := by decide +kernel
theorem dX11_checkWind_5 : decode cX11_checkWind 5 = .ok (.bipush 8, 2) := by decide +kernel
theorem dX11_checkWind_7 : decode cX11_checkWind 7 = .ok (.if_icmp .ge 7, 3) := by decide +kernel
theorem dX11_checkWind_10 : decode cX11_checkWind 10 = .ok (.iconst 1, 1) := by decide +kernel
theorem dX11_checkWind_11 : decode cX11_checkWind 11 = .ok (.goto 4, 3) := by decide +kernel
theorem dX11_checkWind_14 : decode cX11_checkWind 14 = .ok (.iconst 0, 1) := by decide +kernel
theorem dX11_checkWind_15 : decode cX11_checkWind 15 = .ok (.istore_n 3, 1) := by decide +kernel
theorem dX11_checkWind_16 : decode cX11_checkWind 16 = .ok (.iload_n 2, 1) := by decide +kernel
theorem dX11_checkWind_17 : decode cX11_checkWind 17 = .ok (.ifCond .lt 12, 3) := by decide +kernel
theorem dX11_checkWind_20 : decode cX11_checkWind 20 = .ok (.iload_n 2, 1) := by decide +kernel
theorem dX11_checkWind_21 : decode cX11_checkWind 21 = .ok (.iconst 3, 1) := by decide +kernel
theorem dX11_checkWind_22 : decode cX11_checkWind 22 = .ok (.if_icmp .gt 7, 3) := by decide +kernel
theorem dX11_checkWind_25 : decode cX11_checkWind 25 = .ok (.iconst 1, 1) := by decide +kernel
theorem dX11_checkWind_26 : decode cX11_checkWind 26 = .ok (.goto 4, 3) := by decide +kernel
theorem dX11_checkWind_29 : decode cX11_checkWind 29 = .ok (.iconst 0, 1) := by decide +kernel
theorem dX11_checkWind_30 : decode cX11_checkWind 30 = .ok (.istore 4, 2) := by decide +kernel
theorem dX11_checkWind_32 : decode cX11_checkWind 32 = .ok (.iload_n 3, 1) := by decide +kernel
theorem dX11_checkWind_33 : decode cX11_checkWind 33 = .ok (.ifCond .eq 12, 3) := by decide +kernel
theorem dX11_checkWind_36 : decode cX11_checkWind 36 = .ok (.iload 4, 2) := by decide +kernel
theorem dX11_checkWind_38 : decode cX11_checkWind 38 = .ok (.ifCond .eq 7, 3) := by decide +kernel
theorem dX11_checkWind_41 : decode cX11_checkWind 41 = .ok (.iconst 0, 1) := by decide +kernel
theorem dX11_checkWind_42 : decode cX11_checkWind 42 = .ok (.goto 4, 3) := by decide +kernel
theorem dX11_checkWind_45 : decode cX11_checkWind 45 = .ok (.iconst 2, 1) := by decide +kernel
theorem dX11_checkWind_46 : decode cX11_checkWind 46 = .ok (.ireturn, 1) := by decide +kernel
theorem dX11_checkNewParty_0 : decode cX11_checkNewParty 0 = .ok (.iload_n 1, 1) := by decide +kernel
theorem dX11_checkNewParty_1 : decode cX11_checkNewParty 1 = .ok (.iload_n 2, 1) := by decide +kernel
theorem dX11_checkNewParty_2 : decode cX11_checkNewParty 2 = .ok (.invokestatic 117, 3) := by decide +kernel
theorem dX11_checkNewParty_5 : decode cX11_checkNewParty 5 = .ok (.ifCond .ne 5, 3) := by decide +kernel
theorem dX11_checkNewParty_8 : decode cX11_checkNewParty 8 = .ok (.iconst 1, 1) := by decide +kernel
theorem dX11_checkNewParty_9 : decode cX11_checkNewParty 9 = .ok (.ireturn, 1) := by decide +kernel
theorem dX11_checkNewParty_10 : decode cX11_checkNewParty 10 = .ok (.aload_n 0, 1) := by decide +kernel
theorem dX11_checkNewParty_11 : decode cX11_checkNewParty 11 = .ok (.getfield 12, 3) := by decide +kernel
theorem dX11_checkNewParty_14 : decode cX11_checkNewParty 14 = .ok (.getfield 100, 3) := by decide +kernel
theorem dX11_checkNewParty_17 : decode cX11_checkNewParty 17 = .ok (.getfield 169, 3) := by decide +kernel
theorem dX11_checkNewParty_20 : decode cX11_checkNewParty 20 = .ok (.bipush 8, 2) := by decide +kernel
theorem dX11_checkNewParty_22 : decode cX11_checkNewParty 22 = .ok (.if_icmp .lt 5, 3) := by decide +kernel
theorem dX11_checkNewParty_25 : decode cX11_checkNewParty 25 = .ok (.iconst 3, 1) := by decide +kernel
theorem dX11_checkNewParty_26 : decode cX11_checkNewParty 26 = .ok (.ireturn, 1) := by decide +kernel
theorem dX11_checkNewParty_27 : decode cX11_checkNewParty 27 = .ok (.aload_n 0, 1) := by decide +kernel
theorem dX11_checkNewParty_28 : decode cX11_checkNewParty 28 = .ok (.iload_n 1, 1) := by decide +kernel
theorem dX11_checkNewParty_29 : decode cX11_checkNewParty 29 = .ok (.iload_n 2, 1) := by decide +kernel
theorem dX11_checkNewParty_30 : decode cX11_checkNewParty 30 = .ok (.invokestatic 121, 3) := by decide +kernel
theorem dX11_checkNewParty_33 : decode cX11_checkNewParty 33 = .ok (.invokevirtual 459, 3) := by decide +kernel
theorem dX11_checkNewParty_36 : decode cX11_checkNewParty 36 = .ok (.ireturn, 1) := by decide +kernel
theorem dX11_checkMove_0 : decode cX11_checkMove 0 = .ok (.aload_n 0, 1) := by decide +kernel
theorem dX11_checkMove_1 : decode cX11_checkMove 1 = .ok (.getfield 12, 3) := by decide +kernel
theorem dX11_checkMove_4 : decode cX11_checkMove 4 = .ok (.getfield 100, 3) := by decide +kernel
theorem dX11_checkMove_7 : decode cX11_checkMove 7 = .ok (.iload_n 1, 1) := by decide +kernel
