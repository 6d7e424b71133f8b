theorem dX11_checkMove_8 : decode cX11_checkMove 8 = .ok (.invokevirtual 172, 3) := by decide +kernel
theorem dX11_checkMove_11 : decode cX11_checkMove 11 = .ok (.ifCond .eq 11, 3) := by decide +kernel
theorem dX11_checkMove_14 : decode cX11_checkMove 14 = .ok (.iload_n 2, 1) := by decide +kernel
theorem dX11_checkMove_15 : decode cX11_checkMove 15 = .ok (.iload_n 3, 1) := by decide +kernel
theorem dX11_checkMove_16 : decode cX11_checkMove 16 = .ok (.invokestatic 117, 3) := by decide +kernel
theorem dX11_checkMove_19 : decode cX11_checkMove 19 = .ok (.ifCond .ne 5, 3) := by decide +kernel
theorem dX11_checkMove_22 : decode cX11_checkMove 22 = .ok (.iconst 1, 1) := by decide +kernel
theorem dX11_checkMove_23 : decode cX11_checkMove 23 = .ok (.ireturn, 1) := by decide +kernel
theorem dX11_checkMove_24 : decode cX11_checkMove 24 = .ok (.aload_n 0, 1) := by decide +kernel
theorem dX11_checkMove_25 : decode cX11_checkMove 25 = .ok (.getfield 12, 3) := by decide +kernel
theorem dX11_checkMove_28 : decode cX11_checkMove 28 = .ok (.getfield 100, 3) := by decide +kernel
theorem dX11_checkMove_31 : decode cX11_checkMove 31 = .ok (.getfield 178, 3) := by decide +kernel
theorem dX11_checkMove_34 : decode cX11_checkMove 34 = .ok (.iload_n 1, 1) := by decide +kernel
theorem dX11_checkMove_35 : decode cX11_checkMove 35 = .ok (.iaload, 1) := by decide +kernel
theorem dX11_checkMove_36 : decode cX11_checkMove 36 = .ok (.iload_n 2, 1) := by decide +kernel
theorem dX11_checkMove_37 : decode cX11_checkMove 37 = .ok (.iload_n 3, 1) := by decide +kernel
theorem dX11_checkMove_38 : decode cX11_checkMove 38 = .ok (.invokestatic 121, 3) := by decide +kernel
theorem dX11_checkMove_41 : decode cX11_checkMove 41 = .ok (.if_icmp .ne 7, 3) := by decide +kernel
theorem dX11_checkMove_44 : decode cX11_checkMove 44 = .ok (.iconst 1, 1) := by decide +kernel
theorem dX11_checkMove_45 : decode cX11_checkMove 45 = .ok (.goto 4, 3) := by decide +kernel
theorem dX11_checkMove_48 : decode cX11_checkMove 48 = .ok (.iconst 0, 1) := by decide +kernel
theorem dX11_checkMove_49 : decode cX11_checkMove 49 = .ok (.istore 4, 2) := by decide +kernel
theorem dX11_checkMove_51 : decode cX11_checkMove 51 = .ok (.iload 4, 2) := by decide +kernel
theorem dX11_checkMove_53 : decode cX11_checkMove 53 = .ok (.ifCond .eq 7, 3) := by decide +kernel
theorem dX11_checkMove_56 : decode cX11_checkMove 56 = .ok (.iconst 0, 1) := by decide +kernel
theorem dX11_checkMove_57 : decode cX11_checkMove 57 = .ok (.goto 12, 3) := by decide +kernel
theorem dX11_checkMove_60 : decode cX11_checkMove 60 = .ok (.aload_n 0, 1) := by decide +kernel
theorem dX11_checkMove_61 : decode cX11_checkMove 61 = .ok (.iload_n 2, 1) := by decide +kernel
theorem dX11_checkMove_62 : decode cX11_checkMove 62 = .ok (.iload_n 3, 1) := by decide +kernel
theorem dX11_checkMove_63 : decode cX11_checkMove 63 = .ok (.invokestatic 121, 3) := by decide +kernel
theorem dX11_checkMove_66 : decode cX11_checkMove 66 = .ok (.invokevirtual 459, 3) := by decide +kernel
theorem dX11_checkMove_69 : decode cX11_checkMove 69 = .ok (.ireturn, 1) := by decide +kernel
theorem dX11_checkSummons_0 : decode cX11_checkSummons 0 = .ok (.aload_n 0, 1) := by decide +kernel
theorem dX11_checkSummons_1 : decode cX11_checkSummons 1 = .ok (.getfield 12, 3) := by decide +kernel
theorem dX11_checkSummons_4 : decode cX11_checkSummons 4 = .ok (.getfield 100, 3) := by decide +kernel
theorem dX11_checkSummons_7 : decode cX11_checkSummons 7 = .ok (.iload_n 1, 1) := by decide +kernel
theorem dX11_checkSummons_8 : decode cX11_checkSummons 8 = .ok (.invokevirtual 172, 3) := by decide +kernel
theorem dX11_checkSummons_11 : decode cX11_checkSummons 11 = .ok (.ifCond .ne 5, 3) := by decide +kernel
theorem dX11_checkSummons_14 : decode cX11_checkSummons 14 = .ok (.iconst 1, 1) := by decide +kernel
theorem dX11_checkSummons_15 : decode cX11_checkSummons 15 = .ok (.ireturn, 1) := by decide +kernel
theorem dX11_checkSummons_16 : decode cX11_checkSummons 16 = .ok (.iload_n 2, 1) := by decide +kernel
theorem dX11_checkSummons_17 : decode cX11_checkSummons 17 = .ok (.invokestatic 199, 3) := by decide +kernel
theorem dX11_checkSummons_20 : decode cX11_checkSummons 20 = .ok (.ifCond .ne 5, 3) := by decide +kernel
theorem dX11_checkSummons_23 : decode cX11_checkSummons 23 = .ok (.iconst 2, 1) := by decide +kernel
theorem dX11_checkSummons_24 : decode cX11_checkSummons 24 = .ok (.ireturn, 1) := by decide +kernel
theorem dX11_checkSummons_25 : decode cX11_checkSummons 25 = .ok (.aload_n 0, 1) := by decide +kernel
theorem dX11_checkSummons_26 : decode cX11_checkSummons 26 = .ok (.getfield 12, 3) := by decide +kernel
theorem dX11_checkSummons_29 : decode cX11_checkSummons 29 = .ok (.getfield 190, 3) := by decide +kernel
theorem dX11_checkSummons_32 : decode cX11_checkSummons 32 = .ok (.getfield 252, 3) := by decide +kernel
theorem dX11_checkSummons_35 : decode cX11_checkSummons 35 = .ok (.ifCond .gt 19, 3) := by decide +kernel
theorem dX11_checkSummons_38 : decode cX11_checkSummons 38 = .ok (.aload_n 0, 1) := by decide +kernel
theorem dX11_checkSummons_39 : decode cX11_checkSummons 39 = .ok (.iconst 4, 1) := by decide +kernel
theorem dX11_checkSummons_40 : decode cX11_checkSummons 40 = .ok (.aload_n 0, 1) := by decide +kernel
theorem dX11_checkSummons_41 : decode cX11_checkSummons 41 = .ok (.getfield 12, 3) := by decide +kernel
theorem dX11_checkSummons_44 : decode cX11_checkSummons 44 = .ok (.getfield 190, 3) := by decide +kernel
theorem dX11_checkSummons_47 : decode cX11_checkSummons 47 = .ok (.getfield 312, 3) := by decide +kernel
theorem dX11_checkSummons_50 : decode cX11_checkSummons 50 = .ok (.invokevirtual 447, 3) := by decide +kernel
theorem dX11_checkSummons_53 : decode cX11_checkSummons 53 = .ok (.ireturn, 1) := by decide +kernel
theorem dX11_checkSummons_54 : decode cX11_checkSummons 54 = .ok (.aload_n 0, 1) := by decide +kernel
theorem dX11_checkSummons_55 : decode cX11_checkSummons 55 = .ok (.getfield 12, 3) := by decide +kernel
theorem dX11_checkSummons_58 : decode cX11_checkSummons 58 = .ok (.getfield 260, 3) := by decide +kernel
theorem dX11_checkSummons_61 : decode cX11_checkSummons 61 = .ok (.iload_n 1, 1) := by decide +kernel
theorem dX11_checkSummons_62 : decode cX11_checkSummons 62 = .ok (.invokevirtual 462, 3) := by decide +kernel
theorem dX11_checkSummons_65 : decode cX11_checkSummons 65 = .ok (.istore_n 3, 1) := by decide +kernel
theorem dX11_checkSummons_66 : decode cX11_checkSummons 66 = .ok (.iload_n 3, 1) := by decide +kernel
theorem dX11_checkSummons_67 : decode cX11_checkSummons 67 = .ok (.iconst (-1), 1) := by decide +kernel
theorem dX11_checkSummons_68 : decode cX11_checkSummons 68 = .ok (.if_icmp .eq 12, 3) := by decide +kernel
theorem dX11_checkSummons_71 : decode cX11_checkSummons 71 = .ok (.aload_n 0, 1) := by decide +kernel
theorem dX11_checkSummons_72 : decode cX11_checkSummons 72 = .ok (.iconst 5, 1) := by decide +kernel
theorem dX11_checkSummons_73 : decode cX11_checkSummons 73 = .ok (.iload_n 3, 1) := by decide +kernel
theorem dX11_checkSummons_74 : decode cX11_checkSummons 74 = .ok (.invokevirtual 447, 3) := by decide +kernel
theorem dX11_checkSummons_77 : decode cX11_checkSummons 77 = .ok (.goto 4, 3) := by decide +kernel
theorem dX11_checkSummons_80 : decode cX11_checkSummons 80 = .ok (.iconst 0, 1) := by decide +kernel
theorem dX11_checkSummons_81 : decode cX11_checkSummons 81 = .ok (.ireturn, 1) := by decide +kernel
theorem dX11_checkPurchase_0 : decode cX11_checkPurchase 0 = .ok (.iload_n 1, 1) := by decide +kernel
theorem dX11_checkPurchase_1 : decode cX11_checkPurchase 1 = .ok (.iconst 1, 1) := by decide +kernel
theorem dX11_checkPurchase_2 : decode cX11_checkPurchase 2 = .ok (.if_icmp .lt 9, 3) := by decide +kernel
theorem dX11_checkPurchase_5 : decode cX11_checkPurchase 5 = .ok (.iload_n 1, 1) := by decide +kernel
theorem dX11_checkPurchase_6 : decode cX11_checkPurchase 6 = .ok (.bipush 20, 2) := by decide +kernel
theorem dX11_checkPurchase_8 : decode cX11_checkPurchase 8 = .ok (.if_icmp .le 5, 3) := by decide +kernel
theorem dX11_checkPurchase_11 : decode cX11_checkPurchase 11 = .ok (.iconst 2, 1) := by decide +kernel
theorem dX11_checkPurchase_12 : decode cX11_checkPurchase 12 = .ok (.ireturn, 1) := by decide +kernel
theorem dX11_checkPurchase_13 : decode cX11_checkPurchase 13 = .ok (.aload_n 0, 1) := by decide +kernel
theorem dX11_checkPurchase_14 : decode cX11_checkPurchase 14 = .ok (.getfield 12, 3) := by decide +kernel
theorem dX11_checkPurchase_17 : decode cX11_checkPurchase 17 = .ok (.getfield 190, 3) := by decide +kernel
theorem dX11_checkPurchase_20 : decode cX11_checkPurchase 20 = .ok (.getfield 312, 3) := by decide +kernel
theorem dX11_checkPurchase_23 : decode cX11_checkPurchase 23 = .ok (.iconst 2, 1) := by decide +kernel
theorem dX11_checkPurchase_24 : decode cX11_checkPurchase 24 = .ok (.iload_n 1, 1) := by decide +kernel
theorem dX11_checkPurchase_25 : decode cX11_checkPurchase 25 = .ok (.imul, 1) := by decide +kernel
theorem dX11_checkPurchase_26 : decode cX11_checkPurchase 26 = .ok (.if_icmp .ge 7, 3) := by decide +kernel
theorem dX11_checkPurchase_29 : decode cX11_checkPurchase 29 = .ok (.iconst 3, 1) := by decide +kernel
theorem dX11_checkPurchase_30 : decode cX11_checkPurchase 30 = .ok (.goto 4, 3) := by decide +kernel
theorem dX11_checkPurchase_33 : decode cX11_checkPurchase 33 = .ok (.iconst 0, 1) := by decide +kernel
theorem dX11_checkPurchase_34 : decode cX11_checkPurchase 34 = .ok (.ireturn, 1) := by decide +kernel
theorem dX11_checkHearing_0 : decode cX11_checkHearing 0 = .ok (.aload_n 0, 1) := by decide +kernel
theorem dX11_checkHearing_1 : decode cX11_checkHearing 1 = .ok (.getfield 12, 3) := by decide +kernel
theorem dX11_checkHearing_4 : decode cX11_checkHearing 4 = .ok (.getfield 260, 3) := by decide +kernel
theorem dX11_checkHearing_7 : decode cX11_checkHearing 7 = .ok (.astore_n 2, 1) := by decide +kernel
theorem dX11_checkHearing_8 : decode cX11_checkHearing 8 = .ok (.aload_n 2, 1) := by decide +kernel
theorem dX11_checkHearing_9 : decode cX11_checkHearing 9 = .ok (.iload_n 1, 1) := by decide +kernel
theorem dX11_checkHearing_10 : decode cX11_checkHearing 10 = .ok (.invokevirtual 275, 3) := by decide +kernel
theorem dX11_checkHearing_13 : decode cX11_checkHearing 13 = .ok (.ifCond .ne 5, 3) := by decide +kernel
theorem dX11_checkHearing_16 : decode cX11_checkHearing 16 = .ok (.iconst 1, 1) := by decide +kernel
theorem dX11_checkHearing_17 : decode cX11_checkHearing 17 = .ok (.ireturn, 1) := by decide +kernel
theorem dX11_checkHearing_18 : decode cX11_checkHearing 18 = .ok (.aload_n 2, 1) := by decide +kernel
theorem dX11_checkHearing_19 : decode cX11_checkHearing 19 = .ok (.aload_n 2, 1) := by decide +kernel
theorem dX11_checkHearing_20 : decode cX11_checkHearing 20 = .ok (.getfield 309, 3) := by decide +kernel
theorem dX11_checkHearing_23 : decode cX11_checkHearing 23 = .ok (.invokevirtual 264, 3) := by decide +kernel
theorem dX11_checkHearing_26 : decode cX11_checkHearing 26 = .ok (.ifCond .ne 17, 3) := by decide +kernel
theorem dX11_checkHearing_29 : decode cX11_checkHearing 29 = .ok (.aload_n 0, 1) := by decide +kernel
theorem dX11_checkHearing_30 : decode cX11_checkHearing 30 = .ok (.bipush 6, 2) := by decide +kernel
theorem dX11_checkHearing_32 : decode cX11_checkHearing 32 = .ok (.aload_n 2, 1) := by decide +kernel
theorem dX11_checkHearing_33 : decode cX11_checkHearing 33 = .ok (.getfield 309, 3) := by decide +kernel
theorem dX11_checkHearing_36 : decode cX11_checkHearing 36 = .ok (.bipush 24, 2) := by decide +kernel
theorem dX11_checkHearing_38 : decode cX11_checkHearing 38 = .ok (.irem, 1) := by decide +kernel
theorem dX11_checkHearing_39 : decode cX11_checkHearing 39 = .ok (.invokevirtual 447, 3) := by decide +kernel
theorem dX11_checkHearing_42 : decode cX11_checkHearing 42 = .ok (.ireturn, 1) := by decide +kernel
theorem dX11_checkHearing_43 : decode cX11_checkHearing 43 = .ok (.aload_n 2, 1) := by decide +kernel
theorem dX11_checkHearing_44 : decode cX11_checkHearing 44 = .ok (.getfield 282, 3) := by decide +kernel
theorem dX11_checkHearing_47 : decode cX11_checkHearing 47 = .ok (.iload_n 1, 1) := by decide +kernel
theorem dX11_checkHearing_48 : decode cX11_checkHearing 48 = .ok (.iaload, 1) := by decide +kernel
theorem dX11_checkHearing_49 : decode cX11_checkHearing 49 = .ok (.aload_n 2, 1) := by decide +kernel
theorem dX11_checkHearing_50 : decode cX11_checkHearing 50 = .ok (.getfield 309, 3) := by decide +kernel
theorem dX11_checkHearing_53 : decode cX11_checkHearing 53 = .ok (.isub, 1) := by decide +kernel
theorem dX11_checkHearing_54 : decode cX11_checkHearing 54 = .ok (.istore_n 3, 1) := by decide +kernel
theorem dX11_checkHearing_55 : decode cX11_checkHearing 55 = .ok (.iload_n 3, 1) := by decide +kernel
theorem dX11_checkHearing_56 : decode cX11_checkHearing 56 = .ok (.ifCond .le 13, 3) := by decide +kernel
theorem dX11_checkHearing_59 : decode cX11_checkHearing 59 = .ok (.aload_n 0, 1) := by decide +kernel
theorem dX11_checkHearing_60 : decode cX11_checkHearing 60 = .ok (.bipush 7, 2) := by decide +kernel
theorem dX11_checkHearing_62 : decode cX11_checkHearing 62 = .ok (.iload_n 3, 1) := by decide +kernel
theorem dX11_checkHearing_63 : decode cX11_checkHearing 63 = .ok (.invokevirtual 447, 3) := by decide +kernel
theorem dX11_checkHearing_66 : decode cX11_checkHearing 66 = .ok (.goto 4, 3) := by decide +kernel
theorem dX11_checkHearing_69 : decode cX11_checkHearing 69 = .ok (.iconst 0, 1) := by decide +kernel
theorem dX11_checkHearing_70 : decode cX11_checkHearing 70 = .ok (.ireturn, 1) := by decide +kernel
theorem dX11_checkPassing_0 : decode cX11_checkPassing 0 = .ok (.iload_n 1, 1) := by decide +kernel
theorem dX11_checkPassing_1 : decode cX11_checkPassing 1 = .ok (.iconst 1, 1) := by decide +kernel
theorem dX11_checkPassing_2 : decode cX11_checkPassing 2 = .ok (.if_icmp .lt 13, 3) := by decide +kernel
theorem dX11_checkPassing_5 : decode cX11_checkPassing 5 = .ok (.iload_n 1, 1) := by decide +kernel
theorem dX11_checkPassing_6 : decode cX11_checkPassing 6 = .ok (.bipush 48, 2) := by decide +kernel
theorem dX11_checkPassing_8 : decode cX11_checkPassing 8 = .ok (.if_icmp .gt 7, 3) := by decide +kernel
theorem dX11_checkPassing_11 : decode cX11_checkPassing 11 = .ok (.iconst 0, 1) := by decide +kernel
theorem dX11_checkPassing_12 : decode cX11_checkPassing 12 = .ok (.goto 4, 3) := by decide +kernel
theorem dX11_checkPassing_15 : decode cX11_checkPassing 15 = .ok (.iconst 2, 1) := by decide +kernel
theorem dX11_checkPassing_16 : decode cX11_checkPassing 16 = .ok (.ireturn, 1) := by decide +kernel
theorem dX11_plant_0 : decode cX11_plant 0 = .ok (.lconst 1, 1) := by decide +kernel
theorem dX11_plant_1 : decode cX11_plant 1 = .ok (.iload_n 1, 1) := by decide +kernel
theorem dX11_plant_2 : decode cX11_plant 2 = .ok (.iload_n 2, 1) := by decide +kernel
theorem dX11_plant_3 : decode cX11_plant 3 = .ok (.invokestatic 121, 3) := by decide +kernel
theorem dX11_plant_6 : decode cX11_plant 6 = .ok (.lshl, 1) := by decide +kernel
theorem dX11_plant_7 : decode cX11_plant 7 = .ok (.lstore 4, 2) := by decide +kernel
theorem dX11_plant_9 : decode cX11_plant 9 = .ok (.aload_n 0, 1) := by decide +kernel
theorem dX11_plant_10 : decode cX11_plant 10 = .ok (.getfield 12, 3) := by decide +kernel
theorem dX11_plant_13 : decode cX11_plant 13 = .ok (.getfield 100, 3) := by decide +kernel
theorem dX11_plant_16 : decode cX11_plant 16 = .ok (.iload_n 3, 1) := by decide +kernel
theorem dX11_plant_17 : decode cX11_plant 17 = .ok (.ifCond .eq 19, 3) := by decide +kernel
theorem dX11_plant_20 : decode cX11_plant 20 = .ok (.aload_n 0, 1) := by decide +kernel
theorem dX11_plant_21 : decode cX11_plant 21 = .ok (.getfield 12, 3) := by decide +kernel
theorem dX11_plant_24 : decode cX11_plant 24 = .ok (.getfield 100, 3) := by decide +kernel
theorem dX11_plant_27 : decode cX11_plant 27 = .ok (.getfield 104, 3) := by decide +kernel
theorem dX11_plant_30 : decode cX11_plant 30 = .ok (.lload 4, 2) := by decide +kernel
theorem dX11_plant_32 : decode cX11_plant 32 = .ok (.lor, 1) := by decide +kernel
theorem dX11_plant_33 : decode cX11_plant 33 = .ok (.goto 20, 3) := by decide +kernel
theorem dX11_plant_36 : decode cX11_plant 36 = .ok (.aload_n 0, 1) := by decide +kernel
theorem dX11_plant_37 : decode cX11_plant 37 = .ok (.getfield 12, 3) := by decide +kernel
theorem dX11_plant_40 : decode cX11_plant 40 = .ok (.getfield 100, 3) := by decide +kernel
theorem dX11_plant_43 : decode cX11_plant 43 = .ok (.getfield 104, 3) := by decide +kernel
theorem dX11_plant_46 : decode cX11_plant 46 = .ok (.lload 4, 2) := by decide +kernel
theorem dX11_plant_48 : decode cX11_plant 48 = .ok (.ldc2_w 465, 3) := by decide +kernel
theorem dX11_plant_51 : decode cX11_plant 51 = .ok (.lxor, 1) := by decide +kernel
theorem dX11_plant_52 : decode cX11_plant 52 = .ok (.land, 1) := by decide +kernel
theorem dX11_plant_53 : decode cX11_plant 53 = .ok (.putfield 104, 3) := by decide +kernel
theorem dX11_plant_56 : decode cX11_plant 56 = .ok (.aload_n 0, 1) := by decide +kernel
theorem dX11_plant_57 : decode cX11_plant 57 = .ok (.getfield 12, 3) := by decide +kernel
theorem dX11_plant_60 : decode cX11_plant 60 = .ok (.getfield 100, 3) := by decide +kernel
theorem dX11_plant_63 : decode cX11_plant 63 = .ok (.getfield 104, 3) := by decide +kernel
theorem dX11_plant_66 : decode cX11_plant 66 = .ok (.invokestatic 467, 3) := by decide +kernel
theorem dX11_plant_69 : decode cX11_plant 69 = .ok (.ireturn, 1) := by decide +kernel
theorem dX11_placeBench_0 : decode cX11_placeBench 0 = .ok (.aload_n 0, 1) := by decide +kernel
theorem dX11_placeBench_1 : decode cX11_placeBench 1 = .ok (.getfield 12, 3) := by decide +kernel
theorem dX11_placeBench_4 : decode cX11_placeBench 4 = .ok (.getfield 100, 3) := by decide +kernel
theorem dX11_placeBench_7 : decode cX11_placeBench 7 = .ok (.getfield 142, 3) := by decide +kernel
theorem dX11_placeBench_10 : decode cX11_placeBench 10 = .ok (.istore_n 3, 1) := by decide +kernel
theorem dX11_placeBench_11 : decode cX11_placeBench 11 = .ok (.aload_n 0, 1) := by decide +kernel
theorem dX11_placeBench_12 : decode cX11_placeBench 12 = .ok (.getfield 12, 3) := by decide +kernel
theorem dX11_placeBench_15 : decode cX11_placeBench 15 = .ok (.getfield 100, 3) := by decide +kernel
theorem dX11_placeBench_18 : decode cX11_placeBench 18 = .ok (.iload_n 1, 1) := by decide +kernel
theorem dX11_placeBench_19 : decode cX11_placeBench 19 = .ok (.iload_n 2, 1) := by decide +kernel
theorem dX11_placeBench_20 : decode cX11_placeBench 20 = .ok (.invokestatic 121, 3) := by decide +kernel
theorem dX11_placeBench_23 : decode cX11_placeBench 23 = .ok (.putfield 142, 3) := by decide +kernel
theorem dX11_placeBench_26 : decode cX11_placeBench 26 = .ok (.iload_n 3, 1) := by decide +kernel
theorem dX11_placeBench_27 : decode cX11_placeBench 27 = .ok (.ireturn, 1) := by decide +kernel
theorem dX11_turnWind_0 : decode cX11_turnWind 0 = .ok (.bipush 10, 2) := by decide +kernel
theorem dX11_turnWind_2 : decode cX11_turnWind 2 = .ok (.aload_n 0, 1) := by decide +kernel
theorem dX11_turnWind_3 : decode cX11_turnWind 3 = .ok (.getfield 12, 3) := by decide +kernel
theorem dX11_turnWind_6 : decode cX11_turnWind 6 = .ok (.getfield 100, 3) := by decide +kernel
theorem dX11_turnWind_9 : decode cX11_turnWind 9 = .ok (.getfield 473, 3) := by decide +kernel
theorem dX11_turnWind_12 : decode cX11_turnWind 12 = .ok (.imul, 1) := by decide +kernel
theorem dX11_turnWind_13 : decode cX11_turnWind 13 = .ok (.aload_n 0, 1) := by decide +kernel
theorem dX11_turnWind_14 : decode cX11_turnWind 14 = .ok (.getfield 12, 3) := by decide +kernel
theorem dX11_turnWind_17 : decode cX11_turnWind 17 = .ok (.getfield 100, 3) := by decide +kernel
theorem dX11_turnWind_20 : decode cX11_turnWind 20 = .ok (.getfield 476, 3) := by decide +kernel
theorem dX11_turnWind_23 : decode cX11_turnWind 23 = .ok (.iadd, 1) := by decide +kernel
theorem dX11_turnWind_24 : decode cX11_turnWind 24 = .ok (.istore_n 3, 1) := by decide +kernel
theorem dX11_turnWind_25 : decode cX11_turnWind 25 = .ok (.aload_n 0, 1) := by decide +kernel
theorem dX11_turnWind_26 : decode cX11_turnWind 26 = .ok (.getfield 12, 3) := by decide +kernel
theorem dX11_turnWind_29 : decode cX11_turnWind 29 = .ok (.getfield 100, 3) := by decide +kernel
theorem dX11_turnWind_32 : decode cX11_turnWind 32 = .ok (.iload_n 1, 1) := by decide +kernel
theorem dX11_turnWind_33 : decode cX11_turnWind 33 = .ok (.putfield 473, 3) := by decide +kernel
theorem dX11_turnWind_36 : decode cX11_turnWind 36 = .ok (.aload_n 0, 1) := by decide +kernel
theorem dX11_turnWind_37 : decode cX11_turnWind 37 = .ok (.getfield 12, 3) := by decide +kernel
theorem dX11_turnWind_40 : decode cX11_turnWind 40 = .ok (.getfield 100, 3) := by decide +kernel
theorem dX11_turnWind_43 : decode cX11_turnWind 43 = .ok (.iload_n 2, 1) := by decide +kernel
theorem dX11_turnWind_44 : decode cX11_turnWind 44 = .ok (.putfield 476, 3) := by decide +kernel
theorem dX11_turnWind_47 : decode cX11_turnWind 47 = .ok (.iload_n 3, 1) := by decide +kernel
theorem dX11_turnWind_48 : decode cX11_turnWind 48 = .ok (.ireturn, 1) := by decide +kernel
theorem dX11_seatParty_0 : decode cX11_seatParty 0 = .ok (.aload_n 0, 1) := by decide +kernel
theorem dX11_seatParty_1 : decode cX11_seatParty 1 = .ok (.getfield 12, 3) := by decide +kernel
theorem dX11_seatParty_4 : decode cX11_seatParty 4 = .ok (.getfield 100, 3) := by decide +kernel
theorem dX11_seatParty_7 : decode cX11_seatParty 7 = .ok (.getfield 169, 3) := by decide +kernel
theorem dX11_seatParty_10 : decode cX11_seatParty 10 = .ok (.istore_n 3, 1) := by decide +kernel
theorem dX11_seatParty_11 : decode cX11_seatParty 11 = .ok (.iload_n 3, 1) := by decide +kernel
theorem dX11_seatParty_12 : decode cX11_seatParty 12 = .ok (.bipush 8, 2) := by decide +kernel
theorem dX11_seatParty_14 : decode cX11_seatParty 14 = .ok (.if_icmp .ge 36, 3) := by decide +kernel
theorem dX11_seatParty_17 : decode cX11_seatParty 17 = .ok (.aload_n 0, 1) := by decide +kernel
theorem dX11_seatParty_18 : decode cX11_seatParty 18 = .ok (.getfield 12, 3) := by decide +kernel
theorem dX11_seatParty_21 : decode cX11_seatParty 21 = .ok (.getfield 100, 3) := by decide +kernel
theorem dX11_seatParty_24 : decode cX11_seatParty 24 = .ok (.getfield 178, 3) := by decide +kernel
theorem dX11_seatParty_27 : decode cX11_seatParty 27 = .ok (.iload_n 3, 1) := by decide +kernel
theorem dX11_seatParty_28 : decode cX11_seatParty 28 = .ok (.iload_n 1, 1) := by decide +kernel
theorem dX11_seatParty_29 : decode cX11_seatParty 29 = .ok (.iload_n 2, 1) := by decide +kernel
theorem dX11_seatParty_30 : decode cX11_seatParty 30 = .ok (.invokestatic 121, 3) := by decide +kernel
theorem dX11_seatParty_33 : decode cX11_seatParty 33 = .ok (.iastore, 1) := by decide +kernel
theorem dX11_seatParty_34 : decode cX11_seatParty 34 = .ok (.aload_n 0, 1) := by decide +kernel
theorem dX11_seatParty_35 : decode cX11_seatParty 35 = .ok (.getfield 12, 3) := by decide +kernel
theorem dX11_seatParty_38 : decode cX11_seatParty 38 = .ok (.getfield 100, 3) := by decide +kernel
theorem dX11_seatParty_41 : decode cX11_seatParty 41 = .ok (.dup, 1) := by decide +kernel
theorem dX11_seatParty_42 : decode cX11_seatParty 42 = .ok (.getfield 169, 3) := by decide +kernel
theorem dX11_seatParty_45 : decode cX11_seatParty 45 = .ok (.iconst 1, 1) := by decide +kernel
theorem dX11_seatParty_46 : decode cX11_seatParty 46 = .ok (.iadd, 1) := by decide +kernel
theorem dX11_seatParty_47 : decode cX11_seatParty 47 = .ok (.putfield 169, 3) := by decide +kernel
theorem dX11_seatParty_50 : decode cX11_seatParty 50 = .ok (.iload_n 3, 1) := by decide +kernel
theorem dX11_seatParty_51 : decode cX11_seatParty 51 = .ok (.ireturn, 1) := by decide +kernel
theorem dX11_shiftParty_0 : decode cX11_shiftParty 0 = .ok (.aload_n 0, 1) := by decide +kernel
theorem dX11_shiftParty_1 : decode cX11_shiftParty 1 = .ok (.getfield 12, 3) := by decide +kernel
theorem dX11_shiftParty_4 : decode cX11_shiftParty 4 = .ok (.getfield 100, 3) := by decide +kernel
theorem dX11_shiftParty_7 : decode cX11_shiftParty 7 = .ok (.getfield 178, 3) := by decide +kernel
theorem dX11_shiftParty_10 : decode cX11_shiftParty 10 = .ok (.iload_n 1, 1) := by decide +kernel
theorem dX11_shiftParty_11 : decode cX11_shiftParty 11 = .ok (.iaload, 1) := by decide +kernel
theorem dX11_shiftParty_12 : decode cX11_shiftParty 12 = .ok (.istore 4, 2) := by decide +kernel
theorem dX11_shiftParty_14 : decode cX11_shiftParty 14 = .ok (.aload_n 0, 1) := by decide +kernel
theorem dX11_shiftParty_15 : decode cX11_shiftParty 15 = .ok (.getfield 12, 3) := by decide +kernel
theorem dX11_shiftParty_18 : decode cX11_shiftParty 18 = .ok (.getfield 100, 3) := by decide +kernel
theorem dX11_shiftParty_21 : decode cX11_shiftParty 21 = .ok (.getfield 178, 3) := by decide +kernel
theorem dX11_shiftParty_24 : decode cX11_shiftParty 24 = .ok (.iload_n 1, 1) := by decide +kernel
theorem dX11_shiftParty_25 : decode cX11_shiftParty 25 = .ok (.iload_n 2, 1) := by decide +kernel
theorem dX11_shiftParty_26 : decode cX11_shiftParty 26 = .ok (.iload_n 3, 1) := by decide +kernel
theorem dX11_shiftParty_27 : decode cX11_shiftParty 27 = .ok (.invokestatic 121, 3) := by decide +kernel
theorem dX11_shiftParty_30 : decode cX11_shiftParty 30 = .ok (.iastore, 1) := by decide +kernel
theorem dX11_shiftParty_31 : decode cX11_shiftParty 31 = .ok (.iload 4, 2) := by decide +kernel
theorem dX11_shiftParty_33 : decode cX11_shiftParty 33 = .ok (.ireturn, 1) := by decide +kernel
theorem dX11_throwAt_0 : decode cX11_throwAt 0 = .ok (.aload_n 0, 1) := by decide +kernel
theorem dX11_throwAt_1 : decode cX11_throwAt 1 = .ok (.getfield 32, 3) := by decide +kernel
theorem dX11_throwAt_4 : decode cX11_throwAt 4 = .ok (.aload_n 0, 1) := by decide +kernel
theorem dX11_throwAt_5 : decode cX11_throwAt 5 = .ok (.getfield 12, 3) := by decide +kernel
theorem dX11_throwAt_8 : decode cX11_throwAt 8 = .ok (.getfield 100, 3) := by decide +kernel
theorem dX11_throwAt_11 : decode cX11_throwAt 11 = .ok (.iload_n 2, 1) := by decide +kernel
theorem dX11_throwAt_12 : decode cX11_throwAt 12 = .ok (.invokevirtual 204, 3) := by decide +kernel
theorem dX11_throwAt_15 : decode cX11_throwAt 15 = .ok (.aload_n 0, 1) := by decide +kernel
theorem dX11_throwAt_16 : decode cX11_throwAt 16 = .ok (.getfield 32, 3) := by decide +kernel
theorem dX11_throwAt_19 : decode cX11_throwAt 19 = .ok (.aload_n 0, 1) := by decide +kernel
theorem dX11_throwAt_20 : decode cX11_throwAt 20 = .ok (.getfield 12, 3) := by decide +kernel
theorem dX11_throwAt_23 : decode cX11_throwAt 23 = .ok (.getfield 100, 3) := by decide +kernel
theorem dX11_throwAt_26 : decode cX11_throwAt 26 = .ok (.getfield 178, 3) := by decide +kernel
theorem dX11_throwAt_29 : decode cX11_throwAt 29 = .ok (.iload_n 1, 1) := by decide +kernel
theorem dX11_throwAt_30 : decode cX11_throwAt 30 = .ok (.iaload, 1) := by decide +kernel
theorem dX11_throwAt_31 : decode cX11_throwAt 31 = .ok (.invokevirtual 223, 3) := by decide +kernel
theorem dX11_throwAt_34 : decode cX11_throwAt 34 = .ok (.istore_n 3, 1) := by decide +kernel
theorem dX11_throwAt_35 : decode cX11_throwAt 35 = .ok (.iload_n 3, 1) := by decide +kernel
theorem dX11_throwAt_36 : decode cX11_throwAt 36 = .ok (.iconst (-1), 1) := by decide +kernel
theorem dX11_throwAt_37 : decode cX11_throwAt 37 = .ok (.if_icmp .eq 7, 3) := by decide +kernel
theorem dX11_throwAt_40 : decode cX11_throwAt 40 = .ok (.iconst 1, 1) := by decide +kernel
theorem dX11_throwAt_41 : decode cX11_throwAt 41 = .ok (.goto 4, 3) := by decide +kernel
theorem dX11_throwAt_44 : decode cX11_throwAt 44 = .ok (.iconst 0, 1) := by decide +kernel
theorem dX11_throwAt_45 : decode cX11_throwAt 45 = .ok (.istore 4, 2) := by decide +kernel
theorem dX11_throwAt_47 : decode cX11_throwAt 47 = .ok (.iload 4, 2) := by decide +kernel
theorem dX11_throwAt_49 : decode cX11_throwAt 49 = .ok (.ifCond .ne 19, 3) := by decide +kernel
theorem dX11_throwAt_52 : decode cX11_throwAt 52 = .ok (.aload_n 0, 1) := by decide +kernel
theorem dX11_throwAt_53 : decode cX11_throwAt 53 = .ok (.getfield 32, 3) := by decide +kernel
theorem dX11_throwAt_56 : decode cX11_throwAt 56 = .ok (.getfield 216, 3) := by decide +kernel
theorem dX11_throwAt_59 : decode cX11_throwAt 59 = .ok (.bipush 99, 2) := by decide +kernel
theorem dX11_throwAt_61 : decode cX11_throwAt 61 = .ok (.if_icmp .ne 7, 3) := by decide +kernel
theorem dX11_throwAt_64 : decode cX11_throwAt 64 = .ok (.iconst 1, 1) := by decide +kernel
theorem dX11_throwAt_65 : decode cX11_throwAt 65 = .ok (.goto 4, 3) := by decide +kernel
theorem dX11_throwAt_68 : decode cX11_throwAt 68 = .ok (.iconst 0, 1) := by decide +kernel
theorem dX11_throwAt_69 : decode cX11_throwAt 69 = .ok (.istore 5, 2) := by decide +kernel
theorem dX11_throwAt_71 : decode cX11_throwAt 71 = .ok (.aload_n 0, 1) := by decide +kernel
theorem dX11_throwAt_72 : decode cX11_throwAt 72 = .ok (.getfield 12, 3) := by decide +kernel
theorem dX11_throwAt_75 : decode cX11_throwAt 75 = .ok (.getfield 190, 3) := by decide +kernel
theorem dX11_throwAt_78 : decode cX11_throwAt 78 = .ok (.iload_n 2, 1) := by decide +kernel
theorem dX11_throwAt_79 : decode cX11_throwAt 79 = .ok (.invokestatic 479, 3) := by decide +kernel
theorem dX11_throwAt_82 : decode cX11_throwAt 82 = .ok (.iload 4, 2) := by decide +kernel
theorem dX11_throwAt_84 : decode cX11_throwAt 84 = .ok (.ifCond .eq 7, 3) := by decide +kernel
theorem dX11_throwAt_87 : decode cX11_throwAt 87 = .ok (.iload_n 3, 1) := by decide +kernel
theorem dX11_throwAt_88 : decode cX11_throwAt 88 = .ok (.goto 10, 3) := by decide +kernel
theorem dX11_throwAt_91 : decode cX11_throwAt 91 = .ok (.aload_n 0, 1) := by decide +kernel
theorem dX11_throwAt_92 : decode cX11_throwAt 92 = .ok (.getfield 32, 3) := by decide +kernel
theorem dX11_throwAt_95 : decode cX11_throwAt 95 = .ok (.getfield 208, 3) := by decide +kernel
theorem dX11_throwAt_98 : decode cX11_throwAt 98 = .ok (.iload 5, 2) := by decide +kernel
theorem dX11_throwAt_100 : decode cX11_throwAt 100 = .ok (.invokevirtual 482, 3) := by decide +kernel
theorem dX11_throwAt_103 : decode cX11_throwAt 103 = .ok (.iload 4, 2) := by decide +kernel
theorem dX11_throwAt_105 : decode cX11_throwAt 105 = .ok (.ifCond .eq 48, 3) := by decide +kernel
theorem dX11_throwAt_108 : decode cX11_throwAt 108 = .ok (.aload_n 0, 1) := by decide +kernel
theorem dX11_throwAt_109 : decode cX11_throwAt 109 = .ok (.getfield 12, 3) := by decide +kernel
theorem dX11_throwAt_112 : decode cX11_throwAt 112 = .ok (.getfield 190, 3) := by decide +kernel
theorem dX11_throwAt_115 : decode cX11_throwAt 115 = .ok (.getfield 194, 3) := by decide +kernel
theorem dX11_throwAt_118 : decode cX11_throwAt 118 = .ok (.iload_n 1, 1) := by decide +kernel
theorem dX11_throwAt_119 : decode cX11_throwAt 119 = .ok (.dup2, 1) := by decide +kernel
theorem dX11_throwAt_120 : decode cX11_throwAt 120 = .ok (.iaload, 1) := by decide +kernel
theorem dX11_throwAt_121 : decode cX11_throwAt 121 = .ok (.iconst 1, 1) := by decide +kernel
theorem dX11_throwAt_122 : decode cX11_throwAt 122 = .ok (.iadd, 1) := by decide +kernel
theorem dX11_throwAt_123 : decode cX11_throwAt 123 = .ok (.iastore, 1) := by decide +kernel
theorem dX11_throwAt_124 : decode cX11_throwAt 124 = .ok (.aload_n 0, 1) := by decide +kernel
theorem dX11_throwAt_125 : decode cX11_throwAt 125 = .ok (.getfield 12, 3) := by decide +kernel
theorem dX11_throwAt_128 : decode cX11_throwAt 128 = .ok (.getfield 260, 3) := by decide +kernel
theorem dX11_throwAt_131 : decode cX11_throwAt 131 = .ok (.iload_n 1, 1) := by decide +kernel
theorem dX11_throwAt_132 : decode cX11_throwAt 132 = .ok (.aload_n 0, 1) := by decide +kernel
theorem dX11_throwAt_133 : decode cX11_throwAt 133 = .ok (.getfield 12, 3) := by decide +kernel
theorem dX11_throwAt_136 : decode cX11_throwAt 136 = .ok (.getfield 260, 3) := by decide +kernel
theorem dX11_throwAt_139 : decode cX11_throwAt 139 = .ok (.getfield 309, 3) := by decide +kernel
theorem dX11_throwAt_142 : decode cX11_throwAt 142 = .ok (.iload_n 3, 1) := by decide +kernel
theorem dX11_throwAt_143 : decode cX11_throwAt 143 = .ok (.iconst 4, 1) := by decide +kernel
theorem dX11_throwAt_144 : decode cX11_throwAt 144 = .ok (.idiv, 1) := by decide +kernel
theorem dX11_throwAt_145 : decode cX11_throwAt 145 = .ok (.iadd, 1) := by decide +kernel
theorem dX11_throwAt_146 : decode cX11_throwAt 146 = .ok (.iload_n 2, 1) := by decide +kernel
theorem dX11_throwAt_147 : decode cX11_throwAt 147 = .ok (.invokestatic 479, 3) := by decide +kernel
theorem dX11_throwAt_150 : decode cX11_throwAt 150 = .ok (.invokevirtual 486, 3) := by decide +kernel
theorem dX11_throwAt_153 : decode cX11_throwAt 153 = .ok (.iload 4, 2) := by decide +kernel
theorem dX11_throwAt_155 : decode cX11_throwAt 155 = .ok (.ireturn, 1) := by decide +kernel
theorem dX11_purchase_0 : decode cX11_purchase 0 = .ok (.aload_n 0, 1) := by decide +kernel
theorem dX11_purchase_1 : decode cX11_purchase 1 = .ok (.getfield 12, 3) := by decide +kernel
theorem dX11_purchase_4 : decode cX11_purchase 4 = .ok (.getfield 190, 3) := by decide +kernel
theorem dX11_purchase_7 : decode cX11_purchase 7 = .ok (.astore_n 2, 1) := by decide +kernel
theorem dX11_purchase_8 : decode cX11_purchase 8 = .ok (.aload_n 2, 1) := by decide +kernel
theorem dX11_purchase_9 : decode cX11_purchase 9 = .ok (.dup, 1) := by decide +kernel
theorem dX11_purchase_10 : decode cX11_purchase 10 = .ok (.getfield 252, 3) := by decide +kernel
theorem dX11_purchase_13 : decode cX11_purchase 13 = .ok (.iload_n 1, 1) := by decide +kernel
theorem dX11_purchase_14 : decode cX11_purchase 14 = .ok (.iadd, 1) := by decide +kernel
theorem dX11_purchase_15 : decode cX11_purchase 15 = .ok (.putfield 252, 3) := by decide +kernel
theorem dX11_purchase_18 : decode cX11_purchase 18 = .ok (.aload_n 2, 1) := by decide +kernel
theorem dX11_purchase_19 : decode cX11_purchase 19 = .ok (.dup, 1) := by decide +kernel
theorem dX11_purchase_20 : decode cX11_purchase 20 = .ok (.getfield 312, 3) := by decide +kernel
theorem dX11_purchase_23 : decode cX11_purchase 23 = .ok (.iconst 2, 1) := by decide +kernel
theorem dX11_purchase_24 : decode cX11_purchase 24 = .ok (.iload_n 1, 1) := by decide +kernel
theorem dX11_purchase_25 : decode cX11_purchase 25 = .ok (.imul, 1) := by decide +kernel
theorem dX11_purchase_26 : decode cX11_purchase 26 = .ok (.isub, 1) := by decide +kernel
theorem dX11_purchase_27 : decode cX11_purchase 27 = .ok (.putfield 312, 3) := by decide +kernel
theorem dX11_purchase_30 : decode cX11_purchase 30 = .ok (.aload_n 2, 1) := by decide +kernel
theorem dX11_purchase_31 : decode cX11_purchase 31 = .ok (.dup, 1) := by decide +kernel
theorem dX11_purchase_32 : decode cX11_purchase 32 = .ok (.getfield 321, 3) := by decide +kernel
theorem dX11_purchase_35 : decode cX11_purchase 35 = .ok (.iconst 2, 1) := by decide +kernel
theorem dX11_purchase_36 : decode cX11_purchase 36 = .ok (.iload_n 1, 1) := by decide +kernel
theorem dX11_purchase_37 : decode cX11_purchase 37 = .ok (.imul, 1) := by decide +kernel
theorem dX11_purchase_38 : decode cX11_purchase 38 = .ok (.iadd, 1) := by decide +kernel
theorem dX11_purchase_39 : decode cX11_purchase 39 = .ok (.putfield 321, 3) := by decide +kernel
theorem dX11_purchase_42 : decode cX11_purchase 42 = .ok (.aload_n 2, 1) := by decide +kernel
theorem dX11_purchase_43 : decode cX11_purchase 43 = .ok (.getfield 252, 3) := by decide +kernel
theorem dX11_purchase_46 : decode cX11_purchase 46 = .ok (.ireturn, 1) := by decide +kernel
theorem dX11_holdHearing_0 : decode cX11_holdHearing 0 = .ok (.aload_n 0, 1) := by decide +kernel
theorem dX11_holdHearing_1 : decode cX11_holdHearing 1 = .ok (.getfield 12, 3) := by decide +kernel
theorem dX11_holdHearing_4 : decode cX11_holdHearing 4 = .ok (.getfield 260, 3) := by decide +kernel
theorem dX11_holdHearing_7 : decode cX11_holdHearing 7 = .ok (.iload_n 1, 1) := by decide +kernel
theorem dX11_holdHearing_8 : decode cX11_holdHearing 8 = .ok (.invokevirtual 490, 3) := by decide +kernel
theorem dX11_holdHearing_11 : decode cX11_holdHearing 11 = .ok (.istore_n 2, 1) := by decide +kernel
theorem dX11_holdHearing_12 : decode cX11_holdHearing 12 = .ok (.aload_n 0, 1) := by decide +kernel
theorem dX11_holdHearing_13 : decode cX11_holdHearing 13 = .ok (.getfield 12, 3) := by decide +kernel
theorem dX11_holdHearing_16 : decode cX11_holdHearing 16 = .ok (.getfield 190, 3) := by decide +kernel
theorem dX11_holdHearing_19 : decode cX11_holdHearing 19 = .ok (.dup, 1) := by decide +kernel
theorem dX11_holdHearing_20 : decode cX11_holdHearing 20 = .ok (.getfield 312, 3) := by decide +kernel
theorem dX11_holdHearing_23 : decode cX11_holdHearing 23 = .ok (.iload_n 2, 1) := by decide +kernel
theorem dX11_holdHearing_24 : decode cX11_holdHearing 24 = .ok (.iadd, 1) := by decide +kernel
theorem dX11_holdHearing_25 : decode cX11_holdHearing 25 = .ok (.putfield 312, 3) := by decide +kernel
theorem dX11_holdHearing_28 : decode cX11_holdHearing 28 = .ok (.aload_n 0, 1) := by decide +kernel
theorem dX11_holdHearing_29 : decode cX11_holdHearing 29 = .ok (.getfield 12, 3) := by decide +kernel
theorem dX11_holdHearing_32 : decode cX11_holdHearing 32 = .ok (.getfield 190, 3) := by decide +kernel
theorem dX11_holdHearing_35 : decode cX11_holdHearing 35 = .ok (.dup, 1) := by decide +kernel
theorem dX11_holdHearing_36 : decode cX11_holdHearing 36 = .ok (.getfield 315, 3) := by decide +kernel
theorem dX11_holdHearing_39 : decode cX11_holdHearing 39 = .ok (.iload_n 2, 1) := by decide +kernel
theorem dX11_holdHearing_40 : decode cX11_holdHearing 40 = .ok (.iadd, 1) := by decide +kernel
theorem dX11_holdHearing_41 : decode cX11_holdHearing 41 = .ok (.putfield 315, 3) := by decide +kernel
theorem dX11_holdHearing_44 : decode cX11_holdHearing 44 = .ok (.aload_n 0, 1) := by decide +kernel
theorem dX11_holdHearing_45 : decode cX11_holdHearing 45 = .ok (.getfield 12, 3) := by decide +kernel
theorem dX11_holdHearing_48 : decode cX11_holdHearing 48 = .ok (.getfield 260, 3) := by decide +kernel
theorem dX11_holdHearing_51 : decode cX11_holdHearing 51 = .ok (.iload_n 1, 1) := by decide +kernel
theorem dX11_holdHearing_52 : decode cX11_holdHearing 52 = .ok (.invokevirtual 493, 3) := by decide +kernel
theorem dX11_holdHearing_55 : decode cX11_holdHearing 55 = .ok (.aload_n 0, 1) := by decide +kernel
theorem dX11_holdHearing_56 : decode cX11_holdHearing 56 = .ok (.getfield 12, 3) := by decide +kernel
theorem dX11_holdHearing_59 : decode cX11_holdHearing 59 = .ok (.getfield 260, 3) := by decide +kernel
theorem dX11_holdHearing_62 : decode cX11_holdHearing 62 = .ok (.invokevirtual 496, 3) := by decide +kernel
theorem dX11_holdHearing_65 : decode cX11_holdHearing 65 = .ok (.pop, 1) := by decide +kernel
theorem dX11_holdHearing_66 : decode cX11_holdHearing 66 = .ok (.iload_n 2, 1) := by decide +kernel
theorem dX11_holdHearing_67 : decode cX11_holdHearing 67 = .ok (.ireturn, 1) := by decide +kernel
theorem dX11_passHours_0 : decode cX11_passHours 0 = .ok (.iconst 0, 1) := by decide +kernel
theorem dX11_passHours_1 : decode cX11_passHours 1 = .ok (.istore_n 2, 1) := by decide +kernel
theorem dX11_passHours_2 : decode cX11_passHours 2 = .ok (.iconst 0, 1) := by decide +kernel
theorem dX11_passHours_3 : decode cX11_passHours 3 = .ok (.istore_n 3, 1) := by decide +kernel
theorem dX11_passHours_4 : decode cX11_passHours 4 = .ok (.iload_n 3, 1) := by decide +kernel
theorem dX11_passHours_5 : decode cX11_passHours 5 = .ok (.iload_n 1, 1) := by decide +kernel
theorem dX11_passHours_6 : decode cX11_passHours 6 = .ok (.if_icmp .ge 22, 3) := by decide +kernel
theorem dX11_passHours_9 : decode cX11_passHours 9 = .ok (.iload_n 2, 1) := by decide +kernel
theorem dX11_passHours_10 : decode cX11_passHours 10 = .ok (.aload_n 0, 1) := by decide +kernel
theorem dX11_passHours_11 : decode cX11_passHours 11 = .ok (.getfield 12, 3) := by decide +kernel
theorem dX11_passHours_14 : decode cX11_passHours 14 = .ok (.getfield 260, 3) := by decide +kernel
theorem dX11_passHours_17 : decode cX11_passHours 17 = .ok (.invokevirtual 496, 3) := by decide +kernel
theorem dX11_passHours_20 : decode cX11_passHours 20 = .ok (.iadd, 1) := by decide +kernel
theorem dX11_passHours_21 : decode cX11_passHours 21 = .ok (.istore_n 2, 1) := by decide +kernel
theorem dX11_passHours_22 : decode cX11_passHours 22 = .ok (.iinc 3 1, 3) := by decide +kernel
theorem dX11_passHours_25 : decode cX11_passHours 25 = .ok (.goto (-21), 3) := by decide +kernel
theorem dX11_passHours_28 : decode cX11_passHours 28 = .ok (.iload_n 2, 1) := by decide +kernel
theorem dX11_passHours_29 : decode cX11_passHours 29 = .ok (.ireturn, 1) := by decide +kernel
theorem dX11_connectedByQueue_0 : decode cX11_connectedByQueue 0 = .ok (.aload_n 0, 1) := by decide +kernel
theorem dX11_connectedByQueue_1 : decode cX11_connectedByQueue 1 = .ok (.getfield 12, 3) := by decide +kernel
theorem dX11_connectedByQueue_4 : decode cX11_connectedByQueue 4 = .ok (.getfield 100, 3) := by decide +kernel
theorem dX11_connectedByQueue_7 : decode cX11_connectedByQueue 7 = .ok (.astore_n 2, 1) := by decide +kernel
theorem dX11_connectedByQueue_8 : decode cX11_connectedByQueue 8 = .ok (.aload_n 2, 1) := by decide +kernel
theorem dX11_connectedByQueue_9 : decode cX11_connectedByQueue 9 = .ok (.iload_n 1, 1) := by decide +kernel
theorem dX11_connectedByQueue_10 : decode cX11_connectedByQueue 10 = .ok (.invokevirtual 444, 3) := by decide +kernel
theorem dX11_connectedByQueue_13 : decode cX11_connectedByQueue 13 = .ok (.ifCond .eq 5, 3) := by decide +kernel
theorem dX11_connectedByQueue_16 : decode cX11_connectedByQueue 16 = .ok (.lconst 0, 1) := by decide +kernel
theorem dX11_connectedByQueue_17 : decode cX11_connectedByQueue 17 = .ok (.lreturn, 1) := by decide +kernel
theorem dX11_connectedByQueue_18 : decode cX11_connectedByQueue 18 = .ok (.lconst 1, 1) := by decide +kernel
theorem dX11_connectedByQueue_19 : decode cX11_connectedByQueue 19 = .ok (.iload_n 1, 1) := by decide +kernel
theorem dX11_connectedByQueue_20 : decode cX11_connectedByQueue 20 = .ok (.lshl, 1) := by decide +kernel
theorem dX11_connectedByQueue_21 : decode cX11_connectedByQueue 21 = .ok (.lstore_n 3, 1) := by decide +kernel
theorem dX11_connectedByQueue_22 : decode cX11_connectedByQueue 22 = .ok (.aload_n 0, 1) := by decide +kernel
theorem dX11_connectedByQueue_23 : decode cX11_connectedByQueue 23 = .ok (.getfield 57, 3) := by decide +kernel
theorem dX11_connectedByQueue_26 : decode cX11_connectedByQueue 26 = .ok (.iconst 0, 1) := by decide +kernel
theorem dX11_connectedByQueue_27 : decode cX11_connectedByQueue 27 = .ok (.iload_n 1, 1) := by decide +kernel
theorem dX11_connectedByQueue_28 : decode cX11_connectedByQueue 28 = .ok (.iastore, 1) := by decide +kernel
theorem dX11_connectedByQueue_29 : decode cX11_connectedByQueue 29 = .ok (.iconst 1, 1) := by decide +kernel
theorem dX11_connectedByQueue_30 : decode cX11_connectedByQueue 30 = .ok (.istore 5, 2) := by decide +kernel
theorem dX11_connectedByQueue_32 : decode cX11_connectedByQueue 32 = .ok (.iconst 0, 1) := by decide +kernel
theorem dX11_connectedByQueue_33 : decode cX11_connectedByQueue 33 = .ok (.istore 6, 2) := by decide +kernel
theorem dX11_connectedByQueue_35 : decode cX11_connectedByQueue 35 = .ok (.iload 6, 2) := by decide +kernel
theorem dX11_connectedByQueue_37 : decode cX11_connectedByQueue 37 = .ok (.iload 5, 2) := by decide +kernel
theorem dX11_connectedByQueue_39 : decode cX11_connectedByQueue 39 = .ok (.if_icmp .ge 104, 3) := by decide +kernel
theorem dX11_connectedByQueue_42 : decode cX11_connectedByQueue 42 = .ok (.iload 6, 2) := by decide +kernel
theorem dX11_connectedByQueue_44 : decode cX11_connectedByQueue 44 = .ok (.bipush 64, 2) := by decide +kernel
theorem dX11_connectedByQueue_46 : decode cX11_connectedByQueue 46 = .ok (.if_icmp .ge 97, 3) := by decide +kernel
theorem dX11_connectedByQueue_49 : decode cX11_connectedByQueue 49 = .ok (.iconst 0, 1) := by decide +kernel
theorem dX11_connectedByQueue_50 : decode cX11_connectedByQueue 50 = .ok (.istore 7, 2) := by decide +kernel
theorem dX11_connectedByQueue_52 : decode cX11_connectedByQueue 52 = .ok (.iload 7, 2) := by decide +kernel
theorem dX11_connectedByQueue_54 : decode cX11_connectedByQueue 54 = .ok (.bipush 8, 2) := by decide +kernel
theorem dX11_connectedByQueue_56 : decode cX11_connectedByQueue 56 = .ok (.if_icmp .ge 81, 3) := by decide +kernel
theorem dX11_connectedByQueue_59 : decode cX11_connectedByQueue 59 = .ok (.aload_n 0, 1) := by decide +kernel
theorem dX11_connectedByQueue_60 : decode cX11_connectedByQueue 60 = .ok (.getfield 57, 3) := by decide +kernel
theorem dX11_connectedByQueue_63 : decode cX11_connectedByQueue 63 = .ok (.iload 6, 2) := by decide +kernel
theorem dX11_connectedByQueue_65 : decode cX11_connectedByQueue 65 = .ok (.iaload, 1) := by decide +kernel
theorem dX11_connectedByQueue_66 : decode cX11_connectedByQueue 66 = .ok (.iload 7, 2) := by decide +kernel
theorem dX11_connectedByQueue_68 : decode cX11_connectedByQueue 68 = .ok (.invokestatic 499, 3) := by decide +kernel
theorem dX11_connectedByQueue_71 : decode cX11_connectedByQueue 71 = .ok (.istore 8, 2) := by decide +kernel
theorem dX11_connectedByQueue_73 : decode cX11_connectedByQueue 73 = .ok (.lload_n 3, 1) := by decide +kernel
theorem dX11_connectedByQueue_74 : decode cX11_connectedByQueue 74 = .ok (.iload 8, 2) := by decide +kernel
theorem dX11_connectedByQueue_76 : decode cX11_connectedByQueue 76 = .ok (.lushr, 1) := by decide +kernel
theorem dX11_connectedByQueue_77 : decode cX11_connectedByQueue 77 = .ok (.lconst 1, 1) := by decide +kernel
theorem dX11_connectedByQueue_78 : decode cX11_connectedByQueue 78 = .ok (.land, 1) := by decide +kernel
theorem dX11_connectedByQueue_79 : decode cX11_connectedByQueue 79 = .ok (.lconst 0, 1) := by decide +kernel
theorem dX11_connectedByQueue_80 : decode cX11_connectedByQueue 80 = .ok (.lcmp, 1) := by decide +kernel
theorem dX11_connectedByQueue_81 : decode cX11_connectedByQueue 81 = .ok (.ifCond .ne 16, 3) := by decide +kernel
theorem dX11_connectedByQueue_84 : decode cX11_connectedByQueue 84 = .ok (.aload_n 2, 1) := by decide +kernel
theorem dX11_connectedByQueue_85 : decode cX11_connectedByQueue 85 = .ok (.iload 8, 2) := by decide +kernel
theorem dX11_connectedByQueue_87 : decode cX11_connectedByQueue 87 = .ok (.invokevirtual 444, 3) := by decide +kernel
theorem dX11_connectedByQueue_90 : decode cX11_connectedByQueue 90 = .ok (.ifCond .ne 7, 3) := by decide +kernel
theorem dX11_connectedByQueue_93 : decode cX11_connectedByQueue 93 = .ok (.iconst 1, 1) := by decide +kernel
theorem dX11_connectedByQueue_94 : decode cX11_connectedByQueue 94 = .ok (.goto 4, 3) := by decide +kernel
theorem dX11_connectedByQueue_97 : decode cX11_connectedByQueue 97 = .ok (.iconst 0, 1) := by decide +kernel
theorem dX11_connectedByQueue_98 : decode cX11_connectedByQueue 98 = .ok (.istore 9, 2) := by decide +kernel
theorem dX11_connectedByQueue_100 : decode cX11_connectedByQueue 100 = .ok (.iload 9, 2) := by decide +kernel
theorem dX11_connectedByQueue_102 : decode cX11_connectedByQueue 102 = .ok (.ifCond .eq 29, 3) := by decide +kernel
theorem dX11_connectedByQueue_105 : decode cX11_connectedByQueue 105 = .ok (.iload 5, 2) := by decide +kernel
theorem dX11_connectedByQueue_107 : decode cX11_connectedByQueue 107 = .ok (.bipush 64, 2) := by decide +kernel
theorem dX11_connectedByQueue_109 : decode cX11_connectedByQueue 109 = .ok (.if_icmp .ge 22, 3) := by decide +kernel
theorem dX11_connectedByQueue_112 : decode cX11_connectedByQueue 112 = .ok (.lload_n 3, 1) := by decide +kernel
theorem dX11_connectedByQueue_113 : decode cX11_connectedByQueue 113 = .ok (.lconst 1, 1) := by decide +kernel
theorem dX11_connectedByQueue_114 : decode cX11_connectedByQueue 114 = .ok (.iload 8, 2) := by decide +kernel
theorem dX11_connectedByQueue_116 : decode cX11_connectedByQueue 116 = .ok (.lshl, 1) := by decide +kernel
theorem dX11_connectedByQueue_117 : decode cX11_connectedByQueue 117 = .ok (.lor, 1) := by decide +kernel
theorem dX11_connectedByQueue_118 : decode cX11_connectedByQueue 118 = .ok (.lstore_n 3, 1) := by decide +kernel
theorem dX11_connectedByQueue_119 : decode cX11_connectedByQueue 119 = .ok (.aload_n 0, 1) := by decide +kernel
theorem dX11_connectedByQueue_120 : decode cX11_connectedByQueue 120 = .ok (.getfield 57, 3) := by decide +kernel
theorem dX11_connectedByQueue_123 : decode cX11_connectedByQueue 123 = .ok (.iload 5, 2) := by decide +kernel
theorem dX11_connectedByQueue_125 : decode cX11_connectedByQueue 125 = .ok (.iload 8, 2) := by decide +kernel
theorem dX11_connectedByQueue_127 : decode cX11_connectedByQueue 127 = .ok (.iastore, 1) := by decide +kernel
theorem dX11_connectedByQueue_128 : decode cX11_connectedByQueue 128 = .ok (.iinc 5 1, 3) := by decide +kernel
theorem dX11_connectedByQueue_131 : decode cX11_connectedByQueue 131 = .ok (.iinc 7 2, 3) := by decide +kernel
theorem dX11_connectedByQueue_134 : decode cX11_connectedByQueue 134 = .ok (.goto (-82), 3) := by decide +kernel
theorem dX11_connectedByQueue_137 : decode cX11_connectedByQueue 137 = .ok (.iinc 6 1, 3) := by decide +kernel
theorem dX11_connectedByQueue_140 : decode cX11_connectedByQueue 140 = .ok (.goto (-105), 3) := by decide +kernel
theorem dX11_connectedByQueue_143 : decode cX11_connectedByQueue 143 = .ok (.lload_n 3, 1) := by decide +kernel
theorem dX11_connectedByQueue_144 : decode cX11_connectedByQueue 144 = .ok (.lreturn, 1) := by decide +kernel
theorem dX11_quickestShortestThrow_0 : decode cX11_quickestShortestThrow 0 = .ok (.iconst (-1), 1) := by decide +kernel
theorem dX11_quickestShortestThrow_1 : decode cX11_quickestShortestThrow 1 = .ok (.istore_n 2, 1) := by decide +kernel
theorem dX11_quickestShortestThrow_2 : decode cX11_quickestShortestThrow 2 = .ok (.iconst 0, 1) := by decide +kernel
theorem dX11_quickestShortestThrow_3 : decode cX11_quickestShortestThrow 3 = .ok (.istore_n 3, 1) := by decide +kernel
theorem dX11_quickestShortestThrow_4 : decode cX11_quickestShortestThrow 4 = .ok (.iconst 0, 1) := by decide +kernel
theorem dX11_quickestShortestThrow_5 : decode cX11_quickestShortestThrow 5 = .ok (.istore 4, 2) := by decide +kernel
theorem dX11_quickestShortestThrow_7 : decode cX11_quickestShortestThrow 7 = .ok (.iload 4, 2) := by decide +kernel
theorem dX11_quickestShortestThrow_9 : decode cX11_quickestShortestThrow 9 = .ok (.bipush 64, 2) := by decide +kernel
theorem dX11_quickestShortestThrow_11 : decode cX11_quickestShortestThrow 11 = .ok (.if_icmp .ge 114, 3) := by decide +kernel
theorem dX11_quickestShortestThrow_14 : decode cX11_quickestShortestThrow 14 = .ok (.aload_n 0, 1) := by decide +kernel
theorem dX11_quickestShortestThrow_15 : decode cX11_quickestShortestThrow 15 = .ok (.getfield 32, 3) := by decide +kernel
theorem dX11_quickestShortestThrow_18 : decode cX11_quickestShortestThrow 18 = .ok (.aload_n 0, 1) := by decide +kernel
theorem dX11_quickestShortestThrow_19 : decode cX11_quickestShortestThrow 19 = .ok (.getfield 12, 3) := by decide +kernel
theorem dX11_quickestShortestThrow_22 : decode cX11_quickestShortestThrow 22 = .ok (.getfield 100, 3) := by decide +kernel
theorem dX11_quickestShortestThrow_25 : decode cX11_quickestShortestThrow 25 = .ok (.iload 4, 2) := by decide +kernel
theorem dX11_quickestShortestThrow_27 : decode cX11_quickestShortestThrow 27 = .ok (.invokevirtual 204, 3) := by decide +kernel
theorem dX11_quickestShortestThrow_30 : decode cX11_quickestShortestThrow 30 = .ok (.aload_n 0, 1) := by decide +kernel
theorem dX11_quickestShortestThrow_31 : decode cX11_quickestShortestThrow 31 = .ok (.getfield 32, 3) := by decide +kernel
theorem dX11_quickestShortestThrow_34 : decode cX11_quickestShortestThrow 34 = .ok (.iload_n 1, 1) := by decide +kernel
theorem dX11_quickestShortestThrow_35 : decode cX11_quickestShortestThrow 35 = .ok (.invokevirtual 223, 3) := by decide +kernel
theorem dX11_quickestShortestThrow_38 : decode cX11_quickestShortestThrow 38 = .ok (.istore 5, 2) := by decide +kernel
theorem dX11_quickestShortestThrow_40 : decode cX11_quickestShortestThrow 40 = .ok (.iload 5, 2) := by decide +kernel
theorem dX11_quickestShortestThrow_42 : decode cX11_quickestShortestThrow 42 = .ok (.iconst (-1), 1) := by decide +kernel
theorem dX11_quickestShortestThrow_43 : decode cX11_quickestShortestThrow 43 = .ok (.if_icmp .ne 6, 3) := by decide +kernel
theorem dX11_quickestShortestThrow_46 : decode cX11_quickestShortestThrow 46 = .ok (.goto 73, 3) := by decide +kernel
theorem dX11_quickestShortestThrow_49 : decode cX11_quickestShortestThrow 49 = .ok (.iload_n 2, 1) := by decide +kernel
theorem dX11_quickestShortestThrow_50 : decode cX11_quickestShortestThrow 50 = .ok (.iconst (-1), 1) := by decide +kernel
theorem dX11_quickestShortestThrow_51 : decode cX11_quickestShortestThrow 51 = .ok (.if_icmp .eq 15, 3) := by decide +kernel
theorem dX11_quickestShortestThrow_54 : decode cX11_quickestShortestThrow 54 = .ok (.iload 4, 2) := by decide +kernel
theorem dX11_quickestShortestThrow_56 : decode cX11_quickestShortestThrow 56 = .ok (.invokestatic 479, 3) := by decide +kernel
theorem dX11_quickestShortestThrow_59 : decode cX11_quickestShortestThrow 59 = .ok (.iload_n 2, 1) := by decide +kernel
theorem dX11_quickestShortestThrow_60 : decode cX11_quickestShortestThrow 60 = .ok (.invokestatic 479, 3) := by decide +kernel
theorem dX11_quickestShortestThrow_63 : decode cX11_quickestShortestThrow 63 = .ok (.if_icmp .ge 7, 3) := by decide +kernel
theorem dX11_quickestShortestThrow_66 : decode cX11_quickestShortestThrow 66 = .ok (.iconst 1, 1) := by decide +kernel
theorem dX11_quickestShortestThrow_67 : decode cX11_quickestShortestThrow 67 = .ok (.goto 4, 3) := by decide +kernel
theorem dX11_quickestShortestThrow_70 : decode cX11_quickestShortestThrow 70 = .ok (.iconst 0, 1) := by decide +kernel
theorem dX11_quickestShortestThrow_71 : decode cX11_quickestShortestThrow 71 = .ok (.istore 6, 2) := by decide +kernel
theorem dX11_quickestShortestThrow_73 : decode cX11_quickestShortestThrow 73 = .ok (.iload_n 2, 1) := by decide +kernel
theorem dX11_quickestShortestThrow_74 : decode cX11_quickestShortestThrow 74 = .ok (.iconst (-1), 1) := by decide +kernel
theorem dX11_quickestShortestThrow_75 : decode cX11_quickestShortestThrow 75 = .ok (.if_icmp .eq 25, 3) := by decide +kernel
theorem dX11_quickestShortestThrow_78 : decode cX11_quickestShortestThrow 78 = .ok (.iload 4, 2) := by decide +kernel
theorem dX11_quickestShortestThrow_80 : decode cX11_quickestShortestThrow 80 = .ok (.invokestatic 479, 3) := by decide +kernel
theorem dX11_quickestShortestThrow_83 : decode cX11_quickestShortestThrow 83 = .ok (.iload_n 2, 1) := by decide +kernel
theorem dX11_quickestShortestThrow_84 : decode cX11_quickestShortestThrow 84 = .ok (.invokestatic 479, 3) := by decide +kernel
theorem dX11_quickestShortestThrow_87 : decode cX11_quickestShortestThrow 87 = .ok (.if_icmp .ne 13, 3) := by decide +kernel
theorem dX11_quickestShortestThrow_90 : decode cX11_quickestShortestThrow 90 = .ok (.iload 5, 2) := by decide +kernel
theorem dX11_quickestShortestThrow_92 : decode cX11_quickestShortestThrow 92 = .ok (.iload_n 3, 1) := by decide +kernel
theorem dX11_quickestShortestThrow_93 : decode cX11_quickestShortestThrow 93 = .ok (.if_icmp .ge 7, 3) := by decide +kernel
theorem dX11_quickestShortestThrow_96 : decode cX11_quickestShortestThrow 96 = .ok (.iconst 1, 1) := by decide +kernel
theorem dX11_quickestShortestThrow_97 : decode cX11_quickestShortestThrow 97 = .ok (.goto 4, 3) := by decide +kernel
theorem dX11_quickestShortestThrow_100 : decode cX11_quickestShortestThrow 100 = .ok (.iconst 0, 1) := by decide +kernel
theorem dX11_quickestShortestThrow_101 : decode cX11_quickestShortestThrow 101 = .ok (.istore 7, 2) := by decide +kernel
theorem dX11_quickestShortestThrow_103 : decode cX11_quickestShortestThrow 103 = .ok (.iload 6, 2) := by decide +kernel
theorem dX11_quickestShortestThrow_105 : decode cX11_quickestShortestThrow 105 = .ok (.ifCond .ne 8, 3) := by decide +kernel
theorem dX11_quickestShortestThrow_108 : decode cX11_quickestShortestThrow 108 = .ok (.iload 7, 2) := by decide +kernel
theorem dX11_quickestShortestThrow_110 : decode cX11_quickestShortestThrow 110 = .ok (.ifCond .eq 9, 3) := by decide +kernel
theorem dX11_quickestShortestThrow_113 : decode cX11_quickestShortestThrow 113 = .ok (.iload 4, 2) := by decide +kernel
theorem dX11_quickestShortestThrow_115 : decode cX11_quickestShortestThrow 115 = .ok (.istore_n 2, 1) := by decide +kernel
theorem dX11_quickestShortestThrow_116 : decode cX11_quickestShortestThrow 116 = .ok (.iload 5, 2) := by decide +kernel
theorem dX11_quickestShortestThrow_118 : decode cX11_quickestShortestThrow 118 = .ok (.istore_n 3, 1) := by decide +kernel
theorem dX11_quickestShortestThrow_119 : decode cX11_quickestShortestThrow 119 = .ok (.iinc 4 1, 3) := by decide +kernel
theorem dX11_quickestShortestThrow_122 : decode cX11_quickestShortestThrow 122 = .ok (.goto (-115), 3) := by decide +kernel
theorem dX11_quickestShortestThrow_125 : decode cX11_quickestShortestThrow 125 = .ok (.iload_n 2, 1) := by decide +kernel
theorem dX11_quickestShortestThrow_126 : decode cX11_quickestShortestThrow 126 = .ok (.ireturn, 1) := by decide +kernel
theorem dX11_isReachConsistent_0 : decode cX11_isReachConsistent 0 = .ok (.iload_n 1, 1) := by decide +kernel
theorem dX11_isReachConsistent_1 : decode cX11_isReachConsistent 1 = .ok (.bipush 7, 2) := by decide +kernel
theorem dX11_isReachConsistent_3 : decode cX11_isReachConsistent 3 = .ok (.iand, 1) := by decide +kernel
theorem dX11_isReachConsistent_4 : decode cX11_isReachConsistent 4 = .ok (.istore_n 2, 1) := by decide +kernel
theorem dX11_isReachConsistent_5 : decode cX11_isReachConsistent 5 = .ok (.iload_n 1, 1) := by decide +kernel
theorem dX11_isReachConsistent_6 : decode cX11_isReachConsistent 6 = .ok (.iconst 3, 1) := by decide +kernel
theorem dX11_isReachConsistent_7 : decode cX11_isReachConsistent 7 = .ok (.ishr, 1) := by decide +kernel
theorem dX11_isReachConsistent_8 : decode cX11_isReachConsistent 8 = .ok (.bipush 7, 2) := by decide +kernel
theorem dX11_isReachConsistent_10 : decode cX11_isReachConsistent 10 = .ok (.iand, 1) := by decide +kernel
theorem dX11_isReachConsistent_11 : decode cX11_isReachConsistent 11 = .ok (.istore_n 3, 1) := by decide +kernel
theorem dX11_isReachConsistent_12 : decode cX11_isReachConsistent 12 = .ok (.aload_n 0, 1) := by decide +kernel
theorem dX11_isReachConsistent_13 : decode cX11_isReachConsistent 13 = .ok (.iload_n 2, 1) := by decide +kernel
theorem dX11_isReachConsistent_14 : decode cX11_isReachConsistent 14 = .ok (.iload_n 3, 1) := by decide +kernel
theorem dX11_isReachConsistent_15 : decode cX11_isReachConsistent 15 = .ok (.invokevirtual 502, 3) := by decide +kernel
theorem dX11_isReachConsistent_18 : decode cX11_isReachConsistent 18 = .ok (.aload_n 0, 1) := by decide +kernel
theorem dX11_isReachConsistent_19 : decode cX11_isReachConsistent 19 = .ok (.iload_n 2, 1) := by decide +kernel
theorem dX11_isReachConsistent_20 : decode cX11_isReachConsistent 20 = .ok (.iload_n 3, 1) := by decide +kernel
theorem dX11_isReachConsistent_21 : decode cX11_isReachConsistent 21 = .ok (.invokevirtual 506, 3) := by decide +kernel
theorem dX11_isReachConsistent_24 : decode cX11_isReachConsistent 24 = .ok (.lcmp, 1) := by decide +kernel
theorem dX11_isReachConsistent_25 : decode cX11_isReachConsistent 25 = .ok (.ifCond .ne 7, 3) := by decide +kernel
theorem dX11_isReachConsistent_28 : decode cX11_isReachConsistent 28 = .ok (.iconst 1, 1) := by decide +kernel
theorem dX11_isReachConsistent_29 : decode cX11_isReachConsistent 29 = .ok (.goto 4, 3) := by decide +kernel
theorem dX11_isReachConsistent_32 : decode cX11_isReachConsistent 32 = .ok (.iconst 0, 1) := by decide +kernel
theorem dX11_isReachConsistent_33 : decode cX11_isReachConsistent 33 = .ok (.ireturn, 1) := by decide +kernel
theorem dX11_areServingThrowsConsistent_0 : decode cX11_areServingThrowsConsistent 0 = .ok (.iconst 0, 1) := by decide +kernel
theorem dX11_areServingThrowsConsistent_1 : decode cX11_areServingThrowsConsistent 1 = .ok (.istore_n 1, 1) := by decide +kernel
theorem dX11_areServingThrowsConsistent_2 : decode cX11_areServingThrowsConsistent 2 = .ok (.iload_n 1, 1) := by decide +kernel
theorem dX11_areServingThrowsConsistent_3 : decode cX11_areServingThrowsConsistent 3 = .ok (.aload_n 0, 1) := by decide +kernel
theorem dX11_areServingThrowsConsistent_4 : decode cX11_areServingThrowsConsistent 4 = .ok (.getfield 12, 3) := by decide +kernel
theorem dX11_areServingThrowsConsistent_7 : decode cX11_areServingThrowsConsistent 7 = .ok (.getfield 100, 3) := by decide +kernel
theorem dX11_areServingThrowsConsistent_10 : decode cX11_areServingThrowsConsistent 10 = .ok (.getfield 169, 3) := by decide +kernel
theorem dX11_areServingThrowsConsistent_13 : decode cX11_areServingThrowsConsistent 13 = .ok (.if_icmp .ge 25, 3) := by decide +kernel
theorem dX11_areServingThrowsConsistent_16 : decode cX11_areServingThrowsConsistent 16 = .ok (.aload_n 0, 1) := by decide +kernel
theorem dX11_areServingThrowsConsistent_17 : decode cX11_areServingThrowsConsistent 17 = .ok (.iload_n 1, 1) := by decide +kernel
theorem dX11_areServingThrowsConsistent_18 : decode cX11_areServingThrowsConsistent 18 = .ok (.invokevirtual 509, 3) := by decide +kernel
theorem dX11_areServingThrowsConsistent_21 : decode cX11_areServingThrowsConsistent 21 = .ok (.aload_n 0, 1) := by decide +kernel
theorem dX11_areServingThrowsConsistent_22 : decode cX11_areServingThrowsConsistent 22 = .ok (.iload_n 1, 1) := by decide +kernel
theorem dX11_areServingThrowsConsistent_23 : decode cX11_areServingThrowsConsistent 23 = .ok (.invokevirtual 512, 3) := by decide +kernel
theorem dX11_areServingThrowsConsistent_26 : decode cX11_areServingThrowsConsistent 26 = .ok (.lcmp, 1) := by decide +kernel
theorem dX11_areServingThrowsConsistent_27 : decode cX11_areServingThrowsConsistent 27 = .ok (.ifCond .eq 5, 3) := by decide +kernel
theorem dX11_areServingThrowsConsistent_30 : decode cX11_areServingThrowsConsistent 30 = .ok (.iconst 0, 1) := by decide +kernel
theorem dX11_areServingThrowsConsistent_31 : decode cX11_areServingThrowsConsistent 31 = .ok (.ireturn, 1) := by decide +kernel
theorem dX11_areServingThrowsConsistent_32 : decode cX11_areServingThrowsConsistent 32 = .ok (.iinc 1 1, 3) := by decide +kernel
theorem dX11_areServingThrowsConsistent_35 : decode cX11_areServingThrowsConsistent 35 = .ok (.goto (-33), 3) := by decide +kernel
theorem dX11_areServingThrowsConsistent_38 : decode cX11_areServingThrowsConsistent 38 = .ok (.iconst 1, 1) := by decide +kernel
theorem dX11_areServingThrowsConsistent_39 : decode cX11_areServingThrowsConsistent 39 = .ok (.ireturn, 1) := by decide +kernel
theorem dX11_bitsOfShare_0 : decode cX11_bitsOfShare 0 = .ok (.fload_n 0, 1) := by decide +kernel
theorem dX11_bitsOfShare_1 : decode cX11_bitsOfShare 1 = .ok (.fconst 0, 1) := by decide +kernel
theorem dX11_bitsOfShare_2 : decode cX11_bitsOfShare 2 = .ok (.fcmp .g, 1) := by decide +kernel
theorem dX11_bitsOfShare_3 : decode cX11_bitsOfShare 3 = .ok (.ifCond .gt 5, 3) := by decide +kernel
theorem dX11_bitsOfShare_6 : decode cX11_bitsOfShare 6 = .ok (.iconst 0, 1) := by decide +kernel
theorem dX11_bitsOfShare_7 : decode cX11_bitsOfShare 7 = .ok (.ireturn, 1) := by decide +kernel
theorem dX11_bitsOfShare_8 : decode cX11_bitsOfShare 8 = .ok (.bipush 127, 2) := by decide +kernel
theorem dX11_bitsOfShare_10 : decode cX11_bitsOfShare 10 = .ok (.istore_n 1, 1) := by decide +kernel
theorem dX11_bitsOfShare_11 : decode cX11_bitsOfShare 11 = .ok (.fload_n 0, 1) := by decide +kernel
theorem dX11_bitsOfShare_12 : decode cX11_bitsOfShare 12 = .ok (.fstore_n 2, 1) := by decide +kernel
theorem dX11_bitsOfShare_13 : decode cX11_bitsOfShare 13 = .ok (.fload_n 2, 1) := by decide +kernel
theorem dX11_bitsOfShare_14 : decode cX11_bitsOfShare 14 = .ok (.fconst 1, 1) := by decide +kernel
theorem dX11_bitsOfShare_15 : decode cX11_bitsOfShare 15 = .ok (.fcmp .g, 1) := by decide +kernel
theorem dX11_bitsOfShare_16 : decode cX11_bitsOfShare 16 = .ok (.ifCond .ge 18, 3) := by decide +kernel
theorem dX11_bitsOfShare_19 : decode cX11_bitsOfShare 19 = .ok (.iload_n 1, 1) := by decide +kernel
theorem dX11_bitsOfShare_20 : decode cX11_bitsOfShare 20 = .ok (.iconst 1, 1) := by decide +kernel
theorem dX11_bitsOfShare_21 : decode cX11_bitsOfShare 21 = .ok (.if_icmp .le 13, 3) := by decide +kernel
theorem dX11_bitsOfShare_24 : decode cX11_bitsOfShare 24 = .ok (.fload_n 2, 1) := by decide +kernel
theorem dX11_bitsOfShare_25 : decode cX11_bitsOfShare 25 = .ok (.fconst 2, 1) := by decide +kernel
theorem dX11_bitsOfShare_26 : decode cX11_bitsOfShare 26 = .ok (.fmul, 1) := by decide +kernel
theorem dX11_bitsOfShare_27 : decode cX11_bitsOfShare 27 = .ok (.fstore_n 2, 1) := by decide +kernel
theorem dX11_bitsOfShare_28 : decode cX11_bitsOfShare 28 = .ok (.iinc 1 (-1), 3) := by decide +kernel
theorem dX11_bitsOfShare_31 : decode cX11_bitsOfShare 31 = .ok (.goto (-18), 3) := by decide +kernel
theorem dX11_bitsOfShare_34 : decode cX11_bitsOfShare 34 = .ok (.iload_n 1, 1) := by decide +kernel
theorem dX11_bitsOfShare_35 : decode cX11_bitsOfShare 35 = .ok (.bipush 23, 2) := by decide +kernel
theorem dX11_bitsOfShare_37 : decode cX11_bitsOfShare 37 = .ok (.ishl, 1) := by decide +kernel
theorem dX11_bitsOfShare_38 : decode cX11_bitsOfShare 38 = .ok (.fload_n 2, 1) := by decide +kernel
theorem dX11_bitsOfShare_39 : decode cX11_bitsOfShare 39 = .ok (.fconst 1, 1) := by decide +kernel
theorem dX11_bitsOfShare_40 : decode cX11_bitsOfShare 40 = .ok (.fsub, 1) := by decide +kernel
theorem dX11_bitsOfShare_41 : decode cX11_bitsOfShare 41 = .ok (.ldc_w 515, 3) := by decide +kernel
theorem dX11_bitsOfShare_44 : decode cX11_bitsOfShare 44 = .ok (.fmul, 1) := by decide +kernel
theorem dX11_bitsOfShare_45 : decode cX11_bitsOfShare 45 = .ok (.f2i, 1) := by decide +kernel
theorem dX11_bitsOfShare_46 : decode cX11_bitsOfShare 46 = .ok (.ior, 1) := by decide +kernel
theorem dX11_bitsOfShare_47 : decode cX11_bitsOfShare 47 = .ok (.ireturn, 1) := by decide +kernel
theorem dX11_carryOutCommands_0 : decode cX11_carryOutCommands 0 = .ok (.iconst 0, 1) := by decide +kernel
theorem dX11_carryOutCommands_1 : decode cX11_carryOutCommands 1 = .ok (.istore_n 1, 1) := by decide +kernel
theorem dX11_carryOutCommands_2 : decode cX11_carryOutCommands 2 = .ok (.iload_n 1, 1) := by decide +kernel
theorem dX11_carryOutCommands_3 : decode cX11_carryOutCommands 3 = .ok (.aload_n 0, 1) := by decide +kernel
theorem dX11_carryOutCommands_4 : decode cX11_carryOutCommands 4 = .ok (.getfield 46, 3) := by decide +kernel
theorem dX11_carryOutCommands_7 : decode cX11_carryOutCommands 7 = .ok (.getfield 377, 3) := by decide +kernel
theorem dX11_carryOutCommands_10 : decode cX11_carryOutCommands 10 = .ok (.if_icmp .ge 79, 3) := by decide +kernel
theorem dX11_carryOutCommands_13 : decode cX11_carryOutCommands 13 = .ok (.aload_n 0, 1) := by decide +kernel
theorem dX11_carryOutCommands_14 : decode cX11_carryOutCommands 14 = .ok (.getfield 46, 3) := by decide +kernel
theorem dX11_carryOutCommands_17 : decode cX11_carryOutCommands 17 = .ok (.iload_n 1, 1) := by decide +kernel
theorem dX11_carryOutCommands_18 : decode cX11_carryOutCommands 18 = .ok (.invokevirtual 516, 3) := by decide +kernel
theorem dX11_carryOutCommands_21 : decode cX11_carryOutCommands 21 = .ok (.astore_n 2, 1) := by decide +kernel
theorem dX11_carryOutCommands_22 : decode cX11_carryOutCommands 22 = .ok (.aload_n 0, 1) := by decide +kernel
theorem dX11_carryOutCommands_23 : decode cX11_carryOutCommands 23 = .ok (.getfield 46, 3) := by decide +kernel
theorem dX11_carryOutCommands_26 : decode cX11_carryOutCommands 26 = .ok (.iload_n 1, 1) := by decide +kernel
theorem dX11_carryOutCommands_27 : decode cX11_carryOutCommands 27 = .ok (.iconst 0, 1) := by decide +kernel
theorem dX11_carryOutCommands_28 : decode cX11_carryOutCommands 28 = .ok (.invokevirtual 520, 3) := by decide +kernel
theorem dX11_carryOutCommands_31 : decode cX11_carryOutCommands 31 = .ok (.istore_n 3, 1) := by decide +kernel
theorem dX11_carryOutCommands_32 : decode cX11_carryOutCommands 32 = .ok (.aload_n 0, 1) := by decide +kernel
theorem dX11_carryOutCommands_33 : decode cX11_carryOutCommands 33 = .ok (.getfield 46, 3) := by decide +kernel
theorem dX11_carryOutCommands_36 : decode cX11_carryOutCommands 36 = .ok (.iload_n 1, 1) := by decide +kernel
theorem dX11_carryOutCommands_37 : decode cX11_carryOutCommands 37 = .ok (.iconst 1, 1) := by decide +kernel
theorem dX11_carryOutCommands_38 : decode cX11_carryOutCommands 38 = .ok (.invokevirtual 520, 3) := by decide +kernel
theorem dX11_carryOutCommands_41 : decode cX11_carryOutCommands 41 = .ok (.istore 4, 2) := by decide +kernel
theorem dX11_carryOutCommands_43 : decode cX11_carryOutCommands 43 = .ok (.aload_n 0, 1) := by decide +kernel
theorem dX11_carryOutCommands_44 : decode cX11_carryOutCommands 44 = .ok (.getfield 46, 3) := by decide +kernel
theorem dX11_carryOutCommands_47 : decode cX11_carryOutCommands 47 = .ok (.iload_n 1, 1) := by decide +kernel
theorem dX11_carryOutCommands_48 : decode cX11_carryOutCommands 48 = .ok (.iconst 2, 1) := by decide +kernel
theorem dX11_carryOutCommands_49 : decode cX11_carryOutCommands 49 = .ok (.invokevirtual 520, 3) := by decide +kernel
theorem dX11_carryOutCommands_52 : decode cX11_carryOutCommands 52 = .ok (.istore 5, 2) := by decide +kernel
theorem dX11_carryOutCommands_54 : decode cX11_carryOutCommands 54 = .ok (.aload_n 2, 1) := by decide +kernel
theorem dX11_carryOutCommands_55 : decode cX11_carryOutCommands 55 = .ok (.ifnull 16, 3) := by decide +kernel
theorem dX11_carryOutCommands_58 : decode cX11_carryOutCommands 58 = .ok (.aload_n 0, 1) := by decide +kernel
theorem dX11_carryOutCommands_59 : decode cX11_carryOutCommands 59 = .ok (.aload_n 2, 1) := by decide +kernel
theorem dX11_carryOutCommands_60 : decode cX11_carryOutCommands 60 = .ok (.iload_n 3, 1) := by decide +kernel
theorem dX11_carryOutCommands_61 : decode cX11_carryOutCommands 61 = .ok (.iload 4, 2) := by decide +kernel
theorem dX11_carryOutCommands_63 : decode cX11_carryOutCommands 63 = .ok (.iload 5, 2) := by decide +kernel
theorem dX11_carryOutCommands_65 : decode cX11_carryOutCommands 65 = .ok (.invokevirtual 523, 3) := by decide +kernel
theorem dX11_carryOutCommands_68 : decode cX11_carryOutCommands 68 = .ok (.ifCond .eq 5, 3) := by decide +kernel
theorem dX11_carryOutCommands_71 : decode cX11_carryOutCommands 71 = .ok (.iload_n 1, 1) := by decide +kernel
theorem dX11_carryOutCommands_72 : decode cX11_carryOutCommands 72 = .ok (.ireturn, 1) := by decide +kernel
theorem dX11_carryOutCommands_73 : decode cX11_carryOutCommands 73 = .ok (.aload_n 0, 1) := by decide +kernel
theorem dX11_carryOutCommands_74 : decode cX11_carryOutCommands 74 = .ok (.aload_n 2, 1) := by decide +kernel
theorem dX11_carryOutCommands_75 : decode cX11_carryOutCommands 75 = .ok (.iload_n 3, 1) := by decide +kernel
theorem dX11_carryOutCommands_76 : decode cX11_carryOutCommands 76 = .ok (.iload 4, 2) := by decide +kernel
theorem dX11_carryOutCommands_78 : decode cX11_carryOutCommands 78 = .ok (.iload 5, 2) := by decide +kernel
theorem dX11_carryOutCommands_80 : decode cX11_carryOutCommands 80 = .ok (.invokevirtual 527, 3) := by decide +kernel
theorem dX11_carryOutCommands_83 : decode cX11_carryOutCommands 83 = .ok (.iinc 1 1, 3) := by decide +kernel
theorem dX11_carryOutCommands_86 : decode cX11_carryOutCommands 86 = .ok (.goto (-84), 3) := by decide +kernel
theorem dX11_carryOutCommands_89 : decode cX11_carryOutCommands 89 = .ok (.iconst (-1), 1) := by decide +kernel
theorem dX11_carryOutCommands_90 : decode cX11_carryOutCommands 90 = .ok (.ireturn, 1) := by decide +kernel
theorem dX11_checkCommand_0 : decode cX11_checkCommand 0 = .ok (.getstatic 531, 3) := by decide +kernel
theorem dX11_checkCommand_3 : decode cX11_checkCommand 3 = .ok (.aload_n 1, 1) := by decide +kernel
theorem dX11_checkCommand_4 : decode cX11_checkCommand 4 = .ok (.invokevirtual 536, 3) := by decide +kernel
theorem dX11_checkCommand_7 : decode cX11_checkCommand 7 = .ok (.iaload, 1) := by decide +kernel
theorem dX11_checkCommand_8 : decode cX11_checkCommand 8 = .ok (.tableswitch 127 1 10 #[56, 64, 72, 79, 86, 95, 102, 109, 115, 121], 56) := by decide +kernel
theorem dX11_checkCommand_64 : decode cX11_checkCommand 64 = .ok (.aload_n 0, 1) := by decide +kernel
theorem dX11_checkCommand_65 : decode cX11_checkCommand 65 = .ok (.iload_n 2, 1) := by decide +kernel
theorem dX11_checkCommand_66 : decode cX11_checkCommand 66 = .ok (.iload_n 3, 1) := by decide +kernel
theorem dX11_checkCommand_67 : decode cX11_checkCommand 67 = .ok (.iconst 1, 1) := by decide +kernel
theorem dX11_checkCommand_68 : decode cX11_checkCommand 68 = .ok (.invokevirtual 68, 3) := by decide +kernel
theorem dX11_checkCommand_71 : decode cX11_checkCommand 71 = .ok (.ireturn, 1) := by decide +kernel
theorem dX11_checkCommand_72 : decode cX11_checkCommand 72 = .ok (.aload_n 0, 1) := by decide +kernel
theorem dX11_checkCommand_73 : decode cX11_checkCommand 73 = .ok (.iload_n 2, 1) := by decide +kernel
theorem dX11_checkCommand_74 : decode cX11_checkCommand 74 = .ok (.iload_n 3, 1) := by decide +kernel
theorem dX11_checkCommand_75 : decode cX11_checkCommand 75 = .ok (.iconst 0, 1) := by decide +kernel
theorem dX11_checkCommand_76 : decode cX11_checkCommand 76 = .ok (.invokevirtual 68, 3) := by decide +kernel
theorem dX11_checkCommand_79 : decode cX11_checkCommand 79 = .ok (.ireturn, 1) := by decide +kernel
theorem dX11_checkCommand_80 : decode cX11_checkCommand 80 = .ok (.aload_n 0, 1) := by decide +kernel
theorem dX11_checkCommand_81 : decode cX11_checkCommand 81 = .ok (.iload_n 2, 1) := by decide +kernel
theorem dX11_checkCommand_82 : decode cX11_checkCommand 82 = .ok (.iload_n 3, 1) := by decide +kernel
theorem dX11_checkCommand_83 : decode cX11_checkCommand 83 = .ok (.invokevirtual 91, 3) := by decide +kernel
theorem dX11_checkCommand_86 : decode cX11_checkCommand 86 = .ok (.ireturn, 1) := by decide +kernel
theorem dX11_checkCommand_87 : decode cX11_checkCommand 87 = .ok (.aload_n 0, 1) := by decide +kernel
theorem dX11_checkCommand_88 : decode cX11_checkCommand 88 = .ok (.iload_n 2, 1) := by decide +kernel
theorem dX11_checkCommand_89 : decode cX11_checkCommand 89 = .ok (.iload_n 3, 1) := by decide +kernel
theorem dX11_checkCommand_90 : decode cX11_checkCommand 90 = .ok (.invokevirtual 145, 3) := by decide +kernel
theorem dX11_checkCommand_93 : decode cX11_checkCommand 93 = .ok (.ireturn, 1) := by decide +kernel
theorem dX11_checkCommand_94 : decode cX11_checkCommand 94 = .ok (.aload_n 0, 1) := by decide +kernel
theorem dX11_checkCommand_95 : decode cX11_checkCommand 95 = .ok (.iload_n 2, 1) := by decide +kernel
theorem dX11_checkCommand_96 : decode cX11_checkCommand 96 = .ok (.iload_n 3, 1) := by decide +kernel
theorem dX11_checkCommand_97 : decode cX11_checkCommand 97 = .ok (.iload 4, 2) := by decide +kernel
theorem dX11_checkCommand_99 : decode cX11_checkCommand 99 = .ok (.invokevirtual 158, 3) := by decide +kernel
theorem dX11_checkCommand_102 : decode cX11_checkCommand 102 = .ok (.ireturn, 1) := by decide +kernel
theorem dX11_checkCommand_103 : decode cX11_checkCommand 103 = .ok (.aload_n 0, 1) := by decide +kernel
theorem dX11_checkCommand_104 : decode cX11_checkCommand 104 = .ok (.iload_n 2, 1) := by decide +kernel
theorem dX11_checkCommand_105 : decode cX11_checkCommand 105 = .ok (.iload_n 3, 1) := by decide +kernel
theorem dX11_checkCommand_106 : decode cX11_checkCommand 106 = .ok (.invokevirtual 131, 3) := by decide +kernel
theorem dX11_checkCommand_109 : decode cX11_checkCommand 109 = .ok (.ireturn, 1) := by decide +kernel
theorem dX11_checkCommand_110 : decode cX11_checkCommand 110 = .ok (.aload_n 0, 1) := by decide +kernel
theorem dX11_checkCommand_111 : decode cX11_checkCommand 111 = .ok (.iload_n 2, 1) := by decide +kernel
theorem dX11_checkCommand_112 : decode cX11_checkCommand 112 = .ok (.iload_n 3, 1) := by decide +kernel
theorem dX11_checkCommand_113 : decode cX11_checkCommand 113 = .ok (.invokevirtual 234, 3) := by decide +kernel
theorem dX11_checkCommand_116 : decode cX11_checkCommand 116 = .ok (.ireturn, 1) := by decide +kernel
theorem dX11_checkCommand_117 : decode cX11_checkCommand 117 = .ok (.aload_n 0, 1) := by decide +kernel
theorem dX11_checkCommand_118 : decode cX11_checkCommand 118 = .ok (.iload_n 2, 1) := by decide +kernel
theorem dX11_checkCommand_119 : decode cX11_checkCommand 119 = .ok (.invokevirtual 242, 3) := by decide +kernel
theorem dX11_checkCommand_122 : decode cX11_checkCommand 122 = .ok (.ireturn, 1) := by decide +kernel
theorem dX11_checkCommand_123 : decode cX11_checkCommand 123 = .ok (.aload_n 0, 1) := by decide +kernel
theorem dX11_checkCommand_124 : decode cX11_checkCommand 124 = .ok (.iload_n 2, 1) := by decide +kernel
theorem dX11_checkCommand_125 : decode cX11_checkCommand 125 = .ok (.invokevirtual 288, 3) := by decide +kernel
theorem dX11_checkCommand_128 : decode cX11_checkCommand 128 = .ok (.ireturn, 1) := by decide +kernel
theorem dX11_checkCommand_129 : decode cX11_checkCommand 129 = .ok (.aload_n 0, 1) := by decide +kernel
theorem dX11_checkCommand_130 : decode cX11_checkCommand 130 = .ok (.iload_n 2, 1) := by decide +kernel
theorem dX11_checkCommand_131 : decode cX11_checkCommand 131 = .ok (.invokevirtual 303, 3) := by decide +kernel
theorem dX11_checkCommand_134 : decode cX11_checkCommand 134 = .ok (.ireturn, 1) := by decide +kernel
theorem dX11_checkCommand_135 : decode cX11_checkCommand 135 = .ok (.iconst 2, 1) := by decide +kernel
theorem dX11_checkCommand_136 : decode cX11_checkCommand 136 = .ok (.ireturn, 1) := by decide +kernel
theorem dX11_carryOut_0 : decode cX11_carryOut 0 = .ok (.getstatic 531, 3) := by decide +kernel
theorem dX11_carryOut_3 : decode cX11_carryOut 3 = .ok (.aload_n 1, 1) := by decide +kernel
theorem dX11_carryOut_4 : decode cX11_carryOut 4 = .ok (.invokevirtual 536, 3) := by decide +kernel
theorem dX11_carryOut_7 : decode cX11_carryOut 7 = .ok (.iaload, 1) := by decide +kernel
theorem dX11_carryOut_8 : decode cX11_carryOut 8 = .ok (.tableswitch 157 1 10 #[56, 67, 78, 88, 98, 110, 120, 130, 139, 148], 56) := by decide +kernel
theorem dX11_carryOut_64 : decode cX11_carryOut 64 = .ok (.aload_n 0, 1) := by decide +kernel
theorem dX11_carryOut_65 : decode cX11_carryOut 65 = .ok (.iload_n 2, 1) := by decide +kernel
theorem dX11_carryOut_66 : decode cX11_carryOut 66 = .ok (.iload_n 3, 1) := by decide +kernel
theorem dX11_carryOut_67 : decode cX11_carryOut 67 = .ok (.iconst 1, 1) := by decide +kernel
theorem dX11_carryOut_68 : decode cX11_carryOut 68 = .ok (.invokevirtual 88, 3) := by decide +kernel
theorem dX11_carryOut_71 : decode cX11_carryOut 71 = .ok (.pop, 1) := by decide +kernel
theorem dX11_carryOut_72 : decode cX11_carryOut 72 = .ok (.goto 93, 3) := by decide +kernel
theorem dX11_carryOut_75 : decode cX11_carryOut 75 = .ok (.aload_n 0, 1) := by decide +kernel
theorem dX11_carryOut_76 : decode cX11_carryOut 76 = .ok (.iload_n 2, 1) := by decide +kernel
theorem dX11_carryOut_77 : decode cX11_carryOut 77 = .ok (.iload_n 3, 1) := by decide +kernel
theorem dX11_carryOut_78 : decode cX11_carryOut 78 = .ok (.iconst 0, 1) := by decide +kernel
theorem dX11_carryOut_79 : decode cX11_carryOut 79 = .ok (.invokevirtual 88, 3) := by decide +kernel
theorem dX11_carryOut_82 : decode cX11_carryOut 82 = .ok (.pop, 1) := by decide +kernel
theorem dX11_carryOut_83 : decode cX11_carryOut 83 = .ok (.goto 82, 3) := by decide +kernel
theorem dX11_carryOut_86 : decode cX11_carryOut 86 = .ok (.aload_n 0, 1) := by decide +kernel
theorem dX11_carryOut_87 : decode cX11_carryOut 87 = .ok (.iload_n 2, 1) := by decide +kernel
theorem dX11_carryOut_88 : decode cX11_carryOut 88 = .ok (.iload_n 3, 1) := by decide +kernel
theorem dX11_carryOut_89 : decode cX11_carryOut 89 = .ok (.invokevirtual 97, 3) := by decide +kernel
theorem dX11_carryOut_92 : decode cX11_carryOut 92 = .ok (.pop, 1) := by decide +kernel
theorem dX11_carryOut_93 : decode cX11_carryOut 93 = .ok (.goto 72, 3) := by decide +kernel
theorem dX11_carryOut_96 : decode cX11_carryOut 96 = .ok (.aload_n 0, 1) := by decide +kernel
theorem dX11_carryOut_97 : decode cX11_carryOut 97 = .ok (.iload_n 2, 1) := by decide +kernel
theorem dX11_carryOut_98 : decode cX11_carryOut 98 = .ok (.iload_n 3, 1) := by decide +kernel
theorem dX11_carryOut_99 : decode cX11_carryOut 99 = .ok (.invokevirtual 155, 3) := by decide +kernel
theorem dX11_carryOut_102 : decode cX11_carryOut 102 = .ok (.pop, 1) := by decide +kernel
theorem dX11_carryOut_103 : decode cX11_carryOut 103 = .ok (.goto 62, 3) := by decide +kernel
theorem dX11_carryOut_106 : decode cX11_carryOut 106 = .ok (.aload_n 0, 1) := by decide +kernel
theorem dX11_carryOut_107 : decode cX11_carryOut 107 = .ok (.iload_n 2, 1) := by decide +kernel
theorem dX11_carryOut_108 : decode cX11_carryOut 108 = .ok (.iload_n 3, 1) := by decide +kernel
theorem dX11_carryOut_109 : decode cX11_carryOut 109 = .ok (.iload 4, 2) := by decide +kernel
theorem dX11_carryOut_111 : decode cX11_carryOut 111 = .ok (.invokevirtual 166, 3) := by decide +kernel
theorem dX11_carryOut_114 : decode cX11_carryOut 114 = .ok (.pop, 1) := by decide +kernel
theorem dX11_carryOut_115 : decode cX11_carryOut 115 = .ok (.goto 50, 3) := by decide +kernel
theorem dX11_carryOut_118 : decode cX11_carryOut 118 = .ok (.aload_n 0, 1) := by decide +kernel
theorem dX11_carryOut_119 : decode cX11_carryOut 119 = .ok (.iload_n 2, 1) := by decide +kernel
theorem dX11_carryOut_120 : decode cX11_carryOut 120 = .ok (.iload_n 3, 1) := by decide +kernel
theorem dX11_carryOut_121 : decode cX11_carryOut 121 = .ok (.invokevirtual 139, 3) := by decide +kernel
theorem dX11_carryOut_124 : decode cX11_carryOut 124 = .ok (.pop, 1) := by decide +kernel
theorem dX11_carryOut_125 : decode cX11_carryOut 125 = .ok (.goto 40, 3) := by decide +kernel
theorem dX11_carryOut_128 : decode cX11_carryOut 128 = .ok (.aload_n 0, 1) := by decide +kernel
theorem dX11_carryOut_129 : decode cX11_carryOut 129 = .ok (.iload_n 2, 1) := by decide +kernel
theorem dX11_carryOut_130 : decode cX11_carryOut 130 = .ok (.iload_n 3, 1) := by decide +kernel
theorem dX11_carryOut_131 : decode cX11_carryOut 131 = .ok (.invokevirtual 239, 3) := by decide +kernel
theorem dX11_carryOut_134 : decode cX11_carryOut 134 = .ok (.pop, 1) := by decide +kernel
theorem dX11_carryOut_135 : decode cX11_carryOut 135 = .ok (.goto 30, 3) := by decide +kernel
theorem dX11_carryOut_138 : decode cX11_carryOut 138 = .ok (.aload_n 0, 1) := by decide +kernel
theorem dX11_carryOut_139 : decode cX11_carryOut 139 = .ok (.iload_n 2, 1) := by decide +kernel
theorem dX11_carryOut_140 : decode cX11_carryOut 140 = .ok (.invokevirtual 249, 3) := by decide +kernel
theorem dX11_carryOut_143 : decode cX11_carryOut 143 = .ok (.pop, 1) := by decide +kernel
theorem dX11_carryOut_144 : decode cX11_carryOut 144 = .ok (.goto 21, 3) := by decide +kernel
theorem dX11_carryOut_147 : decode cX11_carryOut 147 = .ok (.aload_n 0, 1) := by decide +kernel
theorem dX11_carryOut_148 : decode cX11_carryOut 148 = .ok (.iload_n 2, 1) := by decide +kernel
theorem dX11_carryOut_149 : decode cX11_carryOut 149 = .ok (.invokevirtual 293, 3) := by decide +kernel
theorem dX11_carryOut_152 : decode cX11_carryOut 152 = .ok (.pop, 1) := by decide +kernel
theorem dX11_carryOut_153 : decode cX11_carryOut 153 = .ok (.goto 12, 3) := by decide +kernel
theorem dX11_carryOut_156 : decode cX11_carryOut 156 = .ok (.aload_n 0, 1) := by decide +kernel
theorem dX11_carryOut_157 : decode cX11_carryOut 157 = .ok (.iload_n 2, 1) := by decide +kernel
theorem dX11_carryOut_158 : decode cX11_carryOut 158 = .ok (.invokevirtual 306, 3) := by decide +kernel
theorem dX11_carryOut_161 : decode cX11_carryOut 161 = .ok (.pop, 1) := by decide +kernel
theorem dX11_carryOut_162 : decode cX11_carryOut 162 = .ok (.goto 3, 3) := by decide +kernel
theorem dX11_carryOut_165 : decode cX11_carryOut 165 = .ok (.return_, 1) := by decide +kernel
theorem dX12_init_0 : decode cX12_init 0 = .ok (.aload_n 0, 1) := by decide +kernel
theorem dX12_init_1 : decode cX12_init 1 = .ok (.invokespecial 1, 3) := by decide +kernel
theorem dX12_init_4 : decode cX12_init 4 = .ok (.aload_n 0, 1) := by decide +kernel
theorem dX12_init_5 : decode cX12_init 5 = .ok (.iconst (-1), 1) := by decide +kernel
theorem dX12_init_6 : decode cX12_init 6 = .ok (.putfield 7, 3) := by decide +kernel
theorem dX12_init_9 : decode cX12_init 9 = .ok (.aload_n 0, 1) := by decide +kernel
theorem dX12_init_10 : decode cX12_init 10 = .ok (.iconst (-1), 1) := by decide +kernel
theorem dX12_init_11 : decode cX12_init 11 = .ok (.putfield 13, 3) := by decide +kernel
theorem dX12_init_14 : decode cX12_init 14 = .ok (.aload_n 0, 1) := by decide +kernel
theorem dX12_init_15 : decode cX12_init 15 = .ok (.bipush 116, 2) := by decide +kernel
theorem dX12_init_17 : decode cX12_init 17 = .ok (.newarray .int, 2) := by decide +kernel
theorem dX12_init_19 : decode cX12_init 19 = .ok (.putfield 16, 3) := by decide +kernel
theorem dX12_init_22 : decode cX12_init 22 = .ok (.aload_n 0, 1) := by decide +kernel
theorem dX12_init_23 : decode cX12_init 23 = .ok (.bipush 116, 2) := by decide +kernel
theorem dX12_init_25 : decode cX12_init 25 = .ok (.newarray .int, 2) := by decide +kernel
theorem dX12_init_27 : decode cX12_init 27 = .ok (.putfield 20, 3) := by decide +kernel
theorem dX12_init_30 : decode cX12_init 30 = .ok (.aload_n 0, 1) := by decide +kernel
theorem dX12_init_31 : decode cX12_init 31 = .ok (.bipush 116, 2) := by decide +kernel
theorem dX12_init_33 : decode cX12_init 33 = .ok (.newarray .int, 2) := by decide +kernel
theorem dX12_init_35 : decode cX12_init 35 = .ok (.putfield 23, 3) := by decide +kernel
theorem dX12_init_38 : decode cX12_init 38 = .ok (.aload_n 0, 1) := by decide +kernel
theorem dX12_init_39 : decode cX12_init 39 = .ok (.sipush 928, 3) := by decide +kernel
theorem dX12_init_42 : decode cX12_init 42 = .ok (.newarray .int, 2) := by decide +kernel
theorem dX12_init_44 : decode cX12_init 44 = .ok (.putfield 26, 3) := by decide +kernel
theorem dX12_init_47 : decode cX12_init 47 = .ok (.aload_n 0, 1) := by decide +kernel
theorem dX12_init_48 : decode cX12_init 48 = .ok (.bipush 40, 2) := by decide +kernel
theorem dX12_init_50 : decode cX12_init 50 = .ok (.newarray .int, 2) := by decide +kernel
theorem dX12_init_52 : decode cX12_init 52 = .ok (.putfield 29, 3) := by decide +kernel
theorem dX12_init_55 : decode cX12_init 55 = .ok (.aload_n 0, 1) := by decide +kernel
theorem dX12_init_56 : decode cX12_init 56 = .ok (.bipush 64, 2) := by decide +kernel
theorem dX12_init_58 : decode cX12_init 58 = .ok (.newarray .int, 2) := by decide +kernel
theorem dX12_init_60 : decode cX12_init 60 = .ok (.putfield 32, 3) := by decide +kernel
theorem dX12_init_63 : decode cX12_init 63 = .ok (.aload_n 0, 1) := by decide +kernel
theorem dX12_init_64 : decode cX12_init 64 = .ok (.bipush 60, 2) := by decide +kernel
theorem dX12_init_66 : decode cX12_init 66 = .ok (.newarray .int, 2) := by decide +kernel
theorem dX12_init_68 : decode cX12_init 68 = .ok (.putfield 35, 3) := by decide +kernel
theorem dX12_init_71 : decode cX12_init 71 = .ok (.aload_n 0, 1) := by decide +kernel
theorem dX12_init_72 : decode cX12_init 72 = .ok (.bipush 40, 2) := by decide +kernel
theorem dX12_init_74 : decode cX12_init 74 = .ok (.newarray .int, 2) := by decide +kernel
theorem dX12_init_76 : decode cX12_init 76 = .ok (.putfield 38, 3) := by decide +kernel
theorem dX12_init_79 : decode cX12_init 79 = .ok (.aload_n 0, 1) := by decide +kernel
theorem dX12_init_80 : decode cX12_init 80 = .ok (.bipush 10, 2) := by decide +kernel
theorem dX12_init_82 : decode cX12_init 82 = .ok (.newarray .int, 2) := by decide +kernel
theorem dX12_init_84 : decode cX12_init 84 = .ok (.putfield 41, 3) := by decide +kernel
theorem dX12_init_87 : decode cX12_init 87 = .ok (.aload_n 0, 1) := by decide +kernel
theorem dX12_init_88 : decode cX12_init 88 = .ok (.bipush 52, 2) := by decide +kernel
theorem dX12_init_90 : decode cX12_init 90 = .ok (.newarray .int, 2) := by decide +kernel
theorem dX12_init_92 : decode cX12_init 92 = .ok (.dup, 1) := by decide +kernel
theorem dX12_init_93 : decode cX12_init 93 = .ok (.iconst 0, 1) := by decide +kernel
theorem dX12_init_94 : decode cX12_init 94 = .ok (.bipush 116, 2) := by decide +kernel
theorem dX12_init_96 : decode cX12_init 96 = .ok (.iastore, 1) := by decide +kernel
theorem dX12_init_97 : decode cX12_init 97 = .ok (.dup, 1) := by decide +kernel
theorem dX12_init_98 : decode cX12_init 98 = .ok (.iconst 1, 1) := by decide +kernel
theorem dX12_init_99 : decode cX12_init 99 = .ok (.bipush 114, 2) := by decide +kernel
theorem dX12_init_101 : decode cX12_init 101 = .ok (.iastore, 1) := by decide +kernel
theorem dX12_init_102 : decode cX12_init 102 = .ok (.dup, 1) := by decide +kernel
theorem dX12_init_103 : decode cX12_init 103 = .ok (.iconst 2, 1) := by decide +kernel
theorem dX12_init_104 : decode cX12_init 104 = .ok (.bipush 101, 2) := by decide +kernel
theorem dX12_init_106 : decode cX12_init 106 = .ok (.iastore, 1) := by decide +kernel
theorem dX12_init_107 : decode cX12_init 107 = .ok (.dup, 1) := by decide +kernel
theorem dX12_init_108 : decode cX12_init 108 = .ok (.iconst 3, 1) := by decide +kernel
theorem dX12_init_109 : decode cX12_init 109 = .ok (.bipush 101, 2) := by decide +kernel
theorem dX12_init_111 : decode cX12_init 111 = .ok (.iastore, 1) := by decide +kernel
theorem dX12_init_112 : decode cX12_init 112 = .ok (.dup, 1) := by decide +kernel
theorem dX12_init_113 : decode cX12_init 113 = .ok (.iconst 4, 1) := by decide +kernel
theorem dX12_init_114 : decode cX12_init 114 = .ok (.bipush 32, 2) := by decide +kernel
theorem dX12_init_116 : decode cX12_init 116 = .ok (.iastore, 1) := by decide +kernel
theorem dX12_init_117 : decode cX12_init 117 = .ok (.dup, 1) := by decide +kernel
theorem dX12_init_118 : decode cX12_init 118 = .ok (.iconst 5, 1) := by decide +kernel
theorem dX12_init_119 : decode cX12_init 119 = .ok (.bipush 102, 2) := by decide +kernel
theorem dX12_init_121 : decode cX12_init 121 = .ok (.iastore, 1) := by decide +kernel
theorem dX12_init_122 : decode cX12_init 122 = .ok (.dup, 1) := by decide +kernel
theorem dX12_init_123 : decode cX12_init 123 = .ok (.bipush 6, 2) := by decide +kernel
theorem dX12_init_125 : decode cX12_init 125 = .ok (.bipush 101, 2) := by decide +kernel
theorem dX12_init_127 : decode cX12_init 127 = .ok (.iastore, 1) := by decide +kernel
theorem dX12_init_128 : decode cX12_init 128 = .ok (.dup, 1) := by decide +kernel
theorem dX12_init_129 : decode cX12_init 129 = .ok (.bipush 7, 2) := by decide +kernel
theorem dX12_init_131 : decode cX12_init 131 = .ok (.bipush 108, 2) := by decide +kernel
theorem dX12_init_133 : decode cX12_init 133 = .ok (.iastore, 1) := by decide +kernel
theorem dX12_init_134 : decode cX12_init 134 = .ok (.dup, 1) := by decide +kernel
theorem dX12_init_135 : decode cX12_init 135 = .ok (.bipush 8, 2) := by decide +kernel
theorem dX12_init_137 : decode cX12_init 137 = .ok (.bipush 108, 2) := by decide +kernel
theorem dX12_init_139 : decode cX12_init 139 = .ok (.iastore, 1) := by decide +kernel
theorem dX12_init_140 : decode cX12_init 140 = .ok (.dup, 1) := by decide +kernel
theorem dX12_init_141 : decode cX12_init 141 = .ok (.bipush 9, 2) := by decide +kernel
theorem dX12_init_143 : decode cX12_init 143 = .ok (.bipush 32, 2) := by decide +kernel
theorem dX12_init_145 : decode cX12_init 145 = .ok (.iastore, 1) := by decide +kernel
theorem dX12_init_146 : decode cX12_init 146 = .ok (.dup, 1) := by decide +kernel
theorem dX12_init_147 : decode cX12_init 147 = .ok (.bipush 10, 2) := by decide +kernel
theorem dX12_init_149 : decode cX12_init 149 = .ok (.bipush 98, 2) := by decide +kernel
theorem dX12_init_151 : decode cX12_init 151 = .ok (.iastore, 1) := by decide +kernel
theorem dX12_init_152 : decode cX12_init 152 = .ok (.dup, 1) := by decide +kernel
theorem dX12_init_153 : decode cX12_init 153 = .ok (.bipush 11, 2) := by decide +kernel
theorem dX12_init_155 : decode cX12_init 155 = .ok (.bipush 101, 2) := by decide +kernel
theorem dX12_init_157 : decode cX12_init 157 = .ok (.iastore, 1) := by decide +kernel
theorem dX12_init_158 : decode cX12_init 158 = .ok (.dup, 1) := by decide +kernel
theorem dX12_init_159 : decode cX12_init 159 = .ok (.bipush 12, 2) := by decide +kernel
theorem dX12_init_161 : decode cX12_init 161 = .ok (.bipush 110, 2) := by decide +kernel
theorem dX12_init_163 : decode cX12_init 163 = .ok (.iastore, 1) := by decide +kernel
theorem dX12_init_164 : decode cX12_init 164 = .ok (.dup, 1) := by decide +kernel
theorem dX12_init_165 : decode cX12_init 165 = .ok (.bipush 13, 2) := by decide +kernel
theorem dX12_init_167 : decode cX12_init 167 = .ok (.bipush 99, 2) := by decide +kernel
theorem dX12_init_169 : decode cX12_init 169 = .ok (.iastore, 1) := by decide +kernel
theorem dX12_init_170 : decode cX12_init 170 = .ok (.dup, 1) := by decide +kernel
theorem dX12_init_171 : decode cX12_init 171 = .ok (.bipush 14, 2) := by decide +kernel
theorem dX12_init_173 : decode cX12_init 173 = .ok (.bipush 104, 2) := by decide +kernel
theorem dX12_init_175 : decode cX12_init 175 = .ok (.iastore, 1) := by decide +kernel
theorem dX12_init_176 : decode cX12_init 176 = .ok (.dup, 1) := by decide +kernel
theorem dX12_init_177 : decode cX12_init 177 = .ok (.bipush 15, 2) := by decide +kernel
theorem dX12_init_179 : decode cX12_init 179 = .ok (.bipush 32, 2) := by decide +kernel
theorem dX12_init_181 : decode cX12_init 181 = .ok (.iastore, 1) := by decide +kernel
theorem dX12_init_182 : decode cX12_init 182 = .ok (.dup, 1) := by decide +kernel
theorem dX12_init_183 : decode cX12_init 183 = .ok (.bipush 16, 2) := by decide +kernel
theorem dX12_init_185 : decode cX12_init 185 = .ok (.bipush 112, 2) := by decide +kernel
theorem dX12_init_187 : decode cX12_init 187 = .ok (.iastore, 1) := by decide +kernel
theorem dX12_init_188 : decode cX12_init 188 = .ok (.dup, 1) := by decide +kernel
theorem dX12_init_189 : decode cX12_init 189 = .ok (.bipush 17, 2) := by decide +kernel
theorem dX12_init_191 : decode cX12_init 191 = .ok (.bipush 97, 2) := by decide +kernel
theorem dX12_init_193 : decode cX12_init 193 = .ok (.iastore, 1) := by decide +kernel
theorem dX12_init_194 : decode cX12_init 194 = .ok (.dup, 1) := by decide +kernel
theorem dX12_init_195 : decode cX12_init 195 = .ok (.bipush 18, 2) := by decide +kernel
theorem dX12_init_197 : decode cX12_init 197 = .ok (.bipush 114, 2) := by decide +kernel
theorem dX12_init_199 : decode cX12_init 199 = .ok (.iastore, 1) := by decide +kernel
theorem dX12_init_200 : decode cX12_init 200 = .ok (.dup, 1) := by decide +kernel
theorem dX12_init_201 : decode cX12_init 201 = .ok (.bipush 19, 2) := by decide +kernel
theorem dX12_init_203 : decode cX12_init 203 = .ok (.bipush 116, 2) := by decide +kernel
theorem dX12_init_205 : decode cX12_init 205 = .ok (.iastore, 1) := by decide +kernel
theorem dX12_init_206 : decode cX12_init 206 = .ok (.dup, 1) := by decide +kernel
theorem dX12_init_207 : decode cX12_init 207 = .ok (.bipush 20, 2) := by decide +kernel
theorem dX12_init_209 : decode cX12_init 209 = .ok (.bipush 121, 2) := by decide +kernel
theorem dX12_init_211 : decode cX12_init 211 = .ok (.iastore, 1) := by decide +kernel
theorem dX12_init_212 : decode cX12_init 212 = .ok (.dup, 1) := by decide +kernel
theorem dX12_init_213 : decode cX12_init 213 = .ok (.bipush 21, 2) := by decide +kernel
theorem dX12_init_215 : decode cX12_init 215 = .ok (.bipush 32, 2) := by decide +kernel
theorem dX12_init_217 : decode cX12_init 217 = .ok (.iastore, 1) := by decide +kernel
theorem dX12_init_218 : decode cX12_init 218 = .ok (.dup, 1) := by decide +kernel
theorem dX12_init_219 : decode cX12_init 219 = .ok (.bipush 22, 2) := by decide +kernel
theorem dX12_init_221 : decode cX12_init 221 = .ok (.bipush 109, 2) := by decide +kernel
theorem dX12_init_223 : decode cX12_init 223 = .ok (.iastore, 1) := by decide +kernel
theorem dX12_init_224 : decode cX12_init 224 = .ok (.dup, 1) := by decide +kernel
theorem dX12_init_225 : decode cX12_init 225 = .ok (.bipush 23, 2) := by decide +kernel
theorem dX12_init_227 : decode cX12_init 227 = .ok (.bipush 111, 2) := by decide +kernel
theorem dX12_init_229 : decode cX12_init 229 = .ok (.iastore, 1) := by decide +kernel
theorem dX12_init_230 : decode cX12_init 230 = .ok (.dup, 1) := by decide +kernel
theorem dX12_init_231 : decode cX12_init 231 = .ok (.bipush 24, 2) := by decide +kernel
theorem dX12_init_233 : decode cX12_init 233 = .ok (.bipush 118, 2) := by decide +kernel
theorem dX12_init_235 : decode cX12_init 235 = .ok (.iastore, 1) := by decide +kernel
theorem dX12_init_236 : decode cX12_init 236 = .ok (.dup, 1) := by decide +kernel
theorem dX12_init_237 : decode cX12_init 237 = .ok (.bipush 25, 2) := by decide +kernel
theorem dX12_init_239 : decode cX12_init 239 = .ok (.bipush 101, 2) := by decide +kernel
theorem dX12_init_241 : decode cX12_init 241 = .ok (.iastore, 1) := by decide +kernel
theorem dX12_init_242 : decode cX12_init 242 = .ok (.dup, 1) := by decide +kernel
theorem dX12_init_243 : decode cX12_init 243 = .ok (.bipush 26, 2) := by decide +kernel
theorem dX12_init_245 : decode cX12_init 245 = .ok (.bipush 32, 2) := by decide +kernel
theorem dX12_init_247 : decode cX12_init 247 = .ok (.iastore, 1) := by decide +kernel
theorem dX12_init_248 : decode cX12_init 248 = .ok (.dup, 1) := by decide +kernel
theorem dX12_init_249 : decode cX12_init 249 = .ok (.bipush 27, 2) := by decide +kernel
theorem dX12_init_251 : decode cX12_init 251 = .ok (.bipush 119, 2) := by decide +kernel
theorem dX12_init_253 : decode cX12_init 253 = .ok (.iastore, 1) := by decide +kernel
theorem dX12_init_254 : decode cX12_init 254 = .ok (.dup, 1) := by decide +kernel
theorem dX12_init_255 : decode cX12_init 255 = .ok (.bipush 28, 2) := by decide +kernel
theorem dX12_init_257 : decode cX12_init 257 = .ok (.bipush 105, 2) := by decide +kernel
theorem dX12_init_259 : decode cX12_init 259 = .ok (.iastore, 1) := by decide +kernel
theorem dX12_init_260 : decode cX12_init 260 = .ok (.dup, 1) := by decide +kernel
theorem dX12_init_261 : decode cX12_init 261 = .ok (.bipush 29, 2) := by decide +kernel
theorem dX12_init_263 : decode cX12_init 263 = .ok (.bipush 110, 2) := by decide +kernel
theorem dX12_init_265 : decode cX12_init 265 = .ok (.iastore, 1) := by decide +kernel
theorem dX12_init_266 : decode cX12_init 266 = .ok (.dup, 1) := by decide +kernel
theorem dX12_init_267 : decode cX12_init 267 = .ok (.bipush 30, 2) := by decide +kernel
theorem dX12_init_269 : decode cX12_init 269 = .ok (.bipush 100, 2) := by decide +kernel
theorem dX12_init_271 : decode cX12_init 271 = .ok (.iastore, 1) := by decide +kernel
theorem dX12_init_272 : decode cX12_init 272 = .ok (.dup, 1) := by decide +kernel
theorem dX12_init_273 : decode cX12_init 273 = .ok (.bipush 31, 2) := by decide +kernel
theorem dX12_init_275 : decode cX12_init 275 = .ok (.bipush 32, 2) := by decide +kernel
theorem dX12_init_277 : decode cX12_init 277 = .ok (.iastore, 1) := by decide +kernel
theorem dX12_init_278 : decode cX12_init 278 = .ok (.dup, 1) := by decide +kernel
theorem dX12_init_279 : decode cX12_init 279 = .ok (.bipush 32, 2) := by decide +kernel
theorem dX12_init_281 : decode cX12_init 281 = .ok (.bipush 116, 2) := by decide +kernel
theorem dX12_init_283 : decode cX12_init 283 = .ok (.iastore, 1) := by decide +kernel
theorem dX12_init_284 : decode cX12_init 284 = .ok (.dup, 1) := by decide +kernel
theorem dX12_init_285 : decode cX12_init 285 = .ok (.bipush 33, 2) := by decide +kernel
theorem dX12_init_287 : decode cX12_init 287 = .ok (.bipush 104, 2) := by decide +kernel
theorem dX12_init_289 : decode cX12_init 289 = .ok (.iastore, 1) := by decide +kernel
theorem dX12_init_290 : decode cX12_init 290 = .ok (.dup, 1) := by decide +kernel
theorem dX12_init_291 : decode cX12_init 291 = .ok (.bipush 34, 2) := by decide +kernel
theorem dX12_init_293 : decode cX12_init 293 = .ok (.bipush 114, 2) := by decide +kernel
theorem dX12_init_295 : decode cX12_init 295 = .ok (.iastore, 1) := by decide +kernel
theorem dX12_init_296 : decode cX12_init 296 = .ok (.dup, 1) := by decide +kernel
theorem dX12_init_297 : decode cX12_init 297 = .ok (.bipush 35, 2) := by decide +kernel
theorem dX12_init_299 : decode cX12_init 299 = .ok (.bipush 111, 2) := by decide +kernel
theorem dX12_init_301 : decode cX12_init 301 = .ok (.iastore, 1) := by decide +kernel
theorem dX12_init_302 : decode cX12_init 302 = .ok (.dup, 1) := by decide +kernel
theorem dX12_init_303 : decode cX12_init 303 = .ok (.bipush 36, 2) := by decide +kernel
theorem dX12_init_305 : decode cX12_init 305 = .ok (.bipush 119, 2) := by decide +kernel
theorem dX12_init_307 : decode cX12_init 307 = .ok (.iastore, 1) := by decide +kernel
theorem dX12_init_308 : decode cX12_init 308 = .ok (.dup, 1) := by decide +kernel
theorem dX12_init_309 : decode cX12_init 309 = .ok (.bipush 37, 2) := by decide +kernel
theorem dX12_init_311 : decode cX12_init 311 = .ok (.bipush 32, 2) := by decide +kernel
theorem dX12_init_313 : decode cX12_init 313 = .ok (.iastore, 1) := by decide +kernel
theorem dX12_init_314 : decode cX12_init 314 = .ok (.dup, 1) := by decide +kernel
theorem dX12_init_315 : decode cX12_init 315 = .ok (.bipush 38, 2) := by decide +kernel
theorem dX12_init_317 : decode cX12_init 317 = .ok (.bipush 98, 2) := by decide +kernel
theorem dX12_init_319 : decode cX12_init 319 = .ok (.iastore, 1) := by decide +kernel
theorem dX12_init_320 : decode cX12_init 320 = .ok (.dup, 1) := by decide +kernel
theorem dX12_init_321 : decode cX12_init 321 = .ok (.bipush 39, 2) := by decide +kernel
theorem dX12_init_323 : decode cX12_init 323 = .ok (.bipush 117, 2) := by decide +kernel
theorem dX12_init_325 : decode cX12_init 325 = .ok (.iastore, 1) := by decide +kernel
theorem dX12_init_326 : decode cX12_init 326 = .ok (.dup, 1) := by decide +kernel
theorem dX12_init_327 : decode cX12_init 327 = .ok (.bipush 40, 2) := by decide +kernel
theorem dX12_init_329 : decode cX12_init 329 = .ok (.bipush 121, 2) := by decide +kernel
theorem dX12_init_331 : decode cX12_init 331 = .ok (.iastore, 1) := by decide +kernel
theorem dX12_init_332 : decode cX12_init 332 = .ok (.dup, 1) := by decide +kernel
theorem dX12_init_333 : decode cX12_init 333 = .ok (.bipush 41, 2) := by decide +kernel
theorem dX12_init_335 : decode cX12_init 335 = .ok (.bipush 32, 2) := by decide +kernel
theorem dX12_init_337 : decode cX12_init 337 = .ok (.iastore, 1) := by decide +kernel
theorem dX12_init_338 : decode cX12_init 338 = .ok (.dup, 1) := by decide +kernel
theorem dX12_init_339 : decode cX12_init 339 = .ok (.bipush 42, 2) := by decide +kernel
theorem dX12_init_341 : decode cX12_init 341 = .ok (.bipush 104, 2) := by decide +kernel
theorem dX12_init_343 : decode cX12_init 343 = .ok (.iastore, 1) := by decide +kernel
theorem dX12_init_344 : decode cX12_init 344 = .ok (.dup, 1) := by decide +kernel
theorem dX12_init_345 : decode cX12_init 345 = .ok (.bipush 43, 2) := by decide +kernel
theorem dX12_init_347 : decode cX12_init 347 = .ok (.bipush 101, 2) := by decide +kernel
theorem dX12_init_349 : decode cX12_init 349 = .ok (.iastore, 1) := by decide +kernel
theorem dX12_init_350 : decode cX12_init 350 = .ok (.dup, 1) := by decide +kernel
theorem dX12_init_351 : decode cX12_init 351 = .ok (.bipush 44, 2) := by decide +kernel
theorem dX12_init_353 : decode cX12_init 353 = .ok (.bipush 97, 2) := by decide +kernel
theorem dX12_init_355 : decode cX12_init 355 = .ok (.iastore, 1) := by decide +kernel
theorem dX12_init_356 : decode cX12_init 356 = .ok (.dup, 1) := by decide +kernel
theorem dX12_init_357 : decode cX12_init 357 = .ok (.bipush 45, 2) := by decide +kernel
theorem dX12_init_359 : decode cX12_init 359 = .ok (.bipush 114, 2) := by decide +kernel
theorem dX12_init_361 : decode cX12_init 361 = .ok (.iastore, 1) := by decide +kernel
theorem dX12_init_362 : decode cX12_init 362 = .ok (.dup, 1) := by decide +kernel
theorem dX12_init_363 : decode cX12_init 363 = .ok (.bipush 46, 2) := by decide +kernel
theorem dX12_init_365 : decode cX12_init 365 = .ok (.bipush 32, 2) := by decide +kernel
theorem dX12_init_367 : decode cX12_init 367 = .ok (.iastore, 1) := by decide +kernel
theorem dX12_init_368 : decode cX12_init 368 = .ok (.dup, 1) := by decide +kernel
theorem dX12_init_369 : decode cX12_init 369 = .ok (.bipush 47, 2) := by decide +kernel
theorem dX12_init_371 : decode cX12_init 371 = .ok (.bipush 112, 2) := by decide +kernel
theorem dX12_init_373 : decode cX12_init 373 = .ok (.iastore, 1) := by decide +kernel
theorem dX12_init_374 : decode cX12_init 374 = .ok (.dup, 1) := by decide +kernel
theorem dX12_init_375 : decode cX12_init 375 = .ok (.bipush 48, 2) := by decide +kernel
theorem dX12_init_377 : decode cX12_init 377 = .ok (.bipush 97, 2) := by decide +kernel
theorem dX12_init_379 : decode cX12_init 379 = .ok (.iastore, 1) := by decide +kernel
theorem dX12_init_380 : decode cX12_init 380 = .ok (.dup, 1) := by decide +kernel
theorem dX12_init_381 : decode cX12_init 381 = .ok (.bipush 49, 2) := by decide +kernel
theorem dX12_init_383 : decode cX12_init 383 = .ok (.bipush 115, 2) := by decide +kernel
theorem dX12_init_385 : decode cX12_init 385 = .ok (.iastore, 1) := by decide +kernel
theorem dX12_init_386 : decode cX12_init 386 = .ok (.dup, 1) := by decide +kernel
theorem dX12_init_387 : decode cX12_init 387 = .ok (.bipush 50, 2) := by decide +kernel
theorem dX12_init_389 : decode cX12_init 389 = .ok (.bipush 115, 2) := by decide +kernel
theorem dX12_init_391 : decode cX12_init 391 = .ok (.iastore, 1) := by decide +kernel
theorem dX12_init_392 : decode cX12_init 392 = .ok (.dup, 1) := by decide +kernel
theorem dX12_init_393 : decode cX12_init 393 = .ok (.bipush 51, 2) := by decide +kernel
theorem dX12_init_395 : decode cX12_init 395 = .ok (.bipush 32, 2) := by decide +kernel
theorem dX12_init_397 : decode cX12_init 397 = .ok (.iastore, 1) := by decide +kernel
theorem dX12_init_398 : decode cX12_init 398 = .ok (.putfield 44, 3) := by decide +kernel
theorem dX12_init_401 : decode cX12_init 401 = .ok (.aload_n 0, 1) := by decide +kernel
theorem dX12_init_402 : decode cX12_init 402 = .ok (.bipush 11, 2) := by decide +kernel
theorem dX12_init_404 : decode cX12_init 404 = .ok (.newarray .int, 2) := by decide +kernel
theorem dX12_init_406 : decode cX12_init 406 = .ok (.dup, 1) := by decide +kernel
theorem dX12_init_407 : decode cX12_init 407 = .ok (.iconst 0, 1) := by decide +kernel
theorem dX12_init_408 : decode cX12_init 408 = .ok (.iconst 0, 1) := by decide +kernel
theorem dX12_init_409 : decode cX12_init 409 = .ok (.iastore, 1) := by decide +kernel
theorem dX12_init_410 : decode cX12_init 410 = .ok (.dup, 1) := by decide +kernel
theorem dX12_init_411 : decode cX12_init 411 = .ok (.iconst 1, 1) := by decide +kernel
theorem dX12_init_412 : decode cX12_init 412 = .ok (.iconst 5, 1) := by decide +kernel
theorem dX12_init_413 : decode cX12_init 413 = .ok (.iastore, 1) := by decide +kernel
theorem dX12_init_414 : decode cX12_init 414 = .ok (.dup, 1) := by decide +kernel
theorem dX12_init_415 : decode cX12_init 415 = .ok (.iconst 2, 1) := by decide +kernel
theorem dX12_init_416 : decode cX12_init 416 = .ok (.bipush 10, 2) := by decide +kernel
theorem dX12_init_418 : decode cX12_init 418 = .ok (.iastore, 1) := by decide +kernel
theorem dX12_init_419 : decode cX12_init 419 = .ok (.dup, 1) := by decide +kernel
theorem dX12_init_420 : decode cX12_init 420 = .ok (.iconst 3, 1) := by decide +kernel
theorem dX12_init_421 : decode cX12_init 421 = .ok (.bipush 16, 2) := by decide +kernel
theorem dX12_init_423 : decode cX12_init 423 = .ok (.iastore, 1) := by decide +kernel
theorem dX12_init_424 : decode cX12_init 424 = .ok (.dup, 1) := by decide +kernel
theorem dX12_init_425 : decode cX12_init 425 = .ok (.iconst 4, 1) := by decide +kernel
theorem dX12_init_426 : decode cX12_init 426 = .ok (.bipush 22, 2) := by decide +kernel
theorem dX12_init_428 : decode cX12_init 428 = .ok (.iastore, 1) := by decide +kernel
theorem dX12_init_429 : decode cX12_init 429 = .ok (.dup, 1) := by decide +kernel
theorem dX12_init_430 : decode cX12_init 430 = .ok (.iconst 5, 1) := by decide +kernel
theorem dX12_init_431 : decode cX12_init 431 = .ok (.bipush 27, 2) := by decide +kernel
theorem dX12_init_433 : decode cX12_init 433 = .ok (.iastore, 1) := by decide +kernel
theorem dX12_init_434 : decode cX12_init 434 = .ok (.dup, 1) := by decide +kernel
theorem dX12_init_435 : decode cX12_init 435 = .ok (.bipush 6, 2) := by decide +kernel
theorem dX12_init_437 : decode cX12_init 437 = .ok (.bipush 32, 2) := by decide +kernel
theorem dX12_init_439 : decode cX12_init 439 = .ok (.iastore, 1) := by decide +kernel
theorem dX12_init_440 : decode cX12_init 440 = .ok (.dup, 1) := by decide +kernel
theorem dX12_init_441 : decode cX12_init 441 = .ok (.bipush 7, 2) := by decide +kernel
theorem dX12_init_443 : decode cX12_init 443 = .ok (.bipush 38, 2) := by decide +kernel
theorem dX12_init_445 : decode cX12_init 445 = .ok (.iastore, 1) := by decide +kernel
theorem dX12_init_446 : decode cX12_init 446 = .ok (.dup, 1) := by decide +kernel
theorem dX12_init_447 : decode cX12_init 447 = .ok (.bipush 8, 2) := by decide +kernel
theorem dX12_init_449 : decode cX12_init 449 = .ok (.bipush 42, 2) := by decide +kernel
theorem dX12_init_451 : decode cX12_init 451 = .ok (.iastore, 1) := by decide +kernel
theorem dX12_init_452 : decode cX12_init 452 = .ok (.dup, 1) := by decide +kernel
theorem dX12_init_453 : decode cX12_init 453 = .ok (.bipush 9, 2) := by decide +kernel
theorem dX12_init_455 : decode cX12_init 455 = .ok (.bipush 47, 2) := by decide +kernel
theorem dX12_init_457 : decode cX12_init 457 = .ok (.iastore, 1) := by decide +kernel
theorem dX12_init_458 : decode cX12_init 458 = .ok (.dup, 1) := by decide +kernel
theorem dX12_init_459 : decode cX12_init 459 = .ok (.bipush 10, 2) := by decide +kernel
theorem dX12_init_461 : decode cX12_init 461 = .ok (.bipush 52, 2) := by decide +kernel
theorem dX12_init_463 : decode cX12_init 463 = .ok (.iastore, 1) := by decide +kernel
theorem dX12_init_464 : decode cX12_init 464 = .ok (.putfield 47, 3) := by decide +kernel
theorem dX12_init_467 : decode cX12_init 467 = .ok (.aload_n 0, 1) := by decide +kernel
theorem dX12_init_468 : decode cX12_init 468 = .ok (.getfield 16, 3) := by decide +kernel
theorem dX12_init_471 : decode cX12_init 471 = .ok (.iconst 1, 1) := by decide +kernel
theorem dX12_init_472 : decode cX12_init 472 = .ok (.bipush 50, 2) := by decide +kernel
theorem dX12_init_474 : decode cX12_init 474 = .ok (.iastore, 1) := by decide +kernel
theorem dX12_init_475 : decode cX12_init 475 = .ok (.aload_n 0, 1) := by decide +kernel
theorem dX12_init_476 : decode cX12_init 476 = .ok (.getfield 16, 3) := by decide +kernel
theorem dX12_init_479 : decode cX12_init 479 = .ok (.iconst 2, 1) := by decide +kernel
theorem dX12_init_480 : decode cX12_init 480 = .ok (.bipush 10, 2) := by decide +kernel
theorem dX12_init_482 : decode cX12_init 482 = .ok (.iastore, 1) := by decide +kernel
theorem dX12_init_483 : decode cX12_init 483 = .ok (.bipush 8, 2) := by decide +kernel
theorem dX12_init_485 : decode cX12_init 485 = .ok (.istore_n 1, 1) := by decide +kernel
theorem dX12_init_486 : decode cX12_init 486 = .ok (.iload_n 1, 1) := by decide +kernel
theorem dX12_init_487 : decode cX12_init 487 = .ok (.bipush 17, 2) := by decide +kernel
theorem dX12_init_489 : decode cX12_init 489 = .ok (.if_icmp .gt 22, 3) := by decide +kernel
theorem dX12_init_492 : decode cX12_init 492 = .ok (.aload_n 0, 1) := by decide +kernel
theorem dX12_init_493 : decode cX12_init 493 = .ok (.getfield 16, 3) := by decide +kernel
theorem dX12_init_496 : decode cX12_init 496 = .ok (.bipush 8, 2) := by decide +kernel
theorem dX12_init_498 : decode cX12_init 498 = .ok (.dup2, 1) := by decide +kernel
theorem dX12_init_499 : decode cX12_init 499 = .ok (.iaload, 1) := by decide +kernel
theorem dX12_init_500 : decode cX12_init 500 = .ok (.iconst 1, 1) := by decide +kernel
theorem dX12_init_501 : decode cX12_init 501 = .ok (.iload_n 1, 1) := by decide +kernel
theorem dX12_init_502 : decode cX12_init 502 = .ok (.ishl, 1) := by decide +kernel
theorem dX12_init_503 : decode cX12_init 503 = .ok (.ior, 1) := by decide +kernel
theorem dX12_init_504 : decode cX12_init 504 = .ok (.iastore, 1) := by decide +kernel
theorem dX12_init_505 : decode cX12_init 505 = .ok (.iinc 1 1, 3) := by decide +kernel
theorem dX12_init_508 : decode cX12_init 508 = .ok (.goto (-22), 3) := by decide +kernel
theorem dX12_init_511 : decode cX12_init 511 = .ok (.return_, 1) := by decide +kernel
theorem dX12_thrown_0 : decode cX12_thrown 0 = .ok (.aload_n 0, 1) := by decide +kernel
theorem dX12_thrown_1 : decode cX12_thrown 1 = .ok (.getfield 50, 3) := by decide +kernel
theorem dX12_thrown_4 : decode cX12_thrown 4 = .ok (.ireturn, 1) := by decide +kernel
theorem dX12_fail_0 : decode cX12_fail 0 = .ok (.aload_n 0, 1) := by decide +kernel
theorem dX12_fail_1 : decode cX12_fail 1 = .ok (.iload_n 1, 1) := by decide +kernel
theorem dX12_fail_2 : decode cX12_fail 2 = .ok (.putfield 50, 3) := by decide +kernel
theorem dX12_fail_5 : decode cX12_fail 5 = .ok (.iconst 0, 1) := by decide +kernel
theorem dX12_fail_6 : decode cX12_fail 6 = .ok (.ireturn, 1) := by decide +kernel
theorem dX12_refuses_0 : decode cX12_refuses 0 = .ok (.aload_n 0, 1) := by decide +kernel
theorem dX12_refuses_1 : decode cX12_refuses 1 = .ok (.iload_n 2, 1) := by decide +kernel
theorem dX12_refuses_2 : decode cX12_refuses 2 = .ok (.putfield 53, 3) := by decide +kernel
theorem dX12_refuses_5 : decode cX12_refuses 5 = .ok (.aload_n 0, 1) := by decide +kernel
theorem dX12_refuses_6 : decode cX12_refuses 6 = .ok (.iload_n 3, 1) := by decide +kernel
theorem dX12_refuses_7 : decode cX12_refuses 7 = .ok (.putfield 56, 3) := by decide +kernel
theorem dX12_refuses_10 : decode cX12_refuses 10 = .ok (.aload_n 0, 1) := by decide +kernel
theorem dX12_refuses_11 : decode cX12_refuses 11 = .ok (.iload_n 1, 1) := by decide +kernel
theorem dX12_refuses_12 : decode cX12_refuses 12 = .ok (.invokevirtual 59, 3) := by decide +kernel
theorem dX12_refuses_15 : decode cX12_refuses 15 = .ok (.ireturn, 1) := by decide +kernel
theorem dX12_isIn_0 : decode cX12_isIn 0 = .ok (.iload_n 0, 1) := by decide +kernel
theorem dX12_isIn_1 : decode cX12_isIn 1 = .ok (.iload_n 1, 1) := by decide +kernel
theorem dX12_isIn_2 : decode cX12_isIn 2 = .ok (.if_icmp .lt 12, 3) := by decide +kernel
theorem dX12_isIn_5 : decode cX12_isIn 5 = .ok (.iload_n 0, 1) := by decide +kernel
theorem dX12_isIn_6 : decode cX12_isIn 6 = .ok (.iload_n 2, 1) := by decide +kernel
theorem dX12_isIn_7 : decode cX12_isIn 7 = .ok (.if_icmp .gt 7, 3) := by decide +kernel
theorem dX12_isIn_10 : decode cX12_isIn 10 = .ok (.iconst 1, 1) := by decide +kernel
theorem dX12_isIn_11 : decode cX12_isIn 11 = .ok (.goto 4, 3) := by decide +kernel
theorem dX12_isIn_14 : decode cX12_isIn 14 = .ok (.iconst 0, 1) := by decide +kernel
theorem dX12_isIn_15 : decode cX12_isIn 15 = .ok (.ireturn, 1) := by decide +kernel
theorem dX12_lays_0 : decode cX12_lays 0 = .ok (.iconst 0, 1) := by decide +kernel
theorem dX12_lays_1 : decode cX12_lays 1 = .ok (.istore_n 2, 1) := by decide +kernel
theorem dX12_lays_2 : decode cX12_lays 2 = .ok (.iload_n 2, 1) := by decide +kernel
theorem dX12_lays_3 : decode cX12_lays 3 = .ok (.bipush 116, 2) := by decide +kernel
theorem dX12_lays_5 : decode cX12_lays 5 = .ok (.if_icmp .ge 15, 3) := by decide +kernel
theorem dX12_lays_8 : decode cX12_lays 8 = .ok (.aload_n 0, 1) := by decide +kernel
theorem dX12_lays_9 : decode cX12_lays 9 = .ok (.iload_n 2, 1) := by decide +kernel
theorem dX12_lays_10 : decode cX12_lays 10 = .ok (.aload_n 1, 1) := by decide +kernel
theorem dX12_lays_11 : decode cX12_lays 11 = .ok (.iload_n 2, 1) := by decide +kernel
theorem dX12_lays_12 : decode cX12_lays 12 = .ok (.iaload, 1) := by decide +kernel
theorem dX12_lays_13 : decode cX12_lays 13 = .ok (.iastore, 1) := by decide +kernel
theorem dX12_lays_14 : decode cX12_lays 14 = .ok (.iinc 2 1, 3) := by decide +kernel
theorem dX12_lays_17 : decode cX12_lays 17 = .ok (.goto (-15), 3) := by decide +kernel
theorem dX12_lays_20 : decode cX12_lays 20 = .ok (.return_, 1) := by decide +kernel
theorem dX12_begins_0 : decode cX12_begins 0 = .ok (.aload_n 0, 1) := by decide +kernel
theorem dX12_begins_1 : decode cX12_begins 1 = .ok (.iconst 0, 1) := by decide +kernel
theorem dX12_begins_2 : decode cX12_begins 2 = .ok (.putfield 50, 3) := by decide +kernel
theorem dX12_begins_5 : decode cX12_begins 5 = .ok (.aload_n 0, 1) := by decide +kernel
theorem dX12_begins_6 : decode cX12_begins 6 = .ok (.getfield 20, 3) := by decide +kernel
theorem dX12_begins_9 : decode cX12_begins 9 = .ok (.aload_n 0, 1) := by decide +kernel
theorem dX12_begins_10 : decode cX12_begins 10 = .ok (.getfield 16, 3) := by decide +kernel
theorem dX12_begins_13 : decode cX12_begins 13 = .ok (.invokestatic 63, 3) := by decide +kernel
theorem dX12_begins_16 : decode cX12_begins 16 = .ok (.return_, 1) := by decide +kernel
theorem dX12_ends_0 : decode cX12_ends 0 = .ok (.aload_n 0, 1) := by decide +kernel
theorem dX12_ends_1 : decode cX12_ends 1 = .ok (.getfield 50, 3) := by decide +kernel
theorem dX12_ends_4 : decode cX12_ends 4 = .ok (.ifCond .eq 16, 3) := by decide +kernel
theorem dX12_ends_7 : decode cX12_ends 7 = .ok (.aload_n 0, 1) := by decide +kernel
theorem dX12_ends_8 : decode cX12_ends 8 = .ok (.getfield 16, 3) := by decide +kernel
theorem dX12_ends_11 : decode cX12_ends 11 = .ok (.aload_n 0, 1) := by decide +kernel
theorem dX12_ends_12 : decode cX12_ends 12 = .ok (.getfield 20, 3) := by decide +kernel
theorem dX12_ends_15 : decode cX12_ends 15 = .ok (.invokestatic 63, 3) := by decide +kernel
theorem dX12_ends_18 : decode cX12_ends 18 = .ok (.iconst 0, 1) := by decide +kernel
theorem dX12_ends_19 : decode cX12_ends 19 = .ok (.ireturn, 1) := by decide +kernel
theorem dX12_ends_20 : decode cX12_ends 20 = .ok (.aload_n 0, 1) := by decide +kernel
theorem dX12_ends_21 : decode cX12_ends 21 = .ok (.getfield 67, 3) := by decide +kernel
theorem dX12_ends_24 : decode cX12_ends 24 = .ok (.bipush 8, 2) := by decide +kernel
theorem dX12_ends_26 : decode cX12_ends 26 = .ok (.if_icmp .ne 43, 3) := by decide +kernel
theorem dX12_ends_29 : decode cX12_ends 29 = .ok (.iconst 0, 1) := by decide +kernel
theorem dX12_ends_30 : decode cX12_ends 30 = .ok (.istore_n 2, 1) := by decide +kernel
theorem dX12_ends_31 : decode cX12_ends 31 = .ok (.iload_n 2, 1) := by decide +kernel
theorem dX12_ends_32 : decode cX12_ends 32 = .ok (.sipush 812, 3) := by decide +kernel
theorem dX12_ends_35 : decode cX12_ends 35 = .ok (.if_icmp .ge 24, 3) := by decide +kernel
theorem dX12_ends_38 : decode cX12_ends 38 = .ok (.aload_n 0, 1) := by decide +kernel
theorem dX12_ends_39 : decode cX12_ends 39 = .ok (.getfield 26, 3) := by decide +kernel
theorem dX12_ends_42 : decode cX12_ends 42 = .ok (.iload_n 2, 1) := by decide +kernel
theorem dX12_ends_43 : decode cX12_ends 43 = .ok (.aload_n 0, 1) := by decide +kernel
theorem dX12_ends_44 : decode cX12_ends 44 = .ok (.getfield 26, 3) := by decide +kernel
theorem dX12_ends_47 : decode cX12_ends 47 = .ok (.iload_n 2, 1) := by decide +kernel
theorem dX12_ends_48 : decode cX12_ends 48 = .ok (.bipush 116, 2) := by decide +kernel
theorem dX12_ends_50 : decode cX12_ends 50 = .ok (.iadd, 1) := by decide +kernel
theorem dX12_ends_51 : decode cX12_ends 51 = .ok (.iaload, 1) := by decide +kernel
theorem dX12_ends_52 : decode cX12_ends 52 = .ok (.iastore, 1) := by decide +kernel
theorem dX12_ends_53 : decode cX12_ends 53 = .ok (.iinc 2 1, 3) := by decide +kernel
theorem dX12_ends_56 : decode cX12_ends 56 = .ok (.goto (-25), 3) := by decide +kernel
theorem dX12_ends_59 : decode cX12_ends 59 = .ok (.aload_n 0, 1) := by decide +kernel
theorem dX12_ends_60 : decode cX12_ends 60 = .ok (.dup, 1) := by decide +kernel
theorem dX12_ends_61 : decode cX12_ends 61 = .ok (.getfield 67, 3) := by decide +kernel
theorem dX12_ends_64 : decode cX12_ends 64 = .ok (.iconst 1, 1) := by decide +kernel
theorem dX12_ends_65 : decode cX12_ends 65 = .ok (.isub, 1) := by decide +kernel
theorem dX12_ends_66 : decode cX12_ends 66 = .ok (.putfield 67, 3) := by decide +kernel
theorem dX12_ends_69 : decode cX12_ends 69 = .ok (.iconst 0, 1) := by decide +kernel
theorem dX12_ends_70 : decode cX12_ends 70 = .ok (.istore_n 2, 1) := by decide +kernel
theorem dX12_ends_71 : decode cX12_ends 71 = .ok (.iload_n 2, 1) := by decide +kernel
theorem dX12_ends_72 : decode cX12_ends 72 = .ok (.bipush 116, 2) := by decide +kernel
theorem dX12_ends_74 : decode cX12_ends 74 = .ok (.if_icmp .ge 29, 3) := by decide +kernel
theorem dX12_ends_77 : decode cX12_ends 77 = .ok (.aload_n 0, 1) := by decide +kernel
theorem dX12_ends_78 : decode cX12_ends 78 = .ok (.getfield 26, 3) := by decide +kernel
theorem dX12_ends_81 : decode cX12_ends 81 = .ok (.aload_n 0, 1) := by decide +kernel
theorem dX12_ends_82 : decode cX12_ends 82 = .ok (.getfield 67, 3) := by decide +kernel
theorem dX12_ends_85 : decode cX12_ends 85 = .ok (.bipush 116, 2) := by decide +kernel
theorem dX12_ends_87 : decode cX12_ends 87 = .ok (.imul, 1) := by decide +kernel
theorem dX12_ends_88 : decode cX12_ends 88 = .ok (.iload_n 2, 1) := by decide +kernel
theorem dX12_ends_89 : decode cX12_ends 89 = .ok (.iadd, 1) := by decide +kernel
theorem dX12_ends_90 : decode cX12_ends 90 = .ok (.aload_n 0, 1) := by decide +kernel
theorem dX12_ends_91 : decode cX12_ends 91 = .ok (.getfield 20, 3) := by decide +kernel
theorem dX12_ends_94 : decode cX12_ends 94 = .ok (.iload_n 2, 1) := by decide +kernel
theorem dX12_ends_95 : decode cX12_ends 95 = .ok (.iaload, 1) := by decide +kernel
theorem dX12_ends_96 : decode cX12_ends 96 = .ok (.iastore, 1) := by decide +kernel
theorem dX12_ends_97 : decode cX12_ends 97 = .ok (.iinc 2 1, 3) := by decide +kernel
theorem dX12_ends_100 : decode cX12_ends 100 = .ok (.goto (-29), 3) := by decide +kernel
theorem dX12_ends_103 : decode cX12_ends 103 = .ok (.aload_n 0, 1) := by decide +kernel
theorem dX12_ends_104 : decode cX12_ends 104 = .ok (.dup, 1) := by decide +kernel
theorem dX12_ends_105 : decode cX12_ends 105 = .ok (.getfield 67, 3) := by decide +kernel
theorem dX12_ends_108 : decode cX12_ends 108 = .ok (.iconst 1, 1) := by decide +kernel
theorem dX12_ends_109 : decode cX12_ends 109 = .ok (.iadd, 1) := by decide +kernel
theorem dX12_ends_110 : decode cX12_ends 110 = .ok (.putfield 67, 3) := by decide +kernel
theorem dX12_ends_113 : decode cX12_ends 113 = .ok (.iload_n 1, 1) := by decide +kernel
theorem dX12_ends_114 : decode cX12_ends 114 = .ok (.ireturn, 1) := by decide +kernel
theorem dX12_isCell_0 : decode cX12_isCell 0 = .ok (.iload_n 0, 1) := by decide +kernel
theorem dX12_isCell_1 : decode cX12_isCell 1 = .ok (.iconst 0, 1) := by decide +kernel
theorem dX12_isCell_2 : decode cX12_isCell 2 = .ok (.bipush 7, 2) := by decide +kernel
theorem dX12_isCell_4 : decode cX12_isCell 4 = .ok (.invokestatic 70, 3) := by decide +kernel
theorem dX12_isCell_7 : decode cX12_isCell 7 = .ok (.ifCond .eq 17, 3) := by decide +kernel
theorem dX12_isCell_10 : decode cX12_isCell 10 = .ok (.iload_n 1, 1) := by decide +kernel
theorem dX12_isCell_11 : decode cX12_isCell 11 = .ok (.iconst 0, 1) := by decide +kernel
theorem dX12_isCell_12 : decode cX12_isCell 12 = .ok (.bipush 7, 2) := by decide +kernel
theorem dX12_isCell_14 : decode cX12_isCell 14 = .ok (.invokestatic 70, 3) := by decide +kernel
theorem dX12_isCell_17 : decode cX12_isCell 17 = .ok (.ifCond .eq 7, 3) := by decide +kernel
theorem dX12_isCell_20 : decode cX12_isCell 20 = .ok (.iconst 1, 1) := by decide +kernel
theorem dX12_isCell_21 : decode cX12_isCell 21 = .ok (.goto 4, 3) := by decide +kernel
theorem dX12_isCell_24 : decode cX12_isCell 24 = .ok (.iconst 0, 1) := by decide +kernel
theorem dX12_isCell_25 : decode cX12_isCell 25 = .ok (.ireturn, 1) := by decide +kernel
theorem dX12_isTree_0 : decode cX12_isTree 0 = .ok (.aload_n 0, 1) := by decide +kernel
theorem dX12_isTree_1 : decode cX12_isTree 1 = .ok (.getfield 16, 3) := by decide +kernel
theorem dX12_isTree_4 : decode cX12_isTree 4 = .ok (.bipush 12, 2) := by decide +kernel
theorem dX12_isTree_6 : decode cX12_isTree 6 = .ok (.iload_n 1, 1) := by decide +kernel
theorem dX12_isTree_7 : decode cX12_isTree 7 = .ok (.iadd, 1) := by decide +kernel
theorem dX12_isTree_8 : decode cX12_isTree 8 = .ok (.iaload, 1) := by decide +kernel
theorem dX12_isTree_9 : decode cX12_isTree 9 = .ok (.iconst 1, 1) := by decide +kernel
theorem dX12_isTree_10 : decode cX12_isTree 10 = .ok (.if_icmp .ne 7, 3) := by decide +kernel
theorem dX12_isTree_13 : decode cX12_isTree 13 = .ok (.iconst 1, 1) := by decide +kernel
theorem dX12_isTree_14 : decode cX12_isTree 14 = .ok (.goto 4, 3) := by decide +kernel
theorem dX12_isTree_17 : decode cX12_isTree 17 = .ok (.iconst 0, 1) := by decide +kernel
theorem dX12_isTree_18 : decode cX12_isTree 18 = .ok (.ireturn, 1) := by decide +kernel
theorem dX12_cellOfParty_0 : decode cX12_cellOfParty 0 = .ok (.aload_n 0, 1) := by decide +kernel
theorem dX12_cellOfParty_1 : decode cX12_cellOfParty 1 = .ok (.getfield 16, 3) := by decide +kernel
theorem dX12_cellOfParty_4 : decode cX12_cellOfParty 4 = .ok (.bipush 76, 2) := by decide +kernel
theorem dX12_cellOfParty_6 : decode cX12_cellOfParty 6 = .ok (.iconst 2, 1) := by decide +kernel
theorem dX12_cellOfParty_7 : decode cX12_cellOfParty 7 = .ok (.iload_n 1, 1) := by decide +kernel
theorem dX12_cellOfParty_8 : decode cX12_cellOfParty 8 = .ok (.imul, 1) := by decide +kernel
theorem dX12_cellOfParty_9 : decode cX12_cellOfParty 9 = .ok (.iadd, 1) := by decide +kernel
theorem dX12_cellOfParty_10 : decode cX12_cellOfParty 10 = .ok (.iaload, 1) := by decide +kernel
theorem dX12_cellOfParty_11 : decode cX12_cellOfParty 11 = .ok (.ireturn, 1) := by decide +kernel
theorem dX12_standing_0 : decode cX12_standing 0 = .ok (.iconst 0, 1) := by decide +kernel
theorem dX12_standing_1 : decode cX12_standing 1 = .ok (.istore_n 2, 1) := by decide +kernel
theorem dX12_standing_2 : decode cX12_standing 2 = .ok (.iload_n 2, 1) := by decide +kernel
theorem dX12_standing_3 : decode cX12_standing 3 = .ok (.aload_n 0, 1) := by decide +kernel
theorem dX12_standing_4 : decode cX12_standing 4 = .ok (.getfield 16, 3) := by decide +kernel
theorem dX12_standing_7 : decode cX12_standing 7 = .ok (.bipush 6, 2) := by decide +kernel
theorem dX12_standing_9 : decode cX12_standing 9 = .ok (.iaload, 1) := by decide +kernel
theorem dX12_standing_10 : decode cX12_standing 10 = .ok (.if_icmp .ge 20, 3) := by decide +kernel
theorem dX12_standing_13 : decode cX12_standing 13 = .ok (.aload_n 0, 1) := by decide +kernel
theorem dX12_standing_14 : decode cX12_standing 14 = .ok (.iload_n 2, 1) := by decide +kernel
theorem dX12_standing_15 : decode cX12_standing 15 = .ok (.invokevirtual 74, 3) := by decide +kernel
theorem dX12_standing_18 : decode cX12_standing 18 = .ok (.iload_n 1, 1) := by decide +kernel
theorem dX12_standing_19 : decode cX12_standing 19 = .ok (.if_icmp .ne 5, 3) := by decide +kernel
theorem dX12_standing_22 : decode cX12_standing 22 = .ok (.iload_n 2, 1) := by decide +kernel
theorem dX12_standing_23 : decode cX12_standing 23 = .ok (.ireturn, 1) := by decide +kernel
theorem dX12_standing_24 : decode cX12_standing 24 = .ok (.iinc 2 1, 3) := by decide +kernel
theorem dX12_standing_27 : decode cX12_standing 27 = .ok (.goto (-25), 3) := by decide +kernel
theorem dX12_standing_30 : decode cX12_standing 30 = .ok (.iconst (-1), 1) := by decide +kernel
theorem dX12_standing_31 : decode cX12_standing 31 = .ok (.ireturn, 1) := by decide +kernel
theorem dX12_next_0 : decode cX12_next 0 = .ok (.iload_n 0, 1) := by decide +kernel
theorem dX12_next_1 : decode cX12_next 1 = .ok (.bipush 8, 2) := by decide +kernel
theorem dX12_next_3 : decode cX12_next 3 = .ok (.irem, 1) := by decide +kernel
theorem dX12_next_4 : decode cX12_next 4 = .ok (.istore_n 2, 1) := by decide +kernel
theorem dX12_next_5 : decode cX12_next 5 = .ok (.iload_n 0, 1) := by decide +kernel
theorem dX12_next_6 : decode cX12_next 6 = .ok (.bipush 8, 2) := by decide +kernel
theorem dX12_next_8 : decode cX12_next 8 = .ok (.idiv, 1) := by decide +kernel
theorem dX12_next_9 : decode cX12_next 9 = .ok (.istore_n 3, 1) := by decide +kernel
theorem dX12_next_10 : decode cX12_next 10 = .ok (.iload_n 1, 1) := by decide +kernel
theorem dX12_next_11 : decode cX12_next 11 = .ok (.ifCond .eq 14, 3) := by decide +kernel
theorem dX12_next_14 : decode cX12_next 14 = .ok (.iload_n 1, 1) := by decide +kernel
theorem dX12_next_15 : decode cX12_next 15 = .ok (.iconst 1, 1) := by decide +kernel
theorem dX12_next_16 : decode cX12_next 16 = .ok (.if_icmp .eq 9, 3) := by decide +kernel
theorem dX12_next_19 : decode cX12_next 19 = .ok (.iload_n 1, 1) := by decide +kernel
theorem dX12_next_20 : decode cX12_next 20 = .ok (.bipush 7, 2) := by decide +kernel
theorem dX12_next_22 : decode cX12_next 22 = .ok (.if_icmp .ne 6, 3) := by decide +kernel
theorem dX12_next_25 : decode cX12_next 25 = .ok (.iinc 2 1, 3) := by decide +kernel
theorem dX12_next_28 : decode cX12_next 28 = .ok (.iload_n 1, 1) := by decide +kernel
theorem dX12_next_29 : decode cX12_next 29 = .ok (.iconst 3, 1) := by decide +kernel
theorem dX12_next_30 : decode cX12_next 30 = .ok (.if_icmp .lt 11, 3) := by decide +kernel
theorem dX12_next_33 : decode cX12_next 33 = .ok (.iload_n 1, 1) := by decide +kernel
theorem dX12_next_34 : decode cX12_next 34 = .ok (.iconst 5, 1) := by decide +kernel
theorem dX12_next_35 : decode cX12_next 35 = .ok (.if_icmp .gt 6, 3) := by decide +kernel
theorem dX12_next_38 : decode cX12_next 38 = .ok (.iinc 2 7, 3) := by decide +kernel
theorem dX12_next_41 : decode cX12_next 41 = .ok (.iload_n 1, 1) := by decide +kernel
theorem dX12_next_42 : decode cX12_next 42 = .ok (.iconst 1, 1) := by decide +kernel
theorem dX12_next_43 : decode cX12_next 43 = .ok (.if_icmp .lt 11, 3) := by decide +kernel
theorem dX12_next_46 : decode cX12_next 46 = .ok (.iload_n 1, 1) := by decide +kernel
theorem dX12_next_47 : decode cX12_next 47 = .ok (.iconst 3, 1) := by decide +kernel
theorem dX12_next_48 : decode cX12_next 48 = .ok (.if_icmp .gt 6, 3) := by decide +kernel
theorem dX12_next_51 : decode cX12_next 51 = .ok (.iinc 3 1, 3) := by decide +kernel
theorem dX12_next_54 : decode cX12_next 54 = .ok (.iload_n 1, 1) := by decide +kernel
theorem dX12_next_55 : decode cX12_next 55 = .ok (.iconst 5, 1) := by decide +kernel
theorem dX12_next_56 : decode cX12_next 56 = .ok (.if_icmp .lt 6, 3) := by decide +kernel
theorem dX12_next_59 : decode cX12_next 59 = .ok (.iinc 3 7, 3) := by decide +kernel
theorem dX12_next_62 : decode cX12_next 62 = .ok (.bipush 8, 2) := by decide +kernel
theorem dX12_next_64 : decode cX12_next 64 = .ok (.iload_n 3, 1) := by decide +kernel
theorem dX12_next_65 : decode cX12_next 65 = .ok (.bipush 8, 2) := by decide +kernel
theorem dX12_next_67 : decode cX12_next 67 = .ok (.irem, 1) := by decide +kernel
theorem dX12_next_68 : decode cX12_next 68 = .ok (.imul, 1) := by decide +kernel
theorem dX12_next_69 : decode cX12_next 69 = .ok (.iload_n 2, 1) := by decide +kernel
theorem dX12_next_70 : decode cX12_next 70 = .ok (.bipush 8, 2) := by decide +kernel
theorem dX12_next_72 : decode cX12_next 72 = .ok (.irem, 1) := by decide +kernel
theorem dX12_next_73 : decode cX12_next 73 = .ok (.iadd, 1) := by decide +kernel
theorem dX12_next_74 : decode cX12_next 74 = .ok (.ireturn, 1) := by decide +kernel
theorem dX12_pleaAt_0 : decode cX12_pleaAt 0 = .ok (.bipush 92, 2) := by decide +kernel
theorem dX12_pleaAt_2 : decode cX12_pleaAt 2 = .ok (.iconst 3, 1) := by decide +kernel
theorem dX12_pleaAt_3 : decode cX12_pleaAt 3 = .ok (.iload_n 0, 1) := by decide +kernel
theorem dX12_pleaAt_4 : decode cX12_pleaAt 4 = .ok (.imul, 1) := by decide +kernel
theorem dX12_pleaAt_5 : decode cX12_pleaAt 5 = .ok (.iadd, 1) := by decide +kernel
theorem dX12_pleaAt_6 : decode cX12_pleaAt 6 = .ok (.iload_n 1, 1) := by decide +kernel
theorem dX12_pleaAt_7 : decode cX12_pleaAt 7 = .ok (.iadd, 1) := by decide +kernel
theorem dX12_pleaAt_8 : decode cX12_pleaAt 8 = .ok (.ireturn, 1) := by decide +kernel
theorem dX12_until_0 : decode cX12_until 0 = .ok (.aload_n 0, 1) := by decide +kernel
theorem dX12_until_1 : decode cX12_until 1 = .ok (.getfield 16, 3) := by decide +kernel
theorem dX12_until_4 : decode cX12_until 4 = .ok (.iload_n 1, 1) := by decide +kernel
theorem dX12_until_5 : decode cX12_until 5 = .ok (.iconst 1, 1) := by decide +kernel
theorem dX12_until_6 : decode cX12_until 6 = .ok (.invokestatic 77, 3) := by decide +kernel
theorem dX12_until_9 : decode cX12_until 9 = .ok (.iaload, 1) := by decide +kernel
theorem dX12_until_10 : decode cX12_until 10 = .ok (.bipush 24, 2) := by decide +kernel
theorem dX12_until_12 : decode cX12_until 12 = .ok (.iadd, 1) := by decide +kernel
theorem dX12_until_13 : decode cX12_until 13 = .ok (.ireturn, 1) := by decide +kernel
theorem dX12_pleaOf_0 : decode cX12_pleaOf 0 = .ok (.iconst 0, 1) := by decide +kernel
theorem dX12_pleaOf_1 : decode cX12_pleaOf 1 = .ok (.istore_n 2, 1) := by decide +kernel
theorem dX12_pleaOf_2 : decode cX12_pleaOf 2 = .ok (.iload_n 2, 1) := by decide +kernel
theorem dX12_pleaOf_3 : decode cX12_pleaOf 3 = .ok (.aload_n 0, 1) := by decide +kernel
theorem dX12_pleaOf_4 : decode cX12_pleaOf 4 = .ok (.getfield 16, 3) := by decide +kernel
theorem dX12_pleaOf_7 : decode cX12_pleaOf 7 = .ok (.bipush 7, 2) := by decide +kernel
theorem dX12_pleaOf_9 : decode cX12_pleaOf 9 = .ok (.iaload, 1) := by decide +kernel
theorem dX12_pleaOf_10 : decode cX12_pleaOf 10 = .ok (.if_icmp .ge 25, 3) := by decide +kernel
theorem dX12_pleaOf_13 : decode cX12_pleaOf 13 = .ok (.aload_n 0, 1) := by decide +kernel
theorem dX12_pleaOf_14 : decode cX12_pleaOf 14 = .ok (.getfield 16, 3) := by decide +kernel
theorem dX12_pleaOf_17 : decode cX12_pleaOf 17 = .ok (.iload_n 2, 1) := by decide +kernel
theorem dX12_pleaOf_18 : decode cX12_pleaOf 18 = .ok (.iconst 0, 1) := by decide +kernel
theorem dX12_pleaOf_19 : decode cX12_pleaOf 19 = .ok (.invokestatic 77, 3) := by decide +kernel
theorem dX12_pleaOf_22 : decode cX12_pleaOf 22 = .ok (.iaload, 1) := by decide +kernel
theorem dX12_pleaOf_23 : decode cX12_pleaOf 23 = .ok (.iload_n 1, 1) := by decide +kernel
theorem dX12_pleaOf_24 : decode cX12_pleaOf 24 = .ok (.if_icmp .ne 5, 3) := by decide +kernel
theorem dX12_pleaOf_27 : decode cX12_pleaOf 27 = .ok (.iload_n 2, 1) := by decide +kernel
theorem dX12_pleaOf_28 : decode cX12_pleaOf 28 = .ok (.ireturn, 1) := by decide +kernel
theorem dX12_pleaOf_29 : decode cX12_pleaOf 29 = .ok (.iinc 2 1, 3) := by decide +kernel
theorem dX12_pleaOf_32 : decode cX12_pleaOf 32 = .ok (.goto (-30), 3) := by decide +kernel
theorem dX12_pleaOf_35 : decode cX12_pleaOf 35 = .ok (.iconst (-1), 1) := by decide +kernel
theorem dX12_pleaOf_36 : decode cX12_pleaOf 36 = .ok (.ireturn, 1) := by decide +kernel
theorem dX12_goes_0 : decode cX12_goes 0 = .ok (.iload_n 1, 1) := by decide +kernel
theorem dX12_goes_1 : decode cX12_goes 1 = .ok (.iconst 0, 1) := by decide +kernel
theorem dX12_goes_2 : decode cX12_goes 2 = .ok (.invokestatic 77, 3) := by decide +kernel
theorem dX12_goes_5 : decode cX12_goes 5 = .ok (.istore_n 2, 1) := by decide +kernel
theorem dX12_goes_6 : decode cX12_goes 6 = .ok (.iload_n 2, 1) := by decide +kernel
theorem dX12_goes_7 : decode cX12_goes 7 = .ok (.bipush 116, 2) := by decide +kernel
theorem dX12_goes_9 : decode cX12_goes 9 = .ok (.if_icmp .ge 35, 3) := by decide +kernel
theorem dX12_goes_12 : decode cX12_goes 12 = .ok (.aload_n 0, 1) := by decide +kernel
theorem dX12_goes_13 : decode cX12_goes 13 = .ok (.getfield 16, 3) := by decide +kernel
theorem dX12_goes_16 : decode cX12_goes 16 = .ok (.iload_n 2, 1) := by decide +kernel
theorem dX12_goes_17 : decode cX12_goes 17 = .ok (.iload_n 2, 1) := by decide +kernel
theorem dX12_goes_18 : decode cX12_goes 18 = .ok (.iconst 3, 1) := by decide +kernel
theorem dX12_goes_19 : decode cX12_goes 19 = .ok (.iadd, 1) := by decide +kernel
theorem dX12_goes_20 : decode cX12_goes 20 = .ok (.bipush 116, 2) := by decide +kernel
theorem dX12_goes_22 : decode cX12_goes 22 = .ok (.if_icmp .ge 14, 3) := by decide +kernel
theorem dX12_goes_25 : decode cX12_goes 25 = .ok (.aload_n 0, 1) := by decide +kernel
theorem dX12_goes_26 : decode cX12_goes 26 = .ok (.getfield 16, 3) := by decide +kernel
theorem dX12_goes_29 : decode cX12_goes 29 = .ok (.iload_n 2, 1) := by decide +kernel
theorem dX12_goes_30 : decode cX12_goes 30 = .ok (.iconst 3, 1) := by decide +kernel
theorem dX12_goes_31 : decode cX12_goes 31 = .ok (.iadd, 1) := by decide +kernel
theorem dX12_goes_32 : decode cX12_goes 32 = .ok (.iaload, 1) := by decide +kernel
theorem dX12_goes_33 : decode cX12_goes 33 = .ok (.goto 4, 3) := by decide +kernel
theorem dX12_goes_36 : decode cX12_goes 36 = .ok (.iconst 0, 1) := by decide +kernel
theorem dX12_goes_37 : decode cX12_goes 37 = .ok (.iastore, 1) := by decide +kernel
theorem dX12_goes_38 : decode cX12_goes 38 = .ok (.iinc 2 1, 3) := by decide +kernel
theorem dX12_goes_41 : decode cX12_goes 41 = .ok (.goto (-35), 3) := by decide +kernel
theorem dX12_goes_44 : decode cX12_goes 44 = .ok (.aload_n 0, 1) := by decide +kernel
theorem dX12_goes_45 : decode cX12_goes 45 = .ok (.getfield 16, 3) := by decide +kernel
theorem dX12_goes_48 : decode cX12_goes 48 = .ok (.bipush 7, 2) := by decide +kernel
theorem dX12_goes_50 : decode cX12_goes 50 = .ok (.dup2, 1) := by decide +kernel
theorem dX12_goes_51 : decode cX12_goes 51 = .ok (.iaload, 1) := by decide +kernel
theorem dX12_goes_52 : decode cX12_goes 52 = .ok (.iconst 1, 1) := by decide +kernel
theorem dX12_goes_53 : decode cX12_goes 53 = .ok (.isub, 1) := by decide +kernel
theorem dX12_goes_54 : decode cX12_goes 54 = .ok (.iastore, 1) := by decide +kernel
theorem dX12_goes_55 : decode cX12_goes 55 = .ok (.return_, 1) := by decide +kernel
theorem dX12_trees_0 : decode cX12_trees 0 = .ok (.iconst 0, 1) := by decide +kernel
theorem dX12_trees_1 : decode cX12_trees 1 = .ok (.istore_n 1, 1) := by decide +kernel
theorem dX12_trees_2 : decode cX12_trees 2 = .ok (.iconst 0, 1) := by decide +kernel
theorem dX12_trees_3 : decode cX12_trees 3 = .ok (.istore_n 2, 1) := by decide +kernel
theorem dX12_trees_4 : decode cX12_trees 4 = .ok (.iload_n 2, 1) := by decide +kernel
theorem dX12_trees_5 : decode cX12_trees 5 = .ok (.bipush 64, 2) := by decide +kernel
theorem dX12_trees_7 : decode cX12_trees 7 = .ok (.if_icmp .ge 21, 3) := by decide +kernel
theorem dX12_trees_10 : decode cX12_trees 10 = .ok (.iload_n 1, 1) := by decide +kernel
theorem dX12_trees_11 : decode cX12_trees 11 = .ok (.aload_n 0, 1) := by decide +kernel
theorem dX12_trees_12 : decode cX12_trees 12 = .ok (.getfield 16, 3) := by decide +kernel
theorem dX12_trees_15 : decode cX12_trees 15 = .ok (.bipush 12, 2) := by decide +kernel
theorem dX12_trees_17 : decode cX12_trees 17 = .ok (.iload_n 2, 1) := by decide +kernel
theorem dX12_trees_18 : decode cX12_trees 18 = .ok (.iadd, 1) := by decide +kernel
theorem dX12_trees_19 : decode cX12_trees 19 = .ok (.iaload, 1) := by decide +kernel
theorem dX12_trees_20 : decode cX12_trees 20 = .ok (.iadd, 1) := by decide +kernel
theorem dX12_trees_21 : decode cX12_trees 21 = .ok (.istore_n 1, 1) := by decide +kernel
theorem dX12_trees_22 : decode cX12_trees 22 = .ok (.iinc 2 1, 3) := by decide +kernel
theorem dX12_trees_25 : decode cX12_trees 25 = .ok (.goto (-21), 3) := by decide +kernel
theorem dX12_trees_28 : decode cX12_trees 28 = .ok (.iload_n 1, 1) := by decide +kernel
theorem dX12_trees_29 : decode cX12_trees 29 = .ok (.ireturn, 1) := by decide +kernel
theorem dX12_plants_0 : decode cX12_plants 0 = .ok (.iload_n 1, 1) := by decide +kernel
theorem dX12_plants_1 : decode cX12_plants 1 = .ok (.iload_n 2, 1) := by decide +kernel
theorem dX12_plants_2 : decode cX12_plants 2 = .ok (.invokestatic 81, 3) := by decide +kernel
theorem dX12_plants_5 : decode cX12_plants 5 = .ok (.ifCond .ne 9, 3) := by decide +kernel
theorem dX12_plants_8 : decode cX12_plants 8 = .ok (.aload_n 0, 1) := by decide +kernel
theorem dX12_plants_9 : decode cX12_plants 9 = .ok (.iconst 1, 1) := by decide +kernel
theorem dX12_plants_10 : decode cX12_plants 10 = .ok (.invokevirtual 59, 3) := by decide +kernel
theorem dX12_plants_13 : decode cX12_plants 13 = .ok (.ireturn, 1) := by decide +kernel
theorem dX12_plants_14 : decode cX12_plants 14 = .ok (.bipush 8, 2) := by decide +kernel
theorem dX12_plants_16 : decode cX12_plants 16 = .ok (.iload_n 2, 1) := by decide +kernel
theorem dX12_plants_17 : decode cX12_plants 17 = .ok (.imul, 1) := by decide +kernel
theorem dX12_plants_18 : decode cX12_plants 18 = .ok (.iload_n 1, 1) := by decide +kernel
theorem dX12_plants_19 : decode cX12_plants 19 = .ok (.iadd, 1) := by decide +kernel
theorem dX12_plants_20 : decode cX12_plants 20 = .ok (.istore 4, 2) := by decide +kernel
theorem dX12_plants_22 : decode cX12_plants 22 = .ok (.iload_n 3, 1) := by decide +kernel
theorem dX12_plants_23 : decode cX12_plants 23 = .ok (.ifCond .eq 25, 3) := by decide +kernel
theorem dX12_plants_26 : decode cX12_plants 26 = .ok (.aload_n 0, 1) := by decide +kernel
theorem dX12_plants_27 : decode cX12_plants 27 = .ok (.iload 4, 2) := by decide +kernel
theorem dX12_plants_29 : decode cX12_plants 29 = .ok (.invokevirtual 85, 3) := by decide +kernel
theorem dX12_plants_32 : decode cX12_plants 32 = .ok (.ifCond .lt 16, 3) := by decide +kernel
theorem dX12_plants_35 : decode cX12_plants 35 = .ok (.aload_n 0, 1) := by decide +kernel
theorem dX12_plants_36 : decode cX12_plants 36 = .ok (.iconst 2, 1) := by decide +kernel
theorem dX12_plants_37 : decode cX12_plants 37 = .ok (.iconst 2, 1) := by decide +kernel
theorem dX12_plants_38 : decode cX12_plants 38 = .ok (.aload_n 0, 1) := by decide +kernel
theorem dX12_plants_39 : decode cX12_plants 39 = .ok (.iload 4, 2) := by decide +kernel
theorem dX12_plants_41 : decode cX12_plants 41 = .ok (.invokevirtual 85, 3) := by decide +kernel
theorem dX12_plants_44 : decode cX12_plants 44 = .ok (.invokevirtual 88, 3) := by decide +kernel
theorem dX12_plants_47 : decode cX12_plants 47 = .ok (.ireturn, 1) := by decide +kernel
theorem dX12_plants_48 : decode cX12_plants 48 = .ok (.iload_n 3, 1) := by decide +kernel
theorem dX12_plants_49 : decode cX12_plants 49 = .ok (.ifCond .eq 23, 3) := by decide +kernel
theorem dX12_plants_52 : decode cX12_plants 52 = .ok (.aload_n 0, 1) := by decide +kernel
theorem dX12_plants_53 : decode cX12_plants 53 = .ok (.getfield 16, 3) := by decide +kernel
theorem dX12_plants_56 : decode cX12_plants 56 = .ok (.iconst 3, 1) := by decide +kernel
theorem dX12_plants_57 : decode cX12_plants 57 = .ok (.iaload, 1) := by decide +kernel
theorem dX12_plants_58 : decode cX12_plants 58 = .ok (.iload 4, 2) := by decide +kernel
theorem dX12_plants_60 : decode cX12_plants 60 = .ok (.if_icmp .ne 12, 3) := by decide +kernel
theorem dX12_plants_63 : decode cX12_plants 63 = .ok (.aload_n 0, 1) := by decide +kernel
theorem dX12_plants_64 : decode cX12_plants 64 = .ok (.iconst 2, 1) := by decide +kernel
theorem dX12_plants_65 : decode cX12_plants 65 = .ok (.iconst 3, 1) := by decide +kernel
theorem dX12_plants_66 : decode cX12_plants 66 = .ok (.iload 4, 2) := by decide +kernel
theorem dX12_plants_68 : decode cX12_plants 68 = .ok (.invokevirtual 88, 3) := by decide +kernel
theorem dX12_plants_71 : decode cX12_plants 71 = .ok (.ireturn, 1) := by decide +kernel
