theorem d_Comb_init_0 : decode b_Comb_init 0 = .ok (.aload_n 0, 1) := by decide +kernel
theorem d_Comb_init_1 : decode b_Comb_init 1 = .ok (.invokespecial 3, 3) := by decide +kernel
theorem d_Comb_init_4 : decode b_Comb_init 4 = .ok (.aload_n 0, 1) := by decide +kernel
theorem d_Comb_init_5 : decode b_Comb_init 5 = .ok (.new 9, 3) := by decide +kernel
theorem d_Comb_init_8 : decode b_Comb_init 8 = .ok (.dup, 1) := by decide +kernel
theorem d_Comb_init_9 : decode b_Comb_init 9 = .ok (.bipush 64, 2) := by decide +kernel
theorem d_Comb_init_11 : decode b_Comb_init 11 = .ok (.invokespecial 11, 3) := by decide +kernel
theorem d_Comb_init_14 : decode b_Comb_init 14 = .ok (.putfield 14, 3) := by decide +kernel
theorem d_Comb_init_17 : decode b_Comb_init 17 = .ok (.aload_n 0, 1) := by decide +kernel
theorem d_Comb_init_18 : decode b_Comb_init 18 = .ok (.new 20, 3) := by decide +kernel
theorem d_Comb_init_21 : decode b_Comb_init 21 = .ok (.dup, 1) := by decide +kernel
theorem d_Comb_init_22 : decode b_Comb_init 22 = .ok (.bipush 64, 2) := by decide +kernel
theorem d_Comb_init_24 : decode b_Comb_init 24 = .ok (.invokespecial 22, 3) := by decide +kernel
theorem d_Comb_init_27 : decode b_Comb_init 27 = .ok (.putfield 23, 3) := by decide +kernel
theorem d_Comb_init_30 : decode b_Comb_init 30 = .ok (.return_, 1) := by decide +kernel
theorem d_Comb_combine_0 : decode b_Comb_combine 0 = .ok (.aload_n 1, 1) := by decide +kernel
theorem d_Comb_combine_1 : decode b_Comb_combine 1 = .ok (.aload_n 2, 1) := by decide +kernel
theorem d_Comb_combine_2 : decode b_Comb_combine 2 = .ok (.invokevirtual 27, 3) := by decide +kernel
theorem d_Comb_combine_5 : decode b_Comb_combine 5 = .ok (.ifCond .eq 10, 3) := by decide +kernel
theorem d_Comb_combine_8 : decode b_Comb_combine 8 = .ok (.aload_n 3, 1) := by decide +kernel
theorem d_Comb_combine_9 : decode b_Comb_combine 9 = .ok (.getfield 31, 3) := by decide +kernel
theorem d_Comb_combine_12 : decode b_Comb_combine 12 = .ok (.goto 7, 3) := by decide +kernel
theorem d_Comb_combine_15 : decode b_Comb_combine 15 = .ok (.aload_n 2, 1) := by decide +kernel
theorem d_Comb_combine_16 : decode b_Comb_combine 16 = .ok (.getfield 31, 3) := by decide +kernel
theorem d_Comb_combine_19 : decode b_Comb_combine 19 = .ok (.putfield 31, 3) := by decide +kernel
theorem d_Comb_combine_22 : decode b_Comb_combine 22 = .ok (.iconst 0, 1) := by decide +kernel
theorem d_Comb_combine_23 : decode b_Comb_combine 23 = .ok (.istore 5, 2) := by decide +kernel
theorem d_Comb_combine_25 : decode b_Comb_combine 25 = .ok (.iload 5, 2) := by decide +kernel
theorem d_Comb_combine_27 : decode b_Comb_combine 27 = .ok (.bipush 8, 2) := by decide +kernel
theorem d_Comb_combine_29 : decode b_Comb_combine 29 = .ok (.if_icmp .gt 33, 3) := by decide +kernel
theorem d_Comb_combine_32 : decode b_Comb_combine 32 = .ok (.aload_n 1, 1) := by decide +kernel
theorem d_Comb_combine_33 : decode b_Comb_combine 33 = .ok (.getfield 35, 3) := by decide +kernel
theorem d_Comb_combine_36 : decode b_Comb_combine 36 = .ok (.iload 5, 2) := by decide +kernel
theorem d_Comb_combine_38 : decode b_Comb_combine 38 = .ok (.aload_n 2, 1) := by decide +kernel
theorem d_Comb_combine_39 : decode b_Comb_combine 39 = .ok (.getfield 35, 3) := by decide +kernel
theorem d_Comb_combine_42 : decode b_Comb_combine 42 = .ok (.iload 5, 2) := by decide +kernel
theorem d_Comb_combine_44 : decode b_Comb_combine 44 = .ok (.iaload, 1) := by decide +kernel
theorem d_Comb_combine_45 : decode b_Comb_combine 45 = .ok (.aload_n 3, 1) := by decide +kernel
theorem d_Comb_combine_46 : decode b_Comb_combine 46 = .ok (.getfield 35, 3) := by decide +kernel
theorem d_Comb_combine_49 : decode b_Comb_combine 49 = .ok (.iload 5, 2) := by decide +kernel
theorem d_Comb_combine_51 : decode b_Comb_combine 51 = .ok (.iaload, 1) := by decide +kernel
theorem d_Comb_combine_52 : decode b_Comb_combine 52 = .ok (.invokestatic 39, 3) := by decide +kernel
theorem d_Comb_combine_55 : decode b_Comb_combine 55 = .ok (.iastore, 1) := by decide +kernel
theorem d_Comb_combine_56 : decode b_Comb_combine 56 = .ok (.iinc 5 1, 3) := by decide +kernel
theorem d_Comb_combine_59 : decode b_Comb_combine 59 = .ok (.goto (-34), 3) := by decide +kernel
theorem d_Comb_combine_62 : decode b_Comb_combine 62 = .ok (.aload_n 1, 1) := by decide +kernel
theorem d_Comb_combine_63 : decode b_Comb_combine 63 = .ok (.getfield 45, 3) := by decide +kernel
theorem d_Comb_combine_66 : decode b_Comb_combine 66 = .ok (.invokevirtual 48, 3) := by decide +kernel
theorem d_Comb_combine_69 : decode b_Comb_combine 69 = .ok (.aload_n 0, 1) := by decide +kernel
theorem d_Comb_combine_70 : decode b_Comb_combine 70 = .ok (.aload_n 1, 1) := by decide +kernel
theorem d_Comb_combine_71 : decode b_Comb_combine 71 = .ok (.aload_n 2, 1) := by decide +kernel
theorem d_Comb_combine_72 : decode b_Comb_combine 72 = .ok (.iconst 1, 1) := by decide +kernel
theorem d_Comb_combine_73 : decode b_Comb_combine 73 = .ok (.invokevirtual 51, 3) := by decide +kernel
theorem d_Comb_combine_76 : decode b_Comb_combine 76 = .ok (.aload_n 0, 1) := by decide +kernel
theorem d_Comb_combine_77 : decode b_Comb_combine 77 = .ok (.aload_n 1, 1) := by decide +kernel
theorem d_Comb_combine_78 : decode b_Comb_combine 78 = .ok (.aload_n 3, 1) := by decide +kernel
theorem d_Comb_combine_79 : decode b_Comb_combine 79 = .ok (.iload 4, 2) := by decide +kernel
theorem d_Comb_combine_81 : decode b_Comb_combine 81 = .ok (.invokevirtual 51, 3) := by decide +kernel
theorem d_Comb_combine_84 : decode b_Comb_combine 84 = .ok (.aload_n 1, 1) := by decide +kernel
theorem d_Comb_combine_85 : decode b_Comb_combine 85 = .ok (.invokevirtual 55, 3) := by decide +kernel
theorem d_Comb_combine_88 : decode b_Comb_combine 88 = .ok (.return_, 1) := by decide +kernel
theorem d_Comb_addWidened_0 : decode b_Comb_addWidened 0 = .ok (.aload_n 0, 1) := by decide +kernel
theorem d_Comb_addWidened_1 : decode b_Comb_addWidened 1 = .ok (.getfield 23, 3) := by decide +kernel
theorem d_Comb_addWidened_4 : decode b_Comb_addWidened 4 = .ok (.aload_n 2, 1) := by decide +kernel
theorem d_Comb_addWidened_5 : decode b_Comb_addWidened 5 = .ok (.getfield 45, 3) := by decide +kernel
theorem d_Comb_addWidened_8 : decode b_Comb_addWidened 8 = .ok (.invokevirtual 66, 3) := by decide +kernel
theorem d_Comb_addWidened_11 : decode b_Comb_addWidened 11 = .ok (.iconst 0, 1) := by decide +kernel
theorem d_Comb_addWidened_12 : decode b_Comb_addWidened 12 = .ok (.istore 4, 2) := by decide +kernel
theorem d_Comb_addWidened_14 : decode b_Comb_addWidened 14 = .ok (.iload 4, 2) := by decide +kernel
theorem d_Comb_addWidened_16 : decode b_Comb_addWidened 16 = .ok (.bipush 8, 2) := by decide +kernel
theorem d_Comb_addWidened_18 : decode b_Comb_addWidened 18 = .ok (.if_icmp .gt 33, 3) := by decide +kernel
theorem d_Comb_addWidened_21 : decode b_Comb_addWidened 21 = .ok (.aload_n 0, 1) := by decide +kernel
theorem d_Comb_addWidened_22 : decode b_Comb_addWidened 22 = .ok (.getfield 23, 3) := by decide +kernel
theorem d_Comb_addWidened_25 : decode b_Comb_addWidened 25 = .ok (.iload 4, 2) := by decide +kernel
theorem d_Comb_addWidened_27 : decode b_Comb_addWidened 27 = .ok (.aload_n 1, 1) := by decide +kernel
theorem d_Comb_addWidened_28 : decode b_Comb_addWidened 28 = .ok (.getfield 35, 3) := by decide +kernel
theorem d_Comb_addWidened_31 : decode b_Comb_addWidened 31 = .ok (.iload 4, 2) := by decide +kernel
theorem d_Comb_addWidened_33 : decode b_Comb_addWidened 33 = .ok (.iaload, 1) := by decide +kernel
theorem d_Comb_addWidened_34 : decode b_Comb_addWidened 34 = .ok (.aload_n 2, 1) := by decide +kernel
theorem d_Comb_addWidened_35 : decode b_Comb_addWidened 35 = .ok (.getfield 35, 3) := by decide +kernel
theorem d_Comb_addWidened_38 : decode b_Comb_addWidened 38 = .ok (.iload 4, 2) := by decide +kernel
theorem d_Comb_addWidened_40 : decode b_Comb_addWidened 40 = .ok (.iaload, 1) := by decide +kernel
theorem d_Comb_addWidened_41 : decode b_Comb_addWidened 41 = .ok (.isub, 1) := by decide +kernel
theorem d_Comb_addWidened_42 : decode b_Comb_addWidened 42 = .ok (.invokevirtual 70, 3) := by decide +kernel
theorem d_Comb_addWidened_45 : decode b_Comb_addWidened 45 = .ok (.iinc 4 1, 3) := by decide +kernel
theorem d_Comb_addWidened_48 : decode b_Comb_addWidened 48 = .ok (.goto (-34), 3) := by decide +kernel
theorem d_Comb_addWidened_51 : decode b_Comb_addWidened 51 = .ok (.aload_n 1, 1) := by decide +kernel
theorem d_Comb_addWidened_52 : decode b_Comb_addWidened 52 = .ok (.getfield 45, 3) := by decide +kernel
theorem d_Comb_addWidened_55 : decode b_Comb_addWidened 55 = .ok (.aload_n 0, 1) := by decide +kernel
theorem d_Comb_addWidened_56 : decode b_Comb_addWidened 56 = .ok (.getfield 23, 3) := by decide +kernel
theorem d_Comb_addWidened_59 : decode b_Comb_addWidened 59 = .ok (.iload_n 3, 1) := by decide +kernel
theorem d_Comb_addWidened_60 : decode b_Comb_addWidened 60 = .ok (.invokevirtual 74, 3) := by decide +kernel
theorem d_Comb_addWidened_63 : decode b_Comb_addWidened 63 = .ok (.return_, 1) := by decide +kernel
theorem d_Comb_subtractFromNext_0 : decode b_Comb_subtractFromNext 0 = .ok (.aload_n 0, 1) := by decide +kernel
theorem d_Comb_subtractFromNext_1 : decode b_Comb_subtractFromNext 1 = .ok (.getfield 14, 3) := by decide +kernel
theorem d_Comb_subtractFromNext_4 : decode b_Comb_subtractFromNext 4 = .ok (.aload_n 2, 1) := by decide +kernel
theorem d_Comb_subtractFromNext_5 : decode b_Comb_subtractFromNext 5 = .ok (.invokevirtual 58, 3) := by decide +kernel
theorem d_Comb_subtractFromNext_8 : decode b_Comb_subtractFromNext 8 = .ok (.aload_n 0, 1) := by decide +kernel
theorem d_Comb_subtractFromNext_9 : decode b_Comb_subtractFromNext 9 = .ok (.aload_n 1, 1) := by decide +kernel
theorem d_Comb_subtractFromNext_10 : decode b_Comb_subtractFromNext 10 = .ok (.aload_n 0, 1) := by decide +kernel
theorem d_Comb_subtractFromNext_11 : decode b_Comb_subtractFromNext 11 = .ok (.getfield 14, 3) := by decide +kernel
theorem d_Comb_subtractFromNext_14 : decode b_Comb_subtractFromNext 14 = .ok (.aload_n 2, 1) := by decide +kernel
theorem d_Comb_subtractFromNext_15 : decode b_Comb_subtractFromNext 15 = .ok (.sipush 10006, 3) := by decide +kernel
theorem d_Comb_subtractFromNext_18 : decode b_Comb_subtractFromNext 18 = .ok (.invokevirtual 62, 3) := by decide +kernel
theorem d_Comb_subtractFromNext_21 : decode b_Comb_subtractFromNext 21 = .ok (.return_, 1) := by decide +kernel
theorem d_Split_init_0 : decode b_Split_init 0 = .ok (.aload_n 0, 1) := by decide +kernel
theorem d_Split_init_1 : decode b_Split_init 1 = .ok (.invokespecial 3, 3) := by decide +kernel
theorem d_Split_init_4 : decode b_Split_init 4 = .ok (.aload_n 0, 1) := by decide +kernel
theorem d_Split_init_5 : decode b_Split_init 5 = .ok (.iconst 3, 1) := by decide +kernel
theorem d_Split_init_6 : decode b_Split_init 6 = .ok (.newarray .int, 2) := by decide +kernel
theorem d_Split_init_8 : decode b_Split_init 8 = .ok (.putfield 9, 3) := by decide +kernel
theorem d_Split_init_11 : decode b_Split_init 11 = .ok (.aload_n 0, 1) := by decide +kernel
theorem d_Split_init_12 : decode b_Split_init 12 = .ok (.bipush 24, 2) := by decide +kernel
theorem d_Split_init_14 : decode b_Split_init 14 = .ok (.newarray .int, 2) := by decide +kernel
theorem d_Split_init_16 : decode b_Split_init 16 = .ok (.putfield 15, 3) := by decide +kernel
theorem d_Split_init_19 : decode b_Split_init 19 = .ok (.aload_n 0, 1) := by decide +kernel
theorem d_Split_init_20 : decode b_Split_init 20 = .ok (.new 18, 3) := by decide +kernel
theorem d_Split_init_23 : decode b_Split_init 23 = .ok (.dup, 1) := by decide +kernel
theorem d_Split_init_24 : decode b_Split_init 24 = .ok (.bipush 64, 2) := by decide +kernel
theorem d_Split_init_26 : decode b_Split_init 26 = .ok (.invokespecial 20, 3) := by decide +kernel
theorem d_Split_init_29 : decode b_Split_init 29 = .ok (.putfield 23, 3) := by decide +kernel
theorem d_Split_init_32 : decode b_Split_init 32 = .ok (.aload_n 0, 1) := by decide +kernel
theorem d_Split_init_33 : decode b_Split_init 33 = .ok (.new 18, 3) := by decide +kernel
theorem d_Split_init_36 : decode b_Split_init 36 = .ok (.dup, 1) := by decide +kernel
theorem d_Split_init_37 : decode b_Split_init 37 = .ok (.bipush 64, 2) := by decide +kernel
theorem d_Split_init_39 : decode b_Split_init 39 = .ok (.invokespecial 20, 3) := by decide +kernel
theorem d_Split_init_42 : decode b_Split_init 42 = .ok (.putfield 27, 3) := by decide +kernel
theorem d_Split_init_45 : decode b_Split_init 45 = .ok (.aload_n 0, 1) := by decide +kernel
theorem d_Split_init_46 : decode b_Split_init 46 = .ok (.new 18, 3) := by decide +kernel
theorem d_Split_init_49 : decode b_Split_init 49 = .ok (.dup, 1) := by decide +kernel
theorem d_Split_init_50 : decode b_Split_init 50 = .ok (.bipush 64, 2) := by decide +kernel
theorem d_Split_init_52 : decode b_Split_init 52 = .ok (.invokespecial 20, 3) := by decide +kernel
theorem d_Split_init_55 : decode b_Split_init 55 = .ok (.putfield 30, 3) := by decide +kernel
theorem d_Split_init_58 : decode b_Split_init 58 = .ok (.return_, 1) := by decide +kernel
theorem d_Split_split_0 : decode b_Split_split 0 = .ok (.aload_n 0, 1) := by decide +kernel
theorem d_Split_split_1 : decode b_Split_split 1 = .ok (.aload_n 1, 1) := by decide +kernel
theorem d_Split_split_2 : decode b_Split_split 2 = .ok (.aload_n 3, 1) := by decide +kernel
theorem d_Split_split_3 : decode b_Split_split 3 = .ok (.invokevirtual 41, 3) := by decide +kernel
theorem d_Split_split_6 : decode b_Split_split 6 = .ok (.aload_n 0, 1) := by decide +kernel
theorem d_Split_split_7 : decode b_Split_split 7 = .ok (.aload_n 1, 1) := by decide +kernel
theorem d_Split_split_8 : decode b_Split_split 8 = .ok (.invokevirtual 45, 3) := by decide +kernel
theorem d_Split_split_11 : decode b_Split_split 11 = .ok (.aload_n 0, 1) := by decide +kernel
theorem d_Split_split_12 : decode b_Split_split 12 = .ok (.aload_n 1, 1) := by decide +kernel
theorem d_Split_split_13 : decode b_Split_split 13 = .ok (.getfield 49, 3) := by decide +kernel
theorem d_Split_split_16 : decode b_Split_split 16 = .ok (.aload_n 2, 1) := by decide +kernel
theorem d_Split_split_17 : decode b_Split_split 17 = .ok (.invokevirtual 55, 3) := by decide +kernel
theorem d_Split_split_20 : decode b_Split_split 20 = .ok (.return_, 1) := by decide +kernel
theorem d_Split_splitPoles_0 : decode b_Split_splitPoles 0 = .ok (.aload_n 1, 1) := by decide +kernel
theorem d_Split_splitPoles_1 : decode b_Split_splitPoles 1 = .ok (.getfield 49, 3) := by decide +kernel
theorem d_Split_splitPoles_4 : decode b_Split_splitPoles 4 = .ok (.invokestatic 81, 3) := by decide +kernel
theorem d_Split_splitPoles_7 : decode b_Split_splitPoles 7 = .ok (.istore_n 3, 1) := by decide +kernel
theorem d_Split_splitPoles_8 : decode b_Split_splitPoles 8 = .ok (.aload_n 2, 1) := by decide +kernel
theorem d_Split_splitPoles_9 : decode b_Split_splitPoles 9 = .ok (.invokevirtual 84, 3) := by decide +kernel
theorem d_Split_splitPoles_12 : decode b_Split_splitPoles 12 = .ok (.aload_n 2, 1) := by decide +kernel
theorem d_Split_splitPoles_13 : decode b_Split_splitPoles 13 = .ok (.aload_n 1, 1) := by decide +kernel
theorem d_Split_splitPoles_14 : decode b_Split_splitPoles 14 = .ok (.getfield 49, 3) := by decide +kernel
theorem d_Split_splitPoles_17 : decode b_Split_splitPoles 17 = .ok (.putfield 49, 3) := by decide +kernel
theorem d_Split_splitPoles_20 : decode b_Split_splitPoles 20 = .ok (.aload_n 2, 1) := by decide +kernel
theorem d_Split_splitPoles_21 : decode b_Split_splitPoles 21 = .ok (.getfield 70, 3) := by decide +kernel
theorem d_Split_splitPoles_24 : decode b_Split_splitPoles 24 = .ok (.iconst 0, 1) := by decide +kernel
theorem d_Split_splitPoles_25 : decode b_Split_splitPoles 25 = .ok (.iconst 3, 1) := by decide +kernel
theorem d_Split_splitPoles_26 : decode b_Split_splitPoles 26 = .ok (.iastore, 1) := by decide +kernel
theorem d_Split_splitPoles_27 : decode b_Split_splitPoles 27 = .ok (.aload_n 0, 1) := by decide +kernel
theorem d_Split_splitPoles_28 : decode b_Split_splitPoles 28 = .ok (.getfield 15, 3) := by decide +kernel
theorem d_Split_splitPoles_31 : decode b_Split_splitPoles 31 = .ok (.iconst 0, 1) := by decide +kernel
theorem d_Split_splitPoles_32 : decode b_Split_splitPoles 32 = .ok (.invokestatic 87, 3) := by decide +kernel
theorem d_Split_splitPoles_35 : decode b_Split_splitPoles 35 = .ok (.bipush 7, 2) := by decide +kernel
theorem d_Split_splitPoles_37 : decode b_Split_splitPoles 37 = .ok (.istore 4, 2) := by decide +kernel
theorem d_Split_splitPoles_39 : decode b_Split_splitPoles 39 = .ok (.iload 4, 2) := by decide +kernel
theorem d_Split_splitPoles_41 : decode b_Split_splitPoles 41 = .ok (.ifCond .lt 103, 3) := by decide +kernel
theorem d_Split_splitPoles_44 : decode b_Split_splitPoles 44 = .ok (.aload_n 0, 1) := by decide +kernel
theorem d_Split_splitPoles_45 : decode b_Split_splitPoles 45 = .ok (.aload_n 1, 1) := by decide +kernel
theorem d_Split_splitPoles_46 : decode b_Split_splitPoles 46 = .ok (.iload 4, 2) := by decide +kernel
theorem d_Split_splitPoles_48 : decode b_Split_splitPoles 48 = .ok (.invokevirtual 33, 3) := by decide +kernel
theorem d_Split_splitPoles_51 : decode b_Split_splitPoles 51 = .ok (.iconst 1, 1) := by decide +kernel
theorem d_Split_splitPoles_52 : decode b_Split_splitPoles 52 = .ok (.istore 5, 2) := by decide +kernel
theorem d_Split_splitPoles_54 : decode b_Split_splitPoles 54 = .ok (.iload 5, 2) := by decide +kernel
theorem d_Split_splitPoles_56 : decode b_Split_splitPoles 56 = .ok (.iconst 3, 1) := by decide +kernel
theorem d_Split_splitPoles_57 : decode b_Split_splitPoles 57 = .ok (.if_icmp .gt 81, 3) := by decide +kernel
theorem d_Split_splitPoles_60 : decode b_Split_splitPoles 60 = .ok (.aload_n 0, 1) := by decide +kernel
theorem d_Split_splitPoles_61 : decode b_Split_splitPoles 61 = .ok (.aload_n 1, 1) := by decide +kernel
theorem d_Split_splitPoles_62 : decode b_Split_splitPoles 62 = .ok (.iload 4, 2) := by decide +kernel
theorem d_Split_splitPoles_64 : decode b_Split_splitPoles 64 = .ok (.iload 5, 2) := by decide +kernel
theorem d_Split_splitPoles_66 : decode b_Split_splitPoles 66 = .ok (.invokevirtual 37, 3) := by decide +kernel
theorem d_Split_splitPoles_69 : decode b_Split_splitPoles 69 = .ok (.aload_n 0, 1) := by decide +kernel
theorem d_Split_splitPoles_70 : decode b_Split_splitPoles 70 = .ok (.getfield 15, 3) := by decide +kernel
theorem d_Split_splitPoles_73 : decode b_Split_splitPoles 73 = .ok (.iload 4, 2) := by decide +kernel
theorem d_Split_splitPoles_75 : decode b_Split_splitPoles 75 = .ok (.iload 5, 2) := by decide +kernel
theorem d_Split_splitPoles_77 : decode b_Split_splitPoles 77 = .ok (.invokestatic 93, 3) := by decide +kernel
theorem d_Split_splitPoles_80 : decode b_Split_splitPoles 80 = .ok (.iaload, 1) := by decide +kernel
theorem d_Split_splitPoles_81 : decode b_Split_splitPoles 81 = .ok (.iadd, 1) := by decide +kernel
theorem d_Split_splitPoles_82 : decode b_Split_splitPoles 82 = .ok (.sipush 10007, 3) := by decide +kernel
theorem d_Split_splitPoles_85 : decode b_Split_splitPoles 85 = .ok (.irem, 1) := by decide +kernel
theorem d_Split_splitPoles_86 : decode b_Split_splitPoles 86 = .ok (.istore 6, 2) := by decide +kernel
theorem d_Split_splitPoles_88 : decode b_Split_splitPoles 88 = .ok (.iload 4, 2) := by decide +kernel
theorem d_Split_splitPoles_90 : decode b_Split_splitPoles 90 = .ok (.ifCond .le 28, 3) := by decide +kernel
theorem d_Split_splitPoles_93 : decode b_Split_splitPoles 93 = .ok (.aload_n 0, 1) := by decide +kernel
theorem d_Split_splitPoles_94 : decode b_Split_splitPoles 94 = .ok (.getfield 15, 3) := by decide +kernel
theorem d_Split_splitPoles_97 : decode b_Split_splitPoles 97 = .ok (.iload 4, 2) := by decide +kernel
theorem d_Split_splitPoles_99 : decode b_Split_splitPoles 99 = .ok (.iconst 1, 1) := by decide +kernel
theorem d_Split_splitPoles_100 : decode b_Split_splitPoles 100 = .ok (.isub, 1) := by decide +kernel
theorem d_Split_splitPoles_101 : decode b_Split_splitPoles 101 = .ok (.iload 5, 2) := by decide +kernel
theorem d_Split_splitPoles_103 : decode b_Split_splitPoles 103 = .ok (.invokestatic 93, 3) := by decide +kernel
theorem d_Split_splitPoles_106 : decode b_Split_splitPoles 106 = .ok (.iload 6, 2) := by decide +kernel
theorem d_Split_splitPoles_108 : decode b_Split_splitPoles 108 = .ok (.iload_n 3, 1) := by decide +kernel
theorem d_Split_splitPoles_109 : decode b_Split_splitPoles 109 = .ok (.imul, 1) := by decide +kernel
theorem d_Split_splitPoles_110 : decode b_Split_splitPoles 110 = .ok (.sipush 10007, 3) := by decide +kernel
theorem d_Split_splitPoles_113 : decode b_Split_splitPoles 113 = .ok (.irem, 1) := by decide +kernel
theorem d_Split_splitPoles_114 : decode b_Split_splitPoles 114 = .ok (.iastore, 1) := by decide +kernel
theorem d_Split_splitPoles_115 : decode b_Split_splitPoles 115 = .ok (.goto 17, 3) := by decide +kernel
theorem d_Split_splitPoles_118 : decode b_Split_splitPoles 118 = .ok (.aload_n 2, 1) := by decide +kernel
theorem d_Split_splitPoles_119 : decode b_Split_splitPoles 119 = .ok (.getfield 59, 3) := by decide +kernel
theorem d_Split_splitPoles_122 : decode b_Split_splitPoles 122 = .ok (.getfield 97, 3) := by decide +kernel
theorem d_Split_splitPoles_125 : decode b_Split_splitPoles 125 = .ok (.iconst 3, 1) := by decide +kernel
theorem d_Split_splitPoles_126 : decode b_Split_splitPoles 126 = .ok (.iload 5, 2) := by decide +kernel
theorem d_Split_splitPoles_128 : decode b_Split_splitPoles 128 = .ok (.isub, 1) := by decide +kernel
theorem d_Split_splitPoles_129 : decode b_Split_splitPoles 129 = .ok (.iload 6, 2) := by decide +kernel
theorem d_Split_splitPoles_131 : decode b_Split_splitPoles 131 = .ok (.iastore, 1) := by decide +kernel
theorem d_Split_splitPoles_132 : decode b_Split_splitPoles 132 = .ok (.iinc 5 1, 3) := by decide +kernel
theorem d_Split_splitPoles_135 : decode b_Split_splitPoles 135 = .ok (.goto (-81), 3) := by decide +kernel
theorem d_Split_splitPoles_138 : decode b_Split_splitPoles 138 = .ok (.iinc 4 (-1), 3) := by decide +kernel
theorem d_Split_splitPoles_141 : decode b_Split_splitPoles 141 = .ok (.goto (-102), 3) := by decide +kernel
theorem d_Split_splitPoles_144 : decode b_Split_splitPoles 144 = .ok (.aload_n 2, 1) := by decide +kernel
theorem d_Split_splitPoles_145 : decode b_Split_splitPoles 145 = .ok (.getfield 59, 3) := by decide +kernel
theorem d_Split_splitPoles_148 : decode b_Split_splitPoles 148 = .ok (.invokevirtual 100, 3) := by decide +kernel
theorem d_Split_splitPoles_151 : decode b_Split_splitPoles 151 = .ok (.aload_n 2, 1) := by decide +kernel
theorem d_Split_splitPoles_152 : decode b_Split_splitPoles 152 = .ok (.invokevirtual 103, 3) := by decide +kernel
theorem d_Split_splitPoles_155 : decode b_Split_splitPoles 155 = .ok (.return_, 1) := by decide +kernel
theorem d_Split_expandAt_0 : decode b_Split_expandAt 0 = .ok (.aload_n 0, 1) := by decide +kernel
theorem d_Split_expandAt_1 : decode b_Split_expandAt 1 = .ok (.getfield 23, 3) := by decide +kernel
theorem d_Split_expandAt_4 : decode b_Split_expandAt 4 = .ok (.aload_n 1, 1) := by decide +kernel
theorem d_Split_expandAt_5 : decode b_Split_expandAt 5 = .ok (.getfield 59, 3) := by decide +kernel
theorem d_Split_expandAt_8 : decode b_Split_expandAt 8 = .ok (.invokevirtual 62, 3) := by decide +kernel
theorem d_Split_expandAt_11 : decode b_Split_expandAt 11 = .ok (.iconst 0, 1) := by decide +kernel
theorem d_Split_expandAt_12 : decode b_Split_expandAt 12 = .ok (.istore_n 3, 1) := by decide +kernel
theorem d_Split_expandAt_13 : decode b_Split_expandAt 13 = .ok (.iload_n 3, 1) := by decide +kernel
theorem d_Split_expandAt_14 : decode b_Split_expandAt 14 = .ok (.iconst 3, 1) := by decide +kernel
theorem d_Split_expandAt_15 : decode b_Split_expandAt 15 = .ok (.if_icmp .ge 23, 3) := by decide +kernel
theorem d_Split_expandAt_18 : decode b_Split_expandAt 18 = .ok (.aload_n 0, 1) := by decide +kernel
theorem d_Split_expandAt_19 : decode b_Split_expandAt 19 = .ok (.getfield 9, 3) := by decide +kernel
theorem d_Split_expandAt_22 : decode b_Split_expandAt 22 = .ok (.iload_n 3, 1) := by decide +kernel
theorem d_Split_expandAt_23 : decode b_Split_expandAt 23 = .ok (.aload_n 0, 1) := by decide +kernel
theorem d_Split_expandAt_24 : decode b_Split_expandAt 24 = .ok (.getfield 23, 3) := by decide +kernel
theorem d_Split_expandAt_27 : decode b_Split_expandAt 27 = .ok (.iload_n 2, 1) := by decide +kernel
theorem d_Split_expandAt_28 : decode b_Split_expandAt 28 = .ok (.invokevirtual 66, 3) := by decide +kernel
theorem d_Split_expandAt_31 : decode b_Split_expandAt 31 = .ok (.iastore, 1) := by decide +kernel
theorem d_Split_expandAt_32 : decode b_Split_expandAt 32 = .ok (.iinc 3 1, 3) := by decide +kernel
theorem d_Split_expandAt_35 : decode b_Split_expandAt 35 = .ok (.goto (-22), 3) := by decide +kernel
theorem d_Split_expandAt_38 : decode b_Split_expandAt 38 = .ok (.iconst 0, 1) := by decide +kernel
theorem d_Split_expandAt_39 : decode b_Split_expandAt 39 = .ok (.istore_n 3, 1) := by decide +kernel
theorem d_Split_expandAt_40 : decode b_Split_expandAt 40 = .ok (.iload_n 3, 1) := by decide +kernel
theorem d_Split_expandAt_41 : decode b_Split_expandAt 41 = .ok (.bipush 8, 2) := by decide +kernel
theorem d_Split_expandAt_43 : decode b_Split_expandAt 43 = .ok (.if_icmp .ge 44, 3) := by decide +kernel
theorem d_Split_expandAt_46 : decode b_Split_expandAt 46 = .ok (.iconst 0, 1) := by decide +kernel
theorem d_Split_expandAt_47 : decode b_Split_expandAt 47 = .ok (.istore 4, 2) := by decide +kernel
theorem d_Split_expandAt_49 : decode b_Split_expandAt 49 = .ok (.iload_n 3, 1) := by decide +kernel
theorem d_Split_expandAt_50 : decode b_Split_expandAt 50 = .ok (.iload_n 2, 1) := by decide +kernel
theorem d_Split_expandAt_51 : decode b_Split_expandAt 51 = .ok (.if_icmp .eq 30, 3) := by decide +kernel
theorem d_Split_expandAt_54 : decode b_Split_expandAt 54 = .ok (.iload 4, 2) := by decide +kernel
theorem d_Split_expandAt_56 : decode b_Split_expandAt 56 = .ok (.aload_n 1, 1) := by decide +kernel
theorem d_Split_expandAt_57 : decode b_Split_expandAt 57 = .ok (.getfield 70, 3) := by decide +kernel
theorem d_Split_expandAt_60 : decode b_Split_expandAt 60 = .ok (.iload_n 3, 1) := by decide +kernel
theorem d_Split_expandAt_61 : decode b_Split_expandAt 61 = .ok (.iaload, 1) := by decide +kernel
theorem d_Split_expandAt_62 : decode b_Split_expandAt 62 = .ok (.if_icmp .ge 19, 3) := by decide +kernel
theorem d_Split_expandAt_65 : decode b_Split_expandAt 65 = .ok (.aload_n 0, 1) := by decide +kernel
theorem d_Split_expandAt_66 : decode b_Split_expandAt 66 = .ok (.iload_n 3, 1) := by decide +kernel
theorem d_Split_expandAt_67 : decode b_Split_expandAt 67 = .ok (.iload_n 2, 1) := by decide +kernel
theorem d_Split_expandAt_68 : decode b_Split_expandAt 68 = .ok (.isub, 1) := by decide +kernel
theorem d_Split_expandAt_69 : decode b_Split_expandAt 69 = .ok (.invokestatic 73, 3) := by decide +kernel
theorem d_Split_expandAt_72 : decode b_Split_expandAt 72 = .ok (.invokevirtual 78, 3) := by decide +kernel
theorem d_Split_expandAt_75 : decode b_Split_expandAt 75 = .ok (.iinc 4 1, 3) := by decide +kernel
theorem d_Split_expandAt_78 : decode b_Split_expandAt 78 = .ok (.goto (-29), 3) := by decide +kernel
theorem d_Split_expandAt_81 : decode b_Split_expandAt 81 = .ok (.iinc 3 1, 3) := by decide +kernel
theorem d_Split_expandAt_84 : decode b_Split_expandAt 84 = .ok (.goto (-44), 3) := by decide +kernel
theorem d_Split_expandAt_87 : decode b_Split_expandAt 87 = .ok (.return_, 1) := by decide +kernel
theorem d_Split_divideSeries_0 : decode b_Split_divideSeries 0 = .ok (.iload_n 1, 1) := by decide +kernel
theorem d_Split_divideSeries_1 : decode b_Split_divideSeries 1 = .ok (.invokestatic 81, 3) := by decide +kernel
theorem d_Split_divideSeries_4 : decode b_Split_divideSeries 4 = .ok (.istore_n 2, 1) := by decide +kernel
theorem d_Split_divideSeries_5 : decode b_Split_divideSeries 5 = .ok (.iconst 0, 1) := by decide +kernel
theorem d_Split_divideSeries_6 : decode b_Split_divideSeries 6 = .ok (.istore_n 3, 1) := by decide +kernel
theorem d_Split_divideSeries_7 : decode b_Split_divideSeries 7 = .ok (.iconst 0, 1) := by decide +kernel
theorem d_Split_divideSeries_8 : decode b_Split_divideSeries 8 = .ok (.istore 4, 2) := by decide +kernel
theorem d_Split_divideSeries_10 : decode b_Split_divideSeries 10 = .ok (.iload 4, 2) := by decide +kernel
theorem d_Split_divideSeries_12 : decode b_Split_divideSeries 12 = .ok (.iconst 3, 1) := by decide +kernel
theorem d_Split_divideSeries_13 : decode b_Split_divideSeries 13 = .ok (.if_icmp .ge 42, 3) := by decide +kernel
theorem d_Split_divideSeries_16 : decode b_Split_divideSeries 16 = .ok (.aload_n 0, 1) := by decide +kernel
theorem d_Split_divideSeries_17 : decode b_Split_divideSeries 17 = .ok (.getfield 9, 3) := by decide +kernel
theorem d_Split_divideSeries_20 : decode b_Split_divideSeries 20 = .ok (.iload 4, 2) := by decide +kernel
theorem d_Split_divideSeries_22 : decode b_Split_divideSeries 22 = .ok (.aload_n 0, 1) := by decide +kernel
theorem d_Split_divideSeries_23 : decode b_Split_divideSeries 23 = .ok (.getfield 9, 3) := by decide +kernel
theorem d_Split_divideSeries_26 : decode b_Split_divideSeries 26 = .ok (.iload 4, 2) := by decide +kernel
theorem d_Split_divideSeries_28 : decode b_Split_divideSeries 28 = .ok (.iaload, 1) := by decide +kernel
theorem d_Split_divideSeries_29 : decode b_Split_divideSeries 29 = .ok (.iload_n 3, 1) := by decide +kernel
theorem d_Split_divideSeries_30 : decode b_Split_divideSeries 30 = .ok (.isub, 1) := by decide +kernel
theorem d_Split_divideSeries_31 : decode b_Split_divideSeries 31 = .ok (.invokestatic 73, 3) := by decide +kernel
theorem d_Split_divideSeries_34 : decode b_Split_divideSeries 34 = .ok (.iload_n 2, 1) := by decide +kernel
theorem d_Split_divideSeries_35 : decode b_Split_divideSeries 35 = .ok (.imul, 1) := by decide +kernel
theorem d_Split_divideSeries_36 : decode b_Split_divideSeries 36 = .ok (.sipush 10007, 3) := by decide +kernel
theorem d_Split_divideSeries_39 : decode b_Split_divideSeries 39 = .ok (.irem, 1) := by decide +kernel
theorem d_Split_divideSeries_40 : decode b_Split_divideSeries 40 = .ok (.iastore, 1) := by decide +kernel
theorem d_Split_divideSeries_41 : decode b_Split_divideSeries 41 = .ok (.aload_n 0, 1) := by decide +kernel
theorem d_Split_divideSeries_42 : decode b_Split_divideSeries 42 = .ok (.getfield 9, 3) := by decide +kernel
theorem d_Split_divideSeries_45 : decode b_Split_divideSeries 45 = .ok (.iload 4, 2) := by decide +kernel
theorem d_Split_divideSeries_47 : decode b_Split_divideSeries 47 = .ok (.iaload, 1) := by decide +kernel
theorem d_Split_divideSeries_48 : decode b_Split_divideSeries 48 = .ok (.istore_n 3, 1) := by decide +kernel
theorem d_Split_divideSeries_49 : decode b_Split_divideSeries 49 = .ok (.iinc 4 1, 3) := by decide +kernel
theorem d_Split_divideSeries_52 : decode b_Split_divideSeries 52 = .ok (.goto (-42), 3) := by decide +kernel
theorem d_Split_divideSeries_55 : decode b_Split_divideSeries 55 = .ok (.return_, 1) := by decide +kernel
theorem d_Split_expandedWeight_0 : decode b_Split_expandedWeight 0 = .ok (.aload_n 1, 1) := by decide +kernel
theorem d_Split_expandedWeight_1 : decode b_Split_expandedWeight 1 = .ok (.getfield 70, 3) := by decide +kernel
theorem d_Split_expandedWeight_4 : decode b_Split_expandedWeight 4 = .ok (.iload_n 2, 1) := by decide +kernel
theorem d_Split_expandedWeight_5 : decode b_Split_expandedWeight 5 = .ok (.iaload, 1) := by decide +kernel
theorem d_Split_expandedWeight_6 : decode b_Split_expandedWeight 6 = .ok (.iload_n 3, 1) := by decide +kernel
theorem d_Split_expandedWeight_7 : decode b_Split_expandedWeight 7 = .ok (.isub, 1) := by decide +kernel
theorem d_Split_expandedWeight_8 : decode b_Split_expandedWeight 8 = .ok (.istore 4, 2) := by decide +kernel
theorem d_Split_expandedWeight_10 : decode b_Split_expandedWeight 10 = .ok (.iload 4, 2) := by decide +kernel
theorem d_Split_expandedWeight_12 : decode b_Split_expandedWeight 12 = .ok (.ifCond .lt 19, 3) := by decide +kernel
theorem d_Split_expandedWeight_15 : decode b_Split_expandedWeight 15 = .ok (.iload 4, 2) := by decide +kernel
theorem d_Split_expandedWeight_17 : decode b_Split_expandedWeight 17 = .ok (.iconst 3, 1) := by decide +kernel
theorem d_Split_expandedWeight_18 : decode b_Split_expandedWeight 18 = .ok (.if_icmp .ge 13, 3) := by decide +kernel
theorem d_Split_expandedWeight_21 : decode b_Split_expandedWeight 21 = .ok (.aload_n 0, 1) := by decide +kernel
theorem d_Split_expandedWeight_22 : decode b_Split_expandedWeight 22 = .ok (.getfield 9, 3) := by decide +kernel
theorem d_Split_expandedWeight_25 : decode b_Split_expandedWeight 25 = .ok (.iload 4, 2) := by decide +kernel
theorem d_Split_expandedWeight_27 : decode b_Split_expandedWeight 27 = .ok (.iaload, 1) := by decide +kernel
theorem d_Split_expandedWeight_28 : decode b_Split_expandedWeight 28 = .ok (.goto 4, 3) := by decide +kernel
theorem d_Split_expandedWeight_31 : decode b_Split_expandedWeight 31 = .ok (.iconst 0, 1) := by decide +kernel
theorem d_Split_expandedWeight_32 : decode b_Split_expandedWeight 32 = .ok (.ireturn, 1) := by decide +kernel
theorem d_Split_partIndex_0 : decode b_Split_partIndex 0 = .ok (.iload_n 0, 1) := by decide +kernel
theorem d_Split_partIndex_1 : decode b_Split_partIndex 1 = .ok (.iconst 3, 1) := by decide +kernel
theorem d_Split_partIndex_2 : decode b_Split_partIndex 2 = .ok (.imul, 1) := by decide +kernel
theorem d_Split_partIndex_3 : decode b_Split_partIndex 3 = .ok (.iload_n 1, 1) := by decide +kernel
theorem d_Split_partIndex_4 : decode b_Split_partIndex 4 = .ok (.iadd, 1) := by decide +kernel
theorem d_Split_partIndex_5 : decode b_Split_partIndex 5 = .ok (.iconst 1, 1) := by decide +kernel
theorem d_Split_partIndex_6 : decode b_Split_partIndex 6 = .ok (.isub, 1) := by decide +kernel
theorem d_Split_partIndex_7 : decode b_Split_partIndex 7 = .ok (.ireturn, 1) := by decide +kernel
theorem d_Split_splitWhole_0 : decode b_Split_splitWhole 0 = .ok (.aload_n 0, 1) := by decide +kernel
theorem d_Split_splitWhole_1 : decode b_Split_splitWhole 1 = .ok (.getfield 23, 3) := by decide +kernel
theorem d_Split_splitWhole_4 : decode b_Split_splitWhole 4 = .ok (.aload_n 1, 1) := by decide +kernel
theorem d_Split_splitWhole_5 : decode b_Split_splitWhole 5 = .ok (.getfield 59, 3) := by decide +kernel
theorem d_Split_splitWhole_8 : decode b_Split_splitWhole 8 = .ok (.invokevirtual 62, 3) := by decide +kernel
theorem d_Split_splitWhole_11 : decode b_Split_splitWhole 11 = .ok (.iconst 0, 1) := by decide +kernel
theorem d_Split_splitWhole_12 : decode b_Split_splitWhole 12 = .ok (.istore_n 2, 1) := by decide +kernel
theorem d_Split_splitWhole_13 : decode b_Split_splitWhole 13 = .ok (.iload_n 2, 1) := by decide +kernel
theorem d_Split_splitWhole_14 : decode b_Split_splitWhole 14 = .ok (.bipush 8, 2) := by decide +kernel
theorem d_Split_splitWhole_16 : decode b_Split_splitWhole 16 = .ok (.if_icmp .ge 36, 3) := by decide +kernel
theorem d_Split_splitWhole_19 : decode b_Split_splitWhole 19 = .ok (.iconst 0, 1) := by decide +kernel
theorem d_Split_splitWhole_20 : decode b_Split_splitWhole 20 = .ok (.istore_n 3, 1) := by decide +kernel
theorem d_Split_splitWhole_21 : decode b_Split_splitWhole 21 = .ok (.iload_n 3, 1) := by decide +kernel
theorem d_Split_splitWhole_22 : decode b_Split_splitWhole 22 = .ok (.aload_n 1, 1) := by decide +kernel
theorem d_Split_splitWhole_23 : decode b_Split_splitWhole 23 = .ok (.getfield 70, 3) := by decide +kernel
theorem d_Split_splitWhole_26 : decode b_Split_splitWhole 26 = .ok (.iload_n 2, 1) := by decide +kernel
theorem d_Split_splitWhole_27 : decode b_Split_splitWhole 27 = .ok (.iaload, 1) := by decide +kernel
theorem d_Split_splitWhole_28 : decode b_Split_splitWhole 28 = .ok (.if_icmp .ge 18, 3) := by decide +kernel
theorem d_Split_splitWhole_31 : decode b_Split_splitWhole 31 = .ok (.aload_n 0, 1) := by decide +kernel
theorem d_Split_splitWhole_32 : decode b_Split_splitWhole 32 = .ok (.getfield 23, 3) := by decide +kernel
theorem d_Split_splitWhole_35 : decode b_Split_splitWhole 35 = .ok (.iload_n 2, 1) := by decide +kernel
theorem d_Split_splitWhole_36 : decode b_Split_splitWhole 36 = .ok (.invokevirtual 66, 3) := by decide +kernel
theorem d_Split_splitWhole_39 : decode b_Split_splitWhole 39 = .ok (.pop, 1) := by decide +kernel
theorem d_Split_splitWhole_40 : decode b_Split_splitWhole 40 = .ok (.iinc 3 1, 3) := by decide +kernel
theorem d_Split_splitWhole_43 : decode b_Split_splitWhole 43 = .ok (.goto (-22), 3) := by decide +kernel
theorem d_Split_splitWhole_46 : decode b_Split_splitWhole 46 = .ok (.iinc 2 1, 3) := by decide +kernel
theorem d_Split_splitWhole_49 : decode b_Split_splitWhole 49 = .ok (.goto (-36), 3) := by decide +kernel
theorem d_Split_splitWhole_52 : decode b_Split_splitWhole 52 = .ok (.aload_n 0, 1) := by decide +kernel
theorem d_Split_splitWhole_53 : decode b_Split_splitWhole 53 = .ok (.getfield 30, 3) := by decide +kernel
theorem d_Split_splitWhole_56 : decode b_Split_splitWhole 56 = .ok (.invokevirtual 106, 3) := by decide +kernel
theorem d_Split_splitWhole_59 : decode b_Split_splitWhole 59 = .ok (.aload_n 0, 1) := by decide +kernel
theorem d_Split_splitWhole_60 : decode b_Split_splitWhole 60 = .ok (.getfield 23, 3) := by decide +kernel
theorem d_Split_splitWhole_63 : decode b_Split_splitWhole 63 = .ok (.getfield 107, 3) := by decide +kernel
theorem d_Split_splitWhole_66 : decode b_Split_splitWhole 66 = .ok (.istore_n 2, 1) := by decide +kernel
theorem d_Split_splitWhole_67 : decode b_Split_splitWhole 67 = .ok (.iload_n 2, 1) := by decide +kernel
theorem d_Split_splitWhole_68 : decode b_Split_splitWhole 68 = .ok (.ifCond .lt 106, 3) := by decide +kernel
theorem d_Split_splitWhole_71 : decode b_Split_splitWhole 71 = .ok (.aload_n 1, 1) := by decide +kernel
theorem d_Split_splitWhole_72 : decode b_Split_splitWhole 72 = .ok (.getfield 49, 3) := by decide +kernel
theorem d_Split_splitWhole_75 : decode b_Split_splitWhole 75 = .ok (.iconst 1, 1) := by decide +kernel
theorem d_Split_splitWhole_76 : decode b_Split_splitWhole 76 = .ok (.if_icmp .ne 9, 3) := by decide +kernel
theorem d_Split_splitWhole_79 : decode b_Split_splitWhole 79 = .ok (.iload_n 2, 1) := by decide +kernel
theorem d_Split_splitWhole_80 : decode b_Split_splitWhole 80 = .ok (.iconst 1, 1) := by decide +kernel
theorem d_Split_splitWhole_81 : decode b_Split_splitWhole 81 = .ok (.iadd, 1) := by decide +kernel
theorem d_Split_splitWhole_82 : decode b_Split_splitWhole 82 = .ok (.goto 4, 3) := by decide +kernel
theorem d_Split_splitWhole_85 : decode b_Split_splitWhole 85 = .ok (.iload_n 2, 1) := by decide +kernel
theorem d_Split_splitWhole_86 : decode b_Split_splitWhole 86 = .ok (.istore_n 3, 1) := by decide +kernel
theorem d_Split_splitWhole_87 : decode b_Split_splitWhole 87 = .ok (.aload_n 1, 1) := by decide +kernel
theorem d_Split_splitWhole_88 : decode b_Split_splitWhole 88 = .ok (.getfield 49, 3) := by decide +kernel
theorem d_Split_splitWhole_91 : decode b_Split_splitWhole 91 = .ok (.iconst 1, 1) := by decide +kernel
theorem d_Split_splitWhole_92 : decode b_Split_splitWhole 92 = .ok (.if_icmp .ne 7, 3) := by decide +kernel
theorem d_Split_splitWhole_95 : decode b_Split_splitWhole 95 = .ok (.iload_n 3, 1) := by decide +kernel
theorem d_Split_splitWhole_96 : decode b_Split_splitWhole 96 = .ok (.goto 9, 3) := by decide +kernel
theorem d_Split_splitWhole_99 : decode b_Split_splitWhole 99 = .ok (.aload_n 1, 1) := by decide +kernel
theorem d_Split_splitWhole_100 : decode b_Split_splitWhole 100 = .ok (.getfield 49, 3) := by decide +kernel
theorem d_Split_splitWhole_103 : decode b_Split_splitWhole 103 = .ok (.iconst 1, 1) := by decide +kernel
theorem d_Split_splitWhole_104 : decode b_Split_splitWhole 104 = .ok (.isub, 1) := by decide +kernel
theorem d_Split_splitWhole_105 : decode b_Split_splitWhole 105 = .ok (.istore 4, 2) := by decide +kernel
theorem d_Split_splitWhole_107 : decode b_Split_splitWhole 107 = .ok (.aload_n 0, 1) := by decide +kernel
theorem d_Split_splitWhole_108 : decode b_Split_splitWhole 108 = .ok (.getfield 30, 3) := by decide +kernel
theorem d_Split_splitWhole_111 : decode b_Split_splitWhole 111 = .ok (.getfield 97, 3) := by decide +kernel
theorem d_Split_splitWhole_114 : decode b_Split_splitWhole 114 = .ok (.iload_n 3, 1) := by decide +kernel
theorem d_Split_splitWhole_115 : decode b_Split_splitWhole 115 = .ok (.aload_n 0, 1) := by decide +kernel
theorem d_Split_splitWhole_116 : decode b_Split_splitWhole 116 = .ok (.getfield 23, 3) := by decide +kernel
theorem d_Split_splitWhole_119 : decode b_Split_splitWhole 119 = .ok (.getfield 97, 3) := by decide +kernel
theorem d_Split_splitWhole_122 : decode b_Split_splitWhole 122 = .ok (.iload_n 2, 1) := by decide +kernel
theorem d_Split_splitWhole_123 : decode b_Split_splitWhole 123 = .ok (.iaload, 1) := by decide +kernel
theorem d_Split_splitWhole_124 : decode b_Split_splitWhole 124 = .ok (.iload 4, 2) := by decide +kernel
theorem d_Split_splitWhole_126 : decode b_Split_splitWhole 126 = .ok (.invokestatic 81, 3) := by decide +kernel
theorem d_Split_splitWhole_129 : decode b_Split_splitWhole 129 = .ok (.imul, 1) := by decide +kernel
theorem d_Split_splitWhole_130 : decode b_Split_splitWhole 130 = .ok (.sipush 10007, 3) := by decide +kernel
theorem d_Split_splitWhole_133 : decode b_Split_splitWhole 133 = .ok (.irem, 1) := by decide +kernel
theorem d_Split_splitWhole_134 : decode b_Split_splitWhole 134 = .ok (.iastore, 1) := by decide +kernel
theorem d_Split_splitWhole_135 : decode b_Split_splitWhole 135 = .ok (.aload_n 0, 1) := by decide +kernel
theorem d_Split_splitWhole_136 : decode b_Split_splitWhole 136 = .ok (.aload_n 1, 1) := by decide +kernel
theorem d_Split_splitWhole_137 : decode b_Split_splitWhole 137 = .ok (.getfield 49, 3) := by decide +kernel
theorem d_Split_splitWhole_140 : decode b_Split_splitWhole 140 = .ok (.iload_n 3, 1) := by decide +kernel
theorem d_Split_splitWhole_141 : decode b_Split_splitWhole 141 = .ok (.invokevirtual 110, 3) := by decide +kernel
theorem d_Split_splitWhole_144 : decode b_Split_splitWhole 144 = .ok (.aload_n 0, 1) := by decide +kernel
theorem d_Split_splitWhole_145 : decode b_Split_splitWhole 145 = .ok (.getfield 23, 3) := by decide +kernel
theorem d_Split_splitWhole_148 : decode b_Split_splitWhole 148 = .ok (.aload_n 0, 1) := by decide +kernel
theorem d_Split_splitWhole_149 : decode b_Split_splitWhole 149 = .ok (.getfield 27, 3) := by decide +kernel
theorem d_Split_splitWhole_152 : decode b_Split_splitWhole 152 = .ok (.aload_n 0, 1) := by decide +kernel
theorem d_Split_splitWhole_153 : decode b_Split_splitWhole 153 = .ok (.getfield 30, 3) := by decide +kernel
theorem d_Split_splitWhole_156 : decode b_Split_splitWhole 156 = .ok (.getfield 97, 3) := by decide +kernel
theorem d_Split_splitWhole_159 : decode b_Split_splitWhole 159 = .ok (.iload_n 3, 1) := by decide +kernel
theorem d_Split_splitWhole_160 : decode b_Split_splitWhole 160 = .ok (.iaload, 1) := by decide +kernel
theorem d_Split_splitWhole_161 : decode b_Split_splitWhole 161 = .ok (.ineg, 1) := by decide +kernel
theorem d_Split_splitWhole_162 : decode b_Split_splitWhole 162 = .ok (.invokestatic 73, 3) := by decide +kernel
theorem d_Split_splitWhole_165 : decode b_Split_splitWhole 165 = .ok (.invokevirtual 114, 3) := by decide +kernel
theorem d_Split_splitWhole_168 : decode b_Split_splitWhole 168 = .ok (.iinc 2 (-1), 3) := by decide +kernel
theorem d_Split_splitWhole_171 : decode b_Split_splitWhole 171 = .ok (.goto (-104), 3) := by decide +kernel
theorem d_Split_splitWhole_174 : decode b_Split_splitWhole 174 = .ok (.aload_n 0, 1) := by decide +kernel
theorem d_Split_splitWhole_175 : decode b_Split_splitWhole 175 = .ok (.getfield 30, 3) := by decide +kernel
theorem d_Split_splitWhole_178 : decode b_Split_splitWhole 178 = .ok (.invokevirtual 100, 3) := by decide +kernel
theorem d_Split_splitWhole_181 : decode b_Split_splitWhole 181 = .ok (.return_, 1) := by decide +kernel
theorem d_Split_setDifferenceOfPower_0 : decode b_Split_setDifferenceOfPower 0 = .ok (.aload_n 0, 1) := by decide +kernel
theorem d_Split_setDifferenceOfPower_1 : decode b_Split_setDifferenceOfPower 1 = .ok (.getfield 27, 3) := by decide +kernel
theorem d_Split_setDifferenceOfPower_4 : decode b_Split_setDifferenceOfPower 4 = .ok (.iconst 0, 1) := by decide +kernel
theorem d_Split_setDifferenceOfPower_5 : decode b_Split_setDifferenceOfPower 5 = .ok (.iload_n 1, 1) := by decide +kernel
theorem d_Split_setDifferenceOfPower_6 : decode b_Split_setDifferenceOfPower 6 = .ok (.invokevirtual 118, 3) := by decide +kernel
theorem d_Split_setDifferenceOfPower_9 : decode b_Split_setDifferenceOfPower 9 = .ok (.aload_n 0, 1) := by decide +kernel
theorem d_Split_setDifferenceOfPower_10 : decode b_Split_setDifferenceOfPower 10 = .ok (.getfield 27, 3) := by decide +kernel
theorem d_Split_setDifferenceOfPower_13 : decode b_Split_setDifferenceOfPower 13 = .ok (.iconst 1, 1) := by decide +kernel
theorem d_Split_setDifferenceOfPower_14 : decode b_Split_setDifferenceOfPower 14 = .ok (.iload_n 2, 1) := by decide +kernel
theorem d_Split_setDifferenceOfPower_15 : decode b_Split_setDifferenceOfPower 15 = .ok (.invokevirtual 121, 3) := by decide +kernel
theorem d_Split_setDifferenceOfPower_18 : decode b_Split_setDifferenceOfPower 18 = .ok (.aload_n 0, 1) := by decide +kernel
theorem d_Split_setDifferenceOfPower_19 : decode b_Split_setDifferenceOfPower 19 = .ok (.getfield 27, 3) := by decide +kernel
theorem d_Split_setDifferenceOfPower_22 : decode b_Split_setDifferenceOfPower 22 = .ok (.getfield 97, 3) := by decide +kernel
theorem d_Split_setDifferenceOfPower_25 : decode b_Split_setDifferenceOfPower 25 = .ok (.iload_n 2, 1) := by decide +kernel
theorem d_Split_setDifferenceOfPower_26 : decode b_Split_setDifferenceOfPower 26 = .ok (.aload_n 0, 1) := by decide +kernel
theorem d_Split_setDifferenceOfPower_27 : decode b_Split_setDifferenceOfPower 27 = .ok (.getfield 27, 3) := by decide +kernel
theorem d_Split_setDifferenceOfPower_30 : decode b_Split_setDifferenceOfPower 30 = .ok (.getfield 97, 3) := by decide +kernel
theorem d_Split_setDifferenceOfPower_33 : decode b_Split_setDifferenceOfPower 33 = .ok (.iload_n 2, 1) := by decide +kernel
theorem d_Split_setDifferenceOfPower_34 : decode b_Split_setDifferenceOfPower 34 = .ok (.iaload, 1) := by decide +kernel
theorem d_Split_setDifferenceOfPower_35 : decode b_Split_setDifferenceOfPower 35 = .ok (.iconst 1, 1) := by decide +kernel
theorem d_Split_setDifferenceOfPower_36 : decode b_Split_setDifferenceOfPower 36 = .ok (.isub, 1) := by decide +kernel
theorem d_Split_setDifferenceOfPower_37 : decode b_Split_setDifferenceOfPower 37 = .ok (.invokestatic 73, 3) := by decide +kernel
theorem d_Split_setDifferenceOfPower_40 : decode b_Split_setDifferenceOfPower 40 = .ok (.iastore, 1) := by decide +kernel
theorem d_Split_setDifferenceOfPower_41 : decode b_Split_setDifferenceOfPower 41 = .ok (.aload_n 0, 1) := by decide +kernel
theorem d_Split_setDifferenceOfPower_42 : decode b_Split_setDifferenceOfPower 42 = .ok (.getfield 27, 3) := by decide +kernel
theorem d_Split_setDifferenceOfPower_45 : decode b_Split_setDifferenceOfPower 45 = .ok (.invokevirtual 100, 3) := by decide +kernel
theorem d_Split_setDifferenceOfPower_48 : decode b_Split_setDifferenceOfPower 48 = .ok (.return_, 1) := by decide +kernel
theorem d_Split_gather_0 : decode b_Split_gather 0 = .ok (.aload_n 2, 1) := by decide +kernel
theorem d_Split_gather_1 : decode b_Split_gather 1 = .ok (.invokevirtual 84, 3) := by decide +kernel
theorem d_Split_gather_4 : decode b_Split_gather 4 = .ok (.aload_n 2, 1) := by decide +kernel
theorem d_Split_gather_5 : decode b_Split_gather 5 = .ok (.iload_n 1, 1) := by decide +kernel
theorem d_Split_gather_6 : decode b_Split_gather 6 = .ok (.putfield 49, 3) := by decide +kernel
theorem d_Split_gather_9 : decode b_Split_gather 9 = .ok (.iconst 0, 1) := by decide +kernel
theorem d_Split_gather_10 : decode b_Split_gather 10 = .ok (.istore_n 3, 1) := by decide +kernel
theorem d_Split_gather_11 : decode b_Split_gather 11 = .ok (.iload_n 3, 1) := by decide +kernel
theorem d_Split_gather_12 : decode b_Split_gather 12 = .ok (.bipush 8, 2) := by decide +kernel
theorem d_Split_gather_14 : decode b_Split_gather 14 = .ok (.if_icmp .ge 46, 3) := by decide +kernel
theorem d_Split_gather_17 : decode b_Split_gather 17 = .ok (.iconst 1, 1) := by decide +kernel
theorem d_Split_gather_18 : decode b_Split_gather 18 = .ok (.istore 4, 2) := by decide +kernel
theorem d_Split_gather_20 : decode b_Split_gather 20 = .ok (.iload 4, 2) := by decide +kernel
theorem d_Split_gather_22 : decode b_Split_gather 22 = .ok (.iconst 3, 1) := by decide +kernel
theorem d_Split_gather_23 : decode b_Split_gather 23 = .ok (.if_icmp .gt 31, 3) := by decide +kernel
theorem d_Split_gather_26 : decode b_Split_gather 26 = .ok (.aload_n 0, 1) := by decide +kernel
theorem d_Split_gather_27 : decode b_Split_gather 27 = .ok (.getfield 15, 3) := by decide +kernel
theorem d_Split_gather_30 : decode b_Split_gather 30 = .ok (.iload_n 3, 1) := by decide +kernel
theorem d_Split_gather_31 : decode b_Split_gather 31 = .ok (.iload 4, 2) := by decide +kernel
theorem d_Split_gather_33 : decode b_Split_gather 33 = .ok (.invokestatic 93, 3) := by decide +kernel
theorem d_Split_gather_36 : decode b_Split_gather 36 = .ok (.iaload, 1) := by decide +kernel
theorem d_Split_gather_37 : decode b_Split_gather 37 = .ok (.ifCond .eq 11, 3) := by decide +kernel
theorem d_Split_gather_40 : decode b_Split_gather 40 = .ok (.aload_n 2, 1) := by decide +kernel
theorem d_Split_gather_41 : decode b_Split_gather 41 = .ok (.getfield 70, 3) := by decide +kernel
theorem d_Split_gather_44 : decode b_Split_gather 44 = .ok (.iload_n 3, 1) := by decide +kernel
theorem d_Split_gather_45 : decode b_Split_gather 45 = .ok (.iload 4, 2) := by decide +kernel
theorem d_Split_gather_47 : decode b_Split_gather 47 = .ok (.iastore, 1) := by decide +kernel
theorem d_Split_gather_48 : decode b_Split_gather 48 = .ok (.iinc 4 1, 3) := by decide +kernel
theorem d_Split_gather_51 : decode b_Split_gather 51 = .ok (.goto (-31), 3) := by decide +kernel
theorem d_Split_gather_54 : decode b_Split_gather 54 = .ok (.iinc 3 1, 3) := by decide +kernel
theorem d_Split_gather_57 : decode b_Split_gather 57 = .ok (.goto (-46), 3) := by decide +kernel
theorem d_Split_gather_60 : decode b_Split_gather 60 = .ok (.aload_n 2, 1) := by decide +kernel
theorem d_Split_gather_61 : decode b_Split_gather 61 = .ok (.getfield 59, 3) := by decide +kernel
theorem d_Split_gather_64 : decode b_Split_gather 64 = .ok (.aload_n 0, 1) := by decide +kernel
theorem d_Split_gather_65 : decode b_Split_gather 65 = .ok (.getfield 30, 3) := by decide +kernel
theorem d_Split_gather_68 : decode b_Split_gather 68 = .ok (.invokevirtual 62, 3) := by decide +kernel
theorem d_Split_gather_71 : decode b_Split_gather 71 = .ok (.aload_n 2, 1) := by decide +kernel
theorem d_Split_gather_72 : decode b_Split_gather 72 = .ok (.getfield 59, 3) := by decide +kernel
theorem d_Split_gather_75 : decode b_Split_gather 75 = .ok (.aload_n 2, 1) := by decide +kernel
theorem d_Split_gather_76 : decode b_Split_gather 76 = .ok (.getfield 70, 3) := by decide +kernel
theorem d_Split_gather_79 : decode b_Split_gather 79 = .ok (.iconst 0, 1) := by decide +kernel
theorem d_Split_gather_80 : decode b_Split_gather 80 = .ok (.iconst 0, 1) := by decide +kernel
theorem d_Split_gather_81 : decode b_Split_gather 81 = .ok (.invokestatic 124, 3) := by decide +kernel
theorem d_Split_gather_84 : decode b_Split_gather 84 = .ok (.iconst 0, 1) := by decide +kernel
theorem d_Split_gather_85 : decode b_Split_gather 85 = .ok (.istore_n 3, 1) := by decide +kernel
theorem d_Split_gather_86 : decode b_Split_gather 86 = .ok (.iload_n 3, 1) := by decide +kernel
theorem d_Split_gather_87 : decode b_Split_gather 87 = .ok (.bipush 8, 2) := by decide +kernel
theorem d_Split_gather_89 : decode b_Split_gather 89 = .ok (.if_icmp .ge 74, 3) := by decide +kernel
theorem d_Split_gather_92 : decode b_Split_gather 92 = .ok (.iconst 1, 1) := by decide +kernel
theorem d_Split_gather_93 : decode b_Split_gather 93 = .ok (.istore 4, 2) := by decide +kernel
theorem d_Split_gather_95 : decode b_Split_gather 95 = .ok (.iload 4, 2) := by decide +kernel
theorem d_Split_gather_97 : decode b_Split_gather 97 = .ok (.aload_n 2, 1) := by decide +kernel
theorem d_Split_gather_98 : decode b_Split_gather 98 = .ok (.getfield 70, 3) := by decide +kernel
theorem d_Split_gather_101 : decode b_Split_gather 101 = .ok (.iload_n 3, 1) := by decide +kernel
theorem d_Split_gather_102 : decode b_Split_gather 102 = .ok (.iaload, 1) := by decide +kernel
theorem d_Split_gather_103 : decode b_Split_gather 103 = .ok (.if_icmp .gt 54, 3) := by decide +kernel
theorem d_Split_gather_106 : decode b_Split_gather 106 = .ok (.aload_n 0, 1) := by decide +kernel
theorem d_Split_gather_107 : decode b_Split_gather 107 = .ok (.getfield 27, 3) := by decide +kernel
theorem d_Split_gather_110 : decode b_Split_gather 110 = .ok (.iconst 0, 1) := by decide +kernel
theorem d_Split_gather_111 : decode b_Split_gather 111 = .ok (.aload_n 0, 1) := by decide +kernel
theorem d_Split_gather_112 : decode b_Split_gather 112 = .ok (.getfield 15, 3) := by decide +kernel
theorem d_Split_gather_115 : decode b_Split_gather 115 = .ok (.iload_n 3, 1) := by decide +kernel
theorem d_Split_gather_116 : decode b_Split_gather 116 = .ok (.iload 4, 2) := by decide +kernel
theorem d_Split_gather_118 : decode b_Split_gather 118 = .ok (.invokestatic 93, 3) := by decide +kernel
theorem d_Split_gather_121 : decode b_Split_gather 121 = .ok (.iaload, 1) := by decide +kernel
theorem d_Split_gather_122 : decode b_Split_gather 122 = .ok (.invokevirtual 118, 3) := by decide +kernel
theorem d_Split_gather_125 : decode b_Split_gather 125 = .ok (.aload_n 0, 1) := by decide +kernel
theorem d_Split_gather_126 : decode b_Split_gather 126 = .ok (.getfield 27, 3) := by decide +kernel
theorem d_Split_gather_129 : decode b_Split_gather 129 = .ok (.aload_n 2, 1) := by decide +kernel
theorem d_Split_gather_130 : decode b_Split_gather 130 = .ok (.getfield 70, 3) := by decide +kernel
theorem d_Split_gather_133 : decode b_Split_gather 133 = .ok (.iload_n 3, 1) := by decide +kernel
theorem d_Split_gather_134 : decode b_Split_gather 134 = .ok (.iload 4, 2) := by decide +kernel
theorem d_Split_gather_136 : decode b_Split_gather 136 = .ok (.invokestatic 124, 3) := by decide +kernel
theorem d_Split_gather_139 : decode b_Split_gather 139 = .ok (.aload_n 2, 1) := by decide +kernel
theorem d_Split_gather_140 : decode b_Split_gather 140 = .ok (.getfield 59, 3) := by decide +kernel
theorem d_Split_gather_143 : decode b_Split_gather 143 = .ok (.aload_n 0, 1) := by decide +kernel
theorem d_Split_gather_144 : decode b_Split_gather 144 = .ok (.getfield 27, 3) := by decide +kernel
theorem d_Split_gather_147 : decode b_Split_gather 147 = .ok (.iconst 1, 1) := by decide +kernel
theorem d_Split_gather_148 : decode b_Split_gather 148 = .ok (.invokevirtual 114, 3) := by decide +kernel
theorem d_Split_gather_151 : decode b_Split_gather 151 = .ok (.iinc 4 1, 3) := by decide +kernel
theorem d_Split_gather_154 : decode b_Split_gather 154 = .ok (.goto (-59), 3) := by decide +kernel
theorem d_Split_gather_157 : decode b_Split_gather 157 = .ok (.iinc 3 1, 3) := by decide +kernel
theorem d_Split_gather_160 : decode b_Split_gather 160 = .ok (.goto (-74), 3) := by decide +kernel
theorem d_Split_gather_163 : decode b_Split_gather 163 = .ok (.aload_n 2, 1) := by decide +kernel
theorem d_Split_gather_164 : decode b_Split_gather 164 = .ok (.invokevirtual 103, 3) := by decide +kernel
theorem d_Split_gather_167 : decode b_Split_gather 167 = .ok (.return_, 1) := by decide +kernel
theorem d_Split_multiplyByPoles_0 : decode b_Split_multiplyByPoles 0 = .ok (.iconst 0, 1) := by decide +kernel
theorem d_Split_multiplyByPoles_1 : decode b_Split_multiplyByPoles 1 = .ok (.istore 4, 2) := by decide +kernel
theorem d_Split_multiplyByPoles_3 : decode b_Split_multiplyByPoles 3 = .ok (.iload 4, 2) := by decide +kernel
theorem d_Split_multiplyByPoles_5 : decode b_Split_multiplyByPoles 5 = .ok (.bipush 8, 2) := by decide +kernel
theorem d_Split_multiplyByPoles_7 : decode b_Split_multiplyByPoles 7 = .ok (.if_icmp .ge 34, 3) := by decide +kernel
theorem d_Split_multiplyByPoles_10 : decode b_Split_multiplyByPoles 10 = .ok (.aload_n 0, 1) := by decide +kernel
theorem d_Split_multiplyByPoles_11 : decode b_Split_multiplyByPoles 11 = .ok (.iload 4, 2) := by decide +kernel
theorem d_Split_multiplyByPoles_13 : decode b_Split_multiplyByPoles 13 = .ok (.iload 4, 2) := by decide +kernel
theorem d_Split_multiplyByPoles_15 : decode b_Split_multiplyByPoles 15 = .ok (.iload_n 2, 1) := by decide +kernel
theorem d_Split_multiplyByPoles_16 : decode b_Split_multiplyByPoles 16 = .ok (.if_icmp .ne 12, 3) := by decide +kernel
theorem d_Split_multiplyByPoles_19 : decode b_Split_multiplyByPoles 19 = .ok (.aload_n 1, 1) := by decide +kernel
theorem d_Split_multiplyByPoles_20 : decode b_Split_multiplyByPoles 20 = .ok (.iload 4, 2) := by decide +kernel
theorem d_Split_multiplyByPoles_22 : decode b_Split_multiplyByPoles 22 = .ok (.iaload, 1) := by decide +kernel
theorem d_Split_multiplyByPoles_23 : decode b_Split_multiplyByPoles 23 = .ok (.iload_n 3, 1) := by decide +kernel
theorem d_Split_multiplyByPoles_24 : decode b_Split_multiplyByPoles 24 = .ok (.isub, 1) := by decide +kernel
theorem d_Split_multiplyByPoles_25 : decode b_Split_multiplyByPoles 25 = .ok (.goto 7, 3) := by decide +kernel
theorem d_Split_multiplyByPoles_28 : decode b_Split_multiplyByPoles 28 = .ok (.aload_n 1, 1) := by decide +kernel
theorem d_Split_multiplyByPoles_29 : decode b_Split_multiplyByPoles 29 = .ok (.iload 4, 2) := by decide +kernel
theorem d_Split_multiplyByPoles_31 : decode b_Split_multiplyByPoles 31 = .ok (.iaload, 1) := by decide +kernel
theorem d_Split_multiplyByPoles_32 : decode b_Split_multiplyByPoles 32 = .ok (.invokevirtual 121, 3) := by decide +kernel
theorem d_Split_multiplyByPoles_35 : decode b_Split_multiplyByPoles 35 = .ok (.iinc 4 1, 3) := by decide +kernel
theorem d_Split_multiplyByPoles_38 : decode b_Split_multiplyByPoles 38 = .ok (.goto (-35), 3) := by decide +kernel
theorem d_Split_multiplyByPoles_41 : decode b_Split_multiplyByPoles 41 = .ok (.return_, 1) := by decide +kernel
theorem d_Split_weightOf_0 : decode b_Split_weightOf 0 = .ok (.aload_n 0, 1) := by decide +kernel
theorem d_Split_weightOf_1 : decode b_Split_weightOf 1 = .ok (.aload_n 1, 1) := by decide +kernel
theorem d_Split_weightOf_2 : decode b_Split_weightOf 2 = .ok (.iload_n 2, 1) := by decide +kernel
theorem d_Split_weightOf_3 : decode b_Split_weightOf 3 = .ok (.invokevirtual 33, 3) := by decide +kernel
theorem d_Split_weightOf_6 : decode b_Split_weightOf 6 = .ok (.aload_n 0, 1) := by decide +kernel
theorem d_Split_weightOf_7 : decode b_Split_weightOf 7 = .ok (.aload_n 1, 1) := by decide +kernel
theorem d_Split_weightOf_8 : decode b_Split_weightOf 8 = .ok (.iload_n 2, 1) := by decide +kernel
theorem d_Split_weightOf_9 : decode b_Split_weightOf 9 = .ok (.iload_n 3, 1) := by decide +kernel
theorem d_Split_weightOf_10 : decode b_Split_weightOf 10 = .ok (.invokevirtual 37, 3) := by decide +kernel
theorem d_Split_weightOf_13 : decode b_Split_weightOf 13 = .ok (.ireturn, 1) := by decide +kernel
