theorem d_Model_init_0 : decode b_Model_init 0 = .ok (.aload_n 0, 1) := by decide +kernel
theorem d_Model_init_1 : decode b_Model_init 1 = .ok (.invokespecial 1, 3) := by decide +kernel
theorem d_Model_init_4 : decode b_Model_init 4 = .ok (.aload_n 0, 1) := by decide +kernel
theorem d_Model_init_5 : decode b_Model_init 5 = .ok (.sipush 256, 3) := by decide +kernel
theorem d_Model_init_8 : decode b_Model_init 8 = .ok (.newarray .int, 2) := by decide +kernel
theorem d_Model_init_10 : decode b_Model_init 10 = .ok (.putfield 7, 3) := by decide +kernel
theorem d_Model_init_13 : decode b_Model_init 13 = .ok (.aload_n 0, 1) := by decide +kernel
theorem d_Model_init_14 : decode b_Model_init 14 = .ok (.bipush 64, 2) := by decide +kernel
theorem d_Model_init_16 : decode b_Model_init 16 = .ok (.newarray .int, 2) := by decide +kernel
theorem d_Model_init_18 : decode b_Model_init 18 = .ok (.putfield 13, 3) := by decide +kernel
theorem d_Model_init_21 : decode b_Model_init 21 = .ok (.aload_n 0, 1) := by decide +kernel
theorem d_Model_init_22 : decode b_Model_init 22 = .ok (.bipush 8, 2) := by decide +kernel
theorem d_Model_init_24 : decode b_Model_init 24 = .ok (.newarray .int, 2) := by decide +kernel
theorem d_Model_init_26 : decode b_Model_init 26 = .ok (.putfield 16, 3) := by decide +kernel
theorem d_Model_init_29 : decode b_Model_init 29 = .ok (.aload_n 0, 1) := by decide +kernel
theorem d_Model_init_30 : decode b_Model_init 30 = .ok (.sipush 320, 3) := by decide +kernel
theorem d_Model_init_33 : decode b_Model_init 33 = .ok (.newarray .int, 2) := by decide +kernel
theorem d_Model_init_35 : decode b_Model_init 35 = .ok (.putfield 19, 3) := by decide +kernel
theorem d_Model_init_38 : decode b_Model_init 38 = .ok (.aload_n 0, 1) := by decide +kernel
theorem d_Model_init_39 : decode b_Model_init 39 = .ok (.bipush 9, 2) := by decide +kernel
theorem d_Model_init_41 : decode b_Model_init 41 = .ok (.newarray .int, 2) := by decide +kernel
theorem d_Model_init_43 : decode b_Model_init 43 = .ok (.putfield 22, 3) := by decide +kernel
theorem d_Model_init_46 : decode b_Model_init 46 = .ok (.aload_n 0, 1) := by decide +kernel
theorem d_Model_init_47 : decode b_Model_init 47 = .ok (.bipush 24, 2) := by decide +kernel
theorem d_Model_init_49 : decode b_Model_init 49 = .ok (.newarray .int, 2) := by decide +kernel
theorem d_Model_init_51 : decode b_Model_init 51 = .ok (.putfield 25, 3) := by decide +kernel
theorem d_Model_init_54 : decode b_Model_init 54 = .ok (.aload_n 0, 1) := by decide +kernel
theorem d_Model_init_55 : decode b_Model_init 55 = .ok (.bipush 24, 2) := by decide +kernel
theorem d_Model_init_57 : decode b_Model_init 57 = .ok (.newarray .int, 2) := by decide +kernel
theorem d_Model_init_59 : decode b_Model_init 59 = .ok (.putfield 28, 3) := by decide +kernel
theorem d_Model_init_62 : decode b_Model_init 62 = .ok (.aload_n 0, 1) := by decide +kernel
theorem d_Model_init_63 : decode b_Model_init 63 = .ok (.bipush 8, 2) := by decide +kernel
theorem d_Model_init_65 : decode b_Model_init 65 = .ok (.newarray .int, 2) := by decide +kernel
theorem d_Model_init_67 : decode b_Model_init 67 = .ok (.putfield 31, 3) := by decide +kernel
theorem d_Model_init_70 : decode b_Model_init 70 = .ok (.aload_n 0, 1) := by decide +kernel
theorem d_Model_init_71 : decode b_Model_init 71 = .ok (.bipush 33, 2) := by decide +kernel
theorem d_Model_init_73 : decode b_Model_init 73 = .ok (.newarray .int, 2) := by decide +kernel
theorem d_Model_init_75 : decode b_Model_init 75 = .ok (.putfield 34, 3) := by decide +kernel
theorem d_Model_init_78 : decode b_Model_init 78 = .ok (.iconst 0, 1) := by decide +kernel
theorem d_Model_init_79 : decode b_Model_init 79 = .ok (.istore_n 1, 1) := by decide +kernel
theorem d_Model_init_80 : decode b_Model_init 80 = .ok (.iload_n 1, 1) := by decide +kernel
theorem d_Model_init_81 : decode b_Model_init 81 = .ok (.bipush 8, 2) := by decide +kernel
theorem d_Model_init_83 : decode b_Model_init 83 = .ok (.if_icmp .ge 16, 3) := by decide +kernel
theorem d_Model_init_86 : decode b_Model_init 86 = .ok (.aload_n 0, 1) := by decide +kernel
theorem d_Model_init_87 : decode b_Model_init 87 = .ok (.getfield 16, 3) := by decide +kernel
theorem d_Model_init_90 : decode b_Model_init 90 = .ok (.iload_n 1, 1) := by decide +kernel
theorem d_Model_init_91 : decode b_Model_init 91 = .ok (.iconst 1, 1) := by decide +kernel
theorem d_Model_init_92 : decode b_Model_init 92 = .ok (.iastore, 1) := by decide +kernel
theorem d_Model_init_93 : decode b_Model_init 93 = .ok (.iinc 1 1, 3) := by decide +kernel
theorem d_Model_init_96 : decode b_Model_init 96 = .ok (.goto (-16), 3) := by decide +kernel
theorem d_Model_init_99 : decode b_Model_init 99 = .ok (.return_, 1) := by decide +kernel
theorem d_Model_constant_0 : decode b_Model_constant 0 = .ok (.aload_n 0, 1) := by decide +kernel
theorem d_Model_constant_1 : decode b_Model_constant 1 = .ok (.iload_n 1, 1) := by decide +kernel
theorem d_Model_constant_2 : decode b_Model_constant 2 = .ok (.iconst 0, 1) := by decide +kernel
theorem d_Model_constant_3 : decode b_Model_constant 3 = .ok (.iload_n 2, 1) := by decide +kernel
theorem d_Model_constant_4 : decode b_Model_constant 4 = .ok (.invokevirtual 73, 3) := by decide +kernel
theorem d_Model_constant_7 : decode b_Model_constant 7 = .ok (.ireturn, 1) := by decide +kernel
theorem d_Model_linear_0 : decode b_Model_linear 0 = .ok (.iload_n 1, 1) := by decide +kernel
theorem d_Model_linear_1 : decode b_Model_linear 1 = .ok (.invokestatic 77, 3) := by decide +kernel
theorem d_Model_linear_4 : decode b_Model_linear 4 = .ok (.ifCond .eq 17, 3) := by decide +kernel
theorem d_Model_linear_7 : decode b_Model_linear 7 = .ok (.iload_n 2, 1) := by decide +kernel
theorem d_Model_linear_8 : decode b_Model_linear 8 = .ok (.invokestatic 81, 3) := by decide +kernel
theorem d_Model_linear_11 : decode b_Model_linear 11 = .ok (.ifCond .eq 10, 3) := by decide +kernel
theorem d_Model_linear_14 : decode b_Model_linear 14 = .ok (.iload_n 3, 1) := by decide +kernel
theorem d_Model_linear_15 : decode b_Model_linear 15 = .ok (.invokestatic 81, 3) := by decide +kernel
theorem d_Model_linear_18 : decode b_Model_linear 18 = .ok (.ifCond .ne 6, 3) := by decide +kernel
theorem d_Model_linear_21 : decode b_Model_linear 21 = .ok (.bipush (-9), 2) := by decide +kernel
theorem d_Model_linear_23 : decode b_Model_linear 23 = .ok (.ireturn, 1) := by decide +kernel
theorem d_Model_linear_24 : decode b_Model_linear 24 = .ok (.aload_n 0, 1) := by decide +kernel
theorem d_Model_linear_25 : decode b_Model_linear 25 = .ok (.iconst 1, 1) := by decide +kernel
theorem d_Model_linear_26 : decode b_Model_linear 26 = .ok (.invokevirtual 56, 3) := by decide +kernel
theorem d_Model_linear_29 : decode b_Model_linear 29 = .ok (.aload_n 0, 1) := by decide +kernel
theorem d_Model_linear_30 : decode b_Model_linear 30 = .ok (.getfield 19, 3) := by decide +kernel
theorem d_Model_linear_33 : decode b_Model_linear 33 = .ok (.iconst 1, 1) := by decide +kernel
theorem d_Model_linear_34 : decode b_Model_linear 34 = .ok (.iload_n 2, 1) := by decide +kernel
theorem d_Model_linear_35 : decode b_Model_linear 35 = .ok (.iastore, 1) := by decide +kernel
theorem d_Model_linear_36 : decode b_Model_linear 36 = .ok (.aload_n 0, 1) := by decide +kernel
theorem d_Model_linear_37 : decode b_Model_linear 37 = .ok (.getfield 19, 3) := by decide +kernel
theorem d_Model_linear_40 : decode b_Model_linear 40 = .ok (.iconst 0, 1) := by decide +kernel
theorem d_Model_linear_41 : decode b_Model_linear 41 = .ok (.iload_n 3, 1) := by decide +kernel
theorem d_Model_linear_42 : decode b_Model_linear 42 = .ok (.iastore, 1) := by decide +kernel
theorem d_Model_linear_43 : decode b_Model_linear 43 = .ok (.aload_n 0, 1) := by decide +kernel
theorem d_Model_linear_44 : decode b_Model_linear 44 = .ok (.iload_n 1, 1) := by decide +kernel
theorem d_Model_linear_45 : decode b_Model_linear 45 = .ok (.invokevirtual 84, 3) := by decide +kernel
theorem d_Model_linear_48 : decode b_Model_linear 48 = .ok (.ireturn, 1) := by decide +kernel
theorem d_Model_slot_0 : decode b_Model_slot 0 = .ok (.iload_n 0, 1) := by decide +kernel
theorem d_Model_slot_1 : decode b_Model_slot 1 = .ok (.ifCond .lt 13, 3) := by decide +kernel
theorem d_Model_slot_4 : decode b_Model_slot 4 = .ok (.iload_n 0, 1) := by decide +kernel
theorem d_Model_slot_5 : decode b_Model_slot 5 = .ok (.bipush 8, 2) := by decide +kernel
theorem d_Model_slot_7 : decode b_Model_slot 7 = .ok (.if_icmp .ge 7, 3) := by decide +kernel
theorem d_Model_slot_10 : decode b_Model_slot 10 = .ok (.iconst 1, 1) := by decide +kernel
theorem d_Model_slot_11 : decode b_Model_slot 11 = .ok (.goto 4, 3) := by decide +kernel
theorem d_Model_slot_14 : decode b_Model_slot 14 = .ok (.iconst 0, 1) := by decide +kernel
theorem d_Model_slot_15 : decode b_Model_slot 15 = .ok (.ireturn, 1) := by decide +kernel
theorem d_Model_residue_0 : decode b_Model_residue 0 = .ok (.iload_n 0, 1) := by decide +kernel
theorem d_Model_residue_1 : decode b_Model_residue 1 = .ok (.ifCond .lt 14, 3) := by decide +kernel
theorem d_Model_residue_4 : decode b_Model_residue 4 = .ok (.iload_n 0, 1) := by decide +kernel
theorem d_Model_residue_5 : decode b_Model_residue 5 = .ok (.sipush 10007, 3) := by decide +kernel
theorem d_Model_residue_8 : decode b_Model_residue 8 = .ok (.if_icmp .ge 7, 3) := by decide +kernel
theorem d_Model_residue_11 : decode b_Model_residue 11 = .ok (.iconst 1, 1) := by decide +kernel
theorem d_Model_residue_12 : decode b_Model_residue 12 = .ok (.goto 4, 3) := by decide +kernel
theorem d_Model_residue_15 : decode b_Model_residue 15 = .ok (.iconst 0, 1) := by decide +kernel
theorem d_Model_residue_16 : decode b_Model_residue 16 = .ok (.ireturn, 1) := by decide +kernel
theorem d_Model_fresh_0 : decode b_Model_fresh 0 = .ok (.aload_n 0, 1) := by decide +kernel
theorem d_Model_fresh_1 : decode b_Model_fresh 1 = .ok (.iconst 0, 1) := by decide +kernel
theorem d_Model_fresh_2 : decode b_Model_fresh 2 = .ok (.invokevirtual 41, 3) := by decide +kernel
theorem d_Model_fresh_5 : decode b_Model_fresh 5 = .ok (.iconst 0, 1) := by decide +kernel
theorem d_Model_fresh_6 : decode b_Model_fresh 6 = .ok (.istore_n 2, 1) := by decide +kernel
theorem d_Model_fresh_7 : decode b_Model_fresh 7 = .ok (.iload_n 2, 1) := by decide +kernel
theorem d_Model_fresh_8 : decode b_Model_fresh 8 = .ok (.bipush 9, 2) := by decide +kernel
theorem d_Model_fresh_10 : decode b_Model_fresh 10 = .ok (.if_icmp .ge 16, 3) := by decide +kernel
theorem d_Model_fresh_13 : decode b_Model_fresh 13 = .ok (.aload_n 0, 1) := by decide +kernel
theorem d_Model_fresh_14 : decode b_Model_fresh 14 = .ok (.getfield 22, 3) := by decide +kernel
theorem d_Model_fresh_17 : decode b_Model_fresh 17 = .ok (.iload_n 2, 1) := by decide +kernel
theorem d_Model_fresh_18 : decode b_Model_fresh 18 = .ok (.iconst 0, 1) := by decide +kernel
theorem d_Model_fresh_19 : decode b_Model_fresh 19 = .ok (.iastore, 1) := by decide +kernel
theorem d_Model_fresh_20 : decode b_Model_fresh 20 = .ok (.iinc 2 1, 3) := by decide +kernel
theorem d_Model_fresh_23 : decode b_Model_fresh 23 = .ok (.goto (-16), 3) := by decide +kernel
theorem d_Model_fresh_26 : decode b_Model_fresh 26 = .ok (.aload_n 0, 1) := by decide +kernel
theorem d_Model_fresh_27 : decode b_Model_fresh 27 = .ok (.iload_n 1, 1) := by decide +kernel
theorem d_Model_fresh_28 : decode b_Model_fresh 28 = .ok (.putfield 49, 3) := by decide +kernel
theorem d_Model_fresh_31 : decode b_Model_fresh 31 = .ok (.return_, 1) := by decide +kernel
theorem d_Model_clear_0 : decode b_Model_clear 0 = .ok (.iconst 0, 1) := by decide +kernel
theorem d_Model_clear_1 : decode b_Model_clear 1 = .ok (.istore_n 2, 1) := by decide +kernel
theorem d_Model_clear_2 : decode b_Model_clear 2 = .ok (.iload_n 2, 1) := by decide +kernel
theorem d_Model_clear_3 : decode b_Model_clear 3 = .ok (.bipush 80, 2) := by decide +kernel
theorem d_Model_clear_5 : decode b_Model_clear 5 = .ok (.if_icmp .ge 18, 3) := by decide +kernel
theorem d_Model_clear_8 : decode b_Model_clear 8 = .ok (.aload_n 0, 1) := by decide +kernel
theorem d_Model_clear_9 : decode b_Model_clear 9 = .ok (.getfield 19, 3) := by decide +kernel
theorem d_Model_clear_12 : decode b_Model_clear 12 = .ok (.iload_n 1, 1) := by decide +kernel
theorem d_Model_clear_13 : decode b_Model_clear 13 = .ok (.iload_n 2, 1) := by decide +kernel
theorem d_Model_clear_14 : decode b_Model_clear 14 = .ok (.iadd, 1) := by decide +kernel
theorem d_Model_clear_15 : decode b_Model_clear 15 = .ok (.iconst 0, 1) := by decide +kernel
theorem d_Model_clear_16 : decode b_Model_clear 16 = .ok (.iastore, 1) := by decide +kernel
theorem d_Model_clear_17 : decode b_Model_clear 17 = .ok (.iinc 2 1, 3) := by decide +kernel
theorem d_Model_clear_20 : decode b_Model_clear 20 = .ok (.goto (-18), 3) := by decide +kernel
theorem d_Model_clear_23 : decode b_Model_clear 23 = .ok (.return_, 1) := by decide +kernel
theorem d_Model_finish_0 : decode b_Model_finish 0 = .ok (.aload_n 0, 1) := by decide +kernel
theorem d_Model_finish_1 : decode b_Model_finish 1 = .ok (.invokevirtual 66, 3) := by decide +kernel
theorem d_Model_finish_4 : decode b_Model_finish 4 = .ok (.ifCond .eq 6, 3) := by decide +kernel
theorem d_Model_finish_7 : decode b_Model_finish 7 = .ok (.bipush (-7), 2) := by decide +kernel
theorem d_Model_finish_9 : decode b_Model_finish 9 = .ok (.ireturn, 1) := by decide +kernel
theorem d_Model_finish_10 : decode b_Model_finish 10 = .ok (.aload_n 0, 1) := by decide +kernel
theorem d_Model_finish_11 : decode b_Model_finish 11 = .ok (.iload_n 1, 1) := by decide +kernel
theorem d_Model_finish_12 : decode b_Model_finish 12 = .ok (.invokevirtual 70, 3) := by decide +kernel
theorem d_Model_finish_15 : decode b_Model_finish 15 = .ok (.iconst 0, 1) := by decide +kernel
theorem d_Model_finish_16 : decode b_Model_finish 16 = .ok (.ireturn, 1) := by decide +kernel
theorem d_Model_settled_0 : decode b_Model_settled 0 = .ok (.aload_n 0, 1) := by decide +kernel
theorem d_Model_settled_1 : decode b_Model_settled 1 = .ok (.iconst 0, 1) := by decide +kernel
theorem d_Model_settled_2 : decode b_Model_settled 2 = .ok (.invokevirtual 53, 3) := by decide +kernel
theorem d_Model_settled_5 : decode b_Model_settled 5 = .ok (.ifCond .ge 8, 3) := by decide +kernel
theorem d_Model_settled_8 : decode b_Model_settled 8 = .ok (.aload_n 0, 1) := by decide +kernel
theorem d_Model_settled_9 : decode b_Model_settled 9 = .ok (.iconst 1, 1) := by decide +kernel
theorem d_Model_settled_10 : decode b_Model_settled 10 = .ok (.invokevirtual 56, 3) := by decide +kernel
theorem d_Model_settled_13 : decode b_Model_settled 13 = .ok (.iconst 0, 1) := by decide +kernel
theorem d_Model_settled_14 : decode b_Model_settled 14 = .ok (.istore_n 1, 1) := by decide +kernel
theorem d_Model_settled_15 : decode b_Model_settled 15 = .ok (.iconst 0, 1) := by decide +kernel
theorem d_Model_settled_16 : decode b_Model_settled 16 = .ok (.istore_n 2, 1) := by decide +kernel
theorem d_Model_settled_17 : decode b_Model_settled 17 = .ok (.iload_n 2, 1) := by decide +kernel
theorem d_Model_settled_18 : decode b_Model_settled 18 = .ok (.bipush 9, 2) := by decide +kernel
theorem d_Model_settled_20 : decode b_Model_settled 20 = .ok (.if_icmp .ge 77, 3) := by decide +kernel
theorem d_Model_settled_23 : decode b_Model_settled 23 = .ok (.aload_n 0, 1) := by decide +kernel
theorem d_Model_settled_24 : decode b_Model_settled 24 = .ok (.getfield 22, 3) := by decide +kernel
theorem d_Model_settled_27 : decode b_Model_settled 27 = .ok (.iload_n 2, 1) := by decide +kernel
theorem d_Model_settled_28 : decode b_Model_settled 28 = .ok (.iaload, 1) := by decide +kernel
theorem d_Model_settled_29 : decode b_Model_settled 29 = .ok (.ifCond .le 32, 3) := by decide +kernel
theorem d_Model_settled_32 : decode b_Model_settled 32 = .ok (.aload_n 0, 1) := by decide +kernel
theorem d_Model_settled_33 : decode b_Model_settled 33 = .ok (.iconst 0, 1) := by decide +kernel
theorem d_Model_settled_34 : decode b_Model_settled 34 = .ok (.iload_n 2, 1) := by decide +kernel
theorem d_Model_settled_35 : decode b_Model_settled 35 = .ok (.ineg, 1) := by decide +kernel
theorem d_Model_settled_36 : decode b_Model_settled 36 = .ok (.invokevirtual 59, 3) := by decide +kernel
theorem d_Model_settled_39 : decode b_Model_settled 39 = .ok (.ifCond .ne 22, 3) := by decide +kernel
theorem d_Model_settled_42 : decode b_Model_settled 42 = .ok (.aload_n 0, 1) := by decide +kernel
theorem d_Model_settled_43 : decode b_Model_settled 43 = .ok (.iconst 0, 1) := by decide +kernel
theorem d_Model_settled_44 : decode b_Model_settled 44 = .ok (.iload_n 2, 1) := by decide +kernel
theorem d_Model_settled_45 : decode b_Model_settled 45 = .ok (.invokevirtual 62, 3) := by decide +kernel
theorem d_Model_settled_48 : decode b_Model_settled 48 = .ok (.aload_n 0, 1) := by decide +kernel
theorem d_Model_settled_49 : decode b_Model_settled 49 = .ok (.getfield 22, 3) := by decide +kernel
theorem d_Model_settled_52 : decode b_Model_settled 52 = .ok (.iload_n 2, 1) := by decide +kernel
theorem d_Model_settled_53 : decode b_Model_settled 53 = .ok (.dup2, 1) := by decide +kernel
theorem d_Model_settled_54 : decode b_Model_settled 54 = .ok (.iaload, 1) := by decide +kernel
theorem d_Model_settled_55 : decode b_Model_settled 55 = .ok (.iconst 1, 1) := by decide +kernel
theorem d_Model_settled_56 : decode b_Model_settled 56 = .ok (.isub, 1) := by decide +kernel
theorem d_Model_settled_57 : decode b_Model_settled 57 = .ok (.iastore, 1) := by decide +kernel
theorem d_Model_settled_58 : decode b_Model_settled 58 = .ok (.goto (-35), 3) := by decide +kernel
theorem d_Model_settled_61 : decode b_Model_settled 61 = .ok (.iload_n 1, 1) := by decide +kernel
theorem d_Model_settled_62 : decode b_Model_settled 62 = .ok (.ifCond .ne 23, 3) := by decide +kernel
theorem d_Model_settled_65 : decode b_Model_settled 65 = .ok (.aload_n 0, 1) := by decide +kernel
theorem d_Model_settled_66 : decode b_Model_settled 66 = .ok (.getfield 22, 3) := by decide +kernel
theorem d_Model_settled_69 : decode b_Model_settled 69 = .ok (.iload_n 2, 1) := by decide +kernel
theorem d_Model_settled_70 : decode b_Model_settled 70 = .ok (.iaload, 1) := by decide +kernel
theorem d_Model_settled_71 : decode b_Model_settled 71 = .ok (.iload_n 2, 1) := by decide +kernel
theorem d_Model_settled_72 : decode b_Model_settled 72 = .ok (.bipush 8, 2) := by decide +kernel
theorem d_Model_settled_74 : decode b_Model_settled 74 = .ok (.if_icmp .ne 7, 3) := by decide +kernel
theorem d_Model_settled_77 : decode b_Model_settled 77 = .ok (.iconst 0, 1) := by decide +kernel
theorem d_Model_settled_78 : decode b_Model_settled 78 = .ok (.goto 4, 3) := by decide +kernel
theorem d_Model_settled_81 : decode b_Model_settled 81 = .ok (.iconst 3, 1) := by decide +kernel
theorem d_Model_settled_82 : decode b_Model_settled 82 = .ok (.if_icmp .le 7, 3) := by decide +kernel
theorem d_Model_settled_85 : decode b_Model_settled 85 = .ok (.iconst 1, 1) := by decide +kernel
theorem d_Model_settled_86 : decode b_Model_settled 86 = .ok (.goto 4, 3) := by decide +kernel
theorem d_Model_settled_89 : decode b_Model_settled 89 = .ok (.iconst 0, 1) := by decide +kernel
theorem d_Model_settled_90 : decode b_Model_settled 90 = .ok (.istore_n 1, 1) := by decide +kernel
theorem d_Model_settled_91 : decode b_Model_settled 91 = .ok (.iinc 2 1, 3) := by decide +kernel
theorem d_Model_settled_94 : decode b_Model_settled 94 = .ok (.goto (-77), 3) := by decide +kernel
theorem d_Model_settled_97 : decode b_Model_settled 97 = .ok (.iload_n 1, 1) := by decide +kernel
theorem d_Model_settled_98 : decode b_Model_settled 98 = .ok (.ifCond .ne 13, 3) := by decide +kernel
theorem d_Model_settled_101 : decode b_Model_settled 101 = .ok (.aload_n 0, 1) := by decide +kernel
theorem d_Model_settled_102 : decode b_Model_settled 102 = .ok (.iconst 0, 1) := by decide +kernel
theorem d_Model_settled_103 : decode b_Model_settled 103 = .ok (.invokevirtual 53, 3) := by decide +kernel
theorem d_Model_settled_106 : decode b_Model_settled 106 = .ok (.bipush 31, 2) := by decide +kernel
theorem d_Model_settled_108 : decode b_Model_settled 108 = .ok (.if_icmp .le 7, 3) := by decide +kernel
theorem d_Model_settled_111 : decode b_Model_settled 111 = .ok (.iconst 1, 1) := by decide +kernel
theorem d_Model_settled_112 : decode b_Model_settled 112 = .ok (.goto 4, 3) := by decide +kernel
theorem d_Model_settled_115 : decode b_Model_settled 115 = .ok (.iconst 0, 1) := by decide +kernel
theorem d_Model_settled_116 : decode b_Model_settled 116 = .ok (.ireturn, 1) := by decide +kernel
theorem d_Model_top_0 : decode b_Model_top 0 = .ok (.bipush 79, 2) := by decide +kernel
theorem d_Model_top_2 : decode b_Model_top 2 = .ok (.istore_n 2, 1) := by decide +kernel
theorem d_Model_top_3 : decode b_Model_top 3 = .ok (.iload_n 2, 1) := by decide +kernel
theorem d_Model_top_4 : decode b_Model_top 4 = .ok (.ifCond .lt 20, 3) := by decide +kernel
theorem d_Model_top_7 : decode b_Model_top 7 = .ok (.aload_n 0, 1) := by decide +kernel
theorem d_Model_top_8 : decode b_Model_top 8 = .ok (.getfield 19, 3) := by decide +kernel
theorem d_Model_top_11 : decode b_Model_top 11 = .ok (.iload_n 1, 1) := by decide +kernel
theorem d_Model_top_12 : decode b_Model_top 12 = .ok (.iload_n 2, 1) := by decide +kernel
theorem d_Model_top_13 : decode b_Model_top 13 = .ok (.iadd, 1) := by decide +kernel
theorem d_Model_top_14 : decode b_Model_top 14 = .ok (.iaload, 1) := by decide +kernel
theorem d_Model_top_15 : decode b_Model_top 15 = .ok (.ifCond .ne 9, 3) := by decide +kernel
theorem d_Model_top_18 : decode b_Model_top 18 = .ok (.iinc 2 (-1), 3) := by decide +kernel
theorem d_Model_top_21 : decode b_Model_top 21 = .ok (.goto (-18), 3) := by decide +kernel
theorem d_Model_top_24 : decode b_Model_top 24 = .ok (.iload_n 2, 1) := by decide +kernel
theorem d_Model_top_25 : decode b_Model_top 25 = .ok (.ireturn, 1) := by decide +kernel
theorem d_Model_at_0 : decode b_Model_at 0 = .ok (.iload_n 2, 1) := by decide +kernel
theorem d_Model_at_1 : decode b_Model_at 1 = .ok (.invokestatic 45, 3) := by decide +kernel
theorem d_Model_at_4 : decode b_Model_at 4 = .ok (.istore_n 3, 1) := by decide +kernel
theorem d_Model_at_5 : decode b_Model_at 5 = .ok (.iconst 0, 1) := by decide +kernel
theorem d_Model_at_6 : decode b_Model_at 6 = .ok (.istore 4, 2) := by decide +kernel
theorem d_Model_at_8 : decode b_Model_at 8 = .ok (.bipush 79, 2) := by decide +kernel
theorem d_Model_at_10 : decode b_Model_at 10 = .ok (.istore 5, 2) := by decide +kernel
theorem d_Model_at_12 : decode b_Model_at 12 = .ok (.iload 5, 2) := by decide +kernel
theorem d_Model_at_14 : decode b_Model_at 14 = .ok (.ifCond .lt 29, 3) := by decide +kernel
theorem d_Model_at_17 : decode b_Model_at 17 = .ok (.iload 4, 2) := by decide +kernel
theorem d_Model_at_19 : decode b_Model_at 19 = .ok (.iload_n 3, 1) := by decide +kernel
theorem d_Model_at_20 : decode b_Model_at 20 = .ok (.imul, 1) := by decide +kernel
theorem d_Model_at_21 : decode b_Model_at 21 = .ok (.aload_n 0, 1) := by decide +kernel
theorem d_Model_at_22 : decode b_Model_at 22 = .ok (.getfield 19, 3) := by decide +kernel
theorem d_Model_at_25 : decode b_Model_at 25 = .ok (.iload_n 1, 1) := by decide +kernel
theorem d_Model_at_26 : decode b_Model_at 26 = .ok (.iload 5, 2) := by decide +kernel
theorem d_Model_at_28 : decode b_Model_at 28 = .ok (.iadd, 1) := by decide +kernel
theorem d_Model_at_29 : decode b_Model_at 29 = .ok (.iaload, 1) := by decide +kernel
theorem d_Model_at_30 : decode b_Model_at 30 = .ok (.iadd, 1) := by decide +kernel
theorem d_Model_at_31 : decode b_Model_at 31 = .ok (.sipush 10007, 3) := by decide +kernel
theorem d_Model_at_34 : decode b_Model_at 34 = .ok (.irem, 1) := by decide +kernel
theorem d_Model_at_35 : decode b_Model_at 35 = .ok (.istore 4, 2) := by decide +kernel
theorem d_Model_at_37 : decode b_Model_at 37 = .ok (.iinc 5 (-1), 3) := by decide +kernel
theorem d_Model_at_40 : decode b_Model_at 40 = .ok (.goto (-28), 3) := by decide +kernel
theorem d_Model_at_43 : decode b_Model_at 43 = .ok (.iload 4, 2) := by decide +kernel
theorem d_Model_at_45 : decode b_Model_at 45 = .ok (.ireturn, 1) := by decide +kernel
theorem d_Model_mod_0 : decode b_Model_mod 0 = .ok (.iload_n 0, 1) := by decide +kernel
theorem d_Model_mod_1 : decode b_Model_mod 1 = .ok (.sipush 10007, 3) := by decide +kernel
theorem d_Model_mod_4 : decode b_Model_mod 4 = .ok (.irem, 1) := by decide +kernel
theorem d_Model_mod_5 : decode b_Model_mod 5 = .ok (.istore_n 1, 1) := by decide +kernel
theorem d_Model_mod_6 : decode b_Model_mod 6 = .ok (.iload_n 1, 1) := by decide +kernel
theorem d_Model_mod_7 : decode b_Model_mod 7 = .ok (.ifCond .ge 11, 3) := by decide +kernel
theorem d_Model_mod_10 : decode b_Model_mod 10 = .ok (.iload_n 1, 1) := by decide +kernel
theorem d_Model_mod_11 : decode b_Model_mod 11 = .ok (.sipush 10007, 3) := by decide +kernel
theorem d_Model_mod_14 : decode b_Model_mod 14 = .ok (.iadd, 1) := by decide +kernel
theorem d_Model_mod_15 : decode b_Model_mod 15 = .ok (.goto 4, 3) := by decide +kernel
theorem d_Model_mod_18 : decode b_Model_mod 18 = .ok (.iload_n 1, 1) := by decide +kernel
theorem d_Model_mod_19 : decode b_Model_mod 19 = .ok (.ireturn, 1) := by decide +kernel
theorem d_Model_divide_0 : decode b_Model_divide 0 = .ok (.iload_n 2, 1) := by decide +kernel
theorem d_Model_divide_1 : decode b_Model_divide 1 = .ok (.ineg, 1) := by decide +kernel
theorem d_Model_divide_2 : decode b_Model_divide 2 = .ok (.invokestatic 45, 3) := by decide +kernel
theorem d_Model_divide_5 : decode b_Model_divide 5 = .ok (.istore_n 3, 1) := by decide +kernel
theorem d_Model_divide_6 : decode b_Model_divide 6 = .ok (.iconst 0, 1) := by decide +kernel
theorem d_Model_divide_7 : decode b_Model_divide 7 = .ok (.istore 4, 2) := by decide +kernel
theorem d_Model_divide_9 : decode b_Model_divide 9 = .ok (.bipush 79, 2) := by decide +kernel
theorem d_Model_divide_11 : decode b_Model_divide 11 = .ok (.istore 5, 2) := by decide +kernel
theorem d_Model_divide_13 : decode b_Model_divide 13 = .ok (.iload 5, 2) := by decide +kernel
theorem d_Model_divide_15 : decode b_Model_divide 15 = .ok (.ifCond .lt 44, 3) := by decide +kernel
theorem d_Model_divide_18 : decode b_Model_divide 18 = .ok (.aload_n 0, 1) := by decide +kernel
theorem d_Model_divide_19 : decode b_Model_divide 19 = .ok (.getfield 19, 3) := by decide +kernel
theorem d_Model_divide_22 : decode b_Model_divide 22 = .ok (.iload_n 1, 1) := by decide +kernel
theorem d_Model_divide_23 : decode b_Model_divide 23 = .ok (.iload 5, 2) := by decide +kernel
theorem d_Model_divide_25 : decode b_Model_divide 25 = .ok (.iadd, 1) := by decide +kernel
theorem d_Model_divide_26 : decode b_Model_divide 26 = .ok (.iaload, 1) := by decide +kernel
theorem d_Model_divide_27 : decode b_Model_divide 27 = .ok (.istore 6, 2) := by decide +kernel
theorem d_Model_divide_29 : decode b_Model_divide 29 = .ok (.aload_n 0, 1) := by decide +kernel
theorem d_Model_divide_30 : decode b_Model_divide 30 = .ok (.getfield 19, 3) := by decide +kernel
theorem d_Model_divide_33 : decode b_Model_divide 33 = .ok (.iload_n 1, 1) := by decide +kernel
theorem d_Model_divide_34 : decode b_Model_divide 34 = .ok (.iload 5, 2) := by decide +kernel
theorem d_Model_divide_36 : decode b_Model_divide 36 = .ok (.iadd, 1) := by decide +kernel
theorem d_Model_divide_37 : decode b_Model_divide 37 = .ok (.iload 4, 2) := by decide +kernel
theorem d_Model_divide_39 : decode b_Model_divide 39 = .ok (.iastore, 1) := by decide +kernel
theorem d_Model_divide_40 : decode b_Model_divide 40 = .ok (.iload 6, 2) := by decide +kernel
theorem d_Model_divide_42 : decode b_Model_divide 42 = .ok (.iload_n 3, 1) := by decide +kernel
theorem d_Model_divide_43 : decode b_Model_divide 43 = .ok (.iload 4, 2) := by decide +kernel
theorem d_Model_divide_45 : decode b_Model_divide 45 = .ok (.imul, 1) := by decide +kernel
theorem d_Model_divide_46 : decode b_Model_divide 46 = .ok (.iadd, 1) := by decide +kernel
theorem d_Model_divide_47 : decode b_Model_divide 47 = .ok (.sipush 10007, 3) := by decide +kernel
theorem d_Model_divide_50 : decode b_Model_divide 50 = .ok (.irem, 1) := by decide +kernel
theorem d_Model_divide_51 : decode b_Model_divide 51 = .ok (.istore 4, 2) := by decide +kernel
theorem d_Model_divide_53 : decode b_Model_divide 53 = .ok (.iinc 5 (-1), 3) := by decide +kernel
theorem d_Model_divide_56 : decode b_Model_divide 56 = .ok (.goto (-43), 3) := by decide +kernel
theorem d_Model_divide_59 : decode b_Model_divide 59 = .ok (.return_, 1) := by decide +kernel
theorem d_Model_put_0 : decode b_Model_put 0 = .ok (.iconst 0, 1) := by decide +kernel
theorem d_Model_put_1 : decode b_Model_put 1 = .ok (.istore_n 2, 1) := by decide +kernel
theorem d_Model_put_2 : decode b_Model_put 2 = .ok (.iload_n 2, 1) := by decide +kernel
theorem d_Model_put_3 : decode b_Model_put 3 = .ok (.bipush 32, 2) := by decide +kernel
theorem d_Model_put_5 : decode b_Model_put 5 = .ok (.if_icmp .ge 28, 3) := by decide +kernel
theorem d_Model_put_8 : decode b_Model_put 8 = .ok (.aload_n 0, 1) := by decide +kernel
theorem d_Model_put_9 : decode b_Model_put 9 = .ok (.getfield 7, 3) := by decide +kernel
theorem d_Model_put_12 : decode b_Model_put 12 = .ok (.bipush 32, 2) := by decide +kernel
theorem d_Model_put_14 : decode b_Model_put 14 = .ok (.iload_n 1, 1) := by decide +kernel
theorem d_Model_put_15 : decode b_Model_put 15 = .ok (.imul, 1) := by decide +kernel
theorem d_Model_put_16 : decode b_Model_put 16 = .ok (.iload_n 2, 1) := by decide +kernel
theorem d_Model_put_17 : decode b_Model_put 17 = .ok (.iadd, 1) := by decide +kernel
theorem d_Model_put_18 : decode b_Model_put 18 = .ok (.aload_n 0, 1) := by decide +kernel
theorem d_Model_put_19 : decode b_Model_put 19 = .ok (.getfield 19, 3) := by decide +kernel
theorem d_Model_put_22 : decode b_Model_put 22 = .ok (.iconst 0, 1) := by decide +kernel
theorem d_Model_put_23 : decode b_Model_put 23 = .ok (.iload_n 2, 1) := by decide +kernel
theorem d_Model_put_24 : decode b_Model_put 24 = .ok (.iadd, 1) := by decide +kernel
theorem d_Model_put_25 : decode b_Model_put 25 = .ok (.iaload, 1) := by decide +kernel
theorem d_Model_put_26 : decode b_Model_put 26 = .ok (.iastore, 1) := by decide +kernel
theorem d_Model_put_27 : decode b_Model_put 27 = .ok (.iinc 2 1, 3) := by decide +kernel
theorem d_Model_put_30 : decode b_Model_put 30 = .ok (.goto (-28), 3) := by decide +kernel
theorem d_Model_put_33 : decode b_Model_put 33 = .ok (.iconst 0, 1) := by decide +kernel
theorem d_Model_put_34 : decode b_Model_put 34 = .ok (.istore_n 2, 1) := by decide +kernel
theorem d_Model_put_35 : decode b_Model_put 35 = .ok (.iload_n 2, 1) := by decide +kernel
theorem d_Model_put_36 : decode b_Model_put 36 = .ok (.bipush 8, 2) := by decide +kernel
theorem d_Model_put_38 : decode b_Model_put 38 = .ok (.if_icmp .ge 26, 3) := by decide +kernel
theorem d_Model_put_41 : decode b_Model_put 41 = .ok (.aload_n 0, 1) := by decide +kernel
theorem d_Model_put_42 : decode b_Model_put 42 = .ok (.getfield 13, 3) := by decide +kernel
theorem d_Model_put_45 : decode b_Model_put 45 = .ok (.bipush 8, 2) := by decide +kernel
theorem d_Model_put_47 : decode b_Model_put 47 = .ok (.iload_n 1, 1) := by decide +kernel
theorem d_Model_put_48 : decode b_Model_put 48 = .ok (.imul, 1) := by decide +kernel
theorem d_Model_put_49 : decode b_Model_put 49 = .ok (.iload_n 2, 1) := by decide +kernel
theorem d_Model_put_50 : decode b_Model_put 50 = .ok (.iadd, 1) := by decide +kernel
theorem d_Model_put_51 : decode b_Model_put 51 = .ok (.aload_n 0, 1) := by decide +kernel
theorem d_Model_put_52 : decode b_Model_put 52 = .ok (.getfield 22, 3) := by decide +kernel
theorem d_Model_put_55 : decode b_Model_put 55 = .ok (.iload_n 2, 1) := by decide +kernel
theorem d_Model_put_56 : decode b_Model_put 56 = .ok (.iaload, 1) := by decide +kernel
theorem d_Model_put_57 : decode b_Model_put 57 = .ok (.iastore, 1) := by decide +kernel
theorem d_Model_put_58 : decode b_Model_put 58 = .ok (.iinc 2 1, 3) := by decide +kernel
theorem d_Model_put_61 : decode b_Model_put 61 = .ok (.goto (-26), 3) := by decide +kernel
theorem d_Model_put_64 : decode b_Model_put 64 = .ok (.aload_n 0, 1) := by decide +kernel
theorem d_Model_put_65 : decode b_Model_put 65 = .ok (.getfield 16, 3) := by decide +kernel
theorem d_Model_put_68 : decode b_Model_put 68 = .ok (.iload_n 1, 1) := by decide +kernel
theorem d_Model_put_69 : decode b_Model_put 69 = .ok (.aload_n 0, 1) := by decide +kernel
theorem d_Model_put_70 : decode b_Model_put 70 = .ok (.getfield 49, 3) := by decide +kernel
theorem d_Model_put_73 : decode b_Model_put 73 = .ok (.iastore, 1) := by decide +kernel
theorem d_Model_put_74 : decode b_Model_put 74 = .ok (.return_, 1) := by decide +kernel
theorem d_Model_power_0 : decode b_Model_power 0 = .ok (.iload_n 1, 1) := by decide +kernel
theorem d_Model_power_1 : decode b_Model_power 1 = .ok (.invokestatic 77, 3) := by decide +kernel
theorem d_Model_power_4 : decode b_Model_power 4 = .ok (.ifCond .eq 14, 3) := by decide +kernel
theorem d_Model_power_7 : decode b_Model_power 7 = .ok (.iload_n 2, 1) := by decide +kernel
theorem d_Model_power_8 : decode b_Model_power 8 = .ok (.invokestatic 81, 3) := by decide +kernel
theorem d_Model_power_11 : decode b_Model_power 11 = .ok (.ifCond .eq 7, 3) := by decide +kernel
theorem d_Model_power_14 : decode b_Model_power 14 = .ok (.iload_n 2, 1) := by decide +kernel
theorem d_Model_power_15 : decode b_Model_power 15 = .ok (.ifCond .ne 6, 3) := by decide +kernel
theorem d_Model_power_18 : decode b_Model_power 18 = .ok (.bipush (-9), 2) := by decide +kernel
theorem d_Model_power_20 : decode b_Model_power 20 = .ok (.ireturn, 1) := by decide +kernel
theorem d_Model_power_21 : decode b_Model_power 21 = .ok (.aload_n 0, 1) := by decide +kernel
theorem d_Model_power_22 : decode b_Model_power 22 = .ok (.iload_n 2, 1) := by decide +kernel
theorem d_Model_power_23 : decode b_Model_power 23 = .ok (.invokevirtual 56, 3) := by decide +kernel
theorem d_Model_power_26 : decode b_Model_power 26 = .ok (.aload_n 0, 1) := by decide +kernel
theorem d_Model_power_27 : decode b_Model_power 27 = .ok (.getfield 19, 3) := by decide +kernel
theorem d_Model_power_30 : decode b_Model_power 30 = .ok (.iconst 0, 1) := by decide +kernel
theorem d_Model_power_31 : decode b_Model_power 31 = .ok (.iconst 1, 1) := by decide +kernel
theorem d_Model_power_32 : decode b_Model_power 32 = .ok (.iastore, 1) := by decide +kernel
theorem d_Model_power_33 : decode b_Model_power 33 = .ok (.aload_n 0, 1) := by decide +kernel
theorem d_Model_power_34 : decode b_Model_power 34 = .ok (.iload_n 1, 1) := by decide +kernel
theorem d_Model_power_35 : decode b_Model_power 35 = .ok (.invokevirtual 84, 3) := by decide +kernel
theorem d_Model_power_38 : decode b_Model_power 38 = .ok (.ireturn, 1) := by decide +kernel
theorem d_Model_pole_0 : decode b_Model_pole 0 = .ok (.iload_n 1, 1) := by decide +kernel
theorem d_Model_pole_1 : decode b_Model_pole 1 = .ok (.invokestatic 77, 3) := by decide +kernel
theorem d_Model_pole_4 : decode b_Model_pole 4 = .ok (.ifCond .eq 20, 3) := by decide +kernel
theorem d_Model_pole_7 : decode b_Model_pole 7 = .ok (.iload_n 2, 1) := by decide +kernel
theorem d_Model_pole_8 : decode b_Model_pole 8 = .ok (.invokestatic 77, 3) := by decide +kernel
theorem d_Model_pole_11 : decode b_Model_pole 11 = .ok (.ifCond .eq 13, 3) := by decide +kernel
theorem d_Model_pole_14 : decode b_Model_pole 14 = .ok (.iload_n 3, 1) := by decide +kernel
theorem d_Model_pole_15 : decode b_Model_pole 15 = .ok (.iconst 1, 1) := by decide +kernel
theorem d_Model_pole_16 : decode b_Model_pole 16 = .ok (.if_icmp .lt 8, 3) := by decide +kernel
theorem d_Model_pole_19 : decode b_Model_pole 19 = .ok (.iload_n 3, 1) := by decide +kernel
theorem d_Model_pole_20 : decode b_Model_pole 20 = .ok (.iconst 3, 1) := by decide +kernel
theorem d_Model_pole_21 : decode b_Model_pole 21 = .ok (.if_icmp .le 6, 3) := by decide +kernel
theorem d_Model_pole_24 : decode b_Model_pole 24 = .ok (.bipush (-9), 2) := by decide +kernel
theorem d_Model_pole_26 : decode b_Model_pole 26 = .ok (.ireturn, 1) := by decide +kernel
theorem d_Model_pole_27 : decode b_Model_pole 27 = .ok (.aload_n 0, 1) := by decide +kernel
theorem d_Model_pole_28 : decode b_Model_pole 28 = .ok (.iconst 1, 1) := by decide +kernel
theorem d_Model_pole_29 : decode b_Model_pole 29 = .ok (.invokevirtual 56, 3) := by decide +kernel
theorem d_Model_pole_32 : decode b_Model_pole 32 = .ok (.aload_n 0, 1) := by decide +kernel
theorem d_Model_pole_33 : decode b_Model_pole 33 = .ok (.getfield 19, 3) := by decide +kernel
theorem d_Model_pole_36 : decode b_Model_pole 36 = .ok (.iconst 0, 1) := by decide +kernel
theorem d_Model_pole_37 : decode b_Model_pole 37 = .ok (.iconst 1, 1) := by decide +kernel
theorem d_Model_pole_38 : decode b_Model_pole 38 = .ok (.iastore, 1) := by decide +kernel
theorem d_Model_pole_39 : decode b_Model_pole 39 = .ok (.aload_n 0, 1) := by decide +kernel
theorem d_Model_pole_40 : decode b_Model_pole 40 = .ok (.getfield 22, 3) := by decide +kernel
theorem d_Model_pole_43 : decode b_Model_pole 43 = .ok (.iload_n 2, 1) := by decide +kernel
theorem d_Model_pole_44 : decode b_Model_pole 44 = .ok (.iload_n 3, 1) := by decide +kernel
theorem d_Model_pole_45 : decode b_Model_pole 45 = .ok (.iastore, 1) := by decide +kernel
theorem d_Model_pole_46 : decode b_Model_pole 46 = .ok (.aload_n 0, 1) := by decide +kernel
theorem d_Model_pole_47 : decode b_Model_pole 47 = .ok (.iload_n 1, 1) := by decide +kernel
theorem d_Model_pole_48 : decode b_Model_pole 48 = .ok (.invokevirtual 84, 3) := by decide +kernel
theorem d_Model_pole_51 : decode b_Model_pole 51 = .ok (.ireturn, 1) := by decide +kernel
theorem d_Model_add_0 : decode b_Model_add 0 = .ok (.iload_n 1, 1) := by decide +kernel
theorem d_Model_add_1 : decode b_Model_add 1 = .ok (.invokestatic 77, 3) := by decide +kernel
theorem d_Model_add_4 : decode b_Model_add 4 = .ok (.ifCond .eq 17, 3) := by decide +kernel
theorem d_Model_add_7 : decode b_Model_add 7 = .ok (.iload_n 2, 1) := by decide +kernel
theorem d_Model_add_8 : decode b_Model_add 8 = .ok (.invokestatic 77, 3) := by decide +kernel
theorem d_Model_add_11 : decode b_Model_add 11 = .ok (.ifCond .eq 10, 3) := by decide +kernel
theorem d_Model_add_14 : decode b_Model_add 14 = .ok (.iload_n 3, 1) := by decide +kernel
theorem d_Model_add_15 : decode b_Model_add 15 = .ok (.invokestatic 77, 3) := by decide +kernel
theorem d_Model_add_18 : decode b_Model_add 18 = .ok (.ifCond .ne 6, 3) := by decide +kernel
theorem d_Model_add_21 : decode b_Model_add 21 = .ok (.bipush (-9), 2) := by decide +kernel
theorem d_Model_add_23 : decode b_Model_add 23 = .ok (.ireturn, 1) := by decide +kernel
theorem d_Model_add_24 : decode b_Model_add 24 = .ok (.aload_n 0, 1) := by decide +kernel
theorem d_Model_add_25 : decode b_Model_add 25 = .ok (.iload_n 2, 1) := by decide +kernel
theorem d_Model_add_26 : decode b_Model_add 26 = .ok (.invokevirtual 87, 3) := by decide +kernel
theorem d_Model_add_29 : decode b_Model_add 29 = .ok (.ifCond .ne 29, 3) := by decide +kernel
theorem d_Model_add_32 : decode b_Model_add 32 = .ok (.aload_n 0, 1) := by decide +kernel
theorem d_Model_add_33 : decode b_Model_add 33 = .ok (.iload_n 3, 1) := by decide +kernel
theorem d_Model_add_34 : decode b_Model_add 34 = .ok (.invokevirtual 87, 3) := by decide +kernel
theorem d_Model_add_37 : decode b_Model_add 37 = .ok (.ifCond .ne 21, 3) := by decide +kernel
theorem d_Model_add_40 : decode b_Model_add 40 = .ok (.aload_n 0, 1) := by decide +kernel
theorem d_Model_add_41 : decode b_Model_add 41 = .ok (.getfield 16, 3) := by decide +kernel
theorem d_Model_add_44 : decode b_Model_add 44 = .ok (.iload_n 2, 1) := by decide +kernel
theorem d_Model_add_45 : decode b_Model_add 45 = .ok (.iaload, 1) := by decide +kernel
theorem d_Model_add_46 : decode b_Model_add 46 = .ok (.aload_n 0, 1) := by decide +kernel
theorem d_Model_add_47 : decode b_Model_add 47 = .ok (.getfield 16, 3) := by decide +kernel
theorem d_Model_add_50 : decode b_Model_add 50 = .ok (.iload_n 3, 1) := by decide +kernel
theorem d_Model_add_51 : decode b_Model_add 51 = .ok (.iaload, 1) := by decide +kernel
theorem d_Model_add_52 : decode b_Model_add 52 = .ok (.if_icmp .eq 6, 3) := by decide +kernel
theorem d_Model_add_55 : decode b_Model_add 55 = .ok (.bipush (-8), 2) := by decide +kernel
theorem d_Model_add_57 : decode b_Model_add 57 = .ok (.ireturn, 1) := by decide +kernel
theorem d_Model_add_58 : decode b_Model_add 58 = .ok (.aload_n 0, 1) := by decide +kernel
theorem d_Model_add_59 : decode b_Model_add 59 = .ok (.aload_n 0, 1) := by decide +kernel
theorem d_Model_add_60 : decode b_Model_add 60 = .ok (.iload_n 2, 1) := by decide +kernel
theorem d_Model_add_61 : decode b_Model_add 61 = .ok (.invokevirtual 87, 3) := by decide +kernel
theorem d_Model_add_64 : decode b_Model_add 64 = .ok (.ifCond .eq 12, 3) := by decide +kernel
theorem d_Model_add_67 : decode b_Model_add 67 = .ok (.aload_n 0, 1) := by decide +kernel
theorem d_Model_add_68 : decode b_Model_add 68 = .ok (.getfield 16, 3) := by decide +kernel
theorem d_Model_add_71 : decode b_Model_add 71 = .ok (.iload_n 3, 1) := by decide +kernel
theorem d_Model_add_72 : decode b_Model_add 72 = .ok (.iaload, 1) := by decide +kernel
theorem d_Model_add_73 : decode b_Model_add 73 = .ok (.goto 9, 3) := by decide +kernel
theorem d_Model_add_76 : decode b_Model_add 76 = .ok (.aload_n 0, 1) := by decide +kernel
theorem d_Model_add_77 : decode b_Model_add 77 = .ok (.getfield 16, 3) := by decide +kernel
theorem d_Model_add_80 : decode b_Model_add 80 = .ok (.iload_n 2, 1) := by decide +kernel
theorem d_Model_add_81 : decode b_Model_add 81 = .ok (.iaload, 1) := by decide +kernel
theorem d_Model_add_82 : decode b_Model_add 82 = .ok (.invokevirtual 56, 3) := by decide +kernel
theorem d_Model_add_85 : decode b_Model_add 85 = .ok (.aload_n 0, 1) := by decide +kernel
theorem d_Model_add_86 : decode b_Model_add 86 = .ok (.iconst 0, 1) := by decide +kernel
theorem d_Model_add_87 : decode b_Model_add 87 = .ok (.iload_n 2, 1) := by decide +kernel
theorem d_Model_add_88 : decode b_Model_add 88 = .ok (.invokevirtual 90, 3) := by decide +kernel
theorem d_Model_add_91 : decode b_Model_add 91 = .ok (.aload_n 0, 1) := by decide +kernel
theorem d_Model_add_92 : decode b_Model_add 92 = .ok (.bipush 80, 2) := by decide +kernel
theorem d_Model_add_94 : decode b_Model_add 94 = .ok (.iload_n 3, 1) := by decide +kernel
theorem d_Model_add_95 : decode b_Model_add 95 = .ok (.invokevirtual 90, 3) := by decide +kernel
theorem d_Model_add_98 : decode b_Model_add 98 = .ok (.iconst 0, 1) := by decide +kernel
theorem d_Model_add_99 : decode b_Model_add 99 = .ok (.istore 4, 2) := by decide +kernel
theorem d_Model_add_101 : decode b_Model_add 101 = .ok (.iload 4, 2) := by decide +kernel
theorem d_Model_add_103 : decode b_Model_add 103 = .ok (.bipush 8, 2) := by decide +kernel
theorem d_Model_add_105 : decode b_Model_add 105 = .ok (.if_icmp .ge 93, 3) := by decide +kernel
theorem d_Model_add_108 : decode b_Model_add 108 = .ok (.aload_n 0, 1) := by decide +kernel
theorem d_Model_add_109 : decode b_Model_add 109 = .ok (.getfield 13, 3) := by decide +kernel
theorem d_Model_add_112 : decode b_Model_add 112 = .ok (.bipush 8, 2) := by decide +kernel
theorem d_Model_add_114 : decode b_Model_add 114 = .ok (.iload_n 2, 1) := by decide +kernel
theorem d_Model_add_115 : decode b_Model_add 115 = .ok (.imul, 1) := by decide +kernel
theorem d_Model_add_116 : decode b_Model_add 116 = .ok (.iload 4, 2) := by decide +kernel
theorem d_Model_add_118 : decode b_Model_add 118 = .ok (.iadd, 1) := by decide +kernel
theorem d_Model_add_119 : decode b_Model_add 119 = .ok (.iaload, 1) := by decide +kernel
theorem d_Model_add_120 : decode b_Model_add 120 = .ok (.istore 5, 2) := by decide +kernel
theorem d_Model_add_122 : decode b_Model_add 122 = .ok (.aload_n 0, 1) := by decide +kernel
theorem d_Model_add_123 : decode b_Model_add 123 = .ok (.getfield 13, 3) := by decide +kernel
theorem d_Model_add_126 : decode b_Model_add 126 = .ok (.bipush 8, 2) := by decide +kernel
theorem d_Model_add_128 : decode b_Model_add 128 = .ok (.iload_n 3, 1) := by decide +kernel
theorem d_Model_add_129 : decode b_Model_add 129 = .ok (.imul, 1) := by decide +kernel
theorem d_Model_add_130 : decode b_Model_add 130 = .ok (.iload 4, 2) := by decide +kernel
theorem d_Model_add_132 : decode b_Model_add 132 = .ok (.iadd, 1) := by decide +kernel
theorem d_Model_add_133 : decode b_Model_add 133 = .ok (.iaload, 1) := by decide +kernel
theorem d_Model_add_134 : decode b_Model_add 134 = .ok (.istore 6, 2) := by decide +kernel
theorem d_Model_add_136 : decode b_Model_add 136 = .ok (.aload_n 0, 1) := by decide +kernel
theorem d_Model_add_137 : decode b_Model_add 137 = .ok (.getfield 22, 3) := by decide +kernel
theorem d_Model_add_140 : decode b_Model_add 140 = .ok (.iload 4, 2) := by decide +kernel
theorem d_Model_add_142 : decode b_Model_add 142 = .ok (.iload 5, 2) := by decide +kernel
theorem d_Model_add_144 : decode b_Model_add 144 = .ok (.iload 6, 2) := by decide +kernel
theorem d_Model_add_146 : decode b_Model_add 146 = .ok (.if_icmp .le 8, 3) := by decide +kernel
theorem d_Model_add_149 : decode b_Model_add 149 = .ok (.iload 5, 2) := by decide +kernel
theorem d_Model_add_151 : decode b_Model_add 151 = .ok (.goto 5, 3) := by decide +kernel
theorem d_Model_add_154 : decode b_Model_add 154 = .ok (.iload 6, 2) := by decide +kernel
theorem d_Model_add_156 : decode b_Model_add 156 = .ok (.iastore, 1) := by decide +kernel
theorem d_Model_add_157 : decode b_Model_add 157 = .ok (.aload_n 0, 1) := by decide +kernel
theorem d_Model_add_158 : decode b_Model_add 158 = .ok (.iconst 0, 1) := by decide +kernel
theorem d_Model_add_159 : decode b_Model_add 159 = .ok (.iload 4, 2) := by decide +kernel
theorem d_Model_add_161 : decode b_Model_add 161 = .ok (.aload_n 0, 1) := by decide +kernel
theorem d_Model_add_162 : decode b_Model_add 162 = .ok (.getfield 22, 3) := by decide +kernel
theorem d_Model_add_165 : decode b_Model_add 165 = .ok (.iload 4, 2) := by decide +kernel
theorem d_Model_add_167 : decode b_Model_add 167 = .ok (.iaload, 1) := by decide +kernel
theorem d_Model_add_168 : decode b_Model_add 168 = .ok (.iload 5, 2) := by decide +kernel
theorem d_Model_add_170 : decode b_Model_add 170 = .ok (.isub, 1) := by decide +kernel
theorem d_Model_add_171 : decode b_Model_add 171 = .ok (.invokevirtual 93, 3) := by decide +kernel
theorem d_Model_add_174 : decode b_Model_add 174 = .ok (.aload_n 0, 1) := by decide +kernel
theorem d_Model_add_175 : decode b_Model_add 175 = .ok (.bipush 80, 2) := by decide +kernel
theorem d_Model_add_177 : decode b_Model_add 177 = .ok (.iload 4, 2) := by decide +kernel
theorem d_Model_add_179 : decode b_Model_add 179 = .ok (.aload_n 0, 1) := by decide +kernel
theorem d_Model_add_180 : decode b_Model_add 180 = .ok (.getfield 22, 3) := by decide +kernel
theorem d_Model_add_183 : decode b_Model_add 183 = .ok (.iload 4, 2) := by decide +kernel
theorem d_Model_add_185 : decode b_Model_add 185 = .ok (.iaload, 1) := by decide +kernel
theorem d_Model_add_186 : decode b_Model_add 186 = .ok (.iload 6, 2) := by decide +kernel
theorem d_Model_add_188 : decode b_Model_add 188 = .ok (.isub, 1) := by decide +kernel
theorem d_Model_add_189 : decode b_Model_add 189 = .ok (.invokevirtual 93, 3) := by decide +kernel
theorem d_Model_add_192 : decode b_Model_add 192 = .ok (.iinc 4 1, 3) := by decide +kernel
theorem d_Model_add_195 : decode b_Model_add 195 = .ok (.goto (-94), 3) := by decide +kernel
theorem d_Model_add_198 : decode b_Model_add 198 = .ok (.aload_n 0, 1) := by decide +kernel
theorem d_Model_add_199 : decode b_Model_add 199 = .ok (.iconst 0, 1) := by decide +kernel
theorem d_Model_add_200 : decode b_Model_add 200 = .ok (.bipush 80, 2) := by decide +kernel
theorem d_Model_add_202 : decode b_Model_add 202 = .ok (.iconst 1, 1) := by decide +kernel
theorem d_Model_add_203 : decode b_Model_add 203 = .ok (.invokevirtual 97, 3) := by decide +kernel
theorem d_Model_add_206 : decode b_Model_add 206 = .ok (.aload_n 0, 1) := by decide +kernel
theorem d_Model_add_207 : decode b_Model_add 207 = .ok (.iload_n 1, 1) := by decide +kernel
theorem d_Model_add_208 : decode b_Model_add 208 = .ok (.invokevirtual 84, 3) := by decide +kernel
theorem d_Model_add_211 : decode b_Model_add 211 = .ok (.ireturn, 1) := by decide +kernel
theorem d_Model_isZero_0 : decode b_Model_isZero 0 = .ok (.iconst 1, 1) := by decide +kernel
theorem d_Model_isZero_1 : decode b_Model_isZero 1 = .ok (.istore_n 2, 1) := by decide +kernel
theorem d_Model_isZero_2 : decode b_Model_isZero 2 = .ok (.iconst 0, 1) := by decide +kernel
theorem d_Model_isZero_3 : decode b_Model_isZero 3 = .ok (.istore_n 3, 1) := by decide +kernel
theorem d_Model_isZero_4 : decode b_Model_isZero 4 = .ok (.iload_n 3, 1) := by decide +kernel
theorem d_Model_isZero_5 : decode b_Model_isZero 5 = .ok (.bipush 32, 2) := by decide +kernel
theorem d_Model_isZero_7 : decode b_Model_isZero 7 = .ok (.if_icmp .ge 33, 3) := by decide +kernel
theorem d_Model_isZero_10 : decode b_Model_isZero 10 = .ok (.iload_n 2, 1) := by decide +kernel
theorem d_Model_isZero_11 : decode b_Model_isZero 11 = .ok (.ifCond .eq 21, 3) := by decide +kernel
theorem d_Model_isZero_14 : decode b_Model_isZero 14 = .ok (.aload_n 0, 1) := by decide +kernel
theorem d_Model_isZero_15 : decode b_Model_isZero 15 = .ok (.getfield 7, 3) := by decide +kernel
theorem d_Model_isZero_18 : decode b_Model_isZero 18 = .ok (.bipush 32, 2) := by decide +kernel
theorem d_Model_isZero_20 : decode b_Model_isZero 20 = .ok (.iload_n 1, 1) := by decide +kernel
theorem d_Model_isZero_21 : decode b_Model_isZero 21 = .ok (.imul, 1) := by decide +kernel
theorem d_Model_isZero_22 : decode b_Model_isZero 22 = .ok (.iload_n 3, 1) := by decide +kernel
theorem d_Model_isZero_23 : decode b_Model_isZero 23 = .ok (.iadd, 1) := by decide +kernel
theorem d_Model_isZero_24 : decode b_Model_isZero 24 = .ok (.iaload, 1) := by decide +kernel
theorem d_Model_isZero_25 : decode b_Model_isZero 25 = .ok (.ifCond .ne 7, 3) := by decide +kernel
theorem d_Model_isZero_28 : decode b_Model_isZero 28 = .ok (.iconst 1, 1) := by decide +kernel
theorem d_Model_isZero_29 : decode b_Model_isZero 29 = .ok (.goto 4, 3) := by decide +kernel
theorem d_Model_isZero_32 : decode b_Model_isZero 32 = .ok (.iconst 0, 1) := by decide +kernel
theorem d_Model_isZero_33 : decode b_Model_isZero 33 = .ok (.istore_n 2, 1) := by decide +kernel
theorem d_Model_isZero_34 : decode b_Model_isZero 34 = .ok (.iinc 3 1, 3) := by decide +kernel
theorem d_Model_isZero_37 : decode b_Model_isZero 37 = .ok (.goto (-33), 3) := by decide +kernel
theorem d_Model_isZero_40 : decode b_Model_isZero 40 = .ok (.iload_n 2, 1) := by decide +kernel
theorem d_Model_isZero_41 : decode b_Model_isZero 41 = .ok (.ireturn, 1) := by decide +kernel
theorem d_Model_load_0 : decode b_Model_load 0 = .ok (.aload_n 0, 1) := by decide +kernel
theorem d_Model_load_1 : decode b_Model_load 1 = .ok (.iload_n 1, 1) := by decide +kernel
theorem d_Model_load_2 : decode b_Model_load 2 = .ok (.invokevirtual 41, 3) := by decide +kernel
theorem d_Model_load_5 : decode b_Model_load 5 = .ok (.iconst 0, 1) := by decide +kernel
theorem d_Model_load_6 : decode b_Model_load 6 = .ok (.istore_n 3, 1) := by decide +kernel
theorem d_Model_load_7 : decode b_Model_load 7 = .ok (.iload_n 3, 1) := by decide +kernel
theorem d_Model_load_8 : decode b_Model_load 8 = .ok (.bipush 32, 2) := by decide +kernel
theorem d_Model_load_10 : decode b_Model_load 10 = .ok (.if_icmp .ge 28, 3) := by decide +kernel
theorem d_Model_load_13 : decode b_Model_load 13 = .ok (.aload_n 0, 1) := by decide +kernel
theorem d_Model_load_14 : decode b_Model_load 14 = .ok (.getfield 19, 3) := by decide +kernel
theorem d_Model_load_17 : decode b_Model_load 17 = .ok (.iload_n 1, 1) := by decide +kernel
theorem d_Model_load_18 : decode b_Model_load 18 = .ok (.iload_n 3, 1) := by decide +kernel
theorem d_Model_load_19 : decode b_Model_load 19 = .ok (.iadd, 1) := by decide +kernel
theorem d_Model_load_20 : decode b_Model_load 20 = .ok (.aload_n 0, 1) := by decide +kernel
theorem d_Model_load_21 : decode b_Model_load 21 = .ok (.getfield 7, 3) := by decide +kernel
theorem d_Model_load_24 : decode b_Model_load 24 = .ok (.bipush 32, 2) := by decide +kernel
theorem d_Model_load_26 : decode b_Model_load 26 = .ok (.iload_n 2, 1) := by decide +kernel
theorem d_Model_load_27 : decode b_Model_load 27 = .ok (.imul, 1) := by decide +kernel
theorem d_Model_load_28 : decode b_Model_load 28 = .ok (.iload_n 3, 1) := by decide +kernel
theorem d_Model_load_29 : decode b_Model_load 29 = .ok (.iadd, 1) := by decide +kernel
theorem d_Model_load_30 : decode b_Model_load 30 = .ok (.iaload, 1) := by decide +kernel
theorem d_Model_load_31 : decode b_Model_load 31 = .ok (.iastore, 1) := by decide +kernel
theorem d_Model_load_32 : decode b_Model_load 32 = .ok (.iinc 3 1, 3) := by decide +kernel
theorem d_Model_load_35 : decode b_Model_load 35 = .ok (.goto (-28), 3) := by decide +kernel
theorem d_Model_load_38 : decode b_Model_load 38 = .ok (.return_, 1) := by decide +kernel
theorem d_Model_times_0 : decode b_Model_times 0 = .ok (.iload_n 2, 1) := by decide +kernel
theorem d_Model_times_1 : decode b_Model_times 1 = .ok (.invokestatic 45, 3) := by decide +kernel
theorem d_Model_times_4 : decode b_Model_times 4 = .ok (.istore 4, 2) := by decide +kernel
theorem d_Model_times_6 : decode b_Model_times 6 = .ok (.iconst 0, 1) := by decide +kernel
theorem d_Model_times_7 : decode b_Model_times 7 = .ok (.istore 5, 2) := by decide +kernel
theorem d_Model_times_9 : decode b_Model_times 9 = .ok (.iload 5, 2) := by decide +kernel
theorem d_Model_times_11 : decode b_Model_times 11 = .ok (.iload_n 3, 1) := by decide +kernel
theorem d_Model_times_12 : decode b_Model_times 12 = .ok (.if_icmp .ge 80, 3) := by decide +kernel
theorem d_Model_times_15 : decode b_Model_times 15 = .ok (.bipush 79, 2) := by decide +kernel
theorem d_Model_times_17 : decode b_Model_times 17 = .ok (.istore 6, 2) := by decide +kernel
theorem d_Model_times_19 : decode b_Model_times 19 = .ok (.iload 6, 2) := by decide +kernel
theorem d_Model_times_21 : decode b_Model_times 21 = .ok (.ifCond .le 46, 3) := by decide +kernel
theorem d_Model_times_24 : decode b_Model_times 24 = .ok (.aload_n 0, 1) := by decide +kernel
theorem d_Model_times_25 : decode b_Model_times 25 = .ok (.getfield 19, 3) := by decide +kernel
theorem d_Model_times_28 : decode b_Model_times 28 = .ok (.iload_n 1, 1) := by decide +kernel
theorem d_Model_times_29 : decode b_Model_times 29 = .ok (.iload 6, 2) := by decide +kernel
theorem d_Model_times_31 : decode b_Model_times 31 = .ok (.iadd, 1) := by decide +kernel
theorem d_Model_times_32 : decode b_Model_times 32 = .ok (.aload_n 0, 1) := by decide +kernel
theorem d_Model_times_33 : decode b_Model_times 33 = .ok (.getfield 19, 3) := by decide +kernel
theorem d_Model_times_36 : decode b_Model_times 36 = .ok (.iload_n 1, 1) := by decide +kernel
theorem d_Model_times_37 : decode b_Model_times 37 = .ok (.iload 6, 2) := by decide +kernel
theorem d_Model_times_39 : decode b_Model_times 39 = .ok (.iadd, 1) := by decide +kernel
theorem d_Model_times_40 : decode b_Model_times 40 = .ok (.iconst 1, 1) := by decide +kernel
theorem d_Model_times_41 : decode b_Model_times 41 = .ok (.isub, 1) := by decide +kernel
theorem d_Model_times_42 : decode b_Model_times 42 = .ok (.iaload, 1) := by decide +kernel
theorem d_Model_times_43 : decode b_Model_times 43 = .ok (.iload 4, 2) := by decide +kernel
theorem d_Model_times_45 : decode b_Model_times 45 = .ok (.aload_n 0, 1) := by decide +kernel
theorem d_Model_times_46 : decode b_Model_times 46 = .ok (.getfield 19, 3) := by decide +kernel
theorem d_Model_times_49 : decode b_Model_times 49 = .ok (.iload_n 1, 1) := by decide +kernel
theorem d_Model_times_50 : decode b_Model_times 50 = .ok (.iload 6, 2) := by decide +kernel
theorem d_Model_times_52 : decode b_Model_times 52 = .ok (.iadd, 1) := by decide +kernel
theorem d_Model_times_53 : decode b_Model_times 53 = .ok (.iaload, 1) := by decide +kernel
theorem d_Model_times_54 : decode b_Model_times 54 = .ok (.imul, 1) := by decide +kernel
theorem d_Model_times_55 : decode b_Model_times 55 = .ok (.iadd, 1) := by decide +kernel
theorem d_Model_times_56 : decode b_Model_times 56 = .ok (.sipush 10007, 3) := by decide +kernel
theorem d_Model_times_59 : decode b_Model_times 59 = .ok (.irem, 1) := by decide +kernel
theorem d_Model_times_60 : decode b_Model_times 60 = .ok (.iastore, 1) := by decide +kernel
theorem d_Model_times_61 : decode b_Model_times 61 = .ok (.iinc 6 (-1), 3) := by decide +kernel
theorem d_Model_times_64 : decode b_Model_times 64 = .ok (.goto (-45), 3) := by decide +kernel
theorem d_Model_times_67 : decode b_Model_times 67 = .ok (.aload_n 0, 1) := by decide +kernel
theorem d_Model_times_68 : decode b_Model_times 68 = .ok (.getfield 19, 3) := by decide +kernel
theorem d_Model_times_71 : decode b_Model_times 71 = .ok (.iload_n 1, 1) := by decide +kernel
theorem d_Model_times_72 : decode b_Model_times 72 = .ok (.iload 4, 2) := by decide +kernel
theorem d_Model_times_74 : decode b_Model_times 74 = .ok (.aload_n 0, 1) := by decide +kernel
theorem d_Model_times_75 : decode b_Model_times 75 = .ok (.getfield 19, 3) := by decide +kernel
theorem d_Model_times_78 : decode b_Model_times 78 = .ok (.iload_n 1, 1) := by decide +kernel
theorem d_Model_times_79 : decode b_Model_times 79 = .ok (.iaload, 1) := by decide +kernel
theorem d_Model_times_80 : decode b_Model_times 80 = .ok (.imul, 1) := by decide +kernel
theorem d_Model_times_81 : decode b_Model_times 81 = .ok (.sipush 10007, 3) := by decide +kernel
theorem d_Model_times_84 : decode b_Model_times 84 = .ok (.irem, 1) := by decide +kernel
theorem d_Model_times_85 : decode b_Model_times 85 = .ok (.iastore, 1) := by decide +kernel
theorem d_Model_times_86 : decode b_Model_times 86 = .ok (.iinc 5 1, 3) := by decide +kernel
theorem d_Model_times_89 : decode b_Model_times 89 = .ok (.goto (-80), 3) := by decide +kernel
theorem d_Model_times_92 : decode b_Model_times 92 = .ok (.return_, 1) := by decide +kernel
theorem d_Model_addRow_0 : decode b_Model_addRow 0 = .ok (.iconst 0, 1) := by decide +kernel
theorem d_Model_addRow_1 : decode b_Model_addRow 1 = .ok (.istore 4, 2) := by decide +kernel
theorem d_Model_addRow_3 : decode b_Model_addRow 3 = .ok (.iload 4, 2) := by decide +kernel
theorem d_Model_addRow_5 : decode b_Model_addRow 5 = .ok (.bipush 80, 2) := by decide +kernel
theorem d_Model_addRow_7 : decode b_Model_addRow 7 = .ok (.if_icmp .ge 43, 3) := by decide +kernel
theorem d_Model_addRow_10 : decode b_Model_addRow 10 = .ok (.aload_n 0, 1) := by decide +kernel
theorem d_Model_addRow_11 : decode b_Model_addRow 11 = .ok (.getfield 19, 3) := by decide +kernel
theorem d_Model_addRow_14 : decode b_Model_addRow 14 = .ok (.iload_n 1, 1) := by decide +kernel
theorem d_Model_addRow_15 : decode b_Model_addRow 15 = .ok (.iload 4, 2) := by decide +kernel
theorem d_Model_addRow_17 : decode b_Model_addRow 17 = .ok (.iadd, 1) := by decide +kernel
theorem d_Model_addRow_18 : decode b_Model_addRow 18 = .ok (.aload_n 0, 1) := by decide +kernel
theorem d_Model_addRow_19 : decode b_Model_addRow 19 = .ok (.getfield 19, 3) := by decide +kernel
theorem d_Model_addRow_22 : decode b_Model_addRow 22 = .ok (.iload_n 1, 1) := by decide +kernel
theorem d_Model_addRow_23 : decode b_Model_addRow 23 = .ok (.iload 4, 2) := by decide +kernel
theorem d_Model_addRow_25 : decode b_Model_addRow 25 = .ok (.iadd, 1) := by decide +kernel
theorem d_Model_addRow_26 : decode b_Model_addRow 26 = .ok (.iaload, 1) := by decide +kernel
theorem d_Model_addRow_27 : decode b_Model_addRow 27 = .ok (.iload_n 3, 1) := by decide +kernel
theorem d_Model_addRow_28 : decode b_Model_addRow 28 = .ok (.aload_n 0, 1) := by decide +kernel
theorem d_Model_addRow_29 : decode b_Model_addRow 29 = .ok (.getfield 19, 3) := by decide +kernel
theorem d_Model_addRow_32 : decode b_Model_addRow 32 = .ok (.iload_n 2, 1) := by decide +kernel
theorem d_Model_addRow_33 : decode b_Model_addRow 33 = .ok (.iload 4, 2) := by decide +kernel
theorem d_Model_addRow_35 : decode b_Model_addRow 35 = .ok (.iadd, 1) := by decide +kernel
theorem d_Model_addRow_36 : decode b_Model_addRow 36 = .ok (.iaload, 1) := by decide +kernel
theorem d_Model_addRow_37 : decode b_Model_addRow 37 = .ok (.imul, 1) := by decide +kernel
theorem d_Model_addRow_38 : decode b_Model_addRow 38 = .ok (.iadd, 1) := by decide +kernel
theorem d_Model_addRow_39 : decode b_Model_addRow 39 = .ok (.sipush 10007, 3) := by decide +kernel
theorem d_Model_addRow_42 : decode b_Model_addRow 42 = .ok (.irem, 1) := by decide +kernel
theorem d_Model_addRow_43 : decode b_Model_addRow 43 = .ok (.iastore, 1) := by decide +kernel
theorem d_Model_addRow_44 : decode b_Model_addRow 44 = .ok (.iinc 4 1, 3) := by decide +kernel
theorem d_Model_addRow_47 : decode b_Model_addRow 47 = .ok (.goto (-44), 3) := by decide +kernel
theorem d_Model_addRow_50 : decode b_Model_addRow 50 = .ok (.return_, 1) := by decide +kernel
theorem d_Model_multiply_0 : decode b_Model_multiply 0 = .ok (.iload_n 1, 1) := by decide +kernel
theorem d_Model_multiply_1 : decode b_Model_multiply 1 = .ok (.invokestatic 77, 3) := by decide +kernel
theorem d_Model_multiply_4 : decode b_Model_multiply 4 = .ok (.ifCond .eq 17, 3) := by decide +kernel
theorem d_Model_multiply_7 : decode b_Model_multiply 7 = .ok (.iload_n 2, 1) := by decide +kernel
theorem d_Model_multiply_8 : decode b_Model_multiply 8 = .ok (.invokestatic 77, 3) := by decide +kernel
theorem d_Model_multiply_11 : decode b_Model_multiply 11 = .ok (.ifCond .eq 10, 3) := by decide +kernel
theorem d_Model_multiply_14 : decode b_Model_multiply 14 = .ok (.iload_n 3, 1) := by decide +kernel
theorem d_Model_multiply_15 : decode b_Model_multiply 15 = .ok (.invokestatic 77, 3) := by decide +kernel
theorem d_Model_multiply_18 : decode b_Model_multiply 18 = .ok (.ifCond .ne 6, 3) := by decide +kernel
theorem d_Model_multiply_21 : decode b_Model_multiply 21 = .ok (.bipush (-9), 2) := by decide +kernel
theorem d_Model_multiply_23 : decode b_Model_multiply 23 = .ok (.ireturn, 1) := by decide +kernel
theorem d_Model_multiply_24 : decode b_Model_multiply 24 = .ok (.aload_n 0, 1) := by decide +kernel
theorem d_Model_multiply_25 : decode b_Model_multiply 25 = .ok (.aload_n 0, 1) := by decide +kernel
theorem d_Model_multiply_26 : decode b_Model_multiply 26 = .ok (.getfield 16, 3) := by decide +kernel
theorem d_Model_multiply_29 : decode b_Model_multiply 29 = .ok (.iload_n 2, 1) := by decide +kernel
theorem d_Model_multiply_30 : decode b_Model_multiply 30 = .ok (.iaload, 1) := by decide +kernel
theorem d_Model_multiply_31 : decode b_Model_multiply 31 = .ok (.aload_n 0, 1) := by decide +kernel
theorem d_Model_multiply_32 : decode b_Model_multiply 32 = .ok (.getfield 16, 3) := by decide +kernel
theorem d_Model_multiply_35 : decode b_Model_multiply 35 = .ok (.iload_n 3, 1) := by decide +kernel
theorem d_Model_multiply_36 : decode b_Model_multiply 36 = .ok (.iaload, 1) := by decide +kernel
theorem d_Model_multiply_37 : decode b_Model_multiply 37 = .ok (.imul, 1) := by decide +kernel
theorem d_Model_multiply_38 : decode b_Model_multiply 38 = .ok (.sipush 10007, 3) := by decide +kernel
theorem d_Model_multiply_41 : decode b_Model_multiply 41 = .ok (.irem, 1) := by decide +kernel
theorem d_Model_multiply_42 : decode b_Model_multiply 42 = .ok (.invokevirtual 56, 3) := by decide +kernel
theorem d_Model_multiply_45 : decode b_Model_multiply 45 = .ok (.aload_n 0, 1) := by decide +kernel
theorem d_Model_multiply_46 : decode b_Model_multiply 46 = .ok (.bipush 80, 2) := by decide +kernel
theorem d_Model_multiply_48 : decode b_Model_multiply 48 = .ok (.iload_n 2, 1) := by decide +kernel
theorem d_Model_multiply_49 : decode b_Model_multiply 49 = .ok (.invokevirtual 90, 3) := by decide +kernel
theorem d_Model_multiply_52 : decode b_Model_multiply 52 = .ok (.bipush 31, 2) := by decide +kernel
theorem d_Model_multiply_54 : decode b_Model_multiply 54 = .ok (.istore 4, 2) := by decide +kernel
theorem d_Model_multiply_56 : decode b_Model_multiply 56 = .ok (.iload 4, 2) := by decide +kernel
theorem d_Model_multiply_58 : decode b_Model_multiply 58 = .ok (.ifCond .lt 35, 3) := by decide +kernel
theorem d_Model_multiply_61 : decode b_Model_multiply 61 = .ok (.aload_n 0, 1) := by decide +kernel
theorem d_Model_multiply_62 : decode b_Model_multiply 62 = .ok (.iconst 0, 1) := by decide +kernel
theorem d_Model_multiply_63 : decode b_Model_multiply 63 = .ok (.iconst 0, 1) := by decide +kernel
theorem d_Model_multiply_64 : decode b_Model_multiply 64 = .ok (.iconst 1, 1) := by decide +kernel
theorem d_Model_multiply_65 : decode b_Model_multiply 65 = .ok (.invokevirtual 93, 3) := by decide +kernel
theorem d_Model_multiply_68 : decode b_Model_multiply 68 = .ok (.aload_n 0, 1) := by decide +kernel
theorem d_Model_multiply_69 : decode b_Model_multiply 69 = .ok (.iconst 0, 1) := by decide +kernel
theorem d_Model_multiply_70 : decode b_Model_multiply 70 = .ok (.bipush 80, 2) := by decide +kernel
theorem d_Model_multiply_72 : decode b_Model_multiply 72 = .ok (.aload_n 0, 1) := by decide +kernel
theorem d_Model_multiply_73 : decode b_Model_multiply 73 = .ok (.getfield 7, 3) := by decide +kernel
theorem d_Model_multiply_76 : decode b_Model_multiply 76 = .ok (.bipush 32, 2) := by decide +kernel
theorem d_Model_multiply_78 : decode b_Model_multiply 78 = .ok (.iload_n 3, 1) := by decide +kernel
theorem d_Model_multiply_79 : decode b_Model_multiply 79 = .ok (.imul, 1) := by decide +kernel
theorem d_Model_multiply_80 : decode b_Model_multiply 80 = .ok (.iload 4, 2) := by decide +kernel
theorem d_Model_multiply_82 : decode b_Model_multiply 82 = .ok (.iadd, 1) := by decide +kernel
theorem d_Model_multiply_83 : decode b_Model_multiply 83 = .ok (.iaload, 1) := by decide +kernel
theorem d_Model_multiply_84 : decode b_Model_multiply 84 = .ok (.invokevirtual 97, 3) := by decide +kernel
theorem d_Model_multiply_87 : decode b_Model_multiply 87 = .ok (.iinc 4 (-1), 3) := by decide +kernel
theorem d_Model_multiply_90 : decode b_Model_multiply 90 = .ok (.goto (-34), 3) := by decide +kernel
theorem d_Model_multiply_93 : decode b_Model_multiply 93 = .ok (.iconst 0, 1) := by decide +kernel
theorem d_Model_multiply_94 : decode b_Model_multiply 94 = .ok (.istore 4, 2) := by decide +kernel
theorem d_Model_multiply_96 : decode b_Model_multiply 96 = .ok (.iload 4, 2) := by decide +kernel
theorem d_Model_multiply_98 : decode b_Model_multiply 98 = .ok (.bipush 8, 2) := by decide +kernel
theorem d_Model_multiply_100 : decode b_Model_multiply 100 = .ok (.if_icmp .ge 41, 3) := by decide +kernel
theorem d_Model_multiply_103 : decode b_Model_multiply 103 = .ok (.aload_n 0, 1) := by decide +kernel
theorem d_Model_multiply_104 : decode b_Model_multiply 104 = .ok (.getfield 22, 3) := by decide +kernel
theorem d_Model_multiply_107 : decode b_Model_multiply 107 = .ok (.iload 4, 2) := by decide +kernel
theorem d_Model_multiply_109 : decode b_Model_multiply 109 = .ok (.aload_n 0, 1) := by decide +kernel
theorem d_Model_multiply_110 : decode b_Model_multiply 110 = .ok (.getfield 13, 3) := by decide +kernel
theorem d_Model_multiply_113 : decode b_Model_multiply 113 = .ok (.bipush 8, 2) := by decide +kernel
theorem d_Model_multiply_115 : decode b_Model_multiply 115 = .ok (.iload_n 2, 1) := by decide +kernel
theorem d_Model_multiply_116 : decode b_Model_multiply 116 = .ok (.imul, 1) := by decide +kernel
theorem d_Model_multiply_117 : decode b_Model_multiply 117 = .ok (.iload 4, 2) := by decide +kernel
theorem d_Model_multiply_119 : decode b_Model_multiply 119 = .ok (.iadd, 1) := by decide +kernel
theorem d_Model_multiply_120 : decode b_Model_multiply 120 = .ok (.iaload, 1) := by decide +kernel
theorem d_Model_multiply_121 : decode b_Model_multiply 121 = .ok (.aload_n 0, 1) := by decide +kernel
theorem d_Model_multiply_122 : decode b_Model_multiply 122 = .ok (.getfield 13, 3) := by decide +kernel
theorem d_Model_multiply_125 : decode b_Model_multiply 125 = .ok (.bipush 8, 2) := by decide +kernel
theorem d_Model_multiply_127 : decode b_Model_multiply 127 = .ok (.iload_n 3, 1) := by decide +kernel
theorem d_Model_multiply_128 : decode b_Model_multiply 128 = .ok (.imul, 1) := by decide +kernel
theorem d_Model_multiply_129 : decode b_Model_multiply 129 = .ok (.iload 4, 2) := by decide +kernel
theorem d_Model_multiply_131 : decode b_Model_multiply 131 = .ok (.iadd, 1) := by decide +kernel
theorem d_Model_multiply_132 : decode b_Model_multiply 132 = .ok (.iaload, 1) := by decide +kernel
theorem d_Model_multiply_133 : decode b_Model_multiply 133 = .ok (.iadd, 1) := by decide +kernel
theorem d_Model_multiply_134 : decode b_Model_multiply 134 = .ok (.iastore, 1) := by decide +kernel
theorem d_Model_multiply_135 : decode b_Model_multiply 135 = .ok (.iinc 4 1, 3) := by decide +kernel
theorem d_Model_multiply_138 : decode b_Model_multiply 138 = .ok (.goto (-42), 3) := by decide +kernel
theorem d_Model_multiply_141 : decode b_Model_multiply 141 = .ok (.aload_n 0, 1) := by decide +kernel
theorem d_Model_multiply_142 : decode b_Model_multiply 142 = .ok (.iload_n 1, 1) := by decide +kernel
theorem d_Model_multiply_143 : decode b_Model_multiply 143 = .ok (.invokevirtual 84, 3) := by decide +kernel
theorem d_Model_multiply_146 : decode b_Model_multiply 146 = .ok (.ireturn, 1) := by decide +kernel
theorem d_Model_shift_0 : decode b_Model_shift 0 = .ok (.iload_n 1, 1) := by decide +kernel
theorem d_Model_shift_1 : decode b_Model_shift 1 = .ok (.invokestatic 77, 3) := by decide +kernel
theorem d_Model_shift_4 : decode b_Model_shift 4 = .ok (.ifCond .eq 10, 3) := by decide +kernel
theorem d_Model_shift_7 : decode b_Model_shift 7 = .ok (.iload_n 2, 1) := by decide +kernel
theorem d_Model_shift_8 : decode b_Model_shift 8 = .ok (.invokestatic 77, 3) := by decide +kernel
theorem d_Model_shift_11 : decode b_Model_shift 11 = .ok (.ifCond .ne 6, 3) := by decide +kernel
theorem d_Model_shift_14 : decode b_Model_shift 14 = .ok (.bipush (-9), 2) := by decide +kernel
theorem d_Model_shift_16 : decode b_Model_shift 16 = .ok (.ireturn, 1) := by decide +kernel
theorem d_Model_shift_17 : decode b_Model_shift 17 = .ok (.aload_n 0, 1) := by decide +kernel
theorem d_Model_shift_18 : decode b_Model_shift 18 = .ok (.aload_n 0, 1) := by decide +kernel
theorem d_Model_shift_19 : decode b_Model_shift 19 = .ok (.getfield 16, 3) := by decide +kernel
theorem d_Model_shift_22 : decode b_Model_shift 22 = .ok (.iload_n 2, 1) := by decide +kernel
theorem d_Model_shift_23 : decode b_Model_shift 23 = .ok (.iaload, 1) := by decide +kernel
theorem d_Model_shift_24 : decode b_Model_shift 24 = .ok (.invokevirtual 56, 3) := by decide +kernel
theorem d_Model_shift_27 : decode b_Model_shift 27 = .ok (.aload_n 0, 1) := by decide +kernel
theorem d_Model_shift_28 : decode b_Model_shift 28 = .ok (.iconst 0, 1) := by decide +kernel
theorem d_Model_shift_29 : decode b_Model_shift 29 = .ok (.iload_n 2, 1) := by decide +kernel
theorem d_Model_shift_30 : decode b_Model_shift 30 = .ok (.invokevirtual 100, 3) := by decide +kernel
theorem d_Model_shift_33 : decode b_Model_shift 33 = .ok (.iconst 0, 1) := by decide +kernel
theorem d_Model_shift_34 : decode b_Model_shift 34 = .ok (.istore_n 3, 1) := by decide +kernel
theorem d_Model_shift_35 : decode b_Model_shift 35 = .ok (.iload_n 3, 1) := by decide +kernel
theorem d_Model_shift_36 : decode b_Model_shift 36 = .ok (.bipush 8, 2) := by decide +kernel
theorem d_Model_shift_38 : decode b_Model_shift 38 = .ok (.if_icmp .ge 28, 3) := by decide +kernel
theorem d_Model_shift_41 : decode b_Model_shift 41 = .ok (.aload_n 0, 1) := by decide +kernel
theorem d_Model_shift_42 : decode b_Model_shift 42 = .ok (.getfield 22, 3) := by decide +kernel
theorem d_Model_shift_45 : decode b_Model_shift 45 = .ok (.iload_n 3, 1) := by decide +kernel
theorem d_Model_shift_46 : decode b_Model_shift 46 = .ok (.iconst 1, 1) := by decide +kernel
theorem d_Model_shift_47 : decode b_Model_shift 47 = .ok (.iadd, 1) := by decide +kernel
theorem d_Model_shift_48 : decode b_Model_shift 48 = .ok (.aload_n 0, 1) := by decide +kernel
theorem d_Model_shift_49 : decode b_Model_shift 49 = .ok (.getfield 13, 3) := by decide +kernel
theorem d_Model_shift_52 : decode b_Model_shift 52 = .ok (.bipush 8, 2) := by decide +kernel
theorem d_Model_shift_54 : decode b_Model_shift 54 = .ok (.iload_n 2, 1) := by decide +kernel
theorem d_Model_shift_55 : decode b_Model_shift 55 = .ok (.imul, 1) := by decide +kernel
theorem d_Model_shift_56 : decode b_Model_shift 56 = .ok (.iload_n 3, 1) := by decide +kernel
theorem d_Model_shift_57 : decode b_Model_shift 57 = .ok (.iadd, 1) := by decide +kernel
theorem d_Model_shift_58 : decode b_Model_shift 58 = .ok (.iaload, 1) := by decide +kernel
theorem d_Model_shift_59 : decode b_Model_shift 59 = .ok (.iastore, 1) := by decide +kernel
theorem d_Model_shift_60 : decode b_Model_shift 60 = .ok (.iinc 3 1, 3) := by decide +kernel
theorem d_Model_shift_63 : decode b_Model_shift 63 = .ok (.goto (-28), 3) := by decide +kernel
theorem d_Model_shift_66 : decode b_Model_shift 66 = .ok (.aload_n 0, 1) := by decide +kernel
theorem d_Model_shift_67 : decode b_Model_shift 67 = .ok (.iload_n 1, 1) := by decide +kernel
theorem d_Model_shift_68 : decode b_Model_shift 68 = .ok (.invokevirtual 84, 3) := by decide +kernel
theorem d_Model_shift_71 : decode b_Model_shift 71 = .ok (.ireturn, 1) := by decide +kernel
theorem d_Model_moved_0 : decode b_Model_moved 0 = .ok (.aload_n 0, 1) := by decide +kernel
theorem d_Model_moved_1 : decode b_Model_moved 1 = .ok (.iload_n 1, 1) := by decide +kernel
theorem d_Model_moved_2 : decode b_Model_moved 2 = .ok (.invokevirtual 41, 3) := by decide +kernel
theorem d_Model_moved_5 : decode b_Model_moved 5 = .ok (.bipush 31, 2) := by decide +kernel
theorem d_Model_moved_7 : decode b_Model_moved 7 = .ok (.istore_n 3, 1) := by decide +kernel
theorem d_Model_moved_8 : decode b_Model_moved 8 = .ok (.iload_n 3, 1) := by decide +kernel
theorem d_Model_moved_9 : decode b_Model_moved 9 = .ok (.ifCond .lt 51, 3) := by decide +kernel
theorem d_Model_moved_12 : decode b_Model_moved 12 = .ok (.aload_n 0, 1) := by decide +kernel
theorem d_Model_moved_13 : decode b_Model_moved 13 = .ok (.iload_n 1, 1) := by decide +kernel
theorem d_Model_moved_14 : decode b_Model_moved 14 = .ok (.iconst 1, 1) := by decide +kernel
theorem d_Model_moved_15 : decode b_Model_moved 15 = .ok (.iconst 1, 1) := by decide +kernel
theorem d_Model_moved_16 : decode b_Model_moved 16 = .ok (.invokevirtual 93, 3) := by decide +kernel
theorem d_Model_moved_19 : decode b_Model_moved 19 = .ok (.aload_n 0, 1) := by decide +kernel
theorem d_Model_moved_20 : decode b_Model_moved 20 = .ok (.getfield 19, 3) := by decide +kernel
theorem d_Model_moved_23 : decode b_Model_moved 23 = .ok (.iload_n 1, 1) := by decide +kernel
theorem d_Model_moved_24 : decode b_Model_moved 24 = .ok (.aload_n 0, 1) := by decide +kernel
theorem d_Model_moved_25 : decode b_Model_moved 25 = .ok (.getfield 19, 3) := by decide +kernel
theorem d_Model_moved_28 : decode b_Model_moved 28 = .ok (.iload_n 1, 1) := by decide +kernel
theorem d_Model_moved_29 : decode b_Model_moved 29 = .ok (.iaload, 1) := by decide +kernel
theorem d_Model_moved_30 : decode b_Model_moved 30 = .ok (.aload_n 0, 1) := by decide +kernel
theorem d_Model_moved_31 : decode b_Model_moved 31 = .ok (.getfield 16, 3) := by decide +kernel
theorem d_Model_moved_34 : decode b_Model_moved 34 = .ok (.iload_n 2, 1) := by decide +kernel
theorem d_Model_moved_35 : decode b_Model_moved 35 = .ok (.iaload, 1) := by decide +kernel
theorem d_Model_moved_36 : decode b_Model_moved 36 = .ok (.aload_n 0, 1) := by decide +kernel
theorem d_Model_moved_37 : decode b_Model_moved 37 = .ok (.getfield 7, 3) := by decide +kernel
theorem d_Model_moved_40 : decode b_Model_moved 40 = .ok (.bipush 32, 2) := by decide +kernel
theorem d_Model_moved_42 : decode b_Model_moved 42 = .ok (.iload_n 2, 1) := by decide +kernel
theorem d_Model_moved_43 : decode b_Model_moved 43 = .ok (.imul, 1) := by decide +kernel
theorem d_Model_moved_44 : decode b_Model_moved 44 = .ok (.iload_n 3, 1) := by decide +kernel
theorem d_Model_moved_45 : decode b_Model_moved 45 = .ok (.iadd, 1) := by decide +kernel
theorem d_Model_moved_46 : decode b_Model_moved 46 = .ok (.iaload, 1) := by decide +kernel
theorem d_Model_moved_47 : decode b_Model_moved 47 = .ok (.imul, 1) := by decide +kernel
theorem d_Model_moved_48 : decode b_Model_moved 48 = .ok (.iadd, 1) := by decide +kernel
theorem d_Model_moved_49 : decode b_Model_moved 49 = .ok (.sipush 10007, 3) := by decide +kernel
theorem d_Model_moved_52 : decode b_Model_moved 52 = .ok (.irem, 1) := by decide +kernel
theorem d_Model_moved_53 : decode b_Model_moved 53 = .ok (.iastore, 1) := by decide +kernel
theorem d_Model_moved_54 : decode b_Model_moved 54 = .ok (.iinc 3 (-1), 3) := by decide +kernel
theorem d_Model_moved_57 : decode b_Model_moved 57 = .ok (.goto (-49), 3) := by decide +kernel
theorem d_Model_moved_60 : decode b_Model_moved 60 = .ok (.return_, 1) := by decide +kernel
theorem d_Model_difference_0 : decode b_Model_difference 0 = .ok (.iload_n 1, 1) := by decide +kernel
theorem d_Model_difference_1 : decode b_Model_difference 1 = .ok (.invokestatic 77, 3) := by decide +kernel
theorem d_Model_difference_4 : decode b_Model_difference 4 = .ok (.ifCond .eq 10, 3) := by decide +kernel
theorem d_Model_difference_7 : decode b_Model_difference 7 = .ok (.iload_n 2, 1) := by decide +kernel
theorem d_Model_difference_8 : decode b_Model_difference 8 = .ok (.invokestatic 77, 3) := by decide +kernel
theorem d_Model_difference_11 : decode b_Model_difference 11 = .ok (.ifCond .ne 6, 3) := by decide +kernel
theorem d_Model_difference_14 : decode b_Model_difference 14 = .ok (.bipush (-9), 2) := by decide +kernel
theorem d_Model_difference_16 : decode b_Model_difference 16 = .ok (.ireturn, 1) := by decide +kernel
theorem d_Model_difference_17 : decode b_Model_difference 17 = .ok (.aload_n 0, 1) := by decide +kernel
theorem d_Model_difference_18 : decode b_Model_difference 18 = .ok (.iload_n 2, 1) := by decide +kernel
theorem d_Model_difference_19 : decode b_Model_difference 19 = .ok (.invokevirtual 103, 3) := by decide +kernel
theorem d_Model_difference_22 : decode b_Model_difference 22 = .ok (.aload_n 0, 1) := by decide +kernel
theorem d_Model_difference_23 : decode b_Model_difference 23 = .ok (.iload_n 1, 1) := by decide +kernel
theorem d_Model_difference_24 : decode b_Model_difference 24 = .ok (.invokevirtual 84, 3) := by decide +kernel
theorem d_Model_difference_27 : decode b_Model_difference 27 = .ok (.ireturn, 1) := by decide +kernel
theorem d_Model_differ_0 : decode b_Model_differ 0 = .ok (.aload_n 0, 1) := by decide +kernel
theorem d_Model_differ_1 : decode b_Model_differ 1 = .ok (.aload_n 0, 1) := by decide +kernel
theorem d_Model_differ_2 : decode b_Model_differ 2 = .ok (.getfield 16, 3) := by decide +kernel
theorem d_Model_differ_5 : decode b_Model_differ 5 = .ok (.iload_n 1, 1) := by decide +kernel
theorem d_Model_differ_6 : decode b_Model_differ 6 = .ok (.iaload, 1) := by decide +kernel
theorem d_Model_differ_7 : decode b_Model_differ 7 = .ok (.invokevirtual 56, 3) := by decide +kernel
theorem d_Model_differ_10 : decode b_Model_differ 10 = .ok (.aload_n 0, 1) := by decide +kernel
theorem d_Model_differ_11 : decode b_Model_differ 11 = .ok (.bipush 80, 2) := by decide +kernel
theorem d_Model_differ_13 : decode b_Model_differ 13 = .ok (.iload_n 1, 1) := by decide +kernel
theorem d_Model_differ_14 : decode b_Model_differ 14 = .ok (.invokevirtual 90, 3) := by decide +kernel
theorem d_Model_differ_17 : decode b_Model_differ 17 = .ok (.aload_n 0, 1) := by decide +kernel
theorem d_Model_differ_18 : decode b_Model_differ 18 = .ok (.iconst 0, 1) := by decide +kernel
theorem d_Model_differ_19 : decode b_Model_differ 19 = .ok (.iload_n 1, 1) := by decide +kernel
theorem d_Model_differ_20 : decode b_Model_differ 20 = .ok (.invokevirtual 100, 3) := by decide +kernel
theorem d_Model_differ_23 : decode b_Model_differ 23 = .ok (.iconst 0, 1) := by decide +kernel
theorem d_Model_differ_24 : decode b_Model_differ 24 = .ok (.istore_n 2, 1) := by decide +kernel
theorem d_Model_differ_25 : decode b_Model_differ 25 = .ok (.iload_n 2, 1) := by decide +kernel
theorem d_Model_differ_26 : decode b_Model_differ 26 = .ok (.bipush 9, 2) := by decide +kernel
theorem d_Model_differ_28 : decode b_Model_differ 28 = .ok (.if_icmp .ge 102, 3) := by decide +kernel
theorem d_Model_differ_31 : decode b_Model_differ 31 = .ok (.iload_n 2, 1) := by decide +kernel
theorem d_Model_differ_32 : decode b_Model_differ 32 = .ok (.ifCond .ne 7, 3) := by decide +kernel
theorem d_Model_differ_35 : decode b_Model_differ 35 = .ok (.iconst 0, 1) := by decide +kernel
theorem d_Model_differ_36 : decode b_Model_differ 36 = .ok (.goto 16, 3) := by decide +kernel
theorem d_Model_differ_39 : decode b_Model_differ 39 = .ok (.aload_n 0, 1) := by decide +kernel
theorem d_Model_differ_40 : decode b_Model_differ 40 = .ok (.getfield 13, 3) := by decide +kernel
theorem d_Model_differ_43 : decode b_Model_differ 43 = .ok (.bipush 8, 2) := by decide +kernel
theorem d_Model_differ_45 : decode b_Model_differ 45 = .ok (.iload_n 1, 1) := by decide +kernel
theorem d_Model_differ_46 : decode b_Model_differ 46 = .ok (.imul, 1) := by decide +kernel
theorem d_Model_differ_47 : decode b_Model_differ 47 = .ok (.iload_n 2, 1) := by decide +kernel
theorem d_Model_differ_48 : decode b_Model_differ 48 = .ok (.iadd, 1) := by decide +kernel
theorem d_Model_differ_49 : decode b_Model_differ 49 = .ok (.iconst 1, 1) := by decide +kernel
theorem d_Model_differ_50 : decode b_Model_differ 50 = .ok (.isub, 1) := by decide +kernel
theorem d_Model_differ_51 : decode b_Model_differ 51 = .ok (.iaload, 1) := by decide +kernel
theorem d_Model_differ_52 : decode b_Model_differ 52 = .ok (.istore_n 3, 1) := by decide +kernel
theorem d_Model_differ_53 : decode b_Model_differ 53 = .ok (.iload_n 2, 1) := by decide +kernel
theorem d_Model_differ_54 : decode b_Model_differ 54 = .ok (.bipush 8, 2) := by decide +kernel
theorem d_Model_differ_56 : decode b_Model_differ 56 = .ok (.if_icmp .ne 7, 3) := by decide +kernel
theorem d_Model_differ_59 : decode b_Model_differ 59 = .ok (.iconst 0, 1) := by decide +kernel
theorem d_Model_differ_60 : decode b_Model_differ 60 = .ok (.goto 14, 3) := by decide +kernel
theorem d_Model_differ_63 : decode b_Model_differ 63 = .ok (.aload_n 0, 1) := by decide +kernel
theorem d_Model_differ_64 : decode b_Model_differ 64 = .ok (.getfield 13, 3) := by decide +kernel
theorem d_Model_differ_67 : decode b_Model_differ 67 = .ok (.bipush 8, 2) := by decide +kernel
theorem d_Model_differ_69 : decode b_Model_differ 69 = .ok (.iload_n 1, 1) := by decide +kernel
theorem d_Model_differ_70 : decode b_Model_differ 70 = .ok (.imul, 1) := by decide +kernel
theorem d_Model_differ_71 : decode b_Model_differ 71 = .ok (.iload_n 2, 1) := by decide +kernel
theorem d_Model_differ_72 : decode b_Model_differ 72 = .ok (.iadd, 1) := by decide +kernel
theorem d_Model_differ_73 : decode b_Model_differ 73 = .ok (.iaload, 1) := by decide +kernel
theorem d_Model_differ_74 : decode b_Model_differ 74 = .ok (.istore 4, 2) := by decide +kernel
theorem d_Model_differ_76 : decode b_Model_differ 76 = .ok (.aload_n 0, 1) := by decide +kernel
theorem d_Model_differ_77 : decode b_Model_differ 77 = .ok (.getfield 22, 3) := by decide +kernel
theorem d_Model_differ_80 : decode b_Model_differ 80 = .ok (.iload_n 2, 1) := by decide +kernel
theorem d_Model_differ_81 : decode b_Model_differ 81 = .ok (.iload_n 3, 1) := by decide +kernel
theorem d_Model_differ_82 : decode b_Model_differ 82 = .ok (.iload 4, 2) := by decide +kernel
theorem d_Model_differ_84 : decode b_Model_differ 84 = .ok (.if_icmp .le 7, 3) := by decide +kernel
theorem d_Model_differ_87 : decode b_Model_differ 87 = .ok (.iload_n 3, 1) := by decide +kernel
theorem d_Model_differ_88 : decode b_Model_differ 88 = .ok (.goto 5, 3) := by decide +kernel
theorem d_Model_differ_91 : decode b_Model_differ 91 = .ok (.iload 4, 2) := by decide +kernel
theorem d_Model_differ_93 : decode b_Model_differ 93 = .ok (.iastore, 1) := by decide +kernel
theorem d_Model_differ_94 : decode b_Model_differ 94 = .ok (.aload_n 0, 1) := by decide +kernel
theorem d_Model_differ_95 : decode b_Model_differ 95 = .ok (.iconst 0, 1) := by decide +kernel
theorem d_Model_differ_96 : decode b_Model_differ 96 = .ok (.iload_n 2, 1) := by decide +kernel
theorem d_Model_differ_97 : decode b_Model_differ 97 = .ok (.aload_n 0, 1) := by decide +kernel
theorem d_Model_differ_98 : decode b_Model_differ 98 = .ok (.getfield 22, 3) := by decide +kernel
theorem d_Model_differ_101 : decode b_Model_differ 101 = .ok (.iload_n 2, 1) := by decide +kernel
theorem d_Model_differ_102 : decode b_Model_differ 102 = .ok (.iaload, 1) := by decide +kernel
theorem d_Model_differ_103 : decode b_Model_differ 103 = .ok (.iload_n 3, 1) := by decide +kernel
theorem d_Model_differ_104 : decode b_Model_differ 104 = .ok (.isub, 1) := by decide +kernel
theorem d_Model_differ_105 : decode b_Model_differ 105 = .ok (.invokevirtual 93, 3) := by decide +kernel
theorem d_Model_differ_108 : decode b_Model_differ 108 = .ok (.aload_n 0, 1) := by decide +kernel
theorem d_Model_differ_109 : decode b_Model_differ 109 = .ok (.bipush 80, 2) := by decide +kernel
theorem d_Model_differ_111 : decode b_Model_differ 111 = .ok (.iload_n 2, 1) := by decide +kernel
theorem d_Model_differ_112 : decode b_Model_differ 112 = .ok (.aload_n 0, 1) := by decide +kernel
theorem d_Model_differ_113 : decode b_Model_differ 113 = .ok (.getfield 22, 3) := by decide +kernel
theorem d_Model_differ_116 : decode b_Model_differ 116 = .ok (.iload_n 2, 1) := by decide +kernel
theorem d_Model_differ_117 : decode b_Model_differ 117 = .ok (.iaload, 1) := by decide +kernel
theorem d_Model_differ_118 : decode b_Model_differ 118 = .ok (.iload 4, 2) := by decide +kernel
theorem d_Model_differ_120 : decode b_Model_differ 120 = .ok (.isub, 1) := by decide +kernel
theorem d_Model_differ_121 : decode b_Model_differ 121 = .ok (.invokevirtual 93, 3) := by decide +kernel
theorem d_Model_differ_124 : decode b_Model_differ 124 = .ok (.iinc 2 1, 3) := by decide +kernel
theorem d_Model_differ_127 : decode b_Model_differ 127 = .ok (.goto (-102), 3) := by decide +kernel
theorem d_Model_differ_130 : decode b_Model_differ 130 = .ok (.aload_n 0, 1) := by decide +kernel
theorem d_Model_differ_131 : decode b_Model_differ 131 = .ok (.iconst 0, 1) := by decide +kernel
theorem d_Model_differ_132 : decode b_Model_differ 132 = .ok (.bipush 80, 2) := by decide +kernel
theorem d_Model_differ_134 : decode b_Model_differ 134 = .ok (.sipush 10006, 3) := by decide +kernel
theorem d_Model_differ_137 : decode b_Model_differ 137 = .ok (.invokevirtual 97, 3) := by decide +kernel
theorem d_Model_differ_140 : decode b_Model_differ 140 = .ok (.return_, 1) := by decide +kernel
theorem d_Model_check_0 : decode b_Model_check 0 = .ok (.iload_n 1, 1) := by decide +kernel
theorem d_Model_check_1 : decode b_Model_check 1 = .ok (.invokestatic 77, 3) := by decide +kernel
theorem d_Model_check_4 : decode b_Model_check 4 = .ok (.ifCond .eq 10, 3) := by decide +kernel
theorem d_Model_check_7 : decode b_Model_check 7 = .ok (.iload_n 2, 1) := by decide +kernel
theorem d_Model_check_8 : decode b_Model_check 8 = .ok (.invokestatic 77, 3) := by decide +kernel
theorem d_Model_check_11 : decode b_Model_check 11 = .ok (.ifCond .ne 5, 3) := by decide +kernel
theorem d_Model_check_14 : decode b_Model_check 14 = .ok (.iconst 0, 1) := by decide +kernel
theorem d_Model_check_15 : decode b_Model_check 15 = .ok (.ireturn, 1) := by decide +kernel
theorem d_Model_check_16 : decode b_Model_check 16 = .ok (.aload_n 0, 1) := by decide +kernel
theorem d_Model_check_17 : decode b_Model_check 17 = .ok (.iload_n 1, 1) := by decide +kernel
theorem d_Model_check_18 : decode b_Model_check 18 = .ok (.invokevirtual 103, 3) := by decide +kernel
theorem d_Model_check_21 : decode b_Model_check 21 = .ok (.aload_n 0, 1) := by decide +kernel
theorem d_Model_check_22 : decode b_Model_check 22 = .ok (.invokevirtual 66, 3) := by decide +kernel
theorem d_Model_check_25 : decode b_Model_check 25 = .ok (.ifCond .ne 20, 3) := by decide +kernel
theorem d_Model_check_28 : decode b_Model_check 28 = .ok (.aload_n 0, 1) := by decide +kernel
theorem d_Model_check_29 : decode b_Model_check 29 = .ok (.getfield 49, 3) := by decide +kernel
theorem d_Model_check_32 : decode b_Model_check 32 = .ok (.aload_n 0, 1) := by decide +kernel
theorem d_Model_check_33 : decode b_Model_check 33 = .ok (.getfield 16, 3) := by decide +kernel
theorem d_Model_check_36 : decode b_Model_check 36 = .ok (.iload_n 2, 1) := by decide +kernel
theorem d_Model_check_37 : decode b_Model_check 37 = .ok (.iaload, 1) := by decide +kernel
theorem d_Model_check_38 : decode b_Model_check 38 = .ok (.if_icmp .ne 7, 3) := by decide +kernel
theorem d_Model_check_41 : decode b_Model_check 41 = .ok (.iconst 1, 1) := by decide +kernel
theorem d_Model_check_42 : decode b_Model_check 42 = .ok (.goto 4, 3) := by decide +kernel
theorem d_Model_check_45 : decode b_Model_check 45 = .ok (.iconst 0, 1) := by decide +kernel
theorem d_Model_check_46 : decode b_Model_check 46 = .ok (.istore_n 3, 1) := by decide +kernel
theorem d_Model_check_47 : decode b_Model_check 47 = .ok (.iconst 0, 1) := by decide +kernel
theorem d_Model_check_48 : decode b_Model_check 48 = .ok (.istore 4, 2) := by decide +kernel
theorem d_Model_check_50 : decode b_Model_check 50 = .ok (.iload 4, 2) := by decide +kernel
theorem d_Model_check_52 : decode b_Model_check 52 = .ok (.bipush 32, 2) := by decide +kernel
theorem d_Model_check_54 : decode b_Model_check 54 = .ok (.if_icmp .ge 43, 3) := by decide +kernel
theorem d_Model_check_57 : decode b_Model_check 57 = .ok (.iload_n 3, 1) := by decide +kernel
theorem d_Model_check_58 : decode b_Model_check 58 = .ok (.ifCond .eq 31, 3) := by decide +kernel
theorem d_Model_check_61 : decode b_Model_check 61 = .ok (.aload_n 0, 1) := by decide +kernel
theorem d_Model_check_62 : decode b_Model_check 62 = .ok (.getfield 19, 3) := by decide +kernel
theorem d_Model_check_65 : decode b_Model_check 65 = .ok (.iconst 0, 1) := by decide +kernel
theorem d_Model_check_66 : decode b_Model_check 66 = .ok (.iload 4, 2) := by decide +kernel
theorem d_Model_check_68 : decode b_Model_check 68 = .ok (.iadd, 1) := by decide +kernel
theorem d_Model_check_69 : decode b_Model_check 69 = .ok (.iaload, 1) := by decide +kernel
theorem d_Model_check_70 : decode b_Model_check 70 = .ok (.aload_n 0, 1) := by decide +kernel
theorem d_Model_check_71 : decode b_Model_check 71 = .ok (.getfield 7, 3) := by decide +kernel
theorem d_Model_check_74 : decode b_Model_check 74 = .ok (.bipush 32, 2) := by decide +kernel
theorem d_Model_check_76 : decode b_Model_check 76 = .ok (.iload_n 2, 1) := by decide +kernel
theorem d_Model_check_77 : decode b_Model_check 77 = .ok (.imul, 1) := by decide +kernel
theorem d_Model_check_78 : decode b_Model_check 78 = .ok (.iload 4, 2) := by decide +kernel
theorem d_Model_check_80 : decode b_Model_check 80 = .ok (.iadd, 1) := by decide +kernel
theorem d_Model_check_81 : decode b_Model_check 81 = .ok (.iaload, 1) := by decide +kernel
theorem d_Model_check_82 : decode b_Model_check 82 = .ok (.if_icmp .ne 7, 3) := by decide +kernel
theorem d_Model_check_85 : decode b_Model_check 85 = .ok (.iconst 1, 1) := by decide +kernel
theorem d_Model_check_86 : decode b_Model_check 86 = .ok (.goto 4, 3) := by decide +kernel
theorem d_Model_check_89 : decode b_Model_check 89 = .ok (.iconst 0, 1) := by decide +kernel
theorem d_Model_check_90 : decode b_Model_check 90 = .ok (.istore_n 3, 1) := by decide +kernel
theorem d_Model_check_91 : decode b_Model_check 91 = .ok (.iinc 4 1, 3) := by decide +kernel
theorem d_Model_check_94 : decode b_Model_check 94 = .ok (.goto (-44), 3) := by decide +kernel
theorem d_Model_check_97 : decode b_Model_check 97 = .ok (.iconst 0, 1) := by decide +kernel
theorem d_Model_check_98 : decode b_Model_check 98 = .ok (.istore 4, 2) := by decide +kernel
theorem d_Model_check_100 : decode b_Model_check 100 = .ok (.iload 4, 2) := by decide +kernel
theorem d_Model_check_102 : decode b_Model_check 102 = .ok (.bipush 8, 2) := by decide +kernel
theorem d_Model_check_104 : decode b_Model_check 104 = .ok (.if_icmp .ge 41, 3) := by decide +kernel
theorem d_Model_check_107 : decode b_Model_check 107 = .ok (.iload_n 3, 1) := by decide +kernel
theorem d_Model_check_108 : decode b_Model_check 108 = .ok (.ifCond .eq 29, 3) := by decide +kernel
theorem d_Model_check_111 : decode b_Model_check 111 = .ok (.aload_n 0, 1) := by decide +kernel
theorem d_Model_check_112 : decode b_Model_check 112 = .ok (.getfield 22, 3) := by decide +kernel
theorem d_Model_check_115 : decode b_Model_check 115 = .ok (.iload 4, 2) := by decide +kernel
theorem d_Model_check_117 : decode b_Model_check 117 = .ok (.iaload, 1) := by decide +kernel
theorem d_Model_check_118 : decode b_Model_check 118 = .ok (.aload_n 0, 1) := by decide +kernel
theorem d_Model_check_119 : decode b_Model_check 119 = .ok (.getfield 13, 3) := by decide +kernel
theorem d_Model_check_122 : decode b_Model_check 122 = .ok (.bipush 8, 2) := by decide +kernel
theorem d_Model_check_124 : decode b_Model_check 124 = .ok (.iload_n 2, 1) := by decide +kernel
theorem d_Model_check_125 : decode b_Model_check 125 = .ok (.imul, 1) := by decide +kernel
theorem d_Model_check_126 : decode b_Model_check 126 = .ok (.iload 4, 2) := by decide +kernel
theorem d_Model_check_128 : decode b_Model_check 128 = .ok (.iadd, 1) := by decide +kernel
theorem d_Model_check_129 : decode b_Model_check 129 = .ok (.iaload, 1) := by decide +kernel
theorem d_Model_check_130 : decode b_Model_check 130 = .ok (.if_icmp .ne 7, 3) := by decide +kernel
theorem d_Model_check_133 : decode b_Model_check 133 = .ok (.iconst 1, 1) := by decide +kernel
theorem d_Model_check_134 : decode b_Model_check 134 = .ok (.goto 4, 3) := by decide +kernel
theorem d_Model_check_137 : decode b_Model_check 137 = .ok (.iconst 0, 1) := by decide +kernel
theorem d_Model_check_138 : decode b_Model_check 138 = .ok (.istore_n 3, 1) := by decide +kernel
theorem d_Model_check_139 : decode b_Model_check 139 = .ok (.iinc 4 1, 3) := by decide +kernel
theorem d_Model_check_142 : decode b_Model_check 142 = .ok (.goto (-42), 3) := by decide +kernel
theorem d_Model_check_145 : decode b_Model_check 145 = .ok (.iload_n 3, 1) := by decide +kernel
theorem d_Model_check_146 : decode b_Model_check 146 = .ok (.ireturn, 1) := by decide +kernel
theorem d_Model_same_0 : decode b_Model_same 0 = .ok (.iload_n 1, 1) := by decide +kernel
theorem d_Model_same_1 : decode b_Model_same 1 = .ok (.invokestatic 77, 3) := by decide +kernel
theorem d_Model_same_4 : decode b_Model_same 4 = .ok (.ifCond .eq 10, 3) := by decide +kernel
theorem d_Model_same_7 : decode b_Model_same 7 = .ok (.iload_n 2, 1) := by decide +kernel
theorem d_Model_same_8 : decode b_Model_same 8 = .ok (.invokestatic 77, 3) := by decide +kernel
theorem d_Model_same_11 : decode b_Model_same 11 = .ok (.ifCond .ne 5, 3) := by decide +kernel
theorem d_Model_same_14 : decode b_Model_same 14 = .ok (.iconst 0, 1) := by decide +kernel
theorem d_Model_same_15 : decode b_Model_same 15 = .ok (.ireturn, 1) := by decide +kernel
theorem d_Model_same_16 : decode b_Model_same 16 = .ok (.aload_n 0, 1) := by decide +kernel
theorem d_Model_same_17 : decode b_Model_same 17 = .ok (.getfield 16, 3) := by decide +kernel
theorem d_Model_same_20 : decode b_Model_same 20 = .ok (.iload_n 1, 1) := by decide +kernel
theorem d_Model_same_21 : decode b_Model_same 21 = .ok (.iaload, 1) := by decide +kernel
theorem d_Model_same_22 : decode b_Model_same 22 = .ok (.aload_n 0, 1) := by decide +kernel
theorem d_Model_same_23 : decode b_Model_same 23 = .ok (.getfield 16, 3) := by decide +kernel
theorem d_Model_same_26 : decode b_Model_same 26 = .ok (.iload_n 2, 1) := by decide +kernel
theorem d_Model_same_27 : decode b_Model_same 27 = .ok (.iaload, 1) := by decide +kernel
theorem d_Model_same_28 : decode b_Model_same 28 = .ok (.if_icmp .ne 7, 3) := by decide +kernel
theorem d_Model_same_31 : decode b_Model_same 31 = .ok (.iconst 1, 1) := by decide +kernel
theorem d_Model_same_32 : decode b_Model_same 32 = .ok (.goto 4, 3) := by decide +kernel
theorem d_Model_same_35 : decode b_Model_same 35 = .ok (.iconst 0, 1) := by decide +kernel
theorem d_Model_same_36 : decode b_Model_same 36 = .ok (.istore_n 3, 1) := by decide +kernel
theorem d_Model_same_37 : decode b_Model_same 37 = .ok (.iconst 0, 1) := by decide +kernel
theorem d_Model_same_38 : decode b_Model_same 38 = .ok (.istore 4, 2) := by decide +kernel
theorem d_Model_same_40 : decode b_Model_same 40 = .ok (.iload 4, 2) := by decide +kernel
theorem d_Model_same_42 : decode b_Model_same 42 = .ok (.bipush 32, 2) := by decide +kernel
theorem d_Model_same_44 : decode b_Model_same 44 = .ok (.if_icmp .ge 46, 3) := by decide +kernel
theorem d_Model_same_47 : decode b_Model_same 47 = .ok (.iload_n 3, 1) := by decide +kernel
theorem d_Model_same_48 : decode b_Model_same 48 = .ok (.ifCond .eq 34, 3) := by decide +kernel
theorem d_Model_same_51 : decode b_Model_same 51 = .ok (.aload_n 0, 1) := by decide +kernel
theorem d_Model_same_52 : decode b_Model_same 52 = .ok (.getfield 7, 3) := by decide +kernel
theorem d_Model_same_55 : decode b_Model_same 55 = .ok (.bipush 32, 2) := by decide +kernel
theorem d_Model_same_57 : decode b_Model_same 57 = .ok (.iload_n 1, 1) := by decide +kernel
theorem d_Model_same_58 : decode b_Model_same 58 = .ok (.imul, 1) := by decide +kernel
theorem d_Model_same_59 : decode b_Model_same 59 = .ok (.iload 4, 2) := by decide +kernel
theorem d_Model_same_61 : decode b_Model_same 61 = .ok (.iadd, 1) := by decide +kernel
theorem d_Model_same_62 : decode b_Model_same 62 = .ok (.iaload, 1) := by decide +kernel
theorem d_Model_same_63 : decode b_Model_same 63 = .ok (.aload_n 0, 1) := by decide +kernel
theorem d_Model_same_64 : decode b_Model_same 64 = .ok (.getfield 7, 3) := by decide +kernel
theorem d_Model_same_67 : decode b_Model_same 67 = .ok (.bipush 32, 2) := by decide +kernel
theorem d_Model_same_69 : decode b_Model_same 69 = .ok (.iload_n 2, 1) := by decide +kernel
theorem d_Model_same_70 : decode b_Model_same 70 = .ok (.imul, 1) := by decide +kernel
theorem d_Model_same_71 : decode b_Model_same 71 = .ok (.iload 4, 2) := by decide +kernel
theorem d_Model_same_73 : decode b_Model_same 73 = .ok (.iadd, 1) := by decide +kernel
theorem d_Model_same_74 : decode b_Model_same 74 = .ok (.iaload, 1) := by decide +kernel
theorem d_Model_same_75 : decode b_Model_same 75 = .ok (.if_icmp .ne 7, 3) := by decide +kernel
theorem d_Model_same_78 : decode b_Model_same 78 = .ok (.iconst 1, 1) := by decide +kernel
theorem d_Model_same_79 : decode b_Model_same 79 = .ok (.goto 4, 3) := by decide +kernel
theorem d_Model_same_82 : decode b_Model_same 82 = .ok (.iconst 0, 1) := by decide +kernel
theorem d_Model_same_83 : decode b_Model_same 83 = .ok (.istore_n 3, 1) := by decide +kernel
theorem d_Model_same_84 : decode b_Model_same 84 = .ok (.iinc 4 1, 3) := by decide +kernel
theorem d_Model_same_87 : decode b_Model_same 87 = .ok (.goto (-47), 3) := by decide +kernel
theorem d_Model_same_90 : decode b_Model_same 90 = .ok (.iconst 0, 1) := by decide +kernel
theorem d_Model_same_91 : decode b_Model_same 91 = .ok (.istore 4, 2) := by decide +kernel
theorem d_Model_same_93 : decode b_Model_same 93 = .ok (.iload 4, 2) := by decide +kernel
theorem d_Model_same_95 : decode b_Model_same 95 = .ok (.bipush 8, 2) := by decide +kernel
theorem d_Model_same_97 : decode b_Model_same 97 = .ok (.if_icmp .ge 46, 3) := by decide +kernel
theorem d_Model_same_100 : decode b_Model_same 100 = .ok (.iload_n 3, 1) := by decide +kernel
theorem d_Model_same_101 : decode b_Model_same 101 = .ok (.ifCond .eq 34, 3) := by decide +kernel
theorem d_Model_same_104 : decode b_Model_same 104 = .ok (.aload_n 0, 1) := by decide +kernel
theorem d_Model_same_105 : decode b_Model_same 105 = .ok (.getfield 13, 3) := by decide +kernel
theorem d_Model_same_108 : decode b_Model_same 108 = .ok (.bipush 8, 2) := by decide +kernel
theorem d_Model_same_110 : decode b_Model_same 110 = .ok (.iload_n 1, 1) := by decide +kernel
theorem d_Model_same_111 : decode b_Model_same 111 = .ok (.imul, 1) := by decide +kernel
theorem d_Model_same_112 : decode b_Model_same 112 = .ok (.iload 4, 2) := by decide +kernel
theorem d_Model_same_114 : decode b_Model_same 114 = .ok (.iadd, 1) := by decide +kernel
theorem d_Model_same_115 : decode b_Model_same 115 = .ok (.iaload, 1) := by decide +kernel
theorem d_Model_same_116 : decode b_Model_same 116 = .ok (.aload_n 0, 1) := by decide +kernel
theorem d_Model_same_117 : decode b_Model_same 117 = .ok (.getfield 13, 3) := by decide +kernel
theorem d_Model_same_120 : decode b_Model_same 120 = .ok (.bipush 8, 2) := by decide +kernel
theorem d_Model_same_122 : decode b_Model_same 122 = .ok (.iload_n 2, 1) := by decide +kernel
theorem d_Model_same_123 : decode b_Model_same 123 = .ok (.imul, 1) := by decide +kernel
theorem d_Model_same_124 : decode b_Model_same 124 = .ok (.iload 4, 2) := by decide +kernel
theorem d_Model_same_126 : decode b_Model_same 126 = .ok (.iadd, 1) := by decide +kernel
theorem d_Model_same_127 : decode b_Model_same 127 = .ok (.iaload, 1) := by decide +kernel
theorem d_Model_same_128 : decode b_Model_same 128 = .ok (.if_icmp .ne 7, 3) := by decide +kernel
theorem d_Model_same_131 : decode b_Model_same 131 = .ok (.iconst 1, 1) := by decide +kernel
theorem d_Model_same_132 : decode b_Model_same 132 = .ok (.goto 4, 3) := by decide +kernel
theorem d_Model_same_135 : decode b_Model_same 135 = .ok (.iconst 0, 1) := by decide +kernel
theorem d_Model_same_136 : decode b_Model_same 136 = .ok (.istore_n 3, 1) := by decide +kernel
theorem d_Model_same_137 : decode b_Model_same 137 = .ok (.iinc 4 1, 3) := by decide +kernel
theorem d_Model_same_140 : decode b_Model_same 140 = .ok (.goto (-47), 3) := by decide +kernel
theorem d_Model_same_143 : decode b_Model_same 143 = .ok (.iload_n 3, 1) := by decide +kernel
theorem d_Model_same_144 : decode b_Model_same 144 = .ok (.ireturn, 1) := by decide +kernel
theorem d_Model_telescope_0 : decode b_Model_telescope 0 = .ok (.iload_n 1, 1) := by decide +kernel
theorem d_Model_telescope_1 : decode b_Model_telescope 1 = .ok (.invokestatic 77, 3) := by decide +kernel
theorem d_Model_telescope_4 : decode b_Model_telescope 4 = .ok (.ifCond .eq 22, 3) := by decide +kernel
theorem d_Model_telescope_7 : decode b_Model_telescope 7 = .ok (.iload_n 2, 1) := by decide +kernel
theorem d_Model_telescope_8 : decode b_Model_telescope 8 = .ok (.invokestatic 77, 3) := by decide +kernel
theorem d_Model_telescope_11 : decode b_Model_telescope 11 = .ok (.ifCond .eq 15, 3) := by decide +kernel
theorem d_Model_telescope_14 : decode b_Model_telescope 14 = .ok (.iload_n 3, 1) := by decide +kernel
theorem d_Model_telescope_15 : decode b_Model_telescope 15 = .ok (.invokestatic 77, 3) := by decide +kernel
theorem d_Model_telescope_18 : decode b_Model_telescope 18 = .ok (.ifCond .eq 8, 3) := by decide +kernel
theorem d_Model_telescope_21 : decode b_Model_telescope 21 = .ok (.iload_n 1, 1) := by decide +kernel
theorem d_Model_telescope_22 : decode b_Model_telescope 22 = .ok (.iload_n 2, 1) := by decide +kernel
theorem d_Model_telescope_23 : decode b_Model_telescope 23 = .ok (.if_icmp .ne 6, 3) := by decide +kernel
theorem d_Model_telescope_26 : decode b_Model_telescope 26 = .ok (.bipush (-9), 2) := by decide +kernel
theorem d_Model_telescope_28 : decode b_Model_telescope 28 = .ok (.ireturn, 1) := by decide +kernel
theorem d_Model_telescope_29 : decode b_Model_telescope 29 = .ok (.aload_n 0, 1) := by decide +kernel
theorem d_Model_telescope_30 : decode b_Model_telescope 30 = .ok (.getfield 16, 3) := by decide +kernel
theorem d_Model_telescope_33 : decode b_Model_telescope 33 = .ok (.iload_n 3, 1) := by decide +kernel
theorem d_Model_telescope_34 : decode b_Model_telescope 34 = .ok (.iaload, 1) := by decide +kernel
theorem d_Model_telescope_35 : decode b_Model_telescope 35 = .ok (.istore 4, 2) := by decide +kernel
theorem d_Model_telescope_37 : decode b_Model_telescope 37 = .ok (.aload_n 0, 1) := by decide +kernel
theorem d_Model_telescope_38 : decode b_Model_telescope 38 = .ok (.iload_n 3, 1) := by decide +kernel
theorem d_Model_telescope_39 : decode b_Model_telescope 39 = .ok (.invokevirtual 121, 3) := by decide +kernel
theorem d_Model_telescope_42 : decode b_Model_telescope 42 = .ok (.aload_n 0, 1) := by decide +kernel
theorem d_Model_telescope_43 : decode b_Model_telescope 43 = .ok (.iload 4, 2) := by decide +kernel
theorem d_Model_telescope_45 : decode b_Model_telescope 45 = .ok (.invokevirtual 124, 3) := by decide +kernel
theorem d_Model_telescope_48 : decode b_Model_telescope 48 = .ok (.aload_n 0, 1) := by decide +kernel
theorem d_Model_telescope_49 : decode b_Model_telescope 49 = .ok (.iload_n 1, 1) := by decide +kernel
theorem d_Model_telescope_50 : decode b_Model_telescope 50 = .ok (.invokevirtual 84, 3) := by decide +kernel
theorem d_Model_telescope_53 : decode b_Model_telescope 53 = .ok (.ifCond .eq 6, 3) := by decide +kernel
theorem d_Model_telescope_56 : decode b_Model_telescope 56 = .ok (.bipush (-7), 2) := by decide +kernel
theorem d_Model_telescope_58 : decode b_Model_telescope 58 = .ok (.ireturn, 1) := by decide +kernel
theorem d_Model_telescope_59 : decode b_Model_telescope 59 = .ok (.iconst 1, 1) := by decide +kernel
theorem d_Model_telescope_60 : decode b_Model_telescope 60 = .ok (.iload 4, 2) := by decide +kernel
theorem d_Model_telescope_62 : decode b_Model_telescope 62 = .ok (.invokestatic 109, 3) := by decide +kernel
theorem d_Model_telescope_65 : decode b_Model_telescope 65 = .ok (.istore 5, 2) := by decide +kernel
theorem d_Model_telescope_67 : decode b_Model_telescope 67 = .ok (.aload_n 0, 1) := by decide +kernel
theorem d_Model_telescope_68 : decode b_Model_telescope 68 = .ok (.iload 4, 2) := by decide +kernel
theorem d_Model_telescope_70 : decode b_Model_telescope 70 = .ok (.invokevirtual 56, 3) := by decide +kernel
theorem d_Model_telescope_73 : decode b_Model_telescope 73 = .ok (.aload_n 0, 1) := by decide +kernel
theorem d_Model_telescope_74 : decode b_Model_telescope 74 = .ok (.getfield 22, 3) := by decide +kernel
theorem d_Model_telescope_77 : decode b_Model_telescope 77 = .ok (.iconst 0, 1) := by decide +kernel
theorem d_Model_telescope_78 : decode b_Model_telescope 78 = .ok (.iconst 3, 1) := by decide +kernel
theorem d_Model_telescope_79 : decode b_Model_telescope 79 = .ok (.iastore, 1) := by decide +kernel
theorem d_Model_telescope_80 : decode b_Model_telescope 80 = .ok (.iconst 1, 1) := by decide +kernel
theorem d_Model_telescope_81 : decode b_Model_telescope 81 = .ok (.istore 6, 2) := by decide +kernel
theorem d_Model_telescope_83 : decode b_Model_telescope 83 = .ok (.iload 6, 2) := by decide +kernel
theorem d_Model_telescope_85 : decode b_Model_telescope 85 = .ok (.iconst 3, 1) := by decide +kernel
theorem d_Model_telescope_86 : decode b_Model_telescope 86 = .ok (.if_icmp .gt 41, 3) := by decide +kernel
theorem d_Model_telescope_89 : decode b_Model_telescope 89 = .ok (.aload_n 0, 1) := by decide +kernel
theorem d_Model_telescope_90 : decode b_Model_telescope 90 = .ok (.getfield 19, 3) := by decide +kernel
theorem d_Model_telescope_93 : decode b_Model_telescope 93 = .ok (.iconst 3, 1) := by decide +kernel
theorem d_Model_telescope_94 : decode b_Model_telescope 94 = .ok (.iload 6, 2) := by decide +kernel
theorem d_Model_telescope_96 : decode b_Model_telescope 96 = .ok (.isub, 1) := by decide +kernel
theorem d_Model_telescope_97 : decode b_Model_telescope 97 = .ok (.aload_n 0, 1) := by decide +kernel
theorem d_Model_telescope_98 : decode b_Model_telescope 98 = .ok (.getfield 25, 3) := by decide +kernel
theorem d_Model_telescope_101 : decode b_Model_telescope 101 = .ok (.iload 6, 2) := by decide +kernel
theorem d_Model_telescope_103 : decode b_Model_telescope 103 = .ok (.iconst 1, 1) := by decide +kernel
theorem d_Model_telescope_104 : decode b_Model_telescope 104 = .ok (.isub, 1) := by decide +kernel
theorem d_Model_telescope_105 : decode b_Model_telescope 105 = .ok (.iaload, 1) := by decide +kernel
theorem d_Model_telescope_106 : decode b_Model_telescope 106 = .ok (.aload_n 0, 1) := by decide +kernel
theorem d_Model_telescope_107 : decode b_Model_telescope 107 = .ok (.iconst 0, 1) := by decide +kernel
theorem d_Model_telescope_108 : decode b_Model_telescope 108 = .ok (.iload 6, 2) := by decide +kernel
theorem d_Model_telescope_110 : decode b_Model_telescope 110 = .ok (.iload 5, 2) := by decide +kernel
theorem d_Model_telescope_112 : decode b_Model_telescope 112 = .ok (.invokevirtual 118, 3) := by decide +kernel
theorem d_Model_telescope_115 : decode b_Model_telescope 115 = .ok (.iadd, 1) := by decide +kernel
theorem d_Model_telescope_116 : decode b_Model_telescope 116 = .ok (.sipush 10007, 3) := by decide +kernel
theorem d_Model_telescope_119 : decode b_Model_telescope 119 = .ok (.irem, 1) := by decide +kernel
theorem d_Model_telescope_120 : decode b_Model_telescope 120 = .ok (.iastore, 1) := by decide +kernel
theorem d_Model_telescope_121 : decode b_Model_telescope 121 = .ok (.iinc 6 1, 3) := by decide +kernel
theorem d_Model_telescope_124 : decode b_Model_telescope 124 = .ok (.goto (-41), 3) := by decide +kernel
theorem d_Model_telescope_127 : decode b_Model_telescope 127 = .ok (.aload_n 0, 1) := by decide +kernel
theorem d_Model_telescope_128 : decode b_Model_telescope 128 = .ok (.iload_n 2, 1) := by decide +kernel
theorem d_Model_telescope_129 : decode b_Model_telescope 129 = .ok (.invokevirtual 84, 3) := by decide +kernel
theorem d_Model_telescope_132 : decode b_Model_telescope 132 = .ok (.pop, 1) := by decide +kernel
theorem d_Model_telescope_133 : decode b_Model_telescope 133 = .ok (.aload_n 0, 1) := by decide +kernel
theorem d_Model_telescope_134 : decode b_Model_telescope 134 = .ok (.iconst 0, 1) := by decide +kernel
theorem d_Model_telescope_135 : decode b_Model_telescope 135 = .ok (.invokevirtual 53, 3) := by decide +kernel
theorem d_Model_telescope_138 : decode b_Model_telescope 138 = .ok (.ifCond .ge 7, 3) := by decide +kernel
theorem d_Model_telescope_141 : decode b_Model_telescope 141 = .ok (.iconst 1, 1) := by decide +kernel
theorem d_Model_telescope_142 : decode b_Model_telescope 142 = .ok (.goto 4, 3) := by decide +kernel
theorem d_Model_telescope_145 : decode b_Model_telescope 145 = .ok (.iconst 0, 1) := by decide +kernel
theorem d_Model_telescope_146 : decode b_Model_telescope 146 = .ok (.ireturn, 1) := by decide +kernel
theorem d_Model_weigh_0 : decode b_Model_weigh 0 = .ok (.aload_n 0, 1) := by decide +kernel
theorem d_Model_weigh_1 : decode b_Model_weigh 1 = .ok (.sipush 240, 3) := by decide +kernel
theorem d_Model_weigh_4 : decode b_Model_weigh 4 = .ok (.iload_n 1, 1) := by decide +kernel
theorem d_Model_weigh_5 : decode b_Model_weigh 5 = .ok (.invokevirtual 90, 3) := by decide +kernel
theorem d_Model_weigh_8 : decode b_Model_weigh 8 = .ok (.iconst 0, 1) := by decide +kernel
theorem d_Model_weigh_9 : decode b_Model_weigh 9 = .ok (.istore_n 2, 1) := by decide +kernel
theorem d_Model_weigh_10 : decode b_Model_weigh 10 = .ok (.iload_n 2, 1) := by decide +kernel
theorem d_Model_weigh_11 : decode b_Model_weigh 11 = .ok (.bipush 8, 2) := by decide +kernel
theorem d_Model_weigh_13 : decode b_Model_weigh 13 = .ok (.if_icmp .ge 57, 3) := by decide +kernel
theorem d_Model_weigh_16 : decode b_Model_weigh 16 = .ok (.aload_n 0, 1) := by decide +kernel
theorem d_Model_weigh_17 : decode b_Model_weigh 17 = .ok (.getfield 31, 3) := by decide +kernel
theorem d_Model_weigh_20 : decode b_Model_weigh 20 = .ok (.iload_n 2, 1) := by decide +kernel
theorem d_Model_weigh_21 : decode b_Model_weigh 21 = .ok (.aload_n 0, 1) := by decide +kernel
theorem d_Model_weigh_22 : decode b_Model_weigh 22 = .ok (.getfield 13, 3) := by decide +kernel
theorem d_Model_weigh_25 : decode b_Model_weigh 25 = .ok (.bipush 8, 2) := by decide +kernel
theorem d_Model_weigh_27 : decode b_Model_weigh 27 = .ok (.iload_n 1, 1) := by decide +kernel
theorem d_Model_weigh_28 : decode b_Model_weigh 28 = .ok (.imul, 1) := by decide +kernel
theorem d_Model_weigh_29 : decode b_Model_weigh 29 = .ok (.iload_n 2, 1) := by decide +kernel
theorem d_Model_weigh_30 : decode b_Model_weigh 30 = .ok (.iadd, 1) := by decide +kernel
theorem d_Model_weigh_31 : decode b_Model_weigh 31 = .ok (.iaload, 1) := by decide +kernel
theorem d_Model_weigh_32 : decode b_Model_weigh 32 = .ok (.iastore, 1) := by decide +kernel
theorem d_Model_weigh_33 : decode b_Model_weigh 33 = .ok (.aload_n 0, 1) := by decide +kernel
theorem d_Model_weigh_34 : decode b_Model_weigh 34 = .ok (.getfield 25, 3) := by decide +kernel
theorem d_Model_weigh_37 : decode b_Model_weigh 37 = .ok (.iconst 3, 1) := by decide +kernel
theorem d_Model_weigh_38 : decode b_Model_weigh 38 = .ok (.iload_n 2, 1) := by decide +kernel
theorem d_Model_weigh_39 : decode b_Model_weigh 39 = .ok (.imul, 1) := by decide +kernel
theorem d_Model_weigh_40 : decode b_Model_weigh 40 = .ok (.iconst 0, 1) := by decide +kernel
theorem d_Model_weigh_41 : decode b_Model_weigh 41 = .ok (.iastore, 1) := by decide +kernel
theorem d_Model_weigh_42 : decode b_Model_weigh 42 = .ok (.aload_n 0, 1) := by decide +kernel
theorem d_Model_weigh_43 : decode b_Model_weigh 43 = .ok (.getfield 25, 3) := by decide +kernel
theorem d_Model_weigh_46 : decode b_Model_weigh 46 = .ok (.iconst 3, 1) := by decide +kernel
theorem d_Model_weigh_47 : decode b_Model_weigh 47 = .ok (.iload_n 2, 1) := by decide +kernel
theorem d_Model_weigh_48 : decode b_Model_weigh 48 = .ok (.imul, 1) := by decide +kernel
theorem d_Model_weigh_49 : decode b_Model_weigh 49 = .ok (.iconst 1, 1) := by decide +kernel
theorem d_Model_weigh_50 : decode b_Model_weigh 50 = .ok (.iadd, 1) := by decide +kernel
theorem d_Model_weigh_51 : decode b_Model_weigh 51 = .ok (.iconst 0, 1) := by decide +kernel
theorem d_Model_weigh_52 : decode b_Model_weigh 52 = .ok (.iastore, 1) := by decide +kernel
theorem d_Model_weigh_53 : decode b_Model_weigh 53 = .ok (.aload_n 0, 1) := by decide +kernel
theorem d_Model_weigh_54 : decode b_Model_weigh 54 = .ok (.getfield 25, 3) := by decide +kernel
theorem d_Model_weigh_57 : decode b_Model_weigh 57 = .ok (.iconst 3, 1) := by decide +kernel
theorem d_Model_weigh_58 : decode b_Model_weigh 58 = .ok (.iload_n 2, 1) := by decide +kernel
theorem d_Model_weigh_59 : decode b_Model_weigh 59 = .ok (.imul, 1) := by decide +kernel
theorem d_Model_weigh_60 : decode b_Model_weigh 60 = .ok (.iconst 2, 1) := by decide +kernel
theorem d_Model_weigh_61 : decode b_Model_weigh 61 = .ok (.iadd, 1) := by decide +kernel
theorem d_Model_weigh_62 : decode b_Model_weigh 62 = .ok (.iconst 0, 1) := by decide +kernel
theorem d_Model_weigh_63 : decode b_Model_weigh 63 = .ok (.iastore, 1) := by decide +kernel
theorem d_Model_weigh_64 : decode b_Model_weigh 64 = .ok (.iinc 2 1, 3) := by decide +kernel
theorem d_Model_weigh_67 : decode b_Model_weigh 67 = .ok (.goto (-57), 3) := by decide +kernel
theorem d_Model_weigh_70 : decode b_Model_weigh 70 = .ok (.iconst 0, 1) := by decide +kernel
theorem d_Model_weigh_71 : decode b_Model_weigh 71 = .ok (.istore_n 2, 1) := by decide +kernel
theorem d_Model_weigh_72 : decode b_Model_weigh 72 = .ok (.iload_n 2, 1) := by decide +kernel
theorem d_Model_weigh_73 : decode b_Model_weigh 73 = .ok (.bipush 8, 2) := by decide +kernel
theorem d_Model_weigh_75 : decode b_Model_weigh 75 = .ok (.if_icmp .ge 110, 3) := by decide +kernel
theorem d_Model_weigh_78 : decode b_Model_weigh 78 = .ok (.aload_n 0, 1) := by decide +kernel
theorem d_Model_weigh_79 : decode b_Model_weigh 79 = .ok (.getfield 31, 3) := by decide +kernel
theorem d_Model_weigh_82 : decode b_Model_weigh 82 = .ok (.iload_n 2, 1) := by decide +kernel
theorem d_Model_weigh_83 : decode b_Model_weigh 83 = .ok (.iaload, 1) := by decide +kernel
theorem d_Model_weigh_84 : decode b_Model_weigh 84 = .ok (.ifCond .le 95, 3) := by decide +kernel
theorem d_Model_weigh_87 : decode b_Model_weigh 87 = .ok (.aload_n 0, 1) := by decide +kernel
theorem d_Model_weigh_88 : decode b_Model_weigh 88 = .ok (.iload_n 2, 1) := by decide +kernel
theorem d_Model_weigh_89 : decode b_Model_weigh 89 = .ok (.aload_n 0, 1) := by decide +kernel
theorem d_Model_weigh_90 : decode b_Model_weigh 90 = .ok (.getfield 31, 3) := by decide +kernel
theorem d_Model_weigh_93 : decode b_Model_weigh 93 = .ok (.iload_n 2, 1) := by decide +kernel
theorem d_Model_weigh_94 : decode b_Model_weigh 94 = .ok (.iaload, 1) := by decide +kernel
theorem d_Model_weigh_95 : decode b_Model_weigh 95 = .ok (.invokevirtual 106, 3) := by decide +kernel
theorem d_Model_weigh_98 : decode b_Model_weigh 98 = .ok (.aload_n 0, 1) := by decide +kernel
theorem d_Model_weigh_99 : decode b_Model_weigh 99 = .ok (.sipush 160, 3) := by decide +kernel
theorem d_Model_weigh_102 : decode b_Model_weigh 102 = .ok (.iload_n 2, 1) := by decide +kernel
theorem d_Model_weigh_103 : decode b_Model_weigh 103 = .ok (.ineg, 1) := by decide +kernel
theorem d_Model_weigh_104 : decode b_Model_weigh 104 = .ok (.invokevirtual 59, 3) := by decide +kernel
theorem d_Model_weigh_107 : decode b_Model_weigh 107 = .ok (.istore_n 3, 1) := by decide +kernel
theorem d_Model_weigh_108 : decode b_Model_weigh 108 = .ok (.aload_n 0, 1) := by decide +kernel
theorem d_Model_weigh_109 : decode b_Model_weigh 109 = .ok (.sipush 240, 3) := by decide +kernel
theorem d_Model_weigh_112 : decode b_Model_weigh 112 = .ok (.iload_n 2, 1) := by decide +kernel
theorem d_Model_weigh_113 : decode b_Model_weigh 113 = .ok (.ineg, 1) := by decide +kernel
theorem d_Model_weigh_114 : decode b_Model_weigh 114 = .ok (.invokevirtual 59, 3) := by decide +kernel
theorem d_Model_weigh_117 : decode b_Model_weigh 117 = .ok (.iload_n 3, 1) := by decide +kernel
theorem d_Model_weigh_118 : decode b_Model_weigh 118 = .ok (.invokestatic 109, 3) := by decide +kernel
theorem d_Model_weigh_121 : decode b_Model_weigh 121 = .ok (.istore 4, 2) := by decide +kernel
theorem d_Model_weigh_123 : decode b_Model_weigh 123 = .ok (.aload_n 0, 1) := by decide +kernel
theorem d_Model_weigh_124 : decode b_Model_weigh 124 = .ok (.getfield 25, 3) := by decide +kernel
theorem d_Model_weigh_127 : decode b_Model_weigh 127 = .ok (.iconst 3, 1) := by decide +kernel
theorem d_Model_weigh_128 : decode b_Model_weigh 128 = .ok (.iload_n 2, 1) := by decide +kernel
theorem d_Model_weigh_129 : decode b_Model_weigh 129 = .ok (.imul, 1) := by decide +kernel
theorem d_Model_weigh_130 : decode b_Model_weigh 130 = .ok (.aload_n 0, 1) := by decide +kernel
theorem d_Model_weigh_131 : decode b_Model_weigh 131 = .ok (.getfield 31, 3) := by decide +kernel
theorem d_Model_weigh_134 : decode b_Model_weigh 134 = .ok (.iload_n 2, 1) := by decide +kernel
theorem d_Model_weigh_135 : decode b_Model_weigh 135 = .ok (.iaload, 1) := by decide +kernel
theorem d_Model_weigh_136 : decode b_Model_weigh 136 = .ok (.iadd, 1) := by decide +kernel
theorem d_Model_weigh_137 : decode b_Model_weigh 137 = .ok (.iconst 1, 1) := by decide +kernel
theorem d_Model_weigh_138 : decode b_Model_weigh 138 = .ok (.isub, 1) := by decide +kernel
theorem d_Model_weigh_139 : decode b_Model_weigh 139 = .ok (.iload 4, 2) := by decide +kernel
theorem d_Model_weigh_141 : decode b_Model_weigh 141 = .ok (.iastore, 1) := by decide +kernel
theorem d_Model_weigh_142 : decode b_Model_weigh 142 = .ok (.aload_n 0, 1) := by decide +kernel
theorem d_Model_weigh_143 : decode b_Model_weigh 143 = .ok (.sipush 240, 3) := by decide +kernel
theorem d_Model_weigh_146 : decode b_Model_weigh 146 = .ok (.sipush 160, 3) := by decide +kernel
theorem d_Model_weigh_149 : decode b_Model_weigh 149 = .ok (.sipush 10007, 3) := by decide +kernel
theorem d_Model_weigh_152 : decode b_Model_weigh 152 = .ok (.iload 4, 2) := by decide +kernel
theorem d_Model_weigh_154 : decode b_Model_weigh 154 = .ok (.isub, 1) := by decide +kernel
theorem d_Model_weigh_155 : decode b_Model_weigh 155 = .ok (.invokevirtual 97, 3) := by decide +kernel
theorem d_Model_weigh_158 : decode b_Model_weigh 158 = .ok (.aload_n 0, 1) := by decide +kernel
theorem d_Model_weigh_159 : decode b_Model_weigh 159 = .ok (.sipush 240, 3) := by decide +kernel
theorem d_Model_weigh_162 : decode b_Model_weigh 162 = .ok (.iload_n 2, 1) := by decide +kernel
theorem d_Model_weigh_163 : decode b_Model_weigh 163 = .ok (.invokevirtual 62, 3) := by decide +kernel
theorem d_Model_weigh_166 : decode b_Model_weigh 166 = .ok (.aload_n 0, 1) := by decide +kernel
theorem d_Model_weigh_167 : decode b_Model_weigh 167 = .ok (.getfield 31, 3) := by decide +kernel
theorem d_Model_weigh_170 : decode b_Model_weigh 170 = .ok (.iload_n 2, 1) := by decide +kernel
theorem d_Model_weigh_171 : decode b_Model_weigh 171 = .ok (.dup2, 1) := by decide +kernel
theorem d_Model_weigh_172 : decode b_Model_weigh 172 = .ok (.iaload, 1) := by decide +kernel
theorem d_Model_weigh_173 : decode b_Model_weigh 173 = .ok (.iconst 1, 1) := by decide +kernel
theorem d_Model_weigh_174 : decode b_Model_weigh 174 = .ok (.isub, 1) := by decide +kernel
theorem d_Model_weigh_175 : decode b_Model_weigh 175 = .ok (.iastore, 1) := by decide +kernel
theorem d_Model_weigh_176 : decode b_Model_weigh 176 = .ok (.goto (-98), 3) := by decide +kernel
theorem d_Model_weigh_179 : decode b_Model_weigh 179 = .ok (.iinc 2 1, 3) := by decide +kernel
theorem d_Model_weigh_182 : decode b_Model_weigh 182 = .ok (.goto (-110), 3) := by decide +kernel
theorem d_Model_weigh_185 : decode b_Model_weigh 185 = .ok (.return_, 1) := by decide +kernel
theorem d_Model_others_0 : decode b_Model_others 0 = .ok (.aload_n 0, 1) := by decide +kernel
theorem d_Model_others_1 : decode b_Model_others 1 = .ok (.sipush 160, 3) := by decide +kernel
theorem d_Model_others_4 : decode b_Model_others 4 = .ok (.invokevirtual 41, 3) := by decide +kernel
theorem d_Model_others_7 : decode b_Model_others 7 = .ok (.aload_n 0, 1) := by decide +kernel
theorem d_Model_others_8 : decode b_Model_others 8 = .ok (.getfield 19, 3) := by decide +kernel
theorem d_Model_others_11 : decode b_Model_others 11 = .ok (.sipush 160, 3) := by decide +kernel
theorem d_Model_others_14 : decode b_Model_others 14 = .ok (.iconst 1, 1) := by decide +kernel
theorem d_Model_others_15 : decode b_Model_others 15 = .ok (.iastore, 1) := by decide +kernel
theorem d_Model_others_16 : decode b_Model_others 16 = .ok (.iconst 0, 1) := by decide +kernel
theorem d_Model_others_17 : decode b_Model_others 17 = .ok (.istore_n 3, 1) := by decide +kernel
theorem d_Model_others_18 : decode b_Model_others 18 = .ok (.iload_n 3, 1) := by decide +kernel
theorem d_Model_others_19 : decode b_Model_others 19 = .ok (.bipush 8, 2) := by decide +kernel
theorem d_Model_others_21 : decode b_Model_others 21 = .ok (.if_icmp .ge 39, 3) := by decide +kernel
theorem d_Model_others_24 : decode b_Model_others 24 = .ok (.aload_n 0, 1) := by decide +kernel
theorem d_Model_others_25 : decode b_Model_others 25 = .ok (.sipush 160, 3) := by decide +kernel
theorem d_Model_others_28 : decode b_Model_others 28 = .ok (.iload_n 3, 1) := by decide +kernel
theorem d_Model_others_29 : decode b_Model_others 29 = .ok (.iload_n 3, 1) := by decide +kernel
theorem d_Model_others_30 : decode b_Model_others 30 = .ok (.iload_n 1, 1) := by decide +kernel
theorem d_Model_others_31 : decode b_Model_others 31 = .ok (.if_icmp .ne 14, 3) := by decide +kernel
theorem d_Model_others_34 : decode b_Model_others 34 = .ok (.aload_n 0, 1) := by decide +kernel
theorem d_Model_others_35 : decode b_Model_others 35 = .ok (.getfield 31, 3) := by decide +kernel
theorem d_Model_others_38 : decode b_Model_others 38 = .ok (.iload_n 3, 1) := by decide +kernel
theorem d_Model_others_39 : decode b_Model_others 39 = .ok (.iaload, 1) := by decide +kernel
theorem d_Model_others_40 : decode b_Model_others 40 = .ok (.iload_n 2, 1) := by decide +kernel
theorem d_Model_others_41 : decode b_Model_others 41 = .ok (.isub, 1) := by decide +kernel
theorem d_Model_others_42 : decode b_Model_others 42 = .ok (.goto 9, 3) := by decide +kernel
theorem d_Model_others_45 : decode b_Model_others 45 = .ok (.aload_n 0, 1) := by decide +kernel
theorem d_Model_others_46 : decode b_Model_others 46 = .ok (.getfield 31, 3) := by decide +kernel
theorem d_Model_others_49 : decode b_Model_others 49 = .ok (.iload_n 3, 1) := by decide +kernel
theorem d_Model_others_50 : decode b_Model_others 50 = .ok (.iaload, 1) := by decide +kernel
theorem d_Model_others_51 : decode b_Model_others 51 = .ok (.invokevirtual 93, 3) := by decide +kernel
theorem d_Model_others_54 : decode b_Model_others 54 = .ok (.iinc 3 1, 3) := by decide +kernel
theorem d_Model_others_57 : decode b_Model_others 57 = .ok (.goto (-39), 3) := by decide +kernel
theorem d_Model_others_60 : decode b_Model_others 60 = .ok (.return_, 1) := by decide +kernel
theorem d_Model_quotient_0 : decode b_Model_quotient 0 = .ok (.iload_n 0, 1) := by decide +kernel
theorem d_Model_quotient_1 : decode b_Model_quotient 1 = .ok (.iload_n 1, 1) := by decide +kernel
theorem d_Model_quotient_2 : decode b_Model_quotient 2 = .ok (.sipush 10005, 3) := by decide +kernel
theorem d_Model_quotient_5 : decode b_Model_quotient 5 = .ok (.invokestatic 37, 3) := by decide +kernel
theorem d_Model_quotient_8 : decode b_Model_quotient 8 = .ok (.imul, 1) := by decide +kernel
theorem d_Model_quotient_9 : decode b_Model_quotient 9 = .ok (.sipush 10007, 3) := by decide +kernel
theorem d_Model_quotient_12 : decode b_Model_quotient 12 = .ok (.irem, 1) := by decide +kernel
theorem d_Model_quotient_13 : decode b_Model_quotient 13 = .ok (.ireturn, 1) := by decide +kernel
theorem d_Model_raise_0 : decode b_Model_raise 0 = .ok (.iconst 1, 1) := by decide +kernel
theorem d_Model_raise_1 : decode b_Model_raise 1 = .ok (.istore_n 2, 1) := by decide +kernel
theorem d_Model_raise_2 : decode b_Model_raise 2 = .ok (.iload_n 0, 1) := by decide +kernel
theorem d_Model_raise_3 : decode b_Model_raise 3 = .ok (.istore_n 3, 1) := by decide +kernel
theorem d_Model_raise_4 : decode b_Model_raise 4 = .ok (.iload_n 1, 1) := by decide +kernel
theorem d_Model_raise_5 : decode b_Model_raise 5 = .ok (.istore 4, 2) := by decide +kernel
theorem d_Model_raise_7 : decode b_Model_raise 7 = .ok (.iload 4, 2) := by decide +kernel
theorem d_Model_raise_9 : decode b_Model_raise 9 = .ok (.ifCond .le 40, 3) := by decide +kernel
theorem d_Model_raise_12 : decode b_Model_raise 12 = .ok (.iload 4, 2) := by decide +kernel
theorem d_Model_raise_14 : decode b_Model_raise 14 = .ok (.iconst 2, 1) := by decide +kernel
theorem d_Model_raise_15 : decode b_Model_raise 15 = .ok (.irem, 1) := by decide +kernel
theorem d_Model_raise_16 : decode b_Model_raise 16 = .ok (.iconst 1, 1) := by decide +kernel
theorem d_Model_raise_17 : decode b_Model_raise 17 = .ok (.if_icmp .ne 13, 3) := by decide +kernel
theorem d_Model_raise_20 : decode b_Model_raise 20 = .ok (.iload_n 2, 1) := by decide +kernel
theorem d_Model_raise_21 : decode b_Model_raise 21 = .ok (.iload_n 3, 1) := by decide +kernel
theorem d_Model_raise_22 : decode b_Model_raise 22 = .ok (.imul, 1) := by decide +kernel
theorem d_Model_raise_23 : decode b_Model_raise 23 = .ok (.sipush 10007, 3) := by decide +kernel
theorem d_Model_raise_26 : decode b_Model_raise 26 = .ok (.irem, 1) := by decide +kernel
theorem d_Model_raise_27 : decode b_Model_raise 27 = .ok (.goto 4, 3) := by decide +kernel
theorem d_Model_raise_30 : decode b_Model_raise 30 = .ok (.iload_n 2, 1) := by decide +kernel
theorem d_Model_raise_31 : decode b_Model_raise 31 = .ok (.istore_n 2, 1) := by decide +kernel
theorem d_Model_raise_32 : decode b_Model_raise 32 = .ok (.iload_n 3, 1) := by decide +kernel
theorem d_Model_raise_33 : decode b_Model_raise 33 = .ok (.iload_n 3, 1) := by decide +kernel
theorem d_Model_raise_34 : decode b_Model_raise 34 = .ok (.imul, 1) := by decide +kernel
theorem d_Model_raise_35 : decode b_Model_raise 35 = .ok (.sipush 10007, 3) := by decide +kernel
theorem d_Model_raise_38 : decode b_Model_raise 38 = .ok (.irem, 1) := by decide +kernel
theorem d_Model_raise_39 : decode b_Model_raise 39 = .ok (.istore_n 3, 1) := by decide +kernel
theorem d_Model_raise_40 : decode b_Model_raise 40 = .ok (.iload 4, 2) := by decide +kernel
theorem d_Model_raise_42 : decode b_Model_raise 42 = .ok (.iconst 2, 1) := by decide +kernel
theorem d_Model_raise_43 : decode b_Model_raise 43 = .ok (.idiv, 1) := by decide +kernel
theorem d_Model_raise_44 : decode b_Model_raise 44 = .ok (.istore 4, 2) := by decide +kernel
theorem d_Model_raise_46 : decode b_Model_raise 46 = .ok (.goto (-39), 3) := by decide +kernel
theorem d_Model_raise_49 : decode b_Model_raise 49 = .ok (.iload_n 2, 1) := by decide +kernel
theorem d_Model_raise_50 : decode b_Model_raise 50 = .ok (.ireturn, 1) := by decide +kernel
theorem d_Model_total_0 : decode b_Model_total 0 = .ok (.iconst 1, 1) := by decide +kernel
theorem d_Model_total_1 : decode b_Model_total 1 = .ok (.iload_n 1, 1) := by decide +kernel
theorem d_Model_total_2 : decode b_Model_total 2 = .ok (.invokestatic 109, 3) := by decide +kernel
theorem d_Model_total_5 : decode b_Model_total 5 = .ok (.istore_n 2, 1) := by decide +kernel
theorem d_Model_total_6 : decode b_Model_total 6 = .ok (.aload_n 0, 1) := by decide +kernel
theorem d_Model_total_7 : decode b_Model_total 7 = .ok (.iload_n 1, 1) := by decide +kernel
theorem d_Model_total_8 : decode b_Model_total 8 = .ok (.invokevirtual 56, 3) := by decide +kernel
theorem d_Model_total_11 : decode b_Model_total 11 = .ok (.aload_n 0, 1) := by decide +kernel
theorem d_Model_total_12 : decode b_Model_total 12 = .ok (.iload_n 1, 1) := by decide +kernel
theorem d_Model_total_13 : decode b_Model_total 13 = .ok (.invokevirtual 115, 3) := by decide +kernel
theorem d_Model_total_16 : decode b_Model_total 16 = .ok (.iconst 0, 1) := by decide +kernel
theorem d_Model_total_17 : decode b_Model_total 17 = .ok (.istore_n 3, 1) := by decide +kernel
theorem d_Model_total_18 : decode b_Model_total 18 = .ok (.iload_n 3, 1) := by decide +kernel
theorem d_Model_total_19 : decode b_Model_total 19 = .ok (.bipush 8, 2) := by decide +kernel
theorem d_Model_total_21 : decode b_Model_total 21 = .ok (.if_icmp .ge 85, 3) := by decide +kernel
theorem d_Model_total_24 : decode b_Model_total 24 = .ok (.aload_n 0, 1) := by decide +kernel
theorem d_Model_total_25 : decode b_Model_total 25 = .ok (.getfield 31, 3) := by decide +kernel
theorem d_Model_total_28 : decode b_Model_total 28 = .ok (.iload_n 3, 1) := by decide +kernel
theorem d_Model_total_29 : decode b_Model_total 29 = .ok (.iconst 0, 1) := by decide +kernel
theorem d_Model_total_30 : decode b_Model_total 30 = .ok (.iastore, 1) := by decide +kernel
theorem d_Model_total_31 : decode b_Model_total 31 = .ok (.iconst 1, 1) := by decide +kernel
theorem d_Model_total_32 : decode b_Model_total 32 = .ok (.istore 4, 2) := by decide +kernel
theorem d_Model_total_34 : decode b_Model_total 34 = .ok (.iload 4, 2) := by decide +kernel
theorem d_Model_total_36 : decode b_Model_total 36 = .ok (.iconst 3, 1) := by decide +kernel
theorem d_Model_total_37 : decode b_Model_total 37 = .ok (.if_icmp .gt 63, 3) := by decide +kernel
theorem d_Model_total_40 : decode b_Model_total 40 = .ok (.aload_n 0, 1) := by decide +kernel
theorem d_Model_total_41 : decode b_Model_total 41 = .ok (.getfield 28, 3) := by decide +kernel
theorem d_Model_total_44 : decode b_Model_total 44 = .ok (.iconst 3, 1) := by decide +kernel
theorem d_Model_total_45 : decode b_Model_total 45 = .ok (.iload_n 3, 1) := by decide +kernel
theorem d_Model_total_46 : decode b_Model_total 46 = .ok (.imul, 1) := by decide +kernel
theorem d_Model_total_47 : decode b_Model_total 47 = .ok (.iload 4, 2) := by decide +kernel
theorem d_Model_total_49 : decode b_Model_total 49 = .ok (.iadd, 1) := by decide +kernel
theorem d_Model_total_50 : decode b_Model_total 50 = .ok (.iconst 1, 1) := by decide +kernel
theorem d_Model_total_51 : decode b_Model_total 51 = .ok (.isub, 1) := by decide +kernel
theorem d_Model_total_52 : decode b_Model_total 52 = .ok (.aload_n 0, 1) := by decide +kernel
theorem d_Model_total_53 : decode b_Model_total 53 = .ok (.iload_n 3, 1) := by decide +kernel
theorem d_Model_total_54 : decode b_Model_total 54 = .ok (.iload 4, 2) := by decide +kernel
theorem d_Model_total_56 : decode b_Model_total 56 = .ok (.iload_n 2, 1) := by decide +kernel
theorem d_Model_total_57 : decode b_Model_total 57 = .ok (.invokevirtual 118, 3) := by decide +kernel
theorem d_Model_total_60 : decode b_Model_total 60 = .ok (.iastore, 1) := by decide +kernel
theorem d_Model_total_61 : decode b_Model_total 61 = .ok (.aload_n 0, 1) := by decide +kernel
theorem d_Model_total_62 : decode b_Model_total 62 = .ok (.getfield 31, 3) := by decide +kernel
theorem d_Model_total_65 : decode b_Model_total 65 = .ok (.iload_n 3, 1) := by decide +kernel
theorem d_Model_total_66 : decode b_Model_total 66 = .ok (.aload_n 0, 1) := by decide +kernel
theorem d_Model_total_67 : decode b_Model_total 67 = .ok (.getfield 28, 3) := by decide +kernel
theorem d_Model_total_70 : decode b_Model_total 70 = .ok (.iconst 3, 1) := by decide +kernel
theorem d_Model_total_71 : decode b_Model_total 71 = .ok (.iload_n 3, 1) := by decide +kernel
theorem d_Model_total_72 : decode b_Model_total 72 = .ok (.imul, 1) := by decide +kernel
theorem d_Model_total_73 : decode b_Model_total 73 = .ok (.iload 4, 2) := by decide +kernel
theorem d_Model_total_75 : decode b_Model_total 75 = .ok (.iadd, 1) := by decide +kernel
theorem d_Model_total_76 : decode b_Model_total 76 = .ok (.iconst 1, 1) := by decide +kernel
theorem d_Model_total_77 : decode b_Model_total 77 = .ok (.isub, 1) := by decide +kernel
theorem d_Model_total_78 : decode b_Model_total 78 = .ok (.iaload, 1) := by decide +kernel
theorem d_Model_total_79 : decode b_Model_total 79 = .ok (.ifCond .eq 8, 3) := by decide +kernel
theorem d_Model_total_82 : decode b_Model_total 82 = .ok (.iload 4, 2) := by decide +kernel
theorem d_Model_total_84 : decode b_Model_total 84 = .ok (.goto 9, 3) := by decide +kernel
theorem d_Model_total_87 : decode b_Model_total 87 = .ok (.aload_n 0, 1) := by decide +kernel
theorem d_Model_total_88 : decode b_Model_total 88 = .ok (.getfield 31, 3) := by decide +kernel
theorem d_Model_total_91 : decode b_Model_total 91 = .ok (.iload_n 3, 1) := by decide +kernel
theorem d_Model_total_92 : decode b_Model_total 92 = .ok (.iaload, 1) := by decide +kernel
theorem d_Model_total_93 : decode b_Model_total 93 = .ok (.iastore, 1) := by decide +kernel
theorem d_Model_total_94 : decode b_Model_total 94 = .ok (.iinc 4 1, 3) := by decide +kernel
theorem d_Model_total_97 : decode b_Model_total 97 = .ok (.goto (-63), 3) := by decide +kernel
theorem d_Model_total_100 : decode b_Model_total 100 = .ok (.iinc 3 1, 3) := by decide +kernel
theorem d_Model_total_103 : decode b_Model_total 103 = .ok (.goto (-85), 3) := by decide +kernel
theorem d_Model_total_106 : decode b_Model_total 106 = .ok (.iconst 0, 1) := by decide +kernel
theorem d_Model_total_107 : decode b_Model_total 107 = .ok (.istore_n 3, 1) := by decide +kernel
theorem d_Model_total_108 : decode b_Model_total 108 = .ok (.iload_n 3, 1) := by decide +kernel
theorem d_Model_total_109 : decode b_Model_total 109 = .ok (.bipush 8, 2) := by decide +kernel
theorem d_Model_total_111 : decode b_Model_total 111 = .ok (.if_icmp .ge 33, 3) := by decide +kernel
theorem d_Model_total_114 : decode b_Model_total 114 = .ok (.aload_n 0, 1) := by decide +kernel
theorem d_Model_total_115 : decode b_Model_total 115 = .ok (.iconst 0, 1) := by decide +kernel
theorem d_Model_total_116 : decode b_Model_total 116 = .ok (.iload_n 3, 1) := by decide +kernel
theorem d_Model_total_117 : decode b_Model_total 117 = .ok (.aload_n 0, 1) := by decide +kernel
theorem d_Model_total_118 : decode b_Model_total 118 = .ok (.getfield 31, 3) := by decide +kernel
theorem d_Model_total_121 : decode b_Model_total 121 = .ok (.iload_n 3, 1) := by decide +kernel
theorem d_Model_total_122 : decode b_Model_total 122 = .ok (.iaload, 1) := by decide +kernel
theorem d_Model_total_123 : decode b_Model_total 123 = .ok (.invokevirtual 93, 3) := by decide +kernel
theorem d_Model_total_126 : decode b_Model_total 126 = .ok (.aload_n 0, 1) := by decide +kernel
theorem d_Model_total_127 : decode b_Model_total 127 = .ok (.getfield 22, 3) := by decide +kernel
theorem d_Model_total_130 : decode b_Model_total 130 = .ok (.iload_n 3, 1) := by decide +kernel
theorem d_Model_total_131 : decode b_Model_total 131 = .ok (.aload_n 0, 1) := by decide +kernel
theorem d_Model_total_132 : decode b_Model_total 132 = .ok (.getfield 31, 3) := by decide +kernel
theorem d_Model_total_135 : decode b_Model_total 135 = .ok (.iload_n 3, 1) := by decide +kernel
theorem d_Model_total_136 : decode b_Model_total 136 = .ok (.iaload, 1) := by decide +kernel
theorem d_Model_total_137 : decode b_Model_total 137 = .ok (.iastore, 1) := by decide +kernel
theorem d_Model_total_138 : decode b_Model_total 138 = .ok (.iinc 3 1, 3) := by decide +kernel
theorem d_Model_total_141 : decode b_Model_total 141 = .ok (.goto (-33), 3) := by decide +kernel
theorem d_Model_total_144 : decode b_Model_total 144 = .ok (.iconst 0, 1) := by decide +kernel
theorem d_Model_total_145 : decode b_Model_total 145 = .ok (.istore_n 3, 1) := by decide +kernel
theorem d_Model_total_146 : decode b_Model_total 146 = .ok (.iload_n 3, 1) := by decide +kernel
theorem d_Model_total_147 : decode b_Model_total 147 = .ok (.bipush 8, 2) := by decide +kernel
theorem d_Model_total_149 : decode b_Model_total 149 = .ok (.if_icmp .ge 57, 3) := by decide +kernel
theorem d_Model_total_152 : decode b_Model_total 152 = .ok (.iconst 1, 1) := by decide +kernel
theorem d_Model_total_153 : decode b_Model_total 153 = .ok (.istore 4, 2) := by decide +kernel
theorem d_Model_total_155 : decode b_Model_total 155 = .ok (.iload 4, 2) := by decide +kernel
theorem d_Model_total_157 : decode b_Model_total 157 = .ok (.aload_n 0, 1) := by decide +kernel
theorem d_Model_total_158 : decode b_Model_total 158 = .ok (.getfield 31, 3) := by decide +kernel
theorem d_Model_total_161 : decode b_Model_total 161 = .ok (.iload_n 3, 1) := by decide +kernel
theorem d_Model_total_162 : decode b_Model_total 162 = .ok (.iaload, 1) := by decide +kernel
theorem d_Model_total_163 : decode b_Model_total 163 = .ok (.if_icmp .gt 37, 3) := by decide +kernel
theorem d_Model_total_166 : decode b_Model_total 166 = .ok (.aload_n 0, 1) := by decide +kernel
theorem d_Model_total_167 : decode b_Model_total 167 = .ok (.iload_n 3, 1) := by decide +kernel
theorem d_Model_total_168 : decode b_Model_total 168 = .ok (.iload 4, 2) := by decide +kernel
theorem d_Model_total_170 : decode b_Model_total 170 = .ok (.invokevirtual 106, 3) := by decide +kernel
theorem d_Model_total_173 : decode b_Model_total 173 = .ok (.aload_n 0, 1) := by decide +kernel
theorem d_Model_total_174 : decode b_Model_total 174 = .ok (.iconst 0, 1) := by decide +kernel
theorem d_Model_total_175 : decode b_Model_total 175 = .ok (.sipush 160, 3) := by decide +kernel
theorem d_Model_total_178 : decode b_Model_total 178 = .ok (.aload_n 0, 1) := by decide +kernel
theorem d_Model_total_179 : decode b_Model_total 179 = .ok (.getfield 28, 3) := by decide +kernel
theorem d_Model_total_182 : decode b_Model_total 182 = .ok (.iconst 3, 1) := by decide +kernel
theorem d_Model_total_183 : decode b_Model_total 183 = .ok (.iload_n 3, 1) := by decide +kernel
theorem d_Model_total_184 : decode b_Model_total 184 = .ok (.imul, 1) := by decide +kernel
theorem d_Model_total_185 : decode b_Model_total 185 = .ok (.iload 4, 2) := by decide +kernel
theorem d_Model_total_187 : decode b_Model_total 187 = .ok (.iadd, 1) := by decide +kernel
theorem d_Model_total_188 : decode b_Model_total 188 = .ok (.iconst 1, 1) := by decide +kernel
theorem d_Model_total_189 : decode b_Model_total 189 = .ok (.isub, 1) := by decide +kernel
theorem d_Model_total_190 : decode b_Model_total 190 = .ok (.iaload, 1) := by decide +kernel
theorem d_Model_total_191 : decode b_Model_total 191 = .ok (.invokevirtual 97, 3) := by decide +kernel
theorem d_Model_total_194 : decode b_Model_total 194 = .ok (.iinc 4 1, 3) := by decide +kernel
theorem d_Model_total_197 : decode b_Model_total 197 = .ok (.goto (-42), 3) := by decide +kernel
theorem d_Model_total_200 : decode b_Model_total 200 = .ok (.iinc 3 1, 3) := by decide +kernel
theorem d_Model_total_203 : decode b_Model_total 203 = .ok (.goto (-57), 3) := by decide +kernel
theorem d_Model_total_206 : decode b_Model_total 206 = .ok (.return_, 1) := by decide +kernel
theorem d_Model_solve_0 : decode b_Model_solve 0 = .ok (.iconst 1, 1) := by decide +kernel
theorem d_Model_solve_1 : decode b_Model_solve 1 = .ok (.iload_n 1, 1) := by decide +kernel
theorem d_Model_solve_2 : decode b_Model_solve 2 = .ok (.invokestatic 109, 3) := by decide +kernel
theorem d_Model_solve_5 : decode b_Model_solve 5 = .ok (.istore_n 2, 1) := by decide +kernel
theorem d_Model_solve_6 : decode b_Model_solve 6 = .ok (.aload_n 0, 1) := by decide +kernel
theorem d_Model_solve_7 : decode b_Model_solve 7 = .ok (.getfield 34, 3) := by decide +kernel
theorem d_Model_solve_10 : decode b_Model_solve 10 = .ok (.iconst 0, 1) := by decide +kernel
theorem d_Model_solve_11 : decode b_Model_solve 11 = .ok (.iconst 0, 1) := by decide +kernel
theorem d_Model_solve_12 : decode b_Model_solve 12 = .ok (.iastore, 1) := by decide +kernel
theorem d_Model_solve_13 : decode b_Model_solve 13 = .ok (.iconst 0, 1) := by decide +kernel
theorem d_Model_solve_14 : decode b_Model_solve 14 = .ok (.istore_n 3, 1) := by decide +kernel
theorem d_Model_solve_15 : decode b_Model_solve 15 = .ok (.iload_n 3, 1) := by decide +kernel
theorem d_Model_solve_16 : decode b_Model_solve 16 = .ok (.bipush 32, 2) := by decide +kernel
theorem d_Model_solve_18 : decode b_Model_solve 18 = .ok (.if_icmp .ge 42, 3) := by decide +kernel
theorem d_Model_solve_21 : decode b_Model_solve 21 = .ok (.aload_n 0, 1) := by decide +kernel
theorem d_Model_solve_22 : decode b_Model_solve 22 = .ok (.getfield 34, 3) := by decide +kernel
theorem d_Model_solve_25 : decode b_Model_solve 25 = .ok (.iload_n 3, 1) := by decide +kernel
theorem d_Model_solve_26 : decode b_Model_solve 26 = .ok (.iconst 1, 1) := by decide +kernel
theorem d_Model_solve_27 : decode b_Model_solve 27 = .ok (.iadd, 1) := by decide +kernel
theorem d_Model_solve_28 : decode b_Model_solve 28 = .ok (.aload_n 0, 1) := by decide +kernel
theorem d_Model_solve_29 : decode b_Model_solve 29 = .ok (.getfield 34, 3) := by decide +kernel
theorem d_Model_solve_32 : decode b_Model_solve 32 = .ok (.iload_n 3, 1) := by decide +kernel
theorem d_Model_solve_33 : decode b_Model_solve 33 = .ok (.iaload, 1) := by decide +kernel
theorem d_Model_solve_34 : decode b_Model_solve 34 = .ok (.aload_n 0, 1) := by decide +kernel
theorem d_Model_solve_35 : decode b_Model_solve 35 = .ok (.sipush 240, 3) := by decide +kernel
theorem d_Model_solve_38 : decode b_Model_solve 38 = .ok (.iload_n 3, 1) := by decide +kernel
theorem d_Model_solve_39 : decode b_Model_solve 39 = .ok (.invokevirtual 59, 3) := by decide +kernel
theorem d_Model_solve_42 : decode b_Model_solve 42 = .ok (.iadd, 1) := by decide +kernel
theorem d_Model_solve_43 : decode b_Model_solve 43 = .ok (.sipush 10007, 3) := by decide +kernel
theorem d_Model_solve_46 : decode b_Model_solve 46 = .ok (.irem, 1) := by decide +kernel
theorem d_Model_solve_47 : decode b_Model_solve 47 = .ok (.iload_n 2, 1) := by decide +kernel
theorem d_Model_solve_48 : decode b_Model_solve 48 = .ok (.imul, 1) := by decide +kernel
theorem d_Model_solve_49 : decode b_Model_solve 49 = .ok (.sipush 10007, 3) := by decide +kernel
theorem d_Model_solve_52 : decode b_Model_solve 52 = .ok (.irem, 1) := by decide +kernel
theorem d_Model_solve_53 : decode b_Model_solve 53 = .ok (.iastore, 1) := by decide +kernel
theorem d_Model_solve_54 : decode b_Model_solve 54 = .ok (.iinc 3 1, 3) := by decide +kernel
theorem d_Model_solve_57 : decode b_Model_solve 57 = .ok (.goto (-42), 3) := by decide +kernel
theorem d_Model_solve_60 : decode b_Model_solve 60 = .ok (.aload_n 0, 1) := by decide +kernel
theorem d_Model_solve_61 : decode b_Model_solve 61 = .ok (.invokevirtual 112, 3) := by decide +kernel
theorem d_Model_solve_64 : decode b_Model_solve 64 = .ok (.iload_n 1, 1) := by decide +kernel
theorem d_Model_solve_65 : decode b_Model_solve 65 = .ok (.iconst 1, 1) := by decide +kernel
theorem d_Model_solve_66 : decode b_Model_solve 66 = .ok (.if_icmp .eq 83, 3) := by decide +kernel
theorem d_Model_solve_69 : decode b_Model_solve 69 = .ok (.iload_n 2, 1) := by decide +kernel
theorem d_Model_solve_70 : decode b_Model_solve 70 = .ok (.iconst 1, 1) := by decide +kernel
theorem d_Model_solve_71 : decode b_Model_solve 71 = .ok (.isub, 1) := by decide +kernel
theorem d_Model_solve_72 : decode b_Model_solve 72 = .ok (.invokestatic 45, 3) := by decide +kernel
theorem d_Model_solve_75 : decode b_Model_solve 75 = .ok (.istore_n 3, 1) := by decide +kernel
theorem d_Model_solve_76 : decode b_Model_solve 76 = .ok (.aload_n 0, 1) := by decide +kernel
theorem d_Model_solve_77 : decode b_Model_solve 77 = .ok (.getfield 34, 3) := by decide +kernel
theorem d_Model_solve_80 : decode b_Model_solve 80 = .ok (.bipush 32, 2) := by decide +kernel
theorem d_Model_solve_82 : decode b_Model_solve 82 = .ok (.iaload, 1) := by decide +kernel
theorem d_Model_solve_83 : decode b_Model_solve 83 = .ok (.ineg, 1) := by decide +kernel
theorem d_Model_solve_84 : decode b_Model_solve 84 = .ok (.invokestatic 45, 3) := by decide +kernel
theorem d_Model_solve_87 : decode b_Model_solve 87 = .ok (.iload_n 3, 1) := by decide +kernel
theorem d_Model_solve_88 : decode b_Model_solve 88 = .ok (.bipush 32, 2) := by decide +kernel
theorem d_Model_solve_90 : decode b_Model_solve 90 = .ok (.invokestatic 37, 3) := by decide +kernel
theorem d_Model_solve_93 : decode b_Model_solve 93 = .ok (.invokestatic 109, 3) := by decide +kernel
theorem d_Model_solve_96 : decode b_Model_solve 96 = .ok (.istore 4, 2) := by decide +kernel
theorem d_Model_solve_98 : decode b_Model_solve 98 = .ok (.iload 4, 2) := by decide +kernel
theorem d_Model_solve_100 : decode b_Model_solve 100 = .ok (.istore 5, 2) := by decide +kernel
theorem d_Model_solve_102 : decode b_Model_solve 102 = .ok (.iconst 0, 1) := by decide +kernel
theorem d_Model_solve_103 : decode b_Model_solve 103 = .ok (.istore 6, 2) := by decide +kernel
theorem d_Model_solve_105 : decode b_Model_solve 105 = .ok (.iload 6, 2) := by decide +kernel
theorem d_Model_solve_107 : decode b_Model_solve 107 = .ok (.bipush 33, 2) := by decide +kernel
theorem d_Model_solve_109 : decode b_Model_solve 109 = .ok (.if_icmp .ge 40, 3) := by decide +kernel
theorem d_Model_solve_112 : decode b_Model_solve 112 = .ok (.aload_n 0, 1) := by decide +kernel
theorem d_Model_solve_113 : decode b_Model_solve 113 = .ok (.getfield 34, 3) := by decide +kernel
theorem d_Model_solve_116 : decode b_Model_solve 116 = .ok (.iload 6, 2) := by decide +kernel
theorem d_Model_solve_118 : decode b_Model_solve 118 = .ok (.aload_n 0, 1) := by decide +kernel
theorem d_Model_solve_119 : decode b_Model_solve 119 = .ok (.getfield 34, 3) := by decide +kernel
theorem d_Model_solve_122 : decode b_Model_solve 122 = .ok (.iload 6, 2) := by decide +kernel
theorem d_Model_solve_124 : decode b_Model_solve 124 = .ok (.iaload, 1) := by decide +kernel
theorem d_Model_solve_125 : decode b_Model_solve 125 = .ok (.iload 5, 2) := by decide +kernel
theorem d_Model_solve_127 : decode b_Model_solve 127 = .ok (.iadd, 1) := by decide +kernel
theorem d_Model_solve_128 : decode b_Model_solve 128 = .ok (.sipush 10007, 3) := by decide +kernel
theorem d_Model_solve_131 : decode b_Model_solve 131 = .ok (.irem, 1) := by decide +kernel
theorem d_Model_solve_132 : decode b_Model_solve 132 = .ok (.iastore, 1) := by decide +kernel
theorem d_Model_solve_133 : decode b_Model_solve 133 = .ok (.iload 5, 2) := by decide +kernel
theorem d_Model_solve_135 : decode b_Model_solve 135 = .ok (.iload_n 3, 1) := by decide +kernel
theorem d_Model_solve_136 : decode b_Model_solve 136 = .ok (.imul, 1) := by decide +kernel
theorem d_Model_solve_137 : decode b_Model_solve 137 = .ok (.sipush 10007, 3) := by decide +kernel
theorem d_Model_solve_140 : decode b_Model_solve 140 = .ok (.irem, 1) := by decide +kernel
theorem d_Model_solve_141 : decode b_Model_solve 141 = .ok (.istore 5, 2) := by decide +kernel
theorem d_Model_solve_143 : decode b_Model_solve 143 = .ok (.iinc 6 1, 3) := by decide +kernel
theorem d_Model_solve_146 : decode b_Model_solve 146 = .ok (.goto (-41), 3) := by decide +kernel
theorem d_Model_solve_149 : decode b_Model_solve 149 = .ok (.aload_n 0, 1) := by decide +kernel
theorem d_Model_solve_150 : decode b_Model_solve 150 = .ok (.iconst 0, 1) := by decide +kernel
theorem d_Model_solve_151 : decode b_Model_solve 151 = .ok (.invokevirtual 41, 3) := by decide +kernel
theorem d_Model_solve_154 : decode b_Model_solve 154 = .ok (.iconst 1, 1) := by decide +kernel
theorem d_Model_solve_155 : decode b_Model_solve 155 = .ok (.istore_n 3, 1) := by decide +kernel
theorem d_Model_solve_156 : decode b_Model_solve 156 = .ok (.iconst 1, 1) := by decide +kernel
theorem d_Model_solve_157 : decode b_Model_solve 157 = .ok (.istore 4, 2) := by decide +kernel
theorem d_Model_solve_159 : decode b_Model_solve 159 = .ok (.iload 4, 2) := by decide +kernel
theorem d_Model_solve_161 : decode b_Model_solve 161 = .ok (.bipush 33, 2) := by decide +kernel
theorem d_Model_solve_163 : decode b_Model_solve 163 = .ok (.if_icmp .ge 18, 3) := by decide +kernel
theorem d_Model_solve_166 : decode b_Model_solve 166 = .ok (.iload_n 3, 1) := by decide +kernel
theorem d_Model_solve_167 : decode b_Model_solve 167 = .ok (.iload 4, 2) := by decide +kernel
theorem d_Model_solve_169 : decode b_Model_solve 169 = .ok (.imul, 1) := by decide +kernel
theorem d_Model_solve_170 : decode b_Model_solve 170 = .ok (.sipush 10007, 3) := by decide +kernel
theorem d_Model_solve_173 : decode b_Model_solve 173 = .ok (.irem, 1) := by decide +kernel
theorem d_Model_solve_174 : decode b_Model_solve 174 = .ok (.istore_n 3, 1) := by decide +kernel
theorem d_Model_solve_175 : decode b_Model_solve 175 = .ok (.iinc 4 1, 3) := by decide +kernel
theorem d_Model_solve_178 : decode b_Model_solve 178 = .ok (.goto (-19), 3) := by decide +kernel
theorem d_Model_solve_181 : decode b_Model_solve 181 = .ok (.bipush 32, 2) := by decide +kernel
theorem d_Model_solve_183 : decode b_Model_solve 183 = .ok (.istore 4, 2) := by decide +kernel
theorem d_Model_solve_185 : decode b_Model_solve 185 = .ok (.iload 4, 2) := by decide +kernel
theorem d_Model_solve_187 : decode b_Model_solve 187 = .ok (.ifCond .lt 62, 3) := by decide +kernel
theorem d_Model_solve_190 : decode b_Model_solve 190 = .ok (.aload_n 0, 1) := by decide +kernel
theorem d_Model_solve_191 : decode b_Model_solve 191 = .ok (.iconst 0, 1) := by decide +kernel
theorem d_Model_solve_192 : decode b_Model_solve 192 = .ok (.iload 4, 2) := by decide +kernel
theorem d_Model_solve_194 : decode b_Model_solve 194 = .ok (.ineg, 1) := by decide +kernel
theorem d_Model_solve_195 : decode b_Model_solve 195 = .ok (.iconst 1, 1) := by decide +kernel
theorem d_Model_solve_196 : decode b_Model_solve 196 = .ok (.invokevirtual 93, 3) := by decide +kernel
theorem d_Model_solve_199 : decode b_Model_solve 199 = .ok (.aload_n 0, 1) := by decide +kernel
theorem d_Model_solve_200 : decode b_Model_solve 200 = .ok (.getfield 19, 3) := by decide +kernel
theorem d_Model_solve_203 : decode b_Model_solve 203 = .ok (.iconst 0, 1) := by decide +kernel
theorem d_Model_solve_204 : decode b_Model_solve 204 = .ok (.aload_n 0, 1) := by decide +kernel
theorem d_Model_solve_205 : decode b_Model_solve 205 = .ok (.getfield 19, 3) := by decide +kernel
theorem d_Model_solve_208 : decode b_Model_solve 208 = .ok (.iconst 0, 1) := by decide +kernel
theorem d_Model_solve_209 : decode b_Model_solve 209 = .ok (.iaload, 1) := by decide +kernel
theorem d_Model_solve_210 : decode b_Model_solve 210 = .ok (.aload_n 0, 1) := by decide +kernel
theorem d_Model_solve_211 : decode b_Model_solve 211 = .ok (.getfield 34, 3) := by decide +kernel
theorem d_Model_solve_214 : decode b_Model_solve 214 = .ok (.iload 4, 2) := by decide +kernel
theorem d_Model_solve_216 : decode b_Model_solve 216 = .ok (.iaload, 1) := by decide +kernel
theorem d_Model_solve_217 : decode b_Model_solve 217 = .ok (.iload_n 3, 1) := by decide +kernel
theorem d_Model_solve_218 : decode b_Model_solve 218 = .ok (.invokestatic 109, 3) := by decide +kernel
theorem d_Model_solve_221 : decode b_Model_solve 221 = .ok (.iadd, 1) := by decide +kernel
theorem d_Model_solve_222 : decode b_Model_solve 222 = .ok (.sipush 10007, 3) := by decide +kernel
theorem d_Model_solve_225 : decode b_Model_solve 225 = .ok (.irem, 1) := by decide +kernel
theorem d_Model_solve_226 : decode b_Model_solve 226 = .ok (.iastore, 1) := by decide +kernel
theorem d_Model_solve_227 : decode b_Model_solve 227 = .ok (.iload 4, 2) := by decide +kernel
theorem d_Model_solve_229 : decode b_Model_solve 229 = .ok (.ifCond .ne 7, 3) := by decide +kernel
theorem d_Model_solve_232 : decode b_Model_solve 232 = .ok (.iconst 1, 1) := by decide +kernel
theorem d_Model_solve_233 : decode b_Model_solve 233 = .ok (.goto 9, 3) := by decide +kernel
theorem d_Model_solve_236 : decode b_Model_solve 236 = .ok (.iload_n 3, 1) := by decide +kernel
theorem d_Model_solve_237 : decode b_Model_solve 237 = .ok (.iload 4, 2) := by decide +kernel
theorem d_Model_solve_239 : decode b_Model_solve 239 = .ok (.invokestatic 109, 3) := by decide +kernel
theorem d_Model_solve_242 : decode b_Model_solve 242 = .ok (.istore_n 3, 1) := by decide +kernel
theorem d_Model_solve_243 : decode b_Model_solve 243 = .ok (.iinc 4 (-1), 3) := by decide +kernel
theorem d_Model_solve_246 : decode b_Model_solve 246 = .ok (.goto (-61), 3) := by decide +kernel
theorem d_Model_solve_249 : decode b_Model_solve 249 = .ok (.return_, 1) := by decide +kernel
theorem d_Model_differences_0 : decode b_Model_differences 0 = .ok (.iconst 1, 1) := by decide +kernel
theorem d_Model_differences_1 : decode b_Model_differences 1 = .ok (.istore_n 1, 1) := by decide +kernel
theorem d_Model_differences_2 : decode b_Model_differences 2 = .ok (.iload_n 1, 1) := by decide +kernel
theorem d_Model_differences_3 : decode b_Model_differences 3 = .ok (.bipush 33, 2) := by decide +kernel
theorem d_Model_differences_5 : decode b_Model_differences 5 = .ok (.if_icmp .ge 52, 3) := by decide +kernel
theorem d_Model_differences_8 : decode b_Model_differences 8 = .ok (.bipush 32, 2) := by decide +kernel
theorem d_Model_differences_10 : decode b_Model_differences 10 = .ok (.istore_n 2, 1) := by decide +kernel
theorem d_Model_differences_11 : decode b_Model_differences 11 = .ok (.iload_n 2, 1) := by decide +kernel
theorem d_Model_differences_12 : decode b_Model_differences 12 = .ok (.iload_n 1, 1) := by decide +kernel
theorem d_Model_differences_13 : decode b_Model_differences 13 = .ok (.if_icmp .lt 38, 3) := by decide +kernel
theorem d_Model_differences_16 : decode b_Model_differences 16 = .ok (.aload_n 0, 1) := by decide +kernel
theorem d_Model_differences_17 : decode b_Model_differences 17 = .ok (.getfield 34, 3) := by decide +kernel
theorem d_Model_differences_20 : decode b_Model_differences 20 = .ok (.iload_n 2, 1) := by decide +kernel
theorem d_Model_differences_21 : decode b_Model_differences 21 = .ok (.aload_n 0, 1) := by decide +kernel
theorem d_Model_differences_22 : decode b_Model_differences 22 = .ok (.getfield 34, 3) := by decide +kernel
theorem d_Model_differences_25 : decode b_Model_differences 25 = .ok (.iload_n 2, 1) := by decide +kernel
theorem d_Model_differences_26 : decode b_Model_differences 26 = .ok (.iaload, 1) := by decide +kernel
theorem d_Model_differences_27 : decode b_Model_differences 27 = .ok (.aload_n 0, 1) := by decide +kernel
theorem d_Model_differences_28 : decode b_Model_differences 28 = .ok (.getfield 34, 3) := by decide +kernel
theorem d_Model_differences_31 : decode b_Model_differences 31 = .ok (.iload_n 2, 1) := by decide +kernel
theorem d_Model_differences_32 : decode b_Model_differences 32 = .ok (.iconst 1, 1) := by decide +kernel
theorem d_Model_differences_33 : decode b_Model_differences 33 = .ok (.isub, 1) := by decide +kernel
theorem d_Model_differences_34 : decode b_Model_differences 34 = .ok (.iaload, 1) := by decide +kernel
theorem d_Model_differences_35 : decode b_Model_differences 35 = .ok (.isub, 1) := by decide +kernel
theorem d_Model_differences_36 : decode b_Model_differences 36 = .ok (.sipush 10007, 3) := by decide +kernel
theorem d_Model_differences_39 : decode b_Model_differences 39 = .ok (.iadd, 1) := by decide +kernel
theorem d_Model_differences_40 : decode b_Model_differences 40 = .ok (.sipush 10007, 3) := by decide +kernel
theorem d_Model_differences_43 : decode b_Model_differences 43 = .ok (.irem, 1) := by decide +kernel
theorem d_Model_differences_44 : decode b_Model_differences 44 = .ok (.iastore, 1) := by decide +kernel
theorem d_Model_differences_45 : decode b_Model_differences 45 = .ok (.iinc 2 (-1), 3) := by decide +kernel
theorem d_Model_differences_48 : decode b_Model_differences 48 = .ok (.goto (-37), 3) := by decide +kernel
theorem d_Model_differences_51 : decode b_Model_differences 51 = .ok (.iinc 1 1, 3) := by decide +kernel
theorem d_Model_differences_54 : decode b_Model_differences 54 = .ok (.goto (-52), 3) := by decide +kernel
theorem d_Model_differences_57 : decode b_Model_differences 57 = .ok (.return_, 1) := by decide +kernel
theorem d_Model_rootOf_0 : decode b_Model_rootOf 0 = .ok (.iconst 0, 1) := by decide +kernel
theorem d_Model_rootOf_1 : decode b_Model_rootOf 1 = .ok (.istore 4, 2) := by decide +kernel
theorem d_Model_rootOf_3 : decode b_Model_rootOf 3 = .ok (.iload_n 1, 1) := by decide +kernel
theorem d_Model_rootOf_4 : decode b_Model_rootOf 4 = .ok (.iconst 1, 1) := by decide +kernel
theorem d_Model_rootOf_5 : decode b_Model_rootOf 5 = .ok (.iadd, 1) := by decide +kernel
theorem d_Model_rootOf_6 : decode b_Model_rootOf 6 = .ok (.istore 5, 2) := by decide +kernel
theorem d_Model_rootOf_8 : decode b_Model_rootOf 8 = .ok (.iload 5, 2) := by decide +kernel
theorem d_Model_rootOf_10 : decode b_Model_rootOf 10 = .ok (.bipush 8, 2) := by decide +kernel
theorem d_Model_rootOf_12 : decode b_Model_rootOf 12 = .ok (.if_icmp .ge 44, 3) := by decide +kernel
theorem d_Model_rootOf_15 : decode b_Model_rootOf 15 = .ok (.iload_n 3, 1) := by decide +kernel
theorem d_Model_rootOf_16 : decode b_Model_rootOf 16 = .ok (.iload 5, 2) := by decide +kernel
theorem d_Model_rootOf_18 : decode b_Model_rootOf 18 = .ok (.iload_n 1, 1) := by decide +kernel
theorem d_Model_rootOf_19 : decode b_Model_rootOf 19 = .ok (.isub, 1) := by decide +kernel
theorem d_Model_rootOf_20 : decode b_Model_rootOf 20 = .ok (.invokestatic 37, 3) := by decide +kernel
theorem d_Model_rootOf_23 : decode b_Model_rootOf 23 = .ok (.istore 6, 2) := by decide +kernel
theorem d_Model_rootOf_25 : decode b_Model_rootOf 25 = .ok (.iload 4, 2) := by decide +kernel
theorem d_Model_rootOf_27 : decode b_Model_rootOf 27 = .ok (.aload_n 0, 1) := by decide +kernel
theorem d_Model_rootOf_28 : decode b_Model_rootOf 28 = .ok (.getfield 25, 3) := by decide +kernel
theorem d_Model_rootOf_31 : decode b_Model_rootOf 31 = .ok (.iconst 3, 1) := by decide +kernel
theorem d_Model_rootOf_32 : decode b_Model_rootOf 32 = .ok (.iload 5, 2) := by decide +kernel
theorem d_Model_rootOf_34 : decode b_Model_rootOf 34 = .ok (.imul, 1) := by decide +kernel
theorem d_Model_rootOf_35 : decode b_Model_rootOf 35 = .ok (.iload_n 2, 1) := by decide +kernel
theorem d_Model_rootOf_36 : decode b_Model_rootOf 36 = .ok (.iadd, 1) := by decide +kernel
theorem d_Model_rootOf_37 : decode b_Model_rootOf 37 = .ok (.iconst 1, 1) := by decide +kernel
theorem d_Model_rootOf_38 : decode b_Model_rootOf 38 = .ok (.isub, 1) := by decide +kernel
theorem d_Model_rootOf_39 : decode b_Model_rootOf 39 = .ok (.iaload, 1) := by decide +kernel
theorem d_Model_rootOf_40 : decode b_Model_rootOf 40 = .ok (.iload 6, 2) := by decide +kernel
theorem d_Model_rootOf_42 : decode b_Model_rootOf 42 = .ok (.imul, 1) := by decide +kernel
theorem d_Model_rootOf_43 : decode b_Model_rootOf 43 = .ok (.iadd, 1) := by decide +kernel
theorem d_Model_rootOf_44 : decode b_Model_rootOf 44 = .ok (.sipush 10007, 3) := by decide +kernel
theorem d_Model_rootOf_47 : decode b_Model_rootOf 47 = .ok (.irem, 1) := by decide +kernel
theorem d_Model_rootOf_48 : decode b_Model_rootOf 48 = .ok (.istore 4, 2) := by decide +kernel
theorem d_Model_rootOf_50 : decode b_Model_rootOf 50 = .ok (.iinc 5 1, 3) := by decide +kernel
theorem d_Model_rootOf_53 : decode b_Model_rootOf 53 = .ok (.goto (-45), 3) := by decide +kernel
theorem d_Model_rootOf_56 : decode b_Model_rootOf 56 = .ok (.iload 4, 2) := by decide +kernel
theorem d_Model_rootOf_58 : decode b_Model_rootOf 58 = .ok (.ireturn, 1) := by decide +kernel
theorem d_Model_ratio_0 : decode b_Model_ratio 0 = .ok (.iload_n 1, 1) := by decide +kernel
theorem d_Model_ratio_1 : decode b_Model_ratio 1 = .ok (.invokestatic 77, 3) := by decide +kernel
theorem d_Model_ratio_4 : decode b_Model_ratio 4 = .ok (.ifCond .eq 12, 3) := by decide +kernel
theorem d_Model_ratio_7 : decode b_Model_ratio 7 = .ok (.aload_n 0, 1) := by decide +kernel
theorem d_Model_ratio_8 : decode b_Model_ratio 8 = .ok (.getfield 16, 3) := by decide +kernel
theorem d_Model_ratio_11 : decode b_Model_ratio 11 = .ok (.iload_n 1, 1) := by decide +kernel
theorem d_Model_ratio_12 : decode b_Model_ratio 12 = .ok (.iaload, 1) := by decide +kernel
theorem d_Model_ratio_13 : decode b_Model_ratio 13 = .ok (.goto 5, 3) := by decide +kernel
theorem d_Model_ratio_16 : decode b_Model_ratio 16 = .ok (.bipush (-9), 2) := by decide +kernel
theorem d_Model_ratio_18 : decode b_Model_ratio 18 = .ok (.ireturn, 1) := by decide +kernel
theorem d_Model_degree_0 : decode b_Model_degree 0 = .ok (.iload_n 1, 1) := by decide +kernel
theorem d_Model_degree_1 : decode b_Model_degree 1 = .ok (.invokestatic 77, 3) := by decide +kernel
theorem d_Model_degree_4 : decode b_Model_degree 4 = .ok (.ifCond .ne 6, 3) := by decide +kernel
theorem d_Model_degree_7 : decode b_Model_degree 7 = .ok (.bipush (-9), 2) := by decide +kernel
theorem d_Model_degree_9 : decode b_Model_degree 9 = .ok (.ireturn, 1) := by decide +kernel
theorem d_Model_degree_10 : decode b_Model_degree 10 = .ok (.aload_n 0, 1) := by decide +kernel
theorem d_Model_degree_11 : decode b_Model_degree 11 = .ok (.iconst 0, 1) := by decide +kernel
theorem d_Model_degree_12 : decode b_Model_degree 12 = .ok (.iload_n 1, 1) := by decide +kernel
theorem d_Model_degree_13 : decode b_Model_degree 13 = .ok (.invokevirtual 90, 3) := by decide +kernel
theorem d_Model_degree_16 : decode b_Model_degree 16 = .ok (.aload_n 0, 1) := by decide +kernel
theorem d_Model_degree_17 : decode b_Model_degree 17 = .ok (.iconst 0, 1) := by decide +kernel
theorem d_Model_degree_18 : decode b_Model_degree 18 = .ok (.invokevirtual 53, 3) := by decide +kernel
theorem d_Model_degree_21 : decode b_Model_degree 21 = .ok (.ireturn, 1) := by decide +kernel
theorem d_Model_coefficient_0 : decode b_Model_coefficient 0 = .ok (.iload_n 1, 1) := by decide +kernel
theorem d_Model_coefficient_1 : decode b_Model_coefficient 1 = .ok (.invokestatic 77, 3) := by decide +kernel
theorem d_Model_coefficient_4 : decode b_Model_coefficient 4 = .ok (.ifCond .eq 27, 3) := by decide +kernel
theorem d_Model_coefficient_7 : decode b_Model_coefficient 7 = .ok (.iload_n 2, 1) := by decide +kernel
theorem d_Model_coefficient_8 : decode b_Model_coefficient 8 = .ok (.ifCond .lt 23, 3) := by decide +kernel
theorem d_Model_coefficient_11 : decode b_Model_coefficient 11 = .ok (.iload_n 2, 1) := by decide +kernel
theorem d_Model_coefficient_12 : decode b_Model_coefficient 12 = .ok (.bipush 32, 2) := by decide +kernel
theorem d_Model_coefficient_14 : decode b_Model_coefficient 14 = .ok (.if_icmp .ge 17, 3) := by decide +kernel
theorem d_Model_coefficient_17 : decode b_Model_coefficient 17 = .ok (.aload_n 0, 1) := by decide +kernel
theorem d_Model_coefficient_18 : decode b_Model_coefficient 18 = .ok (.getfield 7, 3) := by decide +kernel
theorem d_Model_coefficient_21 : decode b_Model_coefficient 21 = .ok (.bipush 32, 2) := by decide +kernel
theorem d_Model_coefficient_23 : decode b_Model_coefficient 23 = .ok (.iload_n 1, 1) := by decide +kernel
theorem d_Model_coefficient_24 : decode b_Model_coefficient 24 = .ok (.imul, 1) := by decide +kernel
theorem d_Model_coefficient_25 : decode b_Model_coefficient 25 = .ok (.iload_n 2, 1) := by decide +kernel
theorem d_Model_coefficient_26 : decode b_Model_coefficient 26 = .ok (.iadd, 1) := by decide +kernel
theorem d_Model_coefficient_27 : decode b_Model_coefficient 27 = .ok (.iaload, 1) := by decide +kernel
theorem d_Model_coefficient_28 : decode b_Model_coefficient 28 = .ok (.goto 5, 3) := by decide +kernel
theorem d_Model_coefficient_31 : decode b_Model_coefficient 31 = .ok (.bipush (-9), 2) := by decide +kernel
theorem d_Model_coefficient_33 : decode b_Model_coefficient 33 = .ok (.ireturn, 1) := by decide +kernel
theorem d_Model_exponent_0 : decode b_Model_exponent 0 = .ok (.iload_n 1, 1) := by decide +kernel
theorem d_Model_exponent_1 : decode b_Model_exponent 1 = .ok (.invokestatic 77, 3) := by decide +kernel
theorem d_Model_exponent_4 : decode b_Model_exponent 4 = .ok (.ifCond .eq 24, 3) := by decide +kernel
theorem d_Model_exponent_7 : decode b_Model_exponent 7 = .ok (.iload_n 2, 1) := by decide +kernel
theorem d_Model_exponent_8 : decode b_Model_exponent 8 = .ok (.invokestatic 77, 3) := by decide +kernel
theorem d_Model_exponent_11 : decode b_Model_exponent 11 = .ok (.ifCond .eq 17, 3) := by decide +kernel
theorem d_Model_exponent_14 : decode b_Model_exponent 14 = .ok (.aload_n 0, 1) := by decide +kernel
theorem d_Model_exponent_15 : decode b_Model_exponent 15 = .ok (.getfield 13, 3) := by decide +kernel
theorem d_Model_exponent_18 : decode b_Model_exponent 18 = .ok (.bipush 8, 2) := by decide +kernel
theorem d_Model_exponent_20 : decode b_Model_exponent 20 = .ok (.iload_n 1, 1) := by decide +kernel
theorem d_Model_exponent_21 : decode b_Model_exponent 21 = .ok (.imul, 1) := by decide +kernel
theorem d_Model_exponent_22 : decode b_Model_exponent 22 = .ok (.iload_n 2, 1) := by decide +kernel
theorem d_Model_exponent_23 : decode b_Model_exponent 23 = .ok (.iadd, 1) := by decide +kernel
theorem d_Model_exponent_24 : decode b_Model_exponent 24 = .ok (.iaload, 1) := by decide +kernel
theorem d_Model_exponent_25 : decode b_Model_exponent 25 = .ok (.goto 5, 3) := by decide +kernel
theorem d_Model_exponent_28 : decode b_Model_exponent 28 = .ok (.bipush (-9), 2) := by decide +kernel
theorem d_Model_exponent_30 : decode b_Model_exponent 30 = .ok (.ireturn, 1) := by decide +kernel
theorem d_Model_weight_0 : decode b_Model_weight 0 = .ok (.iload_n 1, 1) := by decide +kernel
theorem d_Model_weight_1 : decode b_Model_weight 1 = .ok (.invokestatic 77, 3) := by decide +kernel
theorem d_Model_weight_4 : decode b_Model_weight 4 = .ok (.ifCond .eq 20, 3) := by decide +kernel
theorem d_Model_weight_7 : decode b_Model_weight 7 = .ok (.iload_n 2, 1) := by decide +kernel
theorem d_Model_weight_8 : decode b_Model_weight 8 = .ok (.invokestatic 77, 3) := by decide +kernel
theorem d_Model_weight_11 : decode b_Model_weight 11 = .ok (.ifCond .eq 13, 3) := by decide +kernel
theorem d_Model_weight_14 : decode b_Model_weight 14 = .ok (.iload_n 3, 1) := by decide +kernel
theorem d_Model_weight_15 : decode b_Model_weight 15 = .ok (.iconst 1, 1) := by decide +kernel
theorem d_Model_weight_16 : decode b_Model_weight 16 = .ok (.if_icmp .lt 8, 3) := by decide +kernel
theorem d_Model_weight_19 : decode b_Model_weight 19 = .ok (.iload_n 3, 1) := by decide +kernel
theorem d_Model_weight_20 : decode b_Model_weight 20 = .ok (.iconst 3, 1) := by decide +kernel
theorem d_Model_weight_21 : decode b_Model_weight 21 = .ok (.if_icmp .le 6, 3) := by decide +kernel
theorem d_Model_weight_24 : decode b_Model_weight 24 = .ok (.bipush (-9), 2) := by decide +kernel
theorem d_Model_weight_26 : decode b_Model_weight 26 = .ok (.ireturn, 1) := by decide +kernel
theorem d_Model_weight_27 : decode b_Model_weight 27 = .ok (.aload_n 0, 1) := by decide +kernel
theorem d_Model_weight_28 : decode b_Model_weight 28 = .ok (.iload_n 1, 1) := by decide +kernel
theorem d_Model_weight_29 : decode b_Model_weight 29 = .ok (.invokevirtual 121, 3) := by decide +kernel
theorem d_Model_weight_32 : decode b_Model_weight 32 = .ok (.aload_n 0, 1) := by decide +kernel
theorem d_Model_weight_33 : decode b_Model_weight 33 = .ok (.getfield 25, 3) := by decide +kernel
theorem d_Model_weight_36 : decode b_Model_weight 36 = .ok (.iconst 3, 1) := by decide +kernel
theorem d_Model_weight_37 : decode b_Model_weight 37 = .ok (.iload_n 2, 1) := by decide +kernel
theorem d_Model_weight_38 : decode b_Model_weight 38 = .ok (.imul, 1) := by decide +kernel
theorem d_Model_weight_39 : decode b_Model_weight 39 = .ok (.iload_n 3, 1) := by decide +kernel
theorem d_Model_weight_40 : decode b_Model_weight 40 = .ok (.iadd, 1) := by decide +kernel
theorem d_Model_weight_41 : decode b_Model_weight 41 = .ok (.iconst 1, 1) := by decide +kernel
theorem d_Model_weight_42 : decode b_Model_weight 42 = .ok (.isub, 1) := by decide +kernel
theorem d_Model_weight_43 : decode b_Model_weight 43 = .ok (.iaload, 1) := by decide +kernel
theorem d_Model_weight_44 : decode b_Model_weight 44 = .ok (.ireturn, 1) := by decide +kernel
theorem d_Model_value_0 : decode b_Model_value 0 = .ok (.iload_n 1, 1) := by decide +kernel
theorem d_Model_value_1 : decode b_Model_value 1 = .ok (.invokestatic 77, 3) := by decide +kernel
theorem d_Model_value_4 : decode b_Model_value 4 = .ok (.ifCond .eq 10, 3) := by decide +kernel
theorem d_Model_value_7 : decode b_Model_value 7 = .ok (.iload_n 2, 1) := by decide +kernel
theorem d_Model_value_8 : decode b_Model_value 8 = .ok (.invokestatic 127, 3) := by decide +kernel
theorem d_Model_value_11 : decode b_Model_value 11 = .ok (.ifCond .ne 6, 3) := by decide +kernel
theorem d_Model_value_14 : decode b_Model_value 14 = .ok (.bipush (-9), 2) := by decide +kernel
theorem d_Model_value_16 : decode b_Model_value 16 = .ok (.ireturn, 1) := by decide +kernel
theorem d_Model_value_17 : decode b_Model_value 17 = .ok (.aload_n 0, 1) := by decide +kernel
theorem d_Model_value_18 : decode b_Model_value 18 = .ok (.iload_n 1, 1) := by decide +kernel
theorem d_Model_value_19 : decode b_Model_value 19 = .ok (.iload_n 2, 1) := by decide +kernel
theorem d_Model_value_20 : decode b_Model_value 20 = .ok (.invokevirtual 130, 3) := by decide +kernel
theorem d_Model_value_23 : decode b_Model_value 23 = .ok (.ireturn, 1) := by decide +kernel
theorem d_Model_place_0 : decode b_Model_place 0 = .ok (.iload_n 0, 1) := by decide +kernel
theorem d_Model_place_1 : decode b_Model_place 1 = .ok (.bipush (-30), 2) := by decide +kernel
theorem d_Model_place_3 : decode b_Model_place 3 = .ok (.if_icmp .lt 14, 3) := by decide +kernel
theorem d_Model_place_6 : decode b_Model_place 6 = .ok (.iload_n 0, 1) := by decide +kernel
theorem d_Model_place_7 : decode b_Model_place 7 = .ok (.sipush 1000, 3) := by decide +kernel
theorem d_Model_place_10 : decode b_Model_place 10 = .ok (.if_icmp .gt 7, 3) := by decide +kernel
theorem d_Model_place_13 : decode b_Model_place 13 = .ok (.iconst 1, 1) := by decide +kernel
theorem d_Model_place_14 : decode b_Model_place 14 = .ok (.goto 4, 3) := by decide +kernel
theorem d_Model_place_17 : decode b_Model_place 17 = .ok (.iconst 0, 1) := by decide +kernel
theorem d_Model_place_18 : decode b_Model_place 18 = .ok (.ireturn, 1) := by decide +kernel
theorem d_Model_valueAt_0 : decode b_Model_valueAt 0 = .ok (.aload_n 0, 1) := by decide +kernel
theorem d_Model_valueAt_1 : decode b_Model_valueAt 1 = .ok (.iconst 0, 1) := by decide +kernel
theorem d_Model_valueAt_2 : decode b_Model_valueAt 2 = .ok (.iload_n 1, 1) := by decide +kernel
theorem d_Model_valueAt_3 : decode b_Model_valueAt 3 = .ok (.invokevirtual 90, 3) := by decide +kernel
theorem d_Model_valueAt_6 : decode b_Model_valueAt 6 = .ok (.aload_n 0, 1) := by decide +kernel
theorem d_Model_valueAt_7 : decode b_Model_valueAt 7 = .ok (.iconst 0, 1) := by decide +kernel
theorem d_Model_valueAt_8 : decode b_Model_valueAt 8 = .ok (.iload_n 2, 1) := by decide +kernel
theorem d_Model_valueAt_9 : decode b_Model_valueAt 9 = .ok (.invokevirtual 59, 3) := by decide +kernel
theorem d_Model_valueAt_12 : decode b_Model_valueAt 12 = .ok (.istore_n 3, 1) := by decide +kernel
theorem d_Model_valueAt_13 : decode b_Model_valueAt 13 = .ok (.iload_n 2, 1) := by decide +kernel
theorem d_Model_valueAt_14 : decode b_Model_valueAt 14 = .ok (.ifCond .ge 16, 3) := by decide +kernel
theorem d_Model_valueAt_17 : decode b_Model_valueAt 17 = .ok (.iconst 1, 1) := by decide +kernel
theorem d_Model_valueAt_18 : decode b_Model_valueAt 18 = .ok (.aload_n 0, 1) := by decide +kernel
theorem d_Model_valueAt_19 : decode b_Model_valueAt 19 = .ok (.getfield 16, 3) := by decide +kernel
theorem d_Model_valueAt_22 : decode b_Model_valueAt 22 = .ok (.iload_n 1, 1) := by decide +kernel
theorem d_Model_valueAt_23 : decode b_Model_valueAt 23 = .ok (.iaload, 1) := by decide +kernel
theorem d_Model_valueAt_24 : decode b_Model_valueAt 24 = .ok (.invokestatic 109, 3) := by decide +kernel
theorem d_Model_valueAt_27 : decode b_Model_valueAt 27 = .ok (.goto 9, 3) := by decide +kernel
theorem d_Model_valueAt_30 : decode b_Model_valueAt 30 = .ok (.aload_n 0, 1) := by decide +kernel
theorem d_Model_valueAt_31 : decode b_Model_valueAt 31 = .ok (.getfield 16, 3) := by decide +kernel
theorem d_Model_valueAt_34 : decode b_Model_valueAt 34 = .ok (.iload_n 1, 1) := by decide +kernel
theorem d_Model_valueAt_35 : decode b_Model_valueAt 35 = .ok (.iaload, 1) := by decide +kernel
theorem d_Model_valueAt_36 : decode b_Model_valueAt 36 = .ok (.istore 4, 2) := by decide +kernel
theorem d_Model_valueAt_38 : decode b_Model_valueAt 38 = .ok (.iload_n 3, 1) := by decide +kernel
theorem d_Model_valueAt_39 : decode b_Model_valueAt 39 = .ok (.iload 4, 2) := by decide +kernel
theorem d_Model_valueAt_41 : decode b_Model_valueAt 41 = .ok (.iload_n 2, 1) := by decide +kernel
theorem d_Model_valueAt_42 : decode b_Model_valueAt 42 = .ok (.ifCond .ge 8, 3) := by decide +kernel
theorem d_Model_valueAt_45 : decode b_Model_valueAt 45 = .ok (.iload_n 2, 1) := by decide +kernel
theorem d_Model_valueAt_46 : decode b_Model_valueAt 46 = .ok (.ineg, 1) := by decide +kernel
theorem d_Model_valueAt_47 : decode b_Model_valueAt 47 = .ok (.goto 4, 3) := by decide +kernel
theorem d_Model_valueAt_50 : decode b_Model_valueAt 50 = .ok (.iload_n 2, 1) := by decide +kernel
theorem d_Model_valueAt_51 : decode b_Model_valueAt 51 = .ok (.invokestatic 37, 3) := by decide +kernel
theorem d_Model_valueAt_54 : decode b_Model_valueAt 54 = .ok (.imul, 1) := by decide +kernel
theorem d_Model_valueAt_55 : decode b_Model_valueAt 55 = .ok (.sipush 10007, 3) := by decide +kernel
theorem d_Model_valueAt_58 : decode b_Model_valueAt 58 = .ok (.irem, 1) := by decide +kernel
theorem d_Model_valueAt_59 : decode b_Model_valueAt 59 = .ok (.istore_n 3, 1) := by decide +kernel
theorem d_Model_valueAt_60 : decode b_Model_valueAt 60 = .ok (.iconst 0, 1) := by decide +kernel
theorem d_Model_valueAt_61 : decode b_Model_valueAt 61 = .ok (.istore 5, 2) := by decide +kernel
theorem d_Model_valueAt_63 : decode b_Model_valueAt 63 = .ok (.iload 5, 2) := by decide +kernel
theorem d_Model_valueAt_65 : decode b_Model_valueAt 65 = .ok (.bipush 8, 2) := by decide +kernel
theorem d_Model_valueAt_67 : decode b_Model_valueAt 67 = .ok (.if_icmp .ge 57, 3) := by decide +kernel
theorem d_Model_valueAt_70 : decode b_Model_valueAt 70 = .ok (.iconst 0, 1) := by decide +kernel
theorem d_Model_valueAt_71 : decode b_Model_valueAt 71 = .ok (.istore 6, 2) := by decide +kernel
theorem d_Model_valueAt_73 : decode b_Model_valueAt 73 = .ok (.iload 6, 2) := by decide +kernel
theorem d_Model_valueAt_75 : decode b_Model_valueAt 75 = .ok (.aload_n 0, 1) := by decide +kernel
theorem d_Model_valueAt_76 : decode b_Model_valueAt 76 = .ok (.getfield 13, 3) := by decide +kernel
theorem d_Model_valueAt_79 : decode b_Model_valueAt 79 = .ok (.bipush 8, 2) := by decide +kernel
theorem d_Model_valueAt_81 : decode b_Model_valueAt 81 = .ok (.iload_n 1, 1) := by decide +kernel
theorem d_Model_valueAt_82 : decode b_Model_valueAt 82 = .ok (.imul, 1) := by decide +kernel
theorem d_Model_valueAt_83 : decode b_Model_valueAt 83 = .ok (.iload 5, 2) := by decide +kernel
theorem d_Model_valueAt_85 : decode b_Model_valueAt 85 = .ok (.iadd, 1) := by decide +kernel
theorem d_Model_valueAt_86 : decode b_Model_valueAt 86 = .ok (.iaload, 1) := by decide +kernel
theorem d_Model_valueAt_87 : decode b_Model_valueAt 87 = .ok (.if_icmp .ge 31, 3) := by decide +kernel
theorem d_Model_valueAt_90 : decode b_Model_valueAt 90 = .ok (.iload_n 2, 1) := by decide +kernel
theorem d_Model_valueAt_91 : decode b_Model_valueAt 91 = .ok (.iload 5, 2) := by decide +kernel
theorem d_Model_valueAt_93 : decode b_Model_valueAt 93 = .ok (.iadd, 1) := by decide +kernel
theorem d_Model_valueAt_94 : decode b_Model_valueAt 94 = .ok (.ifCond .ne 6, 3) := by decide +kernel
theorem d_Model_valueAt_97 : decode b_Model_valueAt 97 = .ok (.bipush (-6), 2) := by decide +kernel
theorem d_Model_valueAt_99 : decode b_Model_valueAt 99 = .ok (.ireturn, 1) := by decide +kernel
theorem d_Model_valueAt_100 : decode b_Model_valueAt 100 = .ok (.iload_n 3, 1) := by decide +kernel
theorem d_Model_valueAt_101 : decode b_Model_valueAt 101 = .ok (.iload_n 2, 1) := by decide +kernel
theorem d_Model_valueAt_102 : decode b_Model_valueAt 102 = .ok (.iload 5, 2) := by decide +kernel
theorem d_Model_valueAt_104 : decode b_Model_valueAt 104 = .ok (.iadd, 1) := by decide +kernel
theorem d_Model_valueAt_105 : decode b_Model_valueAt 105 = .ok (.invokestatic 45, 3) := by decide +kernel
theorem d_Model_valueAt_108 : decode b_Model_valueAt 108 = .ok (.invokestatic 109, 3) := by decide +kernel
theorem d_Model_valueAt_111 : decode b_Model_valueAt 111 = .ok (.istore_n 3, 1) := by decide +kernel
theorem d_Model_valueAt_112 : decode b_Model_valueAt 112 = .ok (.iinc 6 1, 3) := by decide +kernel
theorem d_Model_valueAt_115 : decode b_Model_valueAt 115 = .ok (.goto (-42), 3) := by decide +kernel
theorem d_Model_valueAt_118 : decode b_Model_valueAt 118 = .ok (.iinc 5 1, 3) := by decide +kernel
theorem d_Model_valueAt_121 : decode b_Model_valueAt 121 = .ok (.goto (-58), 3) := by decide +kernel
theorem d_Model_valueAt_124 : decode b_Model_valueAt 124 = .ok (.iload_n 3, 1) := by decide +kernel
theorem d_Model_valueAt_125 : decode b_Model_valueAt 125 = .ok (.ireturn, 1) := by decide +kernel
theorem d_Model_sum_0 : decode b_Model_sum 0 = .ok (.iload_n 1, 1) := by decide +kernel
theorem d_Model_sum_1 : decode b_Model_sum 1 = .ok (.invokestatic 77, 3) := by decide +kernel
theorem d_Model_sum_4 : decode b_Model_sum 4 = .ok (.ifCond .eq 17, 3) := by decide +kernel
theorem d_Model_sum_7 : decode b_Model_sum 7 = .ok (.iload_n 2, 1) := by decide +kernel
theorem d_Model_sum_8 : decode b_Model_sum 8 = .ok (.invokestatic 127, 3) := by decide +kernel
theorem d_Model_sum_11 : decode b_Model_sum 11 = .ok (.ifCond .eq 10, 3) := by decide +kernel
theorem d_Model_sum_14 : decode b_Model_sum 14 = .ok (.iload_n 3, 1) := by decide +kernel
theorem d_Model_sum_15 : decode b_Model_sum 15 = .ok (.invokestatic 127, 3) := by decide +kernel
theorem d_Model_sum_18 : decode b_Model_sum 18 = .ok (.ifCond .ne 6, 3) := by decide +kernel
theorem d_Model_sum_21 : decode b_Model_sum 21 = .ok (.bipush (-9), 2) := by decide +kernel
theorem d_Model_sum_23 : decode b_Model_sum 23 = .ok (.ireturn, 1) := by decide +kernel
theorem d_Model_sum_24 : decode b_Model_sum 24 = .ok (.iconst 0, 1) := by decide +kernel
theorem d_Model_sum_25 : decode b_Model_sum 25 = .ok (.istore 4, 2) := by decide +kernel
theorem d_Model_sum_27 : decode b_Model_sum 27 = .ok (.iload_n 2, 1) := by decide +kernel
theorem d_Model_sum_28 : decode b_Model_sum 28 = .ok (.istore 5, 2) := by decide +kernel
theorem d_Model_sum_30 : decode b_Model_sum 30 = .ok (.iload 5, 2) := by decide +kernel
theorem d_Model_sum_32 : decode b_Model_sum 32 = .ok (.iload_n 3, 1) := by decide +kernel
theorem d_Model_sum_33 : decode b_Model_sum 33 = .ok (.if_icmp .gt 37, 3) := by decide +kernel
theorem d_Model_sum_36 : decode b_Model_sum 36 = .ok (.aload_n 0, 1) := by decide +kernel
theorem d_Model_sum_37 : decode b_Model_sum 37 = .ok (.iload_n 1, 1) := by decide +kernel
theorem d_Model_sum_38 : decode b_Model_sum 38 = .ok (.iload 5, 2) := by decide +kernel
theorem d_Model_sum_40 : decode b_Model_sum 40 = .ok (.invokevirtual 130, 3) := by decide +kernel
theorem d_Model_sum_43 : decode b_Model_sum 43 = .ok (.istore 6, 2) := by decide +kernel
theorem d_Model_sum_45 : decode b_Model_sum 45 = .ok (.iload 6, 2) := by decide +kernel
theorem d_Model_sum_47 : decode b_Model_sum 47 = .ok (.ifCond .ge 6, 3) := by decide +kernel
theorem d_Model_sum_50 : decode b_Model_sum 50 = .ok (.bipush (-6), 2) := by decide +kernel
theorem d_Model_sum_52 : decode b_Model_sum 52 = .ok (.ireturn, 1) := by decide +kernel
theorem d_Model_sum_53 : decode b_Model_sum 53 = .ok (.iload 4, 2) := by decide +kernel
theorem d_Model_sum_55 : decode b_Model_sum 55 = .ok (.iload 6, 2) := by decide +kernel
theorem d_Model_sum_57 : decode b_Model_sum 57 = .ok (.iadd, 1) := by decide +kernel
theorem d_Model_sum_58 : decode b_Model_sum 58 = .ok (.sipush 10007, 3) := by decide +kernel
theorem d_Model_sum_61 : decode b_Model_sum 61 = .ok (.irem, 1) := by decide +kernel
theorem d_Model_sum_62 : decode b_Model_sum 62 = .ok (.istore 4, 2) := by decide +kernel
theorem d_Model_sum_64 : decode b_Model_sum 64 = .ok (.iinc 5 1, 3) := by decide +kernel
theorem d_Model_sum_67 : decode b_Model_sum 67 = .ok (.goto (-37), 3) := by decide +kernel
theorem d_Model_sum_70 : decode b_Model_sum 70 = .ok (.iload 4, 2) := by decide +kernel
theorem d_Model_sum_72 : decode b_Model_sum 72 = .ok (.ireturn, 1) := by decide +kernel
