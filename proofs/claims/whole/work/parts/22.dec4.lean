theorem d_Desk_init_0 : decode b_Desk_init 0 = .ok (.aload_n 0, 1) := by decide +kernel
theorem d_Desk_init_1 : decode b_Desk_init 1 = .ok (.invokespecial 3, 3) := by decide +kernel
theorem d_Desk_init_4 : decode b_Desk_init 4 = .ok (.aload_n 0, 1) := by decide +kernel
theorem d_Desk_init_5 : decode b_Desk_init 5 = .ok (.bipush 8, 2) := by decide +kernel
theorem d_Desk_init_7 : decode b_Desk_init 7 = .ok (.anewarray 9, 3) := by decide +kernel
theorem d_Desk_init_10 : decode b_Desk_init 10 = .ok (.putfield 11, 3) := by decide +kernel
theorem d_Desk_init_13 : decode b_Desk_init 13 = .ok (.iconst 0, 1) := by decide +kernel
theorem d_Desk_init_14 : decode b_Desk_init 14 = .ok (.istore_n 1, 1) := by decide +kernel
theorem d_Desk_init_15 : decode b_Desk_init 15 = .ok (.iload_n 1, 1) := by decide +kernel
theorem d_Desk_init_16 : decode b_Desk_init 16 = .ok (.bipush 8, 2) := by decide +kernel
theorem d_Desk_init_18 : decode b_Desk_init 18 = .ok (.if_icmp .ge 24, 3) := by decide +kernel
theorem d_Desk_init_21 : decode b_Desk_init 21 = .ok (.aload_n 0, 1) := by decide +kernel
theorem d_Desk_init_22 : decode b_Desk_init 22 = .ok (.getfield 11, 3) := by decide +kernel
theorem d_Desk_init_25 : decode b_Desk_init 25 = .ok (.iload_n 1, 1) := by decide +kernel
theorem d_Desk_init_26 : decode b_Desk_init 26 = .ok (.new 9, 3) := by decide +kernel
theorem d_Desk_init_29 : decode b_Desk_init 29 = .ok (.dup, 1) := by decide +kernel
theorem d_Desk_init_30 : decode b_Desk_init 30 = .ok (.bipush 32, 2) := by decide +kernel
theorem d_Desk_init_32 : decode b_Desk_init 32 = .ok (.invokespecial 15, 3) := by decide +kernel
theorem d_Desk_init_35 : decode b_Desk_init 35 = .ok (.aastore, 1) := by decide +kernel
theorem d_Desk_init_36 : decode b_Desk_init 36 = .ok (.iinc 1 1, 3) := by decide +kernel
theorem d_Desk_init_39 : decode b_Desk_init 39 = .ok (.goto (-24), 3) := by decide +kernel
theorem d_Desk_init_42 : decode b_Desk_init 42 = .ok (.aload_n 0, 1) := by decide +kernel
theorem d_Desk_init_43 : decode b_Desk_init 43 = .ok (.new 9, 3) := by decide +kernel
theorem d_Desk_init_46 : decode b_Desk_init 46 = .ok (.dup, 1) := by decide +kernel
theorem d_Desk_init_47 : decode b_Desk_init 47 = .ok (.bipush 64, 2) := by decide +kernel
theorem d_Desk_init_49 : decode b_Desk_init 49 = .ok (.invokespecial 15, 3) := by decide +kernel
theorem d_Desk_init_52 : decode b_Desk_init 52 = .ok (.putfield 18, 3) := by decide +kernel
theorem d_Desk_init_55 : decode b_Desk_init 55 = .ok (.aload_n 0, 1) := by decide +kernel
theorem d_Desk_init_56 : decode b_Desk_init 56 = .ok (.new 9, 3) := by decide +kernel
theorem d_Desk_init_59 : decode b_Desk_init 59 = .ok (.dup, 1) := by decide +kernel
theorem d_Desk_init_60 : decode b_Desk_init 60 = .ok (.bipush 64, 2) := by decide +kernel
theorem d_Desk_init_62 : decode b_Desk_init 62 = .ok (.invokespecial 15, 3) := by decide +kernel
theorem d_Desk_init_65 : decode b_Desk_init 65 = .ok (.putfield 22, 3) := by decide +kernel
theorem d_Desk_init_68 : decode b_Desk_init 68 = .ok (.aload_n 0, 1) := by decide +kernel
theorem d_Desk_init_69 : decode b_Desk_init 69 = .ok (.new 25, 3) := by decide +kernel
theorem d_Desk_init_72 : decode b_Desk_init 72 = .ok (.dup, 1) := by decide +kernel
theorem d_Desk_init_73 : decode b_Desk_init 73 = .ok (.invokespecial 27, 3) := by decide +kernel
theorem d_Desk_init_76 : decode b_Desk_init 76 = .ok (.putfield 28, 3) := by decide +kernel
theorem d_Desk_init_79 : decode b_Desk_init 79 = .ok (.aload_n 0, 1) := by decide +kernel
theorem d_Desk_init_80 : decode b_Desk_init 80 = .ok (.new 32, 3) := by decide +kernel
theorem d_Desk_init_83 : decode b_Desk_init 83 = .ok (.dup, 1) := by decide +kernel
theorem d_Desk_init_84 : decode b_Desk_init 84 = .ok (.invokespecial 34, 3) := by decide +kernel
theorem d_Desk_init_87 : decode b_Desk_init 87 = .ok (.putfield 35, 3) := by decide +kernel
theorem d_Desk_init_90 : decode b_Desk_init 90 = .ok (.return_, 1) := by decide +kernel
theorem d_Desk_constant_0 : decode b_Desk_constant 0 = .ok (.iload_n 1, 1) := by decide +kernel
theorem d_Desk_constant_1 : decode b_Desk_constant 1 = .ok (.invokestatic 39, 3) := by decide +kernel
theorem d_Desk_constant_4 : decode b_Desk_constant 4 = .ok (.ifCond .eq 10, 3) := by decide +kernel
theorem d_Desk_constant_7 : decode b_Desk_constant 7 = .ok (.iload_n 2, 1) := by decide +kernel
theorem d_Desk_constant_8 : decode b_Desk_constant 8 = .ok (.invokestatic 43, 3) := by decide +kernel
theorem d_Desk_constant_11 : decode b_Desk_constant 11 = .ok (.ifCond .ne 6, 3) := by decide +kernel
theorem d_Desk_constant_14 : decode b_Desk_constant 14 = .ok (.bipush (-9), 2) := by decide +kernel
theorem d_Desk_constant_16 : decode b_Desk_constant 16 = .ok (.ireturn, 1) := by decide +kernel
theorem d_Desk_constant_17 : decode b_Desk_constant 17 = .ok (.aload_n 0, 1) := by decide +kernel
theorem d_Desk_constant_18 : decode b_Desk_constant 18 = .ok (.getfield 18, 3) := by decide +kernel
theorem d_Desk_constant_21 : decode b_Desk_constant 21 = .ok (.invokevirtual 46, 3) := by decide +kernel
theorem d_Desk_constant_24 : decode b_Desk_constant 24 = .ok (.aload_n 0, 1) := by decide +kernel
theorem d_Desk_constant_25 : decode b_Desk_constant 25 = .ok (.getfield 18, 3) := by decide +kernel
theorem d_Desk_constant_28 : decode b_Desk_constant 28 = .ok (.getfield 49, 3) := by decide +kernel
theorem d_Desk_constant_31 : decode b_Desk_constant 31 = .ok (.iconst 0, 1) := by decide +kernel
theorem d_Desk_constant_32 : decode b_Desk_constant 32 = .ok (.iload_n 2, 1) := by decide +kernel
theorem d_Desk_constant_33 : decode b_Desk_constant 33 = .ok (.invokevirtual 53, 3) := by decide +kernel
theorem d_Desk_constant_36 : decode b_Desk_constant 36 = .ok (.aload_n 0, 1) := by decide +kernel
theorem d_Desk_constant_37 : decode b_Desk_constant 37 = .ok (.iload_n 1, 1) := by decide +kernel
theorem d_Desk_constant_38 : decode b_Desk_constant 38 = .ok (.invokevirtual 59, 3) := by decide +kernel
theorem d_Desk_constant_41 : decode b_Desk_constant 41 = .ok (.ireturn, 1) := by decide +kernel
theorem d_Desk_isSlot_0 : decode b_Desk_isSlot 0 = .ok (.iload_n 0, 1) := by decide +kernel
theorem d_Desk_isSlot_1 : decode b_Desk_isSlot 1 = .ok (.ifCond .lt 13, 3) := by decide +kernel
theorem d_Desk_isSlot_4 : decode b_Desk_isSlot 4 = .ok (.iload_n 0, 1) := by decide +kernel
theorem d_Desk_isSlot_5 : decode b_Desk_isSlot 5 = .ok (.bipush 8, 2) := by decide +kernel
theorem d_Desk_isSlot_7 : decode b_Desk_isSlot 7 = .ok (.if_icmp .ge 7, 3) := by decide +kernel
theorem d_Desk_isSlot_10 : decode b_Desk_isSlot 10 = .ok (.iconst 1, 1) := by decide +kernel
theorem d_Desk_isSlot_11 : decode b_Desk_isSlot 11 = .ok (.goto 4, 3) := by decide +kernel
theorem d_Desk_isSlot_14 : decode b_Desk_isSlot 14 = .ok (.iconst 0, 1) := by decide +kernel
theorem d_Desk_isSlot_15 : decode b_Desk_isSlot 15 = .ok (.ireturn, 1) := by decide +kernel
theorem d_Desk_isResidue_0 : decode b_Desk_isResidue 0 = .ok (.iload_n 0, 1) := by decide +kernel
theorem d_Desk_isResidue_1 : decode b_Desk_isResidue 1 = .ok (.ifCond .lt 14, 3) := by decide +kernel
theorem d_Desk_isResidue_4 : decode b_Desk_isResidue 4 = .ok (.iload_n 0, 1) := by decide +kernel
theorem d_Desk_isResidue_5 : decode b_Desk_isResidue 5 = .ok (.sipush 10007, 3) := by decide +kernel
theorem d_Desk_isResidue_8 : decode b_Desk_isResidue 8 = .ok (.if_icmp .ge 7, 3) := by decide +kernel
theorem d_Desk_isResidue_11 : decode b_Desk_isResidue 11 = .ok (.iconst 1, 1) := by decide +kernel
theorem d_Desk_isResidue_12 : decode b_Desk_isResidue 12 = .ok (.goto 4, 3) := by decide +kernel
theorem d_Desk_isResidue_15 : decode b_Desk_isResidue 15 = .ok (.iconst 0, 1) := by decide +kernel
theorem d_Desk_isResidue_16 : decode b_Desk_isResidue 16 = .ok (.ireturn, 1) := by decide +kernel
theorem d_Desk_keepResult_0 : decode b_Desk_keepResult 0 = .ok (.aload_n 0, 1) := by decide +kernel
theorem d_Desk_keepResult_1 : decode b_Desk_keepResult 1 = .ok (.getfield 18, 3) := by decide +kernel
theorem d_Desk_keepResult_4 : decode b_Desk_keepResult 4 = .ok (.invokevirtual 100, 3) := by decide +kernel
theorem d_Desk_keepResult_7 : decode b_Desk_keepResult 7 = .ok (.ifCond .eq 6, 3) := by decide +kernel
theorem d_Desk_keepResult_10 : decode b_Desk_keepResult 10 = .ok (.bipush (-7), 2) := by decide +kernel
theorem d_Desk_keepResult_12 : decode b_Desk_keepResult 12 = .ok (.ireturn, 1) := by decide +kernel
theorem d_Desk_keepResult_13 : decode b_Desk_keepResult 13 = .ok (.aload_n 0, 1) := by decide +kernel
theorem d_Desk_keepResult_14 : decode b_Desk_keepResult 14 = .ok (.getfield 11, 3) := by decide +kernel
theorem d_Desk_keepResult_17 : decode b_Desk_keepResult 17 = .ok (.iload_n 1, 1) := by decide +kernel
theorem d_Desk_keepResult_18 : decode b_Desk_keepResult 18 = .ok (.aaload, 1) := by decide +kernel
theorem d_Desk_keepResult_19 : decode b_Desk_keepResult 19 = .ok (.aload_n 0, 1) := by decide +kernel
theorem d_Desk_keepResult_20 : decode b_Desk_keepResult 20 = .ok (.getfield 18, 3) := by decide +kernel
theorem d_Desk_keepResult_23 : decode b_Desk_keepResult 23 = .ok (.invokevirtual 103, 3) := by decide +kernel
theorem d_Desk_keepResult_26 : decode b_Desk_keepResult 26 = .ok (.iconst 0, 1) := by decide +kernel
theorem d_Desk_keepResult_27 : decode b_Desk_keepResult 27 = .ok (.ireturn, 1) := by decide +kernel
theorem d_Desk_linear_0 : decode b_Desk_linear 0 = .ok (.iload_n 1, 1) := by decide +kernel
theorem d_Desk_linear_1 : decode b_Desk_linear 1 = .ok (.invokestatic 39, 3) := by decide +kernel
theorem d_Desk_linear_4 : decode b_Desk_linear 4 = .ok (.ifCond .eq 17, 3) := by decide +kernel
theorem d_Desk_linear_7 : decode b_Desk_linear 7 = .ok (.iload_n 2, 1) := by decide +kernel
theorem d_Desk_linear_8 : decode b_Desk_linear 8 = .ok (.invokestatic 43, 3) := by decide +kernel
theorem d_Desk_linear_11 : decode b_Desk_linear 11 = .ok (.ifCond .eq 10, 3) := by decide +kernel
theorem d_Desk_linear_14 : decode b_Desk_linear 14 = .ok (.iload_n 3, 1) := by decide +kernel
theorem d_Desk_linear_15 : decode b_Desk_linear 15 = .ok (.invokestatic 43, 3) := by decide +kernel
theorem d_Desk_linear_18 : decode b_Desk_linear 18 = .ok (.ifCond .ne 6, 3) := by decide +kernel
theorem d_Desk_linear_21 : decode b_Desk_linear 21 = .ok (.bipush (-9), 2) := by decide +kernel
theorem d_Desk_linear_23 : decode b_Desk_linear 23 = .ok (.ireturn, 1) := by decide +kernel
theorem d_Desk_linear_24 : decode b_Desk_linear 24 = .ok (.aload_n 0, 1) := by decide +kernel
theorem d_Desk_linear_25 : decode b_Desk_linear 25 = .ok (.getfield 18, 3) := by decide +kernel
theorem d_Desk_linear_28 : decode b_Desk_linear 28 = .ok (.invokevirtual 46, 3) := by decide +kernel
theorem d_Desk_linear_31 : decode b_Desk_linear 31 = .ok (.aload_n 0, 1) := by decide +kernel
theorem d_Desk_linear_32 : decode b_Desk_linear 32 = .ok (.getfield 18, 3) := by decide +kernel
theorem d_Desk_linear_35 : decode b_Desk_linear 35 = .ok (.getfield 49, 3) := by decide +kernel
theorem d_Desk_linear_38 : decode b_Desk_linear 38 = .ok (.iload_n 2, 1) := by decide +kernel
theorem d_Desk_linear_39 : decode b_Desk_linear 39 = .ok (.iload_n 3, 1) := by decide +kernel
theorem d_Desk_linear_40 : decode b_Desk_linear 40 = .ok (.invokevirtual 53, 3) := by decide +kernel
theorem d_Desk_linear_43 : decode b_Desk_linear 43 = .ok (.aload_n 0, 1) := by decide +kernel
theorem d_Desk_linear_44 : decode b_Desk_linear 44 = .ok (.iload_n 1, 1) := by decide +kernel
theorem d_Desk_linear_45 : decode b_Desk_linear 45 = .ok (.invokevirtual 59, 3) := by decide +kernel
theorem d_Desk_linear_48 : decode b_Desk_linear 48 = .ok (.ireturn, 1) := by decide +kernel
theorem d_Desk_power_0 : decode b_Desk_power 0 = .ok (.iload_n 1, 1) := by decide +kernel
theorem d_Desk_power_1 : decode b_Desk_power 1 = .ok (.invokestatic 39, 3) := by decide +kernel
theorem d_Desk_power_4 : decode b_Desk_power 4 = .ok (.ifCond .eq 14, 3) := by decide +kernel
theorem d_Desk_power_7 : decode b_Desk_power 7 = .ok (.iload_n 2, 1) := by decide +kernel
theorem d_Desk_power_8 : decode b_Desk_power 8 = .ok (.invokestatic 43, 3) := by decide +kernel
theorem d_Desk_power_11 : decode b_Desk_power 11 = .ok (.ifCond .eq 7, 3) := by decide +kernel
theorem d_Desk_power_14 : decode b_Desk_power 14 = .ok (.iload_n 2, 1) := by decide +kernel
theorem d_Desk_power_15 : decode b_Desk_power 15 = .ok (.ifCond .ne 6, 3) := by decide +kernel
theorem d_Desk_power_18 : decode b_Desk_power 18 = .ok (.bipush (-9), 2) := by decide +kernel
theorem d_Desk_power_20 : decode b_Desk_power 20 = .ok (.ireturn, 1) := by decide +kernel
theorem d_Desk_power_21 : decode b_Desk_power 21 = .ok (.aload_n 0, 1) := by decide +kernel
theorem d_Desk_power_22 : decode b_Desk_power 22 = .ok (.getfield 18, 3) := by decide +kernel
theorem d_Desk_power_25 : decode b_Desk_power 25 = .ok (.invokevirtual 46, 3) := by decide +kernel
theorem d_Desk_power_28 : decode b_Desk_power 28 = .ok (.aload_n 0, 1) := by decide +kernel
theorem d_Desk_power_29 : decode b_Desk_power 29 = .ok (.getfield 18, 3) := by decide +kernel
theorem d_Desk_power_32 : decode b_Desk_power 32 = .ok (.iload_n 2, 1) := by decide +kernel
theorem d_Desk_power_33 : decode b_Desk_power 33 = .ok (.putfield 63, 3) := by decide +kernel
theorem d_Desk_power_36 : decode b_Desk_power 36 = .ok (.aload_n 0, 1) := by decide +kernel
theorem d_Desk_power_37 : decode b_Desk_power 37 = .ok (.getfield 18, 3) := by decide +kernel
theorem d_Desk_power_40 : decode b_Desk_power 40 = .ok (.getfield 49, 3) := by decide +kernel
theorem d_Desk_power_43 : decode b_Desk_power 43 = .ok (.iconst 0, 1) := by decide +kernel
theorem d_Desk_power_44 : decode b_Desk_power 44 = .ok (.iconst 1, 1) := by decide +kernel
theorem d_Desk_power_45 : decode b_Desk_power 45 = .ok (.invokevirtual 53, 3) := by decide +kernel
theorem d_Desk_power_48 : decode b_Desk_power 48 = .ok (.aload_n 0, 1) := by decide +kernel
theorem d_Desk_power_49 : decode b_Desk_power 49 = .ok (.iload_n 1, 1) := by decide +kernel
theorem d_Desk_power_50 : decode b_Desk_power 50 = .ok (.invokevirtual 59, 3) := by decide +kernel
theorem d_Desk_power_53 : decode b_Desk_power 53 = .ok (.ireturn, 1) := by decide +kernel
theorem d_Desk_pole_0 : decode b_Desk_pole 0 = .ok (.iload_n 1, 1) := by decide +kernel
theorem d_Desk_pole_1 : decode b_Desk_pole 1 = .ok (.invokestatic 39, 3) := by decide +kernel
theorem d_Desk_pole_4 : decode b_Desk_pole 4 = .ok (.ifCond .eq 17, 3) := by decide +kernel
theorem d_Desk_pole_7 : decode b_Desk_pole 7 = .ok (.iload_n 2, 1) := by decide +kernel
theorem d_Desk_pole_8 : decode b_Desk_pole 8 = .ok (.invokestatic 67, 3) := by decide +kernel
theorem d_Desk_pole_11 : decode b_Desk_pole 11 = .ok (.ifCond .eq 10, 3) := by decide +kernel
theorem d_Desk_pole_14 : decode b_Desk_pole 14 = .ok (.iload_n 3, 1) := by decide +kernel
theorem d_Desk_pole_15 : decode b_Desk_pole 15 = .ok (.invokestatic 70, 3) := by decide +kernel
theorem d_Desk_pole_18 : decode b_Desk_pole 18 = .ok (.ifCond .ne 6, 3) := by decide +kernel
theorem d_Desk_pole_21 : decode b_Desk_pole 21 = .ok (.bipush (-9), 2) := by decide +kernel
theorem d_Desk_pole_23 : decode b_Desk_pole 23 = .ok (.ireturn, 1) := by decide +kernel
theorem d_Desk_pole_24 : decode b_Desk_pole 24 = .ok (.aload_n 0, 1) := by decide +kernel
theorem d_Desk_pole_25 : decode b_Desk_pole 25 = .ok (.getfield 18, 3) := by decide +kernel
theorem d_Desk_pole_28 : decode b_Desk_pole 28 = .ok (.invokevirtual 46, 3) := by decide +kernel
theorem d_Desk_pole_31 : decode b_Desk_pole 31 = .ok (.aload_n 0, 1) := by decide +kernel
theorem d_Desk_pole_32 : decode b_Desk_pole 32 = .ok (.getfield 18, 3) := by decide +kernel
theorem d_Desk_pole_35 : decode b_Desk_pole 35 = .ok (.getfield 49, 3) := by decide +kernel
theorem d_Desk_pole_38 : decode b_Desk_pole 38 = .ok (.iconst 0, 1) := by decide +kernel
theorem d_Desk_pole_39 : decode b_Desk_pole 39 = .ok (.iconst 1, 1) := by decide +kernel
theorem d_Desk_pole_40 : decode b_Desk_pole 40 = .ok (.invokevirtual 53, 3) := by decide +kernel
theorem d_Desk_pole_43 : decode b_Desk_pole 43 = .ok (.aload_n 0, 1) := by decide +kernel
theorem d_Desk_pole_44 : decode b_Desk_pole 44 = .ok (.getfield 18, 3) := by decide +kernel
theorem d_Desk_pole_47 : decode b_Desk_pole 47 = .ok (.getfield 73, 3) := by decide +kernel
theorem d_Desk_pole_50 : decode b_Desk_pole 50 = .ok (.iload_n 2, 1) := by decide +kernel
theorem d_Desk_pole_51 : decode b_Desk_pole 51 = .ok (.iload_n 3, 1) := by decide +kernel
theorem d_Desk_pole_52 : decode b_Desk_pole 52 = .ok (.iastore, 1) := by decide +kernel
theorem d_Desk_pole_53 : decode b_Desk_pole 53 = .ok (.aload_n 0, 1) := by decide +kernel
theorem d_Desk_pole_54 : decode b_Desk_pole 54 = .ok (.iload_n 1, 1) := by decide +kernel
theorem d_Desk_pole_55 : decode b_Desk_pole 55 = .ok (.invokevirtual 59, 3) := by decide +kernel
theorem d_Desk_pole_58 : decode b_Desk_pole 58 = .ok (.ireturn, 1) := by decide +kernel
theorem d_Desk_isPole_0 : decode b_Desk_isPole 0 = .ok (.iload_n 0, 1) := by decide +kernel
theorem d_Desk_isPole_1 : decode b_Desk_isPole 1 = .ok (.ifCond .lt 13, 3) := by decide +kernel
theorem d_Desk_isPole_4 : decode b_Desk_isPole 4 = .ok (.iload_n 0, 1) := by decide +kernel
theorem d_Desk_isPole_5 : decode b_Desk_isPole 5 = .ok (.bipush 8, 2) := by decide +kernel
theorem d_Desk_isPole_7 : decode b_Desk_isPole 7 = .ok (.if_icmp .ge 7, 3) := by decide +kernel
theorem d_Desk_isPole_10 : decode b_Desk_isPole 10 = .ok (.iconst 1, 1) := by decide +kernel
theorem d_Desk_isPole_11 : decode b_Desk_isPole 11 = .ok (.goto 4, 3) := by decide +kernel
theorem d_Desk_isPole_14 : decode b_Desk_isPole 14 = .ok (.iconst 0, 1) := by decide +kernel
theorem d_Desk_isPole_15 : decode b_Desk_isPole 15 = .ok (.ireturn, 1) := by decide +kernel
theorem d_Desk_isPositiveExponent_0 : decode b_Desk_isPositiveExponent 0 = .ok (.iload_n 0, 1) := by decide +kernel
theorem d_Desk_isPositiveExponent_1 : decode b_Desk_isPositiveExponent 1 = .ok (.iconst 1, 1) := by decide +kernel
theorem d_Desk_isPositiveExponent_2 : decode b_Desk_isPositiveExponent 2 = .ok (.if_icmp .lt 12, 3) := by decide +kernel
theorem d_Desk_isPositiveExponent_5 : decode b_Desk_isPositiveExponent 5 = .ok (.iload_n 0, 1) := by decide +kernel
theorem d_Desk_isPositiveExponent_6 : decode b_Desk_isPositiveExponent 6 = .ok (.iconst 3, 1) := by decide +kernel
theorem d_Desk_isPositiveExponent_7 : decode b_Desk_isPositiveExponent 7 = .ok (.if_icmp .gt 7, 3) := by decide +kernel
theorem d_Desk_isPositiveExponent_10 : decode b_Desk_isPositiveExponent 10 = .ok (.iconst 1, 1) := by decide +kernel
theorem d_Desk_isPositiveExponent_11 : decode b_Desk_isPositiveExponent 11 = .ok (.goto 4, 3) := by decide +kernel
theorem d_Desk_isPositiveExponent_14 : decode b_Desk_isPositiveExponent 14 = .ok (.iconst 0, 1) := by decide +kernel
theorem d_Desk_isPositiveExponent_15 : decode b_Desk_isPositiveExponent 15 = .ok (.ireturn, 1) := by decide +kernel
theorem d_Desk_add_0 : decode b_Desk_add 0 = .ok (.iload_n 1, 1) := by decide +kernel
theorem d_Desk_add_1 : decode b_Desk_add 1 = .ok (.invokestatic 39, 3) := by decide +kernel
theorem d_Desk_add_4 : decode b_Desk_add 4 = .ok (.ifCond .eq 17, 3) := by decide +kernel
theorem d_Desk_add_7 : decode b_Desk_add 7 = .ok (.iload_n 2, 1) := by decide +kernel
theorem d_Desk_add_8 : decode b_Desk_add 8 = .ok (.invokestatic 39, 3) := by decide +kernel
theorem d_Desk_add_11 : decode b_Desk_add 11 = .ok (.ifCond .eq 10, 3) := by decide +kernel
theorem d_Desk_add_14 : decode b_Desk_add 14 = .ok (.iload_n 3, 1) := by decide +kernel
theorem d_Desk_add_15 : decode b_Desk_add 15 = .ok (.invokestatic 39, 3) := by decide +kernel
theorem d_Desk_add_18 : decode b_Desk_add 18 = .ok (.ifCond .ne 6, 3) := by decide +kernel
theorem d_Desk_add_21 : decode b_Desk_add 21 = .ok (.bipush (-9), 2) := by decide +kernel
theorem d_Desk_add_23 : decode b_Desk_add 23 = .ok (.ireturn, 1) := by decide +kernel
theorem d_Desk_add_24 : decode b_Desk_add 24 = .ok (.aload_n 0, 1) := by decide +kernel
theorem d_Desk_add_25 : decode b_Desk_add 25 = .ok (.getfield 11, 3) := by decide +kernel
theorem d_Desk_add_28 : decode b_Desk_add 28 = .ok (.iload_n 2, 1) := by decide +kernel
theorem d_Desk_add_29 : decode b_Desk_add 29 = .ok (.aaload, 1) := by decide +kernel
theorem d_Desk_add_30 : decode b_Desk_add 30 = .ok (.invokevirtual 77, 3) := by decide +kernel
theorem d_Desk_add_33 : decode b_Desk_add 33 = .ok (.ifCond .ne 39, 3) := by decide +kernel
theorem d_Desk_add_36 : decode b_Desk_add 36 = .ok (.aload_n 0, 1) := by decide +kernel
theorem d_Desk_add_37 : decode b_Desk_add 37 = .ok (.getfield 11, 3) := by decide +kernel
theorem d_Desk_add_40 : decode b_Desk_add 40 = .ok (.iload_n 3, 1) := by decide +kernel
theorem d_Desk_add_41 : decode b_Desk_add 41 = .ok (.aaload, 1) := by decide +kernel
theorem d_Desk_add_42 : decode b_Desk_add 42 = .ok (.invokevirtual 77, 3) := by decide +kernel
theorem d_Desk_add_45 : decode b_Desk_add 45 = .ok (.ifCond .ne 27, 3) := by decide +kernel
theorem d_Desk_add_48 : decode b_Desk_add 48 = .ok (.aload_n 0, 1) := by decide +kernel
theorem d_Desk_add_49 : decode b_Desk_add 49 = .ok (.getfield 11, 3) := by decide +kernel
theorem d_Desk_add_52 : decode b_Desk_add 52 = .ok (.iload_n 2, 1) := by decide +kernel
theorem d_Desk_add_53 : decode b_Desk_add 53 = .ok (.aaload, 1) := by decide +kernel
theorem d_Desk_add_54 : decode b_Desk_add 54 = .ok (.getfield 63, 3) := by decide +kernel
theorem d_Desk_add_57 : decode b_Desk_add 57 = .ok (.aload_n 0, 1) := by decide +kernel
theorem d_Desk_add_58 : decode b_Desk_add 58 = .ok (.getfield 11, 3) := by decide +kernel
theorem d_Desk_add_61 : decode b_Desk_add 61 = .ok (.iload_n 3, 1) := by decide +kernel
theorem d_Desk_add_62 : decode b_Desk_add 62 = .ok (.aaload, 1) := by decide +kernel
theorem d_Desk_add_63 : decode b_Desk_add 63 = .ok (.getfield 63, 3) := by decide +kernel
theorem d_Desk_add_66 : decode b_Desk_add 66 = .ok (.if_icmp .eq 6, 3) := by decide +kernel
theorem d_Desk_add_69 : decode b_Desk_add 69 = .ok (.bipush (-8), 2) := by decide +kernel
theorem d_Desk_add_71 : decode b_Desk_add 71 = .ok (.ireturn, 1) := by decide +kernel
theorem d_Desk_add_72 : decode b_Desk_add 72 = .ok (.aload_n 0, 1) := by decide +kernel
theorem d_Desk_add_73 : decode b_Desk_add 73 = .ok (.getfield 28, 3) := by decide +kernel
theorem d_Desk_add_76 : decode b_Desk_add 76 = .ok (.aload_n 0, 1) := by decide +kernel
theorem d_Desk_add_77 : decode b_Desk_add 77 = .ok (.getfield 18, 3) := by decide +kernel
theorem d_Desk_add_80 : decode b_Desk_add 80 = .ok (.aload_n 0, 1) := by decide +kernel
theorem d_Desk_add_81 : decode b_Desk_add 81 = .ok (.getfield 11, 3) := by decide +kernel
theorem d_Desk_add_84 : decode b_Desk_add 84 = .ok (.iload_n 2, 1) := by decide +kernel
theorem d_Desk_add_85 : decode b_Desk_add 85 = .ok (.aaload, 1) := by decide +kernel
theorem d_Desk_add_86 : decode b_Desk_add 86 = .ok (.aload_n 0, 1) := by decide +kernel
theorem d_Desk_add_87 : decode b_Desk_add 87 = .ok (.getfield 11, 3) := by decide +kernel
theorem d_Desk_add_90 : decode b_Desk_add 90 = .ok (.iload_n 3, 1) := by decide +kernel
theorem d_Desk_add_91 : decode b_Desk_add 91 = .ok (.aaload, 1) := by decide +kernel
theorem d_Desk_add_92 : decode b_Desk_add 92 = .ok (.iconst 1, 1) := by decide +kernel
theorem d_Desk_add_93 : decode b_Desk_add 93 = .ok (.invokevirtual 81, 3) := by decide +kernel
theorem d_Desk_add_96 : decode b_Desk_add 96 = .ok (.aload_n 0, 1) := by decide +kernel
theorem d_Desk_add_97 : decode b_Desk_add 97 = .ok (.iload_n 1, 1) := by decide +kernel
theorem d_Desk_add_98 : decode b_Desk_add 98 = .ok (.invokevirtual 59, 3) := by decide +kernel
theorem d_Desk_add_101 : decode b_Desk_add 101 = .ok (.ireturn, 1) := by decide +kernel
theorem d_Desk_multiply_0 : decode b_Desk_multiply 0 = .ok (.iload_n 1, 1) := by decide +kernel
theorem d_Desk_multiply_1 : decode b_Desk_multiply 1 = .ok (.invokestatic 39, 3) := by decide +kernel
theorem d_Desk_multiply_4 : decode b_Desk_multiply 4 = .ok (.ifCond .eq 17, 3) := by decide +kernel
theorem d_Desk_multiply_7 : decode b_Desk_multiply 7 = .ok (.iload_n 2, 1) := by decide +kernel
theorem d_Desk_multiply_8 : decode b_Desk_multiply 8 = .ok (.invokestatic 39, 3) := by decide +kernel
theorem d_Desk_multiply_11 : decode b_Desk_multiply 11 = .ok (.ifCond .eq 10, 3) := by decide +kernel
theorem d_Desk_multiply_14 : decode b_Desk_multiply 14 = .ok (.iload_n 3, 1) := by decide +kernel
theorem d_Desk_multiply_15 : decode b_Desk_multiply 15 = .ok (.invokestatic 39, 3) := by decide +kernel
theorem d_Desk_multiply_18 : decode b_Desk_multiply 18 = .ok (.ifCond .ne 6, 3) := by decide +kernel
theorem d_Desk_multiply_21 : decode b_Desk_multiply 21 = .ok (.bipush (-9), 2) := by decide +kernel
theorem d_Desk_multiply_23 : decode b_Desk_multiply 23 = .ok (.ireturn, 1) := by decide +kernel
theorem d_Desk_multiply_24 : decode b_Desk_multiply 24 = .ok (.aload_n 0, 1) := by decide +kernel
theorem d_Desk_multiply_25 : decode b_Desk_multiply 25 = .ok (.getfield 18, 3) := by decide +kernel
theorem d_Desk_multiply_28 : decode b_Desk_multiply 28 = .ok (.aload_n 0, 1) := by decide +kernel
theorem d_Desk_multiply_29 : decode b_Desk_multiply 29 = .ok (.getfield 11, 3) := by decide +kernel
theorem d_Desk_multiply_32 : decode b_Desk_multiply 32 = .ok (.iload_n 2, 1) := by decide +kernel
theorem d_Desk_multiply_33 : decode b_Desk_multiply 33 = .ok (.aaload, 1) := by decide +kernel
theorem d_Desk_multiply_34 : decode b_Desk_multiply 34 = .ok (.aload_n 0, 1) := by decide +kernel
theorem d_Desk_multiply_35 : decode b_Desk_multiply 35 = .ok (.getfield 11, 3) := by decide +kernel
theorem d_Desk_multiply_38 : decode b_Desk_multiply 38 = .ok (.iload_n 3, 1) := by decide +kernel
theorem d_Desk_multiply_39 : decode b_Desk_multiply 39 = .ok (.aaload, 1) := by decide +kernel
theorem d_Desk_multiply_40 : decode b_Desk_multiply 40 = .ok (.invokevirtual 85, 3) := by decide +kernel
theorem d_Desk_multiply_43 : decode b_Desk_multiply 43 = .ok (.aload_n 0, 1) := by decide +kernel
theorem d_Desk_multiply_44 : decode b_Desk_multiply 44 = .ok (.iload_n 1, 1) := by decide +kernel
theorem d_Desk_multiply_45 : decode b_Desk_multiply 45 = .ok (.invokevirtual 59, 3) := by decide +kernel
theorem d_Desk_multiply_48 : decode b_Desk_multiply 48 = .ok (.ireturn, 1) := by decide +kernel
theorem d_Desk_shift_0 : decode b_Desk_shift 0 = .ok (.iload_n 1, 1) := by decide +kernel
theorem d_Desk_shift_1 : decode b_Desk_shift 1 = .ok (.invokestatic 39, 3) := by decide +kernel
theorem d_Desk_shift_4 : decode b_Desk_shift 4 = .ok (.ifCond .eq 10, 3) := by decide +kernel
theorem d_Desk_shift_7 : decode b_Desk_shift 7 = .ok (.iload_n 2, 1) := by decide +kernel
theorem d_Desk_shift_8 : decode b_Desk_shift 8 = .ok (.invokestatic 39, 3) := by decide +kernel
theorem d_Desk_shift_11 : decode b_Desk_shift 11 = .ok (.ifCond .ne 6, 3) := by decide +kernel
theorem d_Desk_shift_14 : decode b_Desk_shift 14 = .ok (.bipush (-9), 2) := by decide +kernel
theorem d_Desk_shift_16 : decode b_Desk_shift 16 = .ok (.ireturn, 1) := by decide +kernel
theorem d_Desk_shift_17 : decode b_Desk_shift 17 = .ok (.aload_n 0, 1) := by decide +kernel
theorem d_Desk_shift_18 : decode b_Desk_shift 18 = .ok (.getfield 18, 3) := by decide +kernel
theorem d_Desk_shift_21 : decode b_Desk_shift 21 = .ok (.aload_n 0, 1) := by decide +kernel
theorem d_Desk_shift_22 : decode b_Desk_shift 22 = .ok (.getfield 11, 3) := by decide +kernel
theorem d_Desk_shift_25 : decode b_Desk_shift 25 = .ok (.iload_n 2, 1) := by decide +kernel
theorem d_Desk_shift_26 : decode b_Desk_shift 26 = .ok (.aaload, 1) := by decide +kernel
theorem d_Desk_shift_27 : decode b_Desk_shift 27 = .ok (.invokevirtual 89, 3) := by decide +kernel
theorem d_Desk_shift_30 : decode b_Desk_shift 30 = .ok (.aload_n 0, 1) := by decide +kernel
theorem d_Desk_shift_31 : decode b_Desk_shift 31 = .ok (.iload_n 1, 1) := by decide +kernel
theorem d_Desk_shift_32 : decode b_Desk_shift 32 = .ok (.invokevirtual 59, 3) := by decide +kernel
theorem d_Desk_shift_35 : decode b_Desk_shift 35 = .ok (.ireturn, 1) := by decide +kernel
theorem d_Desk_difference_0 : decode b_Desk_difference 0 = .ok (.iload_n 1, 1) := by decide +kernel
theorem d_Desk_difference_1 : decode b_Desk_difference 1 = .ok (.invokestatic 39, 3) := by decide +kernel
theorem d_Desk_difference_4 : decode b_Desk_difference 4 = .ok (.ifCond .eq 10, 3) := by decide +kernel
theorem d_Desk_difference_7 : decode b_Desk_difference 7 = .ok (.iload_n 2, 1) := by decide +kernel
theorem d_Desk_difference_8 : decode b_Desk_difference 8 = .ok (.invokestatic 39, 3) := by decide +kernel
theorem d_Desk_difference_11 : decode b_Desk_difference 11 = .ok (.ifCond .ne 6, 3) := by decide +kernel
theorem d_Desk_difference_14 : decode b_Desk_difference 14 = .ok (.bipush (-9), 2) := by decide +kernel
theorem d_Desk_difference_16 : decode b_Desk_difference 16 = .ok (.ireturn, 1) := by decide +kernel
theorem d_Desk_difference_17 : decode b_Desk_difference 17 = .ok (.aload_n 0, 1) := by decide +kernel
theorem d_Desk_difference_18 : decode b_Desk_difference 18 = .ok (.getfield 28, 3) := by decide +kernel
theorem d_Desk_difference_21 : decode b_Desk_difference 21 = .ok (.aload_n 0, 1) := by decide +kernel
theorem d_Desk_difference_22 : decode b_Desk_difference 22 = .ok (.getfield 18, 3) := by decide +kernel
theorem d_Desk_difference_25 : decode b_Desk_difference 25 = .ok (.aload_n 0, 1) := by decide +kernel
theorem d_Desk_difference_26 : decode b_Desk_difference 26 = .ok (.getfield 11, 3) := by decide +kernel
theorem d_Desk_difference_29 : decode b_Desk_difference 29 = .ok (.iload_n 2, 1) := by decide +kernel
theorem d_Desk_difference_30 : decode b_Desk_difference 30 = .ok (.aaload, 1) := by decide +kernel
theorem d_Desk_difference_31 : decode b_Desk_difference 31 = .ok (.invokevirtual 93, 3) := by decide +kernel
theorem d_Desk_difference_34 : decode b_Desk_difference 34 = .ok (.aload_n 0, 1) := by decide +kernel
theorem d_Desk_difference_35 : decode b_Desk_difference 35 = .ok (.iload_n 1, 1) := by decide +kernel
theorem d_Desk_difference_36 : decode b_Desk_difference 36 = .ok (.invokevirtual 59, 3) := by decide +kernel
theorem d_Desk_difference_39 : decode b_Desk_difference 39 = .ok (.ireturn, 1) := by decide +kernel
theorem d_Desk_telescope_0 : decode b_Desk_telescope 0 = .ok (.iload_n 1, 1) := by decide +kernel
theorem d_Desk_telescope_1 : decode b_Desk_telescope 1 = .ok (.invokestatic 39, 3) := by decide +kernel
theorem d_Desk_telescope_4 : decode b_Desk_telescope 4 = .ok (.ifCond .eq 22, 3) := by decide +kernel
theorem d_Desk_telescope_7 : decode b_Desk_telescope 7 = .ok (.iload_n 2, 1) := by decide +kernel
theorem d_Desk_telescope_8 : decode b_Desk_telescope 8 = .ok (.invokestatic 39, 3) := by decide +kernel
theorem d_Desk_telescope_11 : decode b_Desk_telescope 11 = .ok (.ifCond .eq 15, 3) := by decide +kernel
theorem d_Desk_telescope_14 : decode b_Desk_telescope 14 = .ok (.iload_n 3, 1) := by decide +kernel
theorem d_Desk_telescope_15 : decode b_Desk_telescope 15 = .ok (.invokestatic 39, 3) := by decide +kernel
theorem d_Desk_telescope_18 : decode b_Desk_telescope 18 = .ok (.ifCond .eq 8, 3) := by decide +kernel
theorem d_Desk_telescope_21 : decode b_Desk_telescope 21 = .ok (.iload_n 1, 1) := by decide +kernel
theorem d_Desk_telescope_22 : decode b_Desk_telescope 22 = .ok (.iload_n 2, 1) := by decide +kernel
theorem d_Desk_telescope_23 : decode b_Desk_telescope 23 = .ok (.if_icmp .ne 6, 3) := by decide +kernel
theorem d_Desk_telescope_26 : decode b_Desk_telescope 26 = .ok (.bipush (-9), 2) := by decide +kernel
theorem d_Desk_telescope_28 : decode b_Desk_telescope 28 = .ok (.ireturn, 1) := by decide +kernel
theorem d_Desk_telescope_29 : decode b_Desk_telescope 29 = .ok (.aload_n 0, 1) := by decide +kernel
theorem d_Desk_telescope_30 : decode b_Desk_telescope 30 = .ok (.getfield 35, 3) := by decide +kernel
theorem d_Desk_telescope_33 : decode b_Desk_telescope 33 = .ok (.aload_n 0, 1) := by decide +kernel
theorem d_Desk_telescope_34 : decode b_Desk_telescope 34 = .ok (.getfield 11, 3) := by decide +kernel
theorem d_Desk_telescope_37 : decode b_Desk_telescope 37 = .ok (.iload_n 3, 1) := by decide +kernel
theorem d_Desk_telescope_38 : decode b_Desk_telescope 38 = .ok (.aaload, 1) := by decide +kernel
theorem d_Desk_telescope_39 : decode b_Desk_telescope 39 = .ok (.aload_n 0, 1) := by decide +kernel
theorem d_Desk_telescope_40 : decode b_Desk_telescope 40 = .ok (.getfield 18, 3) := by decide +kernel
theorem d_Desk_telescope_43 : decode b_Desk_telescope 43 = .ok (.aload_n 0, 1) := by decide +kernel
theorem d_Desk_telescope_44 : decode b_Desk_telescope 44 = .ok (.getfield 22, 3) := by decide +kernel
theorem d_Desk_telescope_47 : decode b_Desk_telescope 47 = .ok (.invokevirtual 96, 3) := by decide +kernel
theorem d_Desk_telescope_50 : decode b_Desk_telescope 50 = .ok (.aload_n 0, 1) := by decide +kernel
theorem d_Desk_telescope_51 : decode b_Desk_telescope 51 = .ok (.getfield 18, 3) := by decide +kernel
theorem d_Desk_telescope_54 : decode b_Desk_telescope 54 = .ok (.invokevirtual 100, 3) := by decide +kernel
theorem d_Desk_telescope_57 : decode b_Desk_telescope 57 = .ok (.ifCond .eq 6, 3) := by decide +kernel
theorem d_Desk_telescope_60 : decode b_Desk_telescope 60 = .ok (.bipush (-7), 2) := by decide +kernel
theorem d_Desk_telescope_62 : decode b_Desk_telescope 62 = .ok (.ireturn, 1) := by decide +kernel
theorem d_Desk_telescope_63 : decode b_Desk_telescope 63 = .ok (.aload_n 0, 1) := by decide +kernel
theorem d_Desk_telescope_64 : decode b_Desk_telescope 64 = .ok (.getfield 11, 3) := by decide +kernel
theorem d_Desk_telescope_67 : decode b_Desk_telescope 67 = .ok (.iload_n 1, 1) := by decide +kernel
theorem d_Desk_telescope_68 : decode b_Desk_telescope 68 = .ok (.aaload, 1) := by decide +kernel
theorem d_Desk_telescope_69 : decode b_Desk_telescope 69 = .ok (.aload_n 0, 1) := by decide +kernel
theorem d_Desk_telescope_70 : decode b_Desk_telescope 70 = .ok (.getfield 18, 3) := by decide +kernel
theorem d_Desk_telescope_73 : decode b_Desk_telescope 73 = .ok (.invokevirtual 103, 3) := by decide +kernel
theorem d_Desk_telescope_76 : decode b_Desk_telescope 76 = .ok (.aload_n 0, 1) := by decide +kernel
theorem d_Desk_telescope_77 : decode b_Desk_telescope 77 = .ok (.getfield 11, 3) := by decide +kernel
theorem d_Desk_telescope_80 : decode b_Desk_telescope 80 = .ok (.iload_n 2, 1) := by decide +kernel
theorem d_Desk_telescope_81 : decode b_Desk_telescope 81 = .ok (.aaload, 1) := by decide +kernel
theorem d_Desk_telescope_82 : decode b_Desk_telescope 82 = .ok (.aload_n 0, 1) := by decide +kernel
theorem d_Desk_telescope_83 : decode b_Desk_telescope 83 = .ok (.getfield 22, 3) := by decide +kernel
theorem d_Desk_telescope_86 : decode b_Desk_telescope 86 = .ok (.invokevirtual 103, 3) := by decide +kernel
theorem d_Desk_telescope_89 : decode b_Desk_telescope 89 = .ok (.aload_n 0, 1) := by decide +kernel
theorem d_Desk_telescope_90 : decode b_Desk_telescope 90 = .ok (.getfield 22, 3) := by decide +kernel
theorem d_Desk_telescope_93 : decode b_Desk_telescope 93 = .ok (.invokevirtual 77, 3) := by decide +kernel
theorem d_Desk_telescope_96 : decode b_Desk_telescope 96 = .ok (.ifCond .eq 7, 3) := by decide +kernel
theorem d_Desk_telescope_99 : decode b_Desk_telescope 99 = .ok (.iconst 1, 1) := by decide +kernel
theorem d_Desk_telescope_100 : decode b_Desk_telescope 100 = .ok (.goto 4, 3) := by decide +kernel
theorem d_Desk_telescope_103 : decode b_Desk_telescope 103 = .ok (.iconst 0, 1) := by decide +kernel
theorem d_Desk_telescope_104 : decode b_Desk_telescope 104 = .ok (.ireturn, 1) := by decide +kernel
theorem d_Desk_check_0 : decode b_Desk_check 0 = .ok (.iload_n 1, 1) := by decide +kernel
theorem d_Desk_check_1 : decode b_Desk_check 1 = .ok (.invokestatic 39, 3) := by decide +kernel
theorem d_Desk_check_4 : decode b_Desk_check 4 = .ok (.ifCond .eq 10, 3) := by decide +kernel
theorem d_Desk_check_7 : decode b_Desk_check 7 = .ok (.iload_n 2, 1) := by decide +kernel
theorem d_Desk_check_8 : decode b_Desk_check 8 = .ok (.invokestatic 39, 3) := by decide +kernel
theorem d_Desk_check_11 : decode b_Desk_check 11 = .ok (.ifCond .ne 5, 3) := by decide +kernel
theorem d_Desk_check_14 : decode b_Desk_check 14 = .ok (.iconst 0, 1) := by decide +kernel
theorem d_Desk_check_15 : decode b_Desk_check 15 = .ok (.ireturn, 1) := by decide +kernel
theorem d_Desk_check_16 : decode b_Desk_check 16 = .ok (.aload_n 0, 1) := by decide +kernel
theorem d_Desk_check_17 : decode b_Desk_check 17 = .ok (.getfield 28, 3) := by decide +kernel
theorem d_Desk_check_20 : decode b_Desk_check 20 = .ok (.aload_n 0, 1) := by decide +kernel
theorem d_Desk_check_21 : decode b_Desk_check 21 = .ok (.getfield 18, 3) := by decide +kernel
theorem d_Desk_check_24 : decode b_Desk_check 24 = .ok (.aload_n 0, 1) := by decide +kernel
theorem d_Desk_check_25 : decode b_Desk_check 25 = .ok (.getfield 11, 3) := by decide +kernel
theorem d_Desk_check_28 : decode b_Desk_check 28 = .ok (.iload_n 1, 1) := by decide +kernel
theorem d_Desk_check_29 : decode b_Desk_check 29 = .ok (.aaload, 1) := by decide +kernel
theorem d_Desk_check_30 : decode b_Desk_check 30 = .ok (.invokevirtual 93, 3) := by decide +kernel
theorem d_Desk_check_33 : decode b_Desk_check 33 = .ok (.aload_n 0, 1) := by decide +kernel
theorem d_Desk_check_34 : decode b_Desk_check 34 = .ok (.getfield 18, 3) := by decide +kernel
theorem d_Desk_check_37 : decode b_Desk_check 37 = .ok (.invokevirtual 100, 3) := by decide +kernel
theorem d_Desk_check_40 : decode b_Desk_check 40 = .ok (.ifCond .ne 23, 3) := by decide +kernel
theorem d_Desk_check_43 : decode b_Desk_check 43 = .ok (.aload_n 0, 1) := by decide +kernel
theorem d_Desk_check_44 : decode b_Desk_check 44 = .ok (.getfield 18, 3) := by decide +kernel
theorem d_Desk_check_47 : decode b_Desk_check 47 = .ok (.aload_n 0, 1) := by decide +kernel
theorem d_Desk_check_48 : decode b_Desk_check 48 = .ok (.getfield 11, 3) := by decide +kernel
theorem d_Desk_check_51 : decode b_Desk_check 51 = .ok (.iload_n 2, 1) := by decide +kernel
theorem d_Desk_check_52 : decode b_Desk_check 52 = .ok (.aaload, 1) := by decide +kernel
theorem d_Desk_check_53 : decode b_Desk_check 53 = .ok (.invokevirtual 106, 3) := by decide +kernel
theorem d_Desk_check_56 : decode b_Desk_check 56 = .ok (.ifCond .eq 7, 3) := by decide +kernel
theorem d_Desk_check_59 : decode b_Desk_check 59 = .ok (.iconst 1, 1) := by decide +kernel
theorem d_Desk_check_60 : decode b_Desk_check 60 = .ok (.goto 4, 3) := by decide +kernel
theorem d_Desk_check_63 : decode b_Desk_check 63 = .ok (.iconst 0, 1) := by decide +kernel
theorem d_Desk_check_64 : decode b_Desk_check 64 = .ok (.ireturn, 1) := by decide +kernel
theorem d_Desk_same_0 : decode b_Desk_same 0 = .ok (.iload_n 1, 1) := by decide +kernel
theorem d_Desk_same_1 : decode b_Desk_same 1 = .ok (.invokestatic 39, 3) := by decide +kernel
theorem d_Desk_same_4 : decode b_Desk_same 4 = .ok (.ifCond .eq 32, 3) := by decide +kernel
theorem d_Desk_same_7 : decode b_Desk_same 7 = .ok (.iload_n 2, 1) := by decide +kernel
theorem d_Desk_same_8 : decode b_Desk_same 8 = .ok (.invokestatic 39, 3) := by decide +kernel
theorem d_Desk_same_11 : decode b_Desk_same 11 = .ok (.ifCond .eq 25, 3) := by decide +kernel
theorem d_Desk_same_14 : decode b_Desk_same 14 = .ok (.aload_n 0, 1) := by decide +kernel
theorem d_Desk_same_15 : decode b_Desk_same 15 = .ok (.getfield 11, 3) := by decide +kernel
theorem d_Desk_same_18 : decode b_Desk_same 18 = .ok (.iload_n 1, 1) := by decide +kernel
theorem d_Desk_same_19 : decode b_Desk_same 19 = .ok (.aaload, 1) := by decide +kernel
theorem d_Desk_same_20 : decode b_Desk_same 20 = .ok (.aload_n 0, 1) := by decide +kernel
theorem d_Desk_same_21 : decode b_Desk_same 21 = .ok (.getfield 11, 3) := by decide +kernel
theorem d_Desk_same_24 : decode b_Desk_same 24 = .ok (.iload_n 2, 1) := by decide +kernel
theorem d_Desk_same_25 : decode b_Desk_same 25 = .ok (.aaload, 1) := by decide +kernel
theorem d_Desk_same_26 : decode b_Desk_same 26 = .ok (.invokevirtual 106, 3) := by decide +kernel
theorem d_Desk_same_29 : decode b_Desk_same 29 = .ok (.ifCond .eq 7, 3) := by decide +kernel
theorem d_Desk_same_32 : decode b_Desk_same 32 = .ok (.iconst 1, 1) := by decide +kernel
theorem d_Desk_same_33 : decode b_Desk_same 33 = .ok (.goto 4, 3) := by decide +kernel
theorem d_Desk_same_36 : decode b_Desk_same 36 = .ok (.iconst 0, 1) := by decide +kernel
theorem d_Desk_same_37 : decode b_Desk_same 37 = .ok (.ireturn, 1) := by decide +kernel
theorem d_Desk_ratio_0 : decode b_Desk_ratio 0 = .ok (.iload_n 1, 1) := by decide +kernel
theorem d_Desk_ratio_1 : decode b_Desk_ratio 1 = .ok (.invokestatic 39, 3) := by decide +kernel
theorem d_Desk_ratio_4 : decode b_Desk_ratio 4 = .ok (.ifCond .eq 15, 3) := by decide +kernel
theorem d_Desk_ratio_7 : decode b_Desk_ratio 7 = .ok (.aload_n 0, 1) := by decide +kernel
theorem d_Desk_ratio_8 : decode b_Desk_ratio 8 = .ok (.getfield 11, 3) := by decide +kernel
theorem d_Desk_ratio_11 : decode b_Desk_ratio 11 = .ok (.iload_n 1, 1) := by decide +kernel
theorem d_Desk_ratio_12 : decode b_Desk_ratio 12 = .ok (.aaload, 1) := by decide +kernel
theorem d_Desk_ratio_13 : decode b_Desk_ratio 13 = .ok (.getfield 63, 3) := by decide +kernel
theorem d_Desk_ratio_16 : decode b_Desk_ratio 16 = .ok (.goto 5, 3) := by decide +kernel
theorem d_Desk_ratio_19 : decode b_Desk_ratio 19 = .ok (.bipush (-9), 2) := by decide +kernel
theorem d_Desk_ratio_21 : decode b_Desk_ratio 21 = .ok (.ireturn, 1) := by decide +kernel
theorem d_Desk_degree_0 : decode b_Desk_degree 0 = .ok (.iload_n 1, 1) := by decide +kernel
theorem d_Desk_degree_1 : decode b_Desk_degree 1 = .ok (.invokestatic 39, 3) := by decide +kernel
theorem d_Desk_degree_4 : decode b_Desk_degree 4 = .ok (.ifCond .eq 18, 3) := by decide +kernel
theorem d_Desk_degree_7 : decode b_Desk_degree 7 = .ok (.aload_n 0, 1) := by decide +kernel
theorem d_Desk_degree_8 : decode b_Desk_degree 8 = .ok (.getfield 11, 3) := by decide +kernel
theorem d_Desk_degree_11 : decode b_Desk_degree 11 = .ok (.iload_n 1, 1) := by decide +kernel
theorem d_Desk_degree_12 : decode b_Desk_degree 12 = .ok (.aaload, 1) := by decide +kernel
theorem d_Desk_degree_13 : decode b_Desk_degree 13 = .ok (.getfield 49, 3) := by decide +kernel
theorem d_Desk_degree_16 : decode b_Desk_degree 16 = .ok (.getfield 110, 3) := by decide +kernel
theorem d_Desk_degree_19 : decode b_Desk_degree 19 = .ok (.goto 5, 3) := by decide +kernel
theorem d_Desk_degree_22 : decode b_Desk_degree 22 = .ok (.bipush (-9), 2) := by decide +kernel
theorem d_Desk_degree_24 : decode b_Desk_degree 24 = .ok (.ireturn, 1) := by decide +kernel
theorem d_Desk_coefficient_0 : decode b_Desk_coefficient 0 = .ok (.iload_n 1, 1) := by decide +kernel
theorem d_Desk_coefficient_1 : decode b_Desk_coefficient 1 = .ok (.invokestatic 39, 3) := by decide +kernel
theorem d_Desk_coefficient_4 : decode b_Desk_coefficient 4 = .ok (.ifCond .eq 13, 3) := by decide +kernel
theorem d_Desk_coefficient_7 : decode b_Desk_coefficient 7 = .ok (.iload_n 2, 1) := by decide +kernel
theorem d_Desk_coefficient_8 : decode b_Desk_coefficient 8 = .ok (.ifCond .lt 9, 3) := by decide +kernel
theorem d_Desk_coefficient_11 : decode b_Desk_coefficient 11 = .ok (.iload_n 2, 1) := by decide +kernel
theorem d_Desk_coefficient_12 : decode b_Desk_coefficient 12 = .ok (.bipush 31, 2) := by decide +kernel
theorem d_Desk_coefficient_14 : decode b_Desk_coefficient 14 = .ok (.if_icmp .le 6, 3) := by decide +kernel
theorem d_Desk_coefficient_17 : decode b_Desk_coefficient 17 = .ok (.bipush (-9), 2) := by decide +kernel
theorem d_Desk_coefficient_19 : decode b_Desk_coefficient 19 = .ok (.ireturn, 1) := by decide +kernel
theorem d_Desk_coefficient_20 : decode b_Desk_coefficient 20 = .ok (.aload_n 0, 1) := by decide +kernel
theorem d_Desk_coefficient_21 : decode b_Desk_coefficient 21 = .ok (.getfield 11, 3) := by decide +kernel
theorem d_Desk_coefficient_24 : decode b_Desk_coefficient 24 = .ok (.iload_n 1, 1) := by decide +kernel
theorem d_Desk_coefficient_25 : decode b_Desk_coefficient 25 = .ok (.aaload, 1) := by decide +kernel
theorem d_Desk_coefficient_26 : decode b_Desk_coefficient 26 = .ok (.getfield 49, 3) := by decide +kernel
theorem d_Desk_coefficient_29 : decode b_Desk_coefficient 29 = .ok (.getfield 113, 3) := by decide +kernel
theorem d_Desk_coefficient_32 : decode b_Desk_coefficient 32 = .ok (.iload_n 2, 1) := by decide +kernel
theorem d_Desk_coefficient_33 : decode b_Desk_coefficient 33 = .ok (.iaload, 1) := by decide +kernel
theorem d_Desk_coefficient_34 : decode b_Desk_coefficient 34 = .ok (.ireturn, 1) := by decide +kernel
theorem d_Desk_exponent_0 : decode b_Desk_exponent 0 = .ok (.iload_n 1, 1) := by decide +kernel
theorem d_Desk_exponent_1 : decode b_Desk_exponent 1 = .ok (.invokestatic 39, 3) := by decide +kernel
theorem d_Desk_exponent_4 : decode b_Desk_exponent 4 = .ok (.ifCond .eq 24, 3) := by decide +kernel
theorem d_Desk_exponent_7 : decode b_Desk_exponent 7 = .ok (.iload_n 2, 1) := by decide +kernel
theorem d_Desk_exponent_8 : decode b_Desk_exponent 8 = .ok (.invokestatic 67, 3) := by decide +kernel
theorem d_Desk_exponent_11 : decode b_Desk_exponent 11 = .ok (.ifCond .eq 17, 3) := by decide +kernel
theorem d_Desk_exponent_14 : decode b_Desk_exponent 14 = .ok (.aload_n 0, 1) := by decide +kernel
theorem d_Desk_exponent_15 : decode b_Desk_exponent 15 = .ok (.getfield 11, 3) := by decide +kernel
theorem d_Desk_exponent_18 : decode b_Desk_exponent 18 = .ok (.iload_n 1, 1) := by decide +kernel
theorem d_Desk_exponent_19 : decode b_Desk_exponent 19 = .ok (.aaload, 1) := by decide +kernel
theorem d_Desk_exponent_20 : decode b_Desk_exponent 20 = .ok (.getfield 73, 3) := by decide +kernel
theorem d_Desk_exponent_23 : decode b_Desk_exponent 23 = .ok (.iload_n 2, 1) := by decide +kernel
theorem d_Desk_exponent_24 : decode b_Desk_exponent 24 = .ok (.iaload, 1) := by decide +kernel
theorem d_Desk_exponent_25 : decode b_Desk_exponent 25 = .ok (.goto 5, 3) := by decide +kernel
theorem d_Desk_exponent_28 : decode b_Desk_exponent 28 = .ok (.bipush (-9), 2) := by decide +kernel
theorem d_Desk_exponent_30 : decode b_Desk_exponent 30 = .ok (.ireturn, 1) := by decide +kernel
theorem d_Desk_weight_0 : decode b_Desk_weight 0 = .ok (.iload_n 1, 1) := by decide +kernel
theorem d_Desk_weight_1 : decode b_Desk_weight 1 = .ok (.invokestatic 39, 3) := by decide +kernel
theorem d_Desk_weight_4 : decode b_Desk_weight 4 = .ok (.ifCond .eq 17, 3) := by decide +kernel
theorem d_Desk_weight_7 : decode b_Desk_weight 7 = .ok (.iload_n 2, 1) := by decide +kernel
theorem d_Desk_weight_8 : decode b_Desk_weight 8 = .ok (.invokestatic 67, 3) := by decide +kernel
theorem d_Desk_weight_11 : decode b_Desk_weight 11 = .ok (.ifCond .eq 10, 3) := by decide +kernel
theorem d_Desk_weight_14 : decode b_Desk_weight 14 = .ok (.iload_n 3, 1) := by decide +kernel
theorem d_Desk_weight_15 : decode b_Desk_weight 15 = .ok (.invokestatic 70, 3) := by decide +kernel
theorem d_Desk_weight_18 : decode b_Desk_weight 18 = .ok (.ifCond .ne 6, 3) := by decide +kernel
theorem d_Desk_weight_21 : decode b_Desk_weight 21 = .ok (.bipush (-9), 2) := by decide +kernel
theorem d_Desk_weight_23 : decode b_Desk_weight 23 = .ok (.ireturn, 1) := by decide +kernel
theorem d_Desk_weight_24 : decode b_Desk_weight 24 = .ok (.aload_n 0, 1) := by decide +kernel
theorem d_Desk_weight_25 : decode b_Desk_weight 25 = .ok (.getfield 35, 3) := by decide +kernel
theorem d_Desk_weight_28 : decode b_Desk_weight 28 = .ok (.aload_n 0, 1) := by decide +kernel
theorem d_Desk_weight_29 : decode b_Desk_weight 29 = .ok (.getfield 11, 3) := by decide +kernel
theorem d_Desk_weight_32 : decode b_Desk_weight 32 = .ok (.iload_n 1, 1) := by decide +kernel
theorem d_Desk_weight_33 : decode b_Desk_weight 33 = .ok (.aaload, 1) := by decide +kernel
theorem d_Desk_weight_34 : decode b_Desk_weight 34 = .ok (.iload_n 2, 1) := by decide +kernel
theorem d_Desk_weight_35 : decode b_Desk_weight 35 = .ok (.iload_n 3, 1) := by decide +kernel
theorem d_Desk_weight_36 : decode b_Desk_weight 36 = .ok (.invokevirtual 116, 3) := by decide +kernel
theorem d_Desk_weight_39 : decode b_Desk_weight 39 = .ok (.ireturn, 1) := by decide +kernel
theorem d_Desk_value_0 : decode b_Desk_value 0 = .ok (.iload_n 1, 1) := by decide +kernel
theorem d_Desk_value_1 : decode b_Desk_value 1 = .ok (.invokestatic 39, 3) := by decide +kernel
theorem d_Desk_value_4 : decode b_Desk_value 4 = .ok (.ifCond .eq 10, 3) := by decide +kernel
theorem d_Desk_value_7 : decode b_Desk_value 7 = .ok (.iload_n 2, 1) := by decide +kernel
theorem d_Desk_value_8 : decode b_Desk_value 8 = .ok (.invokestatic 120, 3) := by decide +kernel
theorem d_Desk_value_11 : decode b_Desk_value 11 = .ok (.ifCond .ne 6, 3) := by decide +kernel
theorem d_Desk_value_14 : decode b_Desk_value 14 = .ok (.bipush (-9), 2) := by decide +kernel
theorem d_Desk_value_16 : decode b_Desk_value 16 = .ok (.ireturn, 1) := by decide +kernel
theorem d_Desk_value_17 : decode b_Desk_value 17 = .ok (.aload_n 0, 1) := by decide +kernel
theorem d_Desk_value_18 : decode b_Desk_value 18 = .ok (.getfield 11, 3) := by decide +kernel
theorem d_Desk_value_21 : decode b_Desk_value 21 = .ok (.iload_n 1, 1) := by decide +kernel
theorem d_Desk_value_22 : decode b_Desk_value 22 = .ok (.aaload, 1) := by decide +kernel
theorem d_Desk_value_23 : decode b_Desk_value 23 = .ok (.iload_n 2, 1) := by decide +kernel
theorem d_Desk_value_24 : decode b_Desk_value 24 = .ok (.invokevirtual 123, 3) := by decide +kernel
theorem d_Desk_value_27 : decode b_Desk_value 27 = .ok (.ifCond .eq 16, 3) := by decide +kernel
theorem d_Desk_value_30 : decode b_Desk_value 30 = .ok (.aload_n 0, 1) := by decide +kernel
theorem d_Desk_value_31 : decode b_Desk_value 31 = .ok (.getfield 11, 3) := by decide +kernel
theorem d_Desk_value_34 : decode b_Desk_value 34 = .ok (.iload_n 1, 1) := by decide +kernel
theorem d_Desk_value_35 : decode b_Desk_value 35 = .ok (.aaload, 1) := by decide +kernel
theorem d_Desk_value_36 : decode b_Desk_value 36 = .ok (.iload_n 2, 1) := by decide +kernel
theorem d_Desk_value_37 : decode b_Desk_value 37 = .ok (.invokevirtual 126, 3) := by decide +kernel
theorem d_Desk_value_40 : decode b_Desk_value 40 = .ok (.goto 5, 3) := by decide +kernel
theorem d_Desk_value_43 : decode b_Desk_value 43 = .ok (.bipush (-6), 2) := by decide +kernel
theorem d_Desk_value_45 : decode b_Desk_value 45 = .ok (.ireturn, 1) := by decide +kernel
theorem d_Desk_isPlace_0 : decode b_Desk_isPlace 0 = .ok (.iload_n 0, 1) := by decide +kernel
theorem d_Desk_isPlace_1 : decode b_Desk_isPlace 1 = .ok (.bipush (-30), 2) := by decide +kernel
theorem d_Desk_isPlace_3 : decode b_Desk_isPlace 3 = .ok (.if_icmp .lt 14, 3) := by decide +kernel
theorem d_Desk_isPlace_6 : decode b_Desk_isPlace 6 = .ok (.iload_n 0, 1) := by decide +kernel
theorem d_Desk_isPlace_7 : decode b_Desk_isPlace 7 = .ok (.sipush 1000, 3) := by decide +kernel
theorem d_Desk_isPlace_10 : decode b_Desk_isPlace 10 = .ok (.if_icmp .gt 7, 3) := by decide +kernel
theorem d_Desk_isPlace_13 : decode b_Desk_isPlace 13 = .ok (.iconst 1, 1) := by decide +kernel
theorem d_Desk_isPlace_14 : decode b_Desk_isPlace 14 = .ok (.goto 4, 3) := by decide +kernel
theorem d_Desk_isPlace_17 : decode b_Desk_isPlace 17 = .ok (.iconst 0, 1) := by decide +kernel
theorem d_Desk_isPlace_18 : decode b_Desk_isPlace 18 = .ok (.ireturn, 1) := by decide +kernel
theorem d_Desk_sum_0 : decode b_Desk_sum 0 = .ok (.iload_n 1, 1) := by decide +kernel
theorem d_Desk_sum_1 : decode b_Desk_sum 1 = .ok (.invokestatic 39, 3) := by decide +kernel
theorem d_Desk_sum_4 : decode b_Desk_sum 4 = .ok (.ifCond .eq 17, 3) := by decide +kernel
theorem d_Desk_sum_7 : decode b_Desk_sum 7 = .ok (.iload_n 2, 1) := by decide +kernel
theorem d_Desk_sum_8 : decode b_Desk_sum 8 = .ok (.invokestatic 120, 3) := by decide +kernel
theorem d_Desk_sum_11 : decode b_Desk_sum 11 = .ok (.ifCond .eq 10, 3) := by decide +kernel
theorem d_Desk_sum_14 : decode b_Desk_sum 14 = .ok (.iload_n 3, 1) := by decide +kernel
theorem d_Desk_sum_15 : decode b_Desk_sum 15 = .ok (.invokestatic 120, 3) := by decide +kernel
theorem d_Desk_sum_18 : decode b_Desk_sum 18 = .ok (.ifCond .ne 6, 3) := by decide +kernel
theorem d_Desk_sum_21 : decode b_Desk_sum 21 = .ok (.bipush (-9), 2) := by decide +kernel
theorem d_Desk_sum_23 : decode b_Desk_sum 23 = .ok (.ireturn, 1) := by decide +kernel
theorem d_Desk_sum_24 : decode b_Desk_sum 24 = .ok (.iconst 0, 1) := by decide +kernel
theorem d_Desk_sum_25 : decode b_Desk_sum 25 = .ok (.istore 4, 2) := by decide +kernel
theorem d_Desk_sum_27 : decode b_Desk_sum 27 = .ok (.iload_n 2, 1) := by decide +kernel
theorem d_Desk_sum_28 : decode b_Desk_sum 28 = .ok (.istore 5, 2) := by decide +kernel
theorem d_Desk_sum_30 : decode b_Desk_sum 30 = .ok (.iload 5, 2) := by decide +kernel
theorem d_Desk_sum_32 : decode b_Desk_sum 32 = .ok (.iload_n 3, 1) := by decide +kernel
theorem d_Desk_sum_33 : decode b_Desk_sum 33 = .ok (.if_icmp .gt 46, 3) := by decide +kernel
theorem d_Desk_sum_36 : decode b_Desk_sum 36 = .ok (.aload_n 0, 1) := by decide +kernel
theorem d_Desk_sum_37 : decode b_Desk_sum 37 = .ok (.getfield 11, 3) := by decide +kernel
theorem d_Desk_sum_40 : decode b_Desk_sum 40 = .ok (.iload_n 1, 1) := by decide +kernel
theorem d_Desk_sum_41 : decode b_Desk_sum 41 = .ok (.aaload, 1) := by decide +kernel
theorem d_Desk_sum_42 : decode b_Desk_sum 42 = .ok (.iload 5, 2) := by decide +kernel
theorem d_Desk_sum_44 : decode b_Desk_sum 44 = .ok (.invokevirtual 123, 3) := by decide +kernel
theorem d_Desk_sum_47 : decode b_Desk_sum 47 = .ok (.ifCond .ne 6, 3) := by decide +kernel
theorem d_Desk_sum_50 : decode b_Desk_sum 50 = .ok (.bipush (-6), 2) := by decide +kernel
theorem d_Desk_sum_52 : decode b_Desk_sum 52 = .ok (.ireturn, 1) := by decide +kernel
theorem d_Desk_sum_53 : decode b_Desk_sum 53 = .ok (.iload 4, 2) := by decide +kernel
theorem d_Desk_sum_55 : decode b_Desk_sum 55 = .ok (.aload_n 0, 1) := by decide +kernel
theorem d_Desk_sum_56 : decode b_Desk_sum 56 = .ok (.getfield 11, 3) := by decide +kernel
theorem d_Desk_sum_59 : decode b_Desk_sum 59 = .ok (.iload_n 1, 1) := by decide +kernel
theorem d_Desk_sum_60 : decode b_Desk_sum 60 = .ok (.aaload, 1) := by decide +kernel
theorem d_Desk_sum_61 : decode b_Desk_sum 61 = .ok (.iload 5, 2) := by decide +kernel
theorem d_Desk_sum_63 : decode b_Desk_sum 63 = .ok (.invokevirtual 126, 3) := by decide +kernel
theorem d_Desk_sum_66 : decode b_Desk_sum 66 = .ok (.iadd, 1) := by decide +kernel
theorem d_Desk_sum_67 : decode b_Desk_sum 67 = .ok (.sipush 10007, 3) := by decide +kernel
theorem d_Desk_sum_70 : decode b_Desk_sum 70 = .ok (.irem, 1) := by decide +kernel
theorem d_Desk_sum_71 : decode b_Desk_sum 71 = .ok (.istore 4, 2) := by decide +kernel
theorem d_Desk_sum_73 : decode b_Desk_sum 73 = .ok (.iinc 5 1, 3) := by decide +kernel
theorem d_Desk_sum_76 : decode b_Desk_sum 76 = .ok (.goto (-46), 3) := by decide +kernel
theorem d_Desk_sum_79 : decode b_Desk_sum 79 = .ok (.iload 4, 2) := by decide +kernel
theorem d_Desk_sum_81 : decode b_Desk_sum 81 = .ok (.ireturn, 1) := by decide +kernel
