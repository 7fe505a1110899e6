theorem d_Term_init_0 : decode b_Term_init 0 = .ok (.aload_n 0, 1) := by decide +kernel
theorem d_Term_init_1 : decode b_Term_init 1 = .ok (.invokespecial 3, 3) := by decide +kernel
theorem d_Term_init_4 : decode b_Term_init 4 = .ok (.aload_n 0, 1) := by decide +kernel
theorem d_Term_init_5 : decode b_Term_init 5 = .ok (.new 9, 3) := by decide +kernel
theorem d_Term_init_8 : decode b_Term_init 8 = .ok (.dup, 1) := by decide +kernel
theorem d_Term_init_9 : decode b_Term_init 9 = .ok (.iload_n 1, 1) := by decide +kernel
theorem d_Term_init_10 : decode b_Term_init 10 = .ok (.invokespecial 11, 3) := by decide +kernel
theorem d_Term_init_13 : decode b_Term_init 13 = .ok (.putfield 14, 3) := by decide +kernel
theorem d_Term_init_16 : decode b_Term_init 16 = .ok (.aload_n 0, 1) := by decide +kernel
theorem d_Term_init_17 : decode b_Term_init 17 = .ok (.bipush 9, 2) := by decide +kernel
theorem d_Term_init_19 : decode b_Term_init 19 = .ok (.newarray .int, 2) := by decide +kernel
theorem d_Term_init_21 : decode b_Term_init 21 = .ok (.putfield 20, 3) := by decide +kernel
theorem d_Term_init_24 : decode b_Term_init 24 = .ok (.aload_n 0, 1) := by decide +kernel
theorem d_Term_init_25 : decode b_Term_init 25 = .ok (.iconst 1, 1) := by decide +kernel
theorem d_Term_init_26 : decode b_Term_init 26 = .ok (.putfield 24, 3) := by decide +kernel
theorem d_Term_init_29 : decode b_Term_init 29 = .ok (.return_, 1) := by decide +kernel
theorem d_Term_clear_0 : decode b_Term_clear 0 = .ok (.aload_n 0, 1) := by decide +kernel
theorem d_Term_clear_1 : decode b_Term_clear 1 = .ok (.getfield 14, 3) := by decide +kernel
theorem d_Term_clear_4 : decode b_Term_clear 4 = .ok (.invokevirtual 28, 3) := by decide +kernel
theorem d_Term_clear_7 : decode b_Term_clear 7 = .ok (.aload_n 0, 1) := by decide +kernel
theorem d_Term_clear_8 : decode b_Term_clear 8 = .ok (.getfield 20, 3) := by decide +kernel
theorem d_Term_clear_11 : decode b_Term_clear 11 = .ok (.iconst 0, 1) := by decide +kernel
theorem d_Term_clear_12 : decode b_Term_clear 12 = .ok (.invokestatic 31, 3) := by decide +kernel
theorem d_Term_clear_15 : decode b_Term_clear 15 = .ok (.aload_n 0, 1) := by decide +kernel
theorem d_Term_clear_16 : decode b_Term_clear 16 = .ok (.iconst 1, 1) := by decide +kernel
theorem d_Term_clear_17 : decode b_Term_clear 17 = .ok (.putfield 24, 3) := by decide +kernel
theorem d_Term_clear_20 : decode b_Term_clear 20 = .ok (.return_, 1) := by decide +kernel
theorem d_Term_isOver_0 : decode b_Term_isOver 0 = .ok (.iconst 0, 1) := by decide +kernel
theorem d_Term_isOver_1 : decode b_Term_isOver 1 = .ok (.istore_n 1, 1) := by decide +kernel
theorem d_Term_isOver_2 : decode b_Term_isOver 2 = .ok (.iload_n 1, 1) := by decide +kernel
theorem d_Term_isOver_3 : decode b_Term_isOver 3 = .ok (.bipush 8, 2) := by decide +kernel
theorem d_Term_isOver_5 : decode b_Term_isOver 5 = .ok (.if_icmp .ge 21, 3) := by decide +kernel
theorem d_Term_isOver_8 : decode b_Term_isOver 8 = .ok (.aload_n 0, 1) := by decide +kernel
theorem d_Term_isOver_9 : decode b_Term_isOver 9 = .ok (.getfield 20, 3) := by decide +kernel
theorem d_Term_isOver_12 : decode b_Term_isOver 12 = .ok (.iload_n 1, 1) := by decide +kernel
theorem d_Term_isOver_13 : decode b_Term_isOver 13 = .ok (.iaload, 1) := by decide +kernel
theorem d_Term_isOver_14 : decode b_Term_isOver 14 = .ok (.iconst 3, 1) := by decide +kernel
theorem d_Term_isOver_15 : decode b_Term_isOver 15 = .ok (.if_icmp .le 5, 3) := by decide +kernel
theorem d_Term_isOver_18 : decode b_Term_isOver 18 = .ok (.iconst 1, 1) := by decide +kernel
theorem d_Term_isOver_19 : decode b_Term_isOver 19 = .ok (.ireturn, 1) := by decide +kernel
theorem d_Term_isOver_20 : decode b_Term_isOver 20 = .ok (.iinc 1 1, 3) := by decide +kernel
theorem d_Term_isOver_23 : decode b_Term_isOver 23 = .ok (.goto (-21), 3) := by decide +kernel
theorem d_Term_isOver_26 : decode b_Term_isOver 26 = .ok (.aload_n 0, 1) := by decide +kernel
theorem d_Term_isOver_27 : decode b_Term_isOver 27 = .ok (.getfield 14, 3) := by decide +kernel
theorem d_Term_isOver_30 : decode b_Term_isOver 30 = .ok (.getfield 47, 3) := by decide +kernel
theorem d_Term_isOver_33 : decode b_Term_isOver 33 = .ok (.bipush 31, 2) := by decide +kernel
theorem d_Term_isOver_35 : decode b_Term_isOver 35 = .ok (.if_icmp .gt 13, 3) := by decide +kernel
theorem d_Term_isOver_38 : decode b_Term_isOver 38 = .ok (.aload_n 0, 1) := by decide +kernel
theorem d_Term_isOver_39 : decode b_Term_isOver 39 = .ok (.getfield 20, 3) := by decide +kernel
theorem d_Term_isOver_42 : decode b_Term_isOver 42 = .ok (.bipush 8, 2) := by decide +kernel
theorem d_Term_isOver_44 : decode b_Term_isOver 44 = .ok (.iaload, 1) := by decide +kernel
theorem d_Term_isOver_45 : decode b_Term_isOver 45 = .ok (.ifCond .le 7, 3) := by decide +kernel
theorem d_Term_isOver_48 : decode b_Term_isOver 48 = .ok (.iconst 1, 1) := by decide +kernel
theorem d_Term_isOver_49 : decode b_Term_isOver 49 = .ok (.goto 4, 3) := by decide +kernel
theorem d_Term_isOver_52 : decode b_Term_isOver 52 = .ok (.iconst 0, 1) := by decide +kernel
theorem d_Term_isOver_53 : decode b_Term_isOver 53 = .ok (.ireturn, 1) := by decide +kernel
theorem d_Term_copyFrom_0 : decode b_Term_copyFrom 0 = .ok (.aload_n 0, 1) := by decide +kernel
theorem d_Term_copyFrom_1 : decode b_Term_copyFrom 1 = .ok (.getfield 14, 3) := by decide +kernel
theorem d_Term_copyFrom_4 : decode b_Term_copyFrom 4 = .ok (.aload_n 1, 1) := by decide +kernel
theorem d_Term_copyFrom_5 : decode b_Term_copyFrom 5 = .ok (.getfield 14, 3) := by decide +kernel
theorem d_Term_copyFrom_8 : decode b_Term_copyFrom 8 = .ok (.invokevirtual 37, 3) := by decide +kernel
theorem d_Term_copyFrom_11 : decode b_Term_copyFrom 11 = .ok (.aload_n 1, 1) := by decide +kernel
theorem d_Term_copyFrom_12 : decode b_Term_copyFrom 12 = .ok (.getfield 20, 3) := by decide +kernel
theorem d_Term_copyFrom_15 : decode b_Term_copyFrom 15 = .ok (.iconst 0, 1) := by decide +kernel
theorem d_Term_copyFrom_16 : decode b_Term_copyFrom 16 = .ok (.aload_n 0, 1) := by decide +kernel
theorem d_Term_copyFrom_17 : decode b_Term_copyFrom 17 = .ok (.getfield 20, 3) := by decide +kernel
theorem d_Term_copyFrom_20 : decode b_Term_copyFrom 20 = .ok (.iconst 0, 1) := by decide +kernel
theorem d_Term_copyFrom_21 : decode b_Term_copyFrom 21 = .ok (.aload_n 0, 1) := by decide +kernel
theorem d_Term_copyFrom_22 : decode b_Term_copyFrom 22 = .ok (.getfield 20, 3) := by decide +kernel
theorem d_Term_copyFrom_25 : decode b_Term_copyFrom 25 = .ok (.arraylength, 1) := by decide +kernel
theorem d_Term_copyFrom_26 : decode b_Term_copyFrom 26 = .ok (.invokestatic 41, 3) := by decide +kernel
theorem d_Term_copyFrom_29 : decode b_Term_copyFrom 29 = .ok (.aload_n 0, 1) := by decide +kernel
theorem d_Term_copyFrom_30 : decode b_Term_copyFrom 30 = .ok (.aload_n 1, 1) := by decide +kernel
theorem d_Term_copyFrom_31 : decode b_Term_copyFrom 31 = .ok (.getfield 24, 3) := by decide +kernel
theorem d_Term_copyFrom_34 : decode b_Term_copyFrom 34 = .ok (.putfield 24, 3) := by decide +kernel
theorem d_Term_copyFrom_37 : decode b_Term_copyFrom 37 = .ok (.return_, 1) := by decide +kernel
theorem d_Term_isZero_0 : decode b_Term_isZero 0 = .ok (.aload_n 0, 1) := by decide +kernel
theorem d_Term_isZero_1 : decode b_Term_isZero 1 = .ok (.getfield 14, 3) := by decide +kernel
theorem d_Term_isZero_4 : decode b_Term_isZero 4 = .ok (.getfield 47, 3) := by decide +kernel
theorem d_Term_isZero_7 : decode b_Term_isZero 7 = .ok (.ifCond .ge 7, 3) := by decide +kernel
theorem d_Term_isZero_10 : decode b_Term_isZero 10 = .ok (.iconst 1, 1) := by decide +kernel
theorem d_Term_isZero_11 : decode b_Term_isZero 11 = .ok (.goto 4, 3) := by decide +kernel
theorem d_Term_isZero_14 : decode b_Term_isZero 14 = .ok (.iconst 0, 1) := by decide +kernel
theorem d_Term_isZero_15 : decode b_Term_isZero 15 = .ok (.ireturn, 1) := by decide +kernel
theorem d_Term_normalise_0 : decode b_Term_normalise 0 = .ok (.aload_n 0, 1) := by decide +kernel
theorem d_Term_normalise_1 : decode b_Term_normalise 1 = .ok (.invokevirtual 75, 3) := by decide +kernel
theorem d_Term_normalise_4 : decode b_Term_normalise 4 = .ok (.ifCond .eq 8, 3) := by decide +kernel
theorem d_Term_normalise_7 : decode b_Term_normalise 7 = .ok (.aload_n 0, 1) := by decide +kernel
theorem d_Term_normalise_8 : decode b_Term_normalise 8 = .ok (.invokevirtual 79, 3) := by decide +kernel
theorem d_Term_normalise_11 : decode b_Term_normalise 11 = .ok (.return_, 1) := by decide +kernel
theorem d_Term_normalise_12 : decode b_Term_normalise 12 = .ok (.iconst 0, 1) := by decide +kernel
theorem d_Term_normalise_13 : decode b_Term_normalise 13 = .ok (.istore_n 1, 1) := by decide +kernel
theorem d_Term_normalise_14 : decode b_Term_normalise 14 = .ok (.iload_n 1, 1) := by decide +kernel
theorem d_Term_normalise_15 : decode b_Term_normalise 15 = .ok (.bipush 8, 2) := by decide +kernel
theorem d_Term_normalise_17 : decode b_Term_normalise 17 = .ok (.if_icmp .gt 57, 3) := by decide +kernel
theorem d_Term_normalise_20 : decode b_Term_normalise 20 = .ok (.iload_n 1, 1) := by decide +kernel
theorem d_Term_normalise_21 : decode b_Term_normalise 21 = .ok (.ineg, 1) := by decide +kernel
theorem d_Term_normalise_22 : decode b_Term_normalise 22 = .ok (.invokestatic 54, 3) := by decide +kernel
theorem d_Term_normalise_25 : decode b_Term_normalise 25 = .ok (.istore_n 2, 1) := by decide +kernel
theorem d_Term_normalise_26 : decode b_Term_normalise 26 = .ok (.aload_n 0, 1) := by decide +kernel
theorem d_Term_normalise_27 : decode b_Term_normalise 27 = .ok (.getfield 20, 3) := by decide +kernel
theorem d_Term_normalise_30 : decode b_Term_normalise 30 = .ok (.iload_n 1, 1) := by decide +kernel
theorem d_Term_normalise_31 : decode b_Term_normalise 31 = .ok (.iaload, 1) := by decide +kernel
theorem d_Term_normalise_32 : decode b_Term_normalise 32 = .ok (.ifCond .le 36, 3) := by decide +kernel
theorem d_Term_normalise_35 : decode b_Term_normalise 35 = .ok (.aload_n 0, 1) := by decide +kernel
theorem d_Term_normalise_36 : decode b_Term_normalise 36 = .ok (.getfield 14, 3) := by decide +kernel
theorem d_Term_normalise_39 : decode b_Term_normalise 39 = .ok (.iload_n 2, 1) := by decide +kernel
theorem d_Term_normalise_40 : decode b_Term_normalise 40 = .ok (.invokevirtual 72, 3) := by decide +kernel
theorem d_Term_normalise_43 : decode b_Term_normalise 43 = .ok (.ifCond .ne 25, 3) := by decide +kernel
theorem d_Term_normalise_46 : decode b_Term_normalise 46 = .ok (.aload_n 0, 1) := by decide +kernel
theorem d_Term_normalise_47 : decode b_Term_normalise 47 = .ok (.getfield 14, 3) := by decide +kernel
theorem d_Term_normalise_50 : decode b_Term_normalise 50 = .ok (.iload_n 1, 1) := by decide +kernel
theorem d_Term_normalise_51 : decode b_Term_normalise 51 = .ok (.invokevirtual 80, 3) := by decide +kernel
theorem d_Term_normalise_54 : decode b_Term_normalise 54 = .ok (.pop, 1) := by decide +kernel
theorem d_Term_normalise_55 : decode b_Term_normalise 55 = .ok (.aload_n 0, 1) := by decide +kernel
theorem d_Term_normalise_56 : decode b_Term_normalise 56 = .ok (.getfield 20, 3) := by decide +kernel
theorem d_Term_normalise_59 : decode b_Term_normalise 59 = .ok (.iload_n 1, 1) := by decide +kernel
theorem d_Term_normalise_60 : decode b_Term_normalise 60 = .ok (.dup2, 1) := by decide +kernel
theorem d_Term_normalise_61 : decode b_Term_normalise 61 = .ok (.iaload, 1) := by decide +kernel
theorem d_Term_normalise_62 : decode b_Term_normalise 62 = .ok (.iconst 1, 1) := by decide +kernel
theorem d_Term_normalise_63 : decode b_Term_normalise 63 = .ok (.isub, 1) := by decide +kernel
theorem d_Term_normalise_64 : decode b_Term_normalise 64 = .ok (.iastore, 1) := by decide +kernel
theorem d_Term_normalise_65 : decode b_Term_normalise 65 = .ok (.goto (-39), 3) := by decide +kernel
theorem d_Term_normalise_68 : decode b_Term_normalise 68 = .ok (.iinc 1 1, 3) := by decide +kernel
theorem d_Term_normalise_71 : decode b_Term_normalise 71 = .ok (.goto (-57), 3) := by decide +kernel
theorem d_Term_normalise_74 : decode b_Term_normalise 74 = .ok (.return_, 1) := by decide +kernel
theorem d_Term_becomeProduct_0 : decode b_Term_becomeProduct 0 = .ok (.aload_n 0, 1) := by decide +kernel
theorem d_Term_becomeProduct_1 : decode b_Term_becomeProduct 1 = .ok (.aload_n 1, 1) := by decide +kernel
theorem d_Term_becomeProduct_2 : decode b_Term_becomeProduct 2 = .ok (.getfield 24, 3) := by decide +kernel
theorem d_Term_becomeProduct_5 : decode b_Term_becomeProduct 5 = .ok (.aload_n 2, 1) := by decide +kernel
theorem d_Term_becomeProduct_6 : decode b_Term_becomeProduct 6 = .ok (.getfield 24, 3) := by decide +kernel
theorem d_Term_becomeProduct_9 : decode b_Term_becomeProduct 9 = .ok (.imul, 1) := by decide +kernel
theorem d_Term_becomeProduct_10 : decode b_Term_becomeProduct 10 = .ok (.sipush 10007, 3) := by decide +kernel
theorem d_Term_becomeProduct_13 : decode b_Term_becomeProduct 13 = .ok (.irem, 1) := by decide +kernel
theorem d_Term_becomeProduct_14 : decode b_Term_becomeProduct 14 = .ok (.putfield 24, 3) := by decide +kernel
theorem d_Term_becomeProduct_17 : decode b_Term_becomeProduct 17 = .ok (.aload_n 0, 1) := by decide +kernel
theorem d_Term_becomeProduct_18 : decode b_Term_becomeProduct 18 = .ok (.getfield 14, 3) := by decide +kernel
theorem d_Term_becomeProduct_21 : decode b_Term_becomeProduct 21 = .ok (.aload_n 1, 1) := by decide +kernel
theorem d_Term_becomeProduct_22 : decode b_Term_becomeProduct 22 = .ok (.getfield 14, 3) := by decide +kernel
theorem d_Term_becomeProduct_25 : decode b_Term_becomeProduct 25 = .ok (.aload_n 2, 1) := by decide +kernel
theorem d_Term_becomeProduct_26 : decode b_Term_becomeProduct 26 = .ok (.getfield 14, 3) := by decide +kernel
theorem d_Term_becomeProduct_29 : decode b_Term_becomeProduct 29 = .ok (.invokevirtual 83, 3) := by decide +kernel
theorem d_Term_becomeProduct_32 : decode b_Term_becomeProduct 32 = .ok (.iconst 0, 1) := by decide +kernel
theorem d_Term_becomeProduct_33 : decode b_Term_becomeProduct 33 = .ok (.istore_n 3, 1) := by decide +kernel
theorem d_Term_becomeProduct_34 : decode b_Term_becomeProduct 34 = .ok (.iload_n 3, 1) := by decide +kernel
theorem d_Term_becomeProduct_35 : decode b_Term_becomeProduct 35 = .ok (.bipush 8, 2) := by decide +kernel
theorem d_Term_becomeProduct_37 : decode b_Term_becomeProduct 37 = .ok (.if_icmp .gt 28, 3) := by decide +kernel
theorem d_Term_becomeProduct_40 : decode b_Term_becomeProduct 40 = .ok (.aload_n 0, 1) := by decide +kernel
theorem d_Term_becomeProduct_41 : decode b_Term_becomeProduct 41 = .ok (.getfield 20, 3) := by decide +kernel
theorem d_Term_becomeProduct_44 : decode b_Term_becomeProduct 44 = .ok (.iload_n 3, 1) := by decide +kernel
theorem d_Term_becomeProduct_45 : decode b_Term_becomeProduct 45 = .ok (.aload_n 1, 1) := by decide +kernel
theorem d_Term_becomeProduct_46 : decode b_Term_becomeProduct 46 = .ok (.getfield 20, 3) := by decide +kernel
theorem d_Term_becomeProduct_49 : decode b_Term_becomeProduct 49 = .ok (.iload_n 3, 1) := by decide +kernel
theorem d_Term_becomeProduct_50 : decode b_Term_becomeProduct 50 = .ok (.iaload, 1) := by decide +kernel
theorem d_Term_becomeProduct_51 : decode b_Term_becomeProduct 51 = .ok (.aload_n 2, 1) := by decide +kernel
theorem d_Term_becomeProduct_52 : decode b_Term_becomeProduct 52 = .ok (.getfield 20, 3) := by decide +kernel
theorem d_Term_becomeProduct_55 : decode b_Term_becomeProduct 55 = .ok (.iload_n 3, 1) := by decide +kernel
theorem d_Term_becomeProduct_56 : decode b_Term_becomeProduct 56 = .ok (.iaload, 1) := by decide +kernel
theorem d_Term_becomeProduct_57 : decode b_Term_becomeProduct 57 = .ok (.iadd, 1) := by decide +kernel
theorem d_Term_becomeProduct_58 : decode b_Term_becomeProduct 58 = .ok (.iastore, 1) := by decide +kernel
theorem d_Term_becomeProduct_59 : decode b_Term_becomeProduct 59 = .ok (.iinc 3 1, 3) := by decide +kernel
theorem d_Term_becomeProduct_62 : decode b_Term_becomeProduct 62 = .ok (.goto (-28), 3) := by decide +kernel
theorem d_Term_becomeProduct_65 : decode b_Term_becomeProduct 65 = .ok (.aload_n 0, 1) := by decide +kernel
theorem d_Term_becomeProduct_66 : decode b_Term_becomeProduct 66 = .ok (.invokevirtual 87, 3) := by decide +kernel
theorem d_Term_becomeProduct_69 : decode b_Term_becomeProduct 69 = .ok (.return_, 1) := by decide +kernel
theorem d_Term_becomeNext_0 : decode b_Term_becomeNext 0 = .ok (.aload_n 0, 1) := by decide +kernel
theorem d_Term_becomeNext_1 : decode b_Term_becomeNext 1 = .ok (.aload_n 1, 1) := by decide +kernel
theorem d_Term_becomeNext_2 : decode b_Term_becomeNext 2 = .ok (.getfield 24, 3) := by decide +kernel
theorem d_Term_becomeNext_5 : decode b_Term_becomeNext 5 = .ok (.putfield 24, 3) := by decide +kernel
theorem d_Term_becomeNext_8 : decode b_Term_becomeNext 8 = .ok (.aload_n 0, 1) := by decide +kernel
theorem d_Term_becomeNext_9 : decode b_Term_becomeNext 9 = .ok (.getfield 14, 3) := by decide +kernel
theorem d_Term_becomeNext_12 : decode b_Term_becomeNext 12 = .ok (.aload_n 1, 1) := by decide +kernel
theorem d_Term_becomeNext_13 : decode b_Term_becomeNext 13 = .ok (.getfield 14, 3) := by decide +kernel
theorem d_Term_becomeNext_16 : decode b_Term_becomeNext 16 = .ok (.invokevirtual 37, 3) := by decide +kernel
theorem d_Term_becomeNext_19 : decode b_Term_becomeNext 19 = .ok (.aload_n 0, 1) := by decide +kernel
theorem d_Term_becomeNext_20 : decode b_Term_becomeNext 20 = .ok (.getfield 14, 3) := by decide +kernel
theorem d_Term_becomeNext_23 : decode b_Term_becomeNext 23 = .ok (.invokevirtual 90, 3) := by decide +kernel
theorem d_Term_becomeNext_26 : decode b_Term_becomeNext 26 = .ok (.aload_n 0, 1) := by decide +kernel
theorem d_Term_becomeNext_27 : decode b_Term_becomeNext 27 = .ok (.getfield 14, 3) := by decide +kernel
theorem d_Term_becomeNext_30 : decode b_Term_becomeNext 30 = .ok (.aload_n 0, 1) := by decide +kernel
theorem d_Term_becomeNext_31 : decode b_Term_becomeNext 31 = .ok (.getfield 24, 3) := by decide +kernel
theorem d_Term_becomeNext_34 : decode b_Term_becomeNext 34 = .ok (.invokevirtual 93, 3) := by decide +kernel
theorem d_Term_becomeNext_37 : decode b_Term_becomeNext 37 = .ok (.aload_n 0, 1) := by decide +kernel
theorem d_Term_becomeNext_38 : decode b_Term_becomeNext 38 = .ok (.getfield 20, 3) := by decide +kernel
theorem d_Term_becomeNext_41 : decode b_Term_becomeNext 41 = .ok (.iconst 0, 1) := by decide +kernel
theorem d_Term_becomeNext_42 : decode b_Term_becomeNext 42 = .ok (.iconst 0, 1) := by decide +kernel
theorem d_Term_becomeNext_43 : decode b_Term_becomeNext 43 = .ok (.iastore, 1) := by decide +kernel
theorem d_Term_becomeNext_44 : decode b_Term_becomeNext 44 = .ok (.aload_n 1, 1) := by decide +kernel
theorem d_Term_becomeNext_45 : decode b_Term_becomeNext 45 = .ok (.getfield 20, 3) := by decide +kernel
theorem d_Term_becomeNext_48 : decode b_Term_becomeNext 48 = .ok (.iconst 0, 1) := by decide +kernel
theorem d_Term_becomeNext_49 : decode b_Term_becomeNext 49 = .ok (.aload_n 0, 1) := by decide +kernel
theorem d_Term_becomeNext_50 : decode b_Term_becomeNext 50 = .ok (.getfield 20, 3) := by decide +kernel
theorem d_Term_becomeNext_53 : decode b_Term_becomeNext 53 = .ok (.iconst 1, 1) := by decide +kernel
theorem d_Term_becomeNext_54 : decode b_Term_becomeNext 54 = .ok (.bipush 8, 2) := by decide +kernel
theorem d_Term_becomeNext_56 : decode b_Term_becomeNext 56 = .ok (.invokestatic 41, 3) := by decide +kernel
theorem d_Term_becomeNext_59 : decode b_Term_becomeNext 59 = .ok (.return_, 1) := by decide +kernel
theorem d_Term_matches_0 : decode b_Term_matches 0 = .ok (.iconst 0, 1) := by decide +kernel
theorem d_Term_matches_1 : decode b_Term_matches 1 = .ok (.istore_n 2, 1) := by decide +kernel
theorem d_Term_matches_2 : decode b_Term_matches 2 = .ok (.iload_n 2, 1) := by decide +kernel
theorem d_Term_matches_3 : decode b_Term_matches 3 = .ok (.bipush 8, 2) := by decide +kernel
theorem d_Term_matches_5 : decode b_Term_matches 5 = .ok (.if_icmp .gt 26, 3) := by decide +kernel
theorem d_Term_matches_8 : decode b_Term_matches 8 = .ok (.aload_n 0, 1) := by decide +kernel
theorem d_Term_matches_9 : decode b_Term_matches 9 = .ok (.getfield 20, 3) := by decide +kernel
theorem d_Term_matches_12 : decode b_Term_matches 12 = .ok (.iload_n 2, 1) := by decide +kernel
theorem d_Term_matches_13 : decode b_Term_matches 13 = .ok (.iaload, 1) := by decide +kernel
theorem d_Term_matches_14 : decode b_Term_matches 14 = .ok (.aload_n 1, 1) := by decide +kernel
theorem d_Term_matches_15 : decode b_Term_matches 15 = .ok (.getfield 20, 3) := by decide +kernel
theorem d_Term_matches_18 : decode b_Term_matches 18 = .ok (.iload_n 2, 1) := by decide +kernel
theorem d_Term_matches_19 : decode b_Term_matches 19 = .ok (.iaload, 1) := by decide +kernel
theorem d_Term_matches_20 : decode b_Term_matches 20 = .ok (.if_icmp .eq 5, 3) := by decide +kernel
theorem d_Term_matches_23 : decode b_Term_matches 23 = .ok (.iconst 0, 1) := by decide +kernel
theorem d_Term_matches_24 : decode b_Term_matches 24 = .ok (.ireturn, 1) := by decide +kernel
theorem d_Term_matches_25 : decode b_Term_matches 25 = .ok (.iinc 2 1, 3) := by decide +kernel
theorem d_Term_matches_28 : decode b_Term_matches 28 = .ok (.goto (-26), 3) := by decide +kernel
theorem d_Term_matches_31 : decode b_Term_matches 31 = .ok (.aload_n 0, 1) := by decide +kernel
theorem d_Term_matches_32 : decode b_Term_matches 32 = .ok (.getfield 24, 3) := by decide +kernel
theorem d_Term_matches_35 : decode b_Term_matches 35 = .ok (.aload_n 1, 1) := by decide +kernel
theorem d_Term_matches_36 : decode b_Term_matches 36 = .ok (.getfield 24, 3) := by decide +kernel
theorem d_Term_matches_39 : decode b_Term_matches 39 = .ok (.if_icmp .ne 21, 3) := by decide +kernel
theorem d_Term_matches_42 : decode b_Term_matches 42 = .ok (.aload_n 0, 1) := by decide +kernel
theorem d_Term_matches_43 : decode b_Term_matches 43 = .ok (.getfield 14, 3) := by decide +kernel
theorem d_Term_matches_46 : decode b_Term_matches 46 = .ok (.aload_n 1, 1) := by decide +kernel
theorem d_Term_matches_47 : decode b_Term_matches 47 = .ok (.getfield 14, 3) := by decide +kernel
theorem d_Term_matches_50 : decode b_Term_matches 50 = .ok (.invokevirtual 50, 3) := by decide +kernel
theorem d_Term_matches_53 : decode b_Term_matches 53 = .ok (.ifCond .eq 7, 3) := by decide +kernel
theorem d_Term_matches_56 : decode b_Term_matches 56 = .ok (.iconst 1, 1) := by decide +kernel
theorem d_Term_matches_57 : decode b_Term_matches 57 = .ok (.goto 4, 3) := by decide +kernel
theorem d_Term_matches_60 : decode b_Term_matches 60 = .ok (.iconst 0, 1) := by decide +kernel
theorem d_Term_matches_61 : decode b_Term_matches 61 = .ok (.ireturn, 1) := by decide +kernel
theorem d_Term_isDefinedAt_0 : decode b_Term_isDefinedAt 0 = .ok (.iconst 0, 1) := by decide +kernel
theorem d_Term_isDefinedAt_1 : decode b_Term_isDefinedAt 1 = .ok (.istore_n 2, 1) := by decide +kernel
theorem d_Term_isDefinedAt_2 : decode b_Term_isDefinedAt 2 = .ok (.iload_n 2, 1) := by decide +kernel
theorem d_Term_isDefinedAt_3 : decode b_Term_isDefinedAt 3 = .ok (.bipush 8, 2) := by decide +kernel
theorem d_Term_isDefinedAt_5 : decode b_Term_isDefinedAt 5 = .ok (.if_icmp .ge 26, 3) := by decide +kernel
theorem d_Term_isDefinedAt_8 : decode b_Term_isDefinedAt 8 = .ok (.aload_n 0, 1) := by decide +kernel
theorem d_Term_isDefinedAt_9 : decode b_Term_isDefinedAt 9 = .ok (.getfield 20, 3) := by decide +kernel
theorem d_Term_isDefinedAt_12 : decode b_Term_isDefinedAt 12 = .ok (.iload_n 2, 1) := by decide +kernel
theorem d_Term_isDefinedAt_13 : decode b_Term_isDefinedAt 13 = .ok (.iaload, 1) := by decide +kernel
theorem d_Term_isDefinedAt_14 : decode b_Term_isDefinedAt 14 = .ok (.ifCond .le 11, 3) := by decide +kernel
theorem d_Term_isDefinedAt_17 : decode b_Term_isDefinedAt 17 = .ok (.iload_n 1, 1) := by decide +kernel
theorem d_Term_isDefinedAt_18 : decode b_Term_isDefinedAt 18 = .ok (.iload_n 2, 1) := by decide +kernel
theorem d_Term_isDefinedAt_19 : decode b_Term_isDefinedAt 19 = .ok (.iadd, 1) := by decide +kernel
theorem d_Term_isDefinedAt_20 : decode b_Term_isDefinedAt 20 = .ok (.ifCond .ne 5, 3) := by decide +kernel
theorem d_Term_isDefinedAt_23 : decode b_Term_isDefinedAt 23 = .ok (.iconst 0, 1) := by decide +kernel
theorem d_Term_isDefinedAt_24 : decode b_Term_isDefinedAt 24 = .ok (.ireturn, 1) := by decide +kernel
theorem d_Term_isDefinedAt_25 : decode b_Term_isDefinedAt 25 = .ok (.iinc 2 1, 3) := by decide +kernel
theorem d_Term_isDefinedAt_28 : decode b_Term_isDefinedAt 28 = .ok (.goto (-26), 3) := by decide +kernel
theorem d_Term_isDefinedAt_31 : decode b_Term_isDefinedAt 31 = .ok (.iconst 1, 1) := by decide +kernel
theorem d_Term_isDefinedAt_32 : decode b_Term_isDefinedAt 32 = .ok (.ireturn, 1) := by decide +kernel
theorem d_Term_at_0 : decode b_Term_at 0 = .ok (.iconst 1, 1) := by decide +kernel
theorem d_Term_at_1 : decode b_Term_at 1 = .ok (.istore_n 2, 1) := by decide +kernel
theorem d_Term_at_2 : decode b_Term_at 2 = .ok (.iconst 0, 1) := by decide +kernel
theorem d_Term_at_3 : decode b_Term_at 3 = .ok (.istore_n 3, 1) := by decide +kernel
theorem d_Term_at_4 : decode b_Term_at 4 = .ok (.iload_n 3, 1) := by decide +kernel
theorem d_Term_at_5 : decode b_Term_at 5 = .ok (.bipush 8, 2) := by decide +kernel
theorem d_Term_at_7 : decode b_Term_at 7 = .ok (.if_icmp .ge 35, 3) := by decide +kernel
theorem d_Term_at_10 : decode b_Term_at 10 = .ok (.iload_n 1, 1) := by decide +kernel
theorem d_Term_at_11 : decode b_Term_at 11 = .ok (.iload_n 3, 1) := by decide +kernel
theorem d_Term_at_12 : decode b_Term_at 12 = .ok (.iadd, 1) := by decide +kernel
theorem d_Term_at_13 : decode b_Term_at 13 = .ok (.invokestatic 54, 3) := by decide +kernel
theorem d_Term_at_16 : decode b_Term_at 16 = .ok (.istore 4, 2) := by decide +kernel
theorem d_Term_at_18 : decode b_Term_at 18 = .ok (.iload_n 2, 1) := by decide +kernel
theorem d_Term_at_19 : decode b_Term_at 19 = .ok (.iload 4, 2) := by decide +kernel
theorem d_Term_at_21 : decode b_Term_at 21 = .ok (.aload_n 0, 1) := by decide +kernel
theorem d_Term_at_22 : decode b_Term_at 22 = .ok (.getfield 20, 3) := by decide +kernel
theorem d_Term_at_25 : decode b_Term_at 25 = .ok (.iload_n 3, 1) := by decide +kernel
theorem d_Term_at_26 : decode b_Term_at 26 = .ok (.iaload, 1) := by decide +kernel
theorem d_Term_at_27 : decode b_Term_at 27 = .ok (.invokestatic 60, 3) := by decide +kernel
theorem d_Term_at_30 : decode b_Term_at 30 = .ok (.imul, 1) := by decide +kernel
theorem d_Term_at_31 : decode b_Term_at 31 = .ok (.sipush 10007, 3) := by decide +kernel
theorem d_Term_at_34 : decode b_Term_at 34 = .ok (.irem, 1) := by decide +kernel
theorem d_Term_at_35 : decode b_Term_at 35 = .ok (.istore_n 2, 1) := by decide +kernel
theorem d_Term_at_36 : decode b_Term_at 36 = .ok (.iinc 3 1, 3) := by decide +kernel
theorem d_Term_at_39 : decode b_Term_at 39 = .ok (.goto (-35), 3) := by decide +kernel
theorem d_Term_at_42 : decode b_Term_at 42 = .ok (.iload_n 1, 1) := by decide +kernel
theorem d_Term_at_43 : decode b_Term_at 43 = .ok (.ifCond .ge 13, 3) := by decide +kernel
theorem d_Term_at_46 : decode b_Term_at 46 = .ok (.aload_n 0, 1) := by decide +kernel
theorem d_Term_at_47 : decode b_Term_at 47 = .ok (.getfield 24, 3) := by decide +kernel
theorem d_Term_at_50 : decode b_Term_at 50 = .ok (.invokestatic 64, 3) := by decide +kernel
theorem d_Term_at_53 : decode b_Term_at 53 = .ok (.goto 7, 3) := by decide +kernel
theorem d_Term_at_56 : decode b_Term_at 56 = .ok (.aload_n 0, 1) := by decide +kernel
theorem d_Term_at_57 : decode b_Term_at 57 = .ok (.getfield 24, 3) := by decide +kernel
theorem d_Term_at_60 : decode b_Term_at 60 = .ok (.istore_n 3, 1) := by decide +kernel
theorem d_Term_at_61 : decode b_Term_at 61 = .ok (.iload_n 3, 1) := by decide +kernel
theorem d_Term_at_62 : decode b_Term_at 62 = .ok (.iload_n 1, 1) := by decide +kernel
theorem d_Term_at_63 : decode b_Term_at 63 = .ok (.invokestatic 67, 3) := by decide +kernel
theorem d_Term_at_66 : decode b_Term_at 66 = .ok (.invokestatic 60, 3) := by decide +kernel
theorem d_Term_at_69 : decode b_Term_at 69 = .ok (.aload_n 0, 1) := by decide +kernel
theorem d_Term_at_70 : decode b_Term_at 70 = .ok (.getfield 14, 3) := by decide +kernel
theorem d_Term_at_73 : decode b_Term_at 73 = .ok (.iload_n 1, 1) := by decide +kernel
theorem d_Term_at_74 : decode b_Term_at 74 = .ok (.invokestatic 54, 3) := by decide +kernel
theorem d_Term_at_77 : decode b_Term_at 77 = .ok (.invokevirtual 72, 3) := by decide +kernel
theorem d_Term_at_80 : decode b_Term_at 80 = .ok (.imul, 1) := by decide +kernel
theorem d_Term_at_81 : decode b_Term_at 81 = .ok (.sipush 10007, 3) := by decide +kernel
theorem d_Term_at_84 : decode b_Term_at 84 = .ok (.irem, 1) := by decide +kernel
theorem d_Term_at_85 : decode b_Term_at 85 = .ok (.istore 4, 2) := by decide +kernel
theorem d_Term_at_87 : decode b_Term_at 87 = .ok (.iload 4, 2) := by decide +kernel
theorem d_Term_at_89 : decode b_Term_at 89 = .ok (.iload_n 2, 1) := by decide +kernel
theorem d_Term_at_90 : decode b_Term_at 90 = .ok (.invokestatic 64, 3) := by decide +kernel
theorem d_Term_at_93 : decode b_Term_at 93 = .ok (.imul, 1) := by decide +kernel
theorem d_Term_at_94 : decode b_Term_at 94 = .ok (.sipush 10007, 3) := by decide +kernel
theorem d_Term_at_97 : decode b_Term_at 97 = .ok (.irem, 1) := by decide +kernel
theorem d_Term_at_98 : decode b_Term_at 98 = .ok (.ireturn, 1) := by decide +kernel
