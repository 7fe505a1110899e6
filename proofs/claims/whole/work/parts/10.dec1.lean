theorem d_Math_floorMod_0 : decode b_Math_floorMod 0 = .ok (.iload_n 0, 1) := by decide +kernel
theorem d_Math_floorMod_1 : decode b_Math_floorMod 1 = .ok (.iload_n 1, 1) := by decide +kernel
theorem d_Math_floorMod_2 : decode b_Math_floorMod 2 = .ok (.irem, 1) := by decide +kernel
theorem d_Math_floorMod_3 : decode b_Math_floorMod 3 = .ok (.istore_n 2, 1) := by decide +kernel
theorem d_Math_floorMod_4 : decode b_Math_floorMod 4 = .ok (.iload_n 0, 1) := by decide +kernel
theorem d_Math_floorMod_5 : decode b_Math_floorMod 5 = .ok (.iload_n 1, 1) := by decide +kernel
theorem d_Math_floorMod_6 : decode b_Math_floorMod 6 = .ok (.ixor, 1) := by decide +kernel
theorem d_Math_floorMod_7 : decode b_Math_floorMod 7 = .ok (.ifCond .ge 11, 3) := by decide +kernel
theorem d_Math_floorMod_10 : decode b_Math_floorMod 10 = .ok (.iload_n 2, 1) := by decide +kernel
theorem d_Math_floorMod_11 : decode b_Math_floorMod 11 = .ok (.ifCond .eq 7, 3) := by decide +kernel
theorem d_Math_floorMod_14 : decode b_Math_floorMod 14 = .ok (.iload_n 2, 1) := by decide +kernel
theorem d_Math_floorMod_15 : decode b_Math_floorMod 15 = .ok (.iload_n 1, 1) := by decide +kernel
theorem d_Math_floorMod_16 : decode b_Math_floorMod 16 = .ok (.iadd, 1) := by decide +kernel
theorem d_Math_floorMod_17 : decode b_Math_floorMod 17 = .ok (.ireturn, 1) := by decide +kernel
theorem d_Math_floorMod_18 : decode b_Math_floorMod 18 = .ok (.iload_n 2, 1) := by decide +kernel
theorem d_Math_floorMod_19 : decode b_Math_floorMod 19 = .ok (.ireturn, 1) := by decide +kernel
theorem d_Arr_fill_0 : decode b_Arr_fill 0 = .ok (.iconst 0, 1) := by decide +kernel
theorem d_Arr_fill_1 : decode b_Arr_fill 1 = .ok (.istore_n 2, 1) := by decide +kernel
theorem d_Arr_fill_2 : decode b_Arr_fill 2 = .ok (.aload_n 0, 1) := by decide +kernel
theorem d_Arr_fill_3 : decode b_Arr_fill 3 = .ok (.arraylength, 1) := by decide +kernel
theorem d_Arr_fill_4 : decode b_Arr_fill 4 = .ok (.istore_n 3, 1) := by decide +kernel
theorem d_Arr_fill_5 : decode b_Arr_fill 5 = .ok (.iload_n 2, 1) := by decide +kernel
theorem d_Arr_fill_6 : decode b_Arr_fill 6 = .ok (.iload_n 3, 1) := by decide +kernel
theorem d_Arr_fill_7 : decode b_Arr_fill 7 = .ok (.if_icmp .ge 13, 3) := by decide +kernel
theorem d_Arr_fill_10 : decode b_Arr_fill 10 = .ok (.aload_n 0, 1) := by decide +kernel
theorem d_Arr_fill_11 : decode b_Arr_fill 11 = .ok (.iload_n 2, 1) := by decide +kernel
theorem d_Arr_fill_12 : decode b_Arr_fill 12 = .ok (.iload_n 1, 1) := by decide +kernel
theorem d_Arr_fill_13 : decode b_Arr_fill 13 = .ok (.iastore, 1) := by decide +kernel
theorem d_Arr_fill_14 : decode b_Arr_fill 14 = .ok (.iinc 2 1, 3) := by decide +kernel
theorem d_Arr_fill_17 : decode b_Arr_fill 17 = .ok (.goto (-12), 3) := by decide +kernel
theorem d_Arr_fill_20 : decode b_Arr_fill 20 = .ok (.return_, 1) := by decide +kernel
theorem d_Res_of_0 : decode b_Res_of 0 = .ok (.iload_n 0, 1) := by decide +kernel
theorem d_Res_of_1 : decode b_Res_of 1 = .ok (.sipush 10007, 3) := by decide +kernel
theorem d_Res_of_4 : decode b_Res_of 4 = .ok (.invokestatic 9, 3) := by decide +kernel
theorem d_Res_of_7 : decode b_Res_of 7 = .ok (.ireturn, 1) := by decide +kernel
theorem d_Res_invert_0 : decode b_Res_invert 0 = .ok (.iload_n 0, 1) := by decide +kernel
theorem d_Res_invert_1 : decode b_Res_invert 1 = .ok (.sipush 10005, 3) := by decide +kernel
theorem d_Res_invert_4 : decode b_Res_invert 4 = .ok (.invokestatic 15, 3) := by decide +kernel
theorem d_Res_invert_7 : decode b_Res_invert 7 = .ok (.ireturn, 1) := by decide +kernel
theorem d_Res_raise_0 : decode b_Res_raise 0 = .ok (.iconst 1, 1) := by decide +kernel
theorem d_Res_raise_1 : decode b_Res_raise 1 = .ok (.istore_n 2, 1) := by decide +kernel
theorem d_Res_raise_2 : decode b_Res_raise 2 = .ok (.iload_n 0, 1) := by decide +kernel
theorem d_Res_raise_3 : decode b_Res_raise 3 = .ok (.istore_n 3, 1) := by decide +kernel
theorem d_Res_raise_4 : decode b_Res_raise 4 = .ok (.iload_n 1, 1) := by decide +kernel
theorem d_Res_raise_5 : decode b_Res_raise 5 = .ok (.istore 4, 2) := by decide +kernel
theorem d_Res_raise_7 : decode b_Res_raise 7 = .ok (.iload 4, 2) := by decide +kernel
theorem d_Res_raise_9 : decode b_Res_raise 9 = .ok (.ifCond .le 36, 3) := by decide +kernel
theorem d_Res_raise_12 : decode b_Res_raise 12 = .ok (.iload 4, 2) := by decide +kernel
theorem d_Res_raise_14 : decode b_Res_raise 14 = .ok (.iconst 1, 1) := by decide +kernel
theorem d_Res_raise_15 : decode b_Res_raise 15 = .ok (.iand, 1) := by decide +kernel
theorem d_Res_raise_16 : decode b_Res_raise 16 = .ok (.iconst 1, 1) := by decide +kernel
theorem d_Res_raise_17 : decode b_Res_raise 17 = .ok (.if_icmp .ne 11, 3) := by decide +kernel
theorem d_Res_raise_20 : decode b_Res_raise 20 = .ok (.iload_n 2, 1) := by decide +kernel
theorem d_Res_raise_21 : decode b_Res_raise 21 = .ok (.iload_n 3, 1) := by decide +kernel
theorem d_Res_raise_22 : decode b_Res_raise 22 = .ok (.imul, 1) := by decide +kernel
theorem d_Res_raise_23 : decode b_Res_raise 23 = .ok (.sipush 10007, 3) := by decide +kernel
theorem d_Res_raise_26 : decode b_Res_raise 26 = .ok (.irem, 1) := by decide +kernel
theorem d_Res_raise_27 : decode b_Res_raise 27 = .ok (.istore_n 2, 1) := by decide +kernel
theorem d_Res_raise_28 : decode b_Res_raise 28 = .ok (.iload_n 3, 1) := by decide +kernel
theorem d_Res_raise_29 : decode b_Res_raise 29 = .ok (.iload_n 3, 1) := by decide +kernel
theorem d_Res_raise_30 : decode b_Res_raise 30 = .ok (.imul, 1) := by decide +kernel
theorem d_Res_raise_31 : decode b_Res_raise 31 = .ok (.sipush 10007, 3) := by decide +kernel
theorem d_Res_raise_34 : decode b_Res_raise 34 = .ok (.irem, 1) := by decide +kernel
theorem d_Res_raise_35 : decode b_Res_raise 35 = .ok (.istore_n 3, 1) := by decide +kernel
theorem d_Res_raise_36 : decode b_Res_raise 36 = .ok (.iload 4, 2) := by decide +kernel
theorem d_Res_raise_38 : decode b_Res_raise 38 = .ok (.iconst 1, 1) := by decide +kernel
theorem d_Res_raise_39 : decode b_Res_raise 39 = .ok (.ishr, 1) := by decide +kernel
theorem d_Res_raise_40 : decode b_Res_raise 40 = .ok (.istore 4, 2) := by decide +kernel
theorem d_Res_raise_42 : decode b_Res_raise 42 = .ok (.goto (-35), 3) := by decide +kernel
theorem d_Res_raise_45 : decode b_Res_raise 45 = .ok (.iload_n 2, 1) := by decide +kernel
theorem d_Res_raise_46 : decode b_Res_raise 46 = .ok (.ireturn, 1) := by decide +kernel
theorem d_Poly_init_0 : decode b_Poly_init 0 = .ok (.aload_n 0, 1) := by decide +kernel
theorem d_Poly_init_1 : decode b_Poly_init 1 = .ok (.invokespecial 3, 3) := by decide +kernel
theorem d_Poly_init_4 : decode b_Poly_init 4 = .ok (.aload_n 0, 1) := by decide +kernel
theorem d_Poly_init_5 : decode b_Poly_init 5 = .ok (.iload_n 1, 1) := by decide +kernel
theorem d_Poly_init_6 : decode b_Poly_init 6 = .ok (.newarray .int, 2) := by decide +kernel
theorem d_Poly_init_8 : decode b_Poly_init 8 = .ok (.putfield 9, 3) := by decide +kernel
theorem d_Poly_init_11 : decode b_Poly_init 11 = .ok (.aload_n 0, 1) := by decide +kernel
theorem d_Poly_init_12 : decode b_Poly_init 12 = .ok (.iconst (-1), 1) := by decide +kernel
theorem d_Poly_init_13 : decode b_Poly_init 13 = .ok (.putfield 15, 3) := by decide +kernel
theorem d_Poly_init_16 : decode b_Poly_init 16 = .ok (.return_, 1) := by decide +kernel
theorem d_Poly_clear_0 : decode b_Poly_clear 0 = .ok (.aload_n 0, 1) := by decide +kernel
theorem d_Poly_clear_1 : decode b_Poly_clear 1 = .ok (.getfield 9, 3) := by decide +kernel
theorem d_Poly_clear_4 : decode b_Poly_clear 4 = .ok (.iconst 0, 1) := by decide +kernel
theorem d_Poly_clear_5 : decode b_Poly_clear 5 = .ok (.invokestatic 19, 3) := by decide +kernel
theorem d_Poly_clear_8 : decode b_Poly_clear 8 = .ok (.aload_n 0, 1) := by decide +kernel
theorem d_Poly_clear_9 : decode b_Poly_clear 9 = .ok (.iconst (-1), 1) := by decide +kernel
theorem d_Poly_clear_10 : decode b_Poly_clear 10 = .ok (.putfield 15, 3) := by decide +kernel
theorem d_Poly_clear_13 : decode b_Poly_clear 13 = .ok (.return_, 1) := by decide +kernel
theorem d_Poly_setLinear_0 : decode b_Poly_setLinear 0 = .ok (.aload_n 0, 1) := by decide +kernel
theorem d_Poly_setLinear_1 : decode b_Poly_setLinear 1 = .ok (.invokevirtual 25, 3) := by decide +kernel
theorem d_Poly_setLinear_4 : decode b_Poly_setLinear 4 = .ok (.aload_n 0, 1) := by decide +kernel
theorem d_Poly_setLinear_5 : decode b_Poly_setLinear 5 = .ok (.getfield 9, 3) := by decide +kernel
theorem d_Poly_setLinear_8 : decode b_Poly_setLinear 8 = .ok (.iconst 1, 1) := by decide +kernel
theorem d_Poly_setLinear_9 : decode b_Poly_setLinear 9 = .ok (.iload_n 1, 1) := by decide +kernel
theorem d_Poly_setLinear_10 : decode b_Poly_setLinear 10 = .ok (.iastore, 1) := by decide +kernel
theorem d_Poly_setLinear_11 : decode b_Poly_setLinear 11 = .ok (.aload_n 0, 1) := by decide +kernel
theorem d_Poly_setLinear_12 : decode b_Poly_setLinear 12 = .ok (.getfield 9, 3) := by decide +kernel
theorem d_Poly_setLinear_15 : decode b_Poly_setLinear 15 = .ok (.iconst 0, 1) := by decide +kernel
theorem d_Poly_setLinear_16 : decode b_Poly_setLinear 16 = .ok (.iload_n 2, 1) := by decide +kernel
theorem d_Poly_setLinear_17 : decode b_Poly_setLinear 17 = .ok (.iastore, 1) := by decide +kernel
theorem d_Poly_setLinear_18 : decode b_Poly_setLinear 18 = .ok (.aload_n 0, 1) := by decide +kernel
theorem d_Poly_setLinear_19 : decode b_Poly_setLinear 19 = .ok (.invokevirtual 28, 3) := by decide +kernel
theorem d_Poly_setLinear_22 : decode b_Poly_setLinear 22 = .ok (.return_, 1) := by decide +kernel
theorem d_Poly_trim_0 : decode b_Poly_trim 0 = .ok (.aload_n 0, 1) := by decide +kernel
theorem d_Poly_trim_1 : decode b_Poly_trim 1 = .ok (.aload_n 0, 1) := by decide +kernel
theorem d_Poly_trim_2 : decode b_Poly_trim 2 = .ok (.getfield 9, 3) := by decide +kernel
theorem d_Poly_trim_5 : decode b_Poly_trim 5 = .ok (.arraylength, 1) := by decide +kernel
theorem d_Poly_trim_6 : decode b_Poly_trim 6 = .ok (.iconst 1, 1) := by decide +kernel
theorem d_Poly_trim_7 : decode b_Poly_trim 7 = .ok (.isub, 1) := by decide +kernel
theorem d_Poly_trim_8 : decode b_Poly_trim 8 = .ok (.putfield 15, 3) := by decide +kernel
theorem d_Poly_trim_11 : decode b_Poly_trim 11 = .ok (.aload_n 0, 1) := by decide +kernel
theorem d_Poly_trim_12 : decode b_Poly_trim 12 = .ok (.getfield 15, 3) := by decide +kernel
theorem d_Poly_trim_15 : decode b_Poly_trim 15 = .ok (.ifCond .lt 28, 3) := by decide +kernel
theorem d_Poly_trim_18 : decode b_Poly_trim 18 = .ok (.aload_n 0, 1) := by decide +kernel
theorem d_Poly_trim_19 : decode b_Poly_trim 19 = .ok (.getfield 9, 3) := by decide +kernel
theorem d_Poly_trim_22 : decode b_Poly_trim 22 = .ok (.aload_n 0, 1) := by decide +kernel
theorem d_Poly_trim_23 : decode b_Poly_trim 23 = .ok (.getfield 15, 3) := by decide +kernel
theorem d_Poly_trim_26 : decode b_Poly_trim 26 = .ok (.iaload, 1) := by decide +kernel
theorem d_Poly_trim_27 : decode b_Poly_trim 27 = .ok (.ifCond .ne 16, 3) := by decide +kernel
theorem d_Poly_trim_30 : decode b_Poly_trim 30 = .ok (.aload_n 0, 1) := by decide +kernel
theorem d_Poly_trim_31 : decode b_Poly_trim 31 = .ok (.dup, 1) := by decide +kernel
theorem d_Poly_trim_32 : decode b_Poly_trim 32 = .ok (.getfield 15, 3) := by decide +kernel
theorem d_Poly_trim_35 : decode b_Poly_trim 35 = .ok (.iconst 1, 1) := by decide +kernel
theorem d_Poly_trim_36 : decode b_Poly_trim 36 = .ok (.isub, 1) := by decide +kernel
theorem d_Poly_trim_37 : decode b_Poly_trim 37 = .ok (.putfield 15, 3) := by decide +kernel
theorem d_Poly_trim_40 : decode b_Poly_trim 40 = .ok (.goto (-29), 3) := by decide +kernel
theorem d_Poly_trim_43 : decode b_Poly_trim 43 = .ok (.return_, 1) := by decide +kernel
theorem d_Poly_copyFrom_0 : decode b_Poly_copyFrom 0 = .ok (.iconst 0, 1) := by decide +kernel
theorem d_Poly_copyFrom_1 : decode b_Poly_copyFrom 1 = .ok (.istore_n 2, 1) := by decide +kernel
theorem d_Poly_copyFrom_2 : decode b_Poly_copyFrom 2 = .ok (.iload_n 2, 1) := by decide +kernel
theorem d_Poly_copyFrom_3 : decode b_Poly_copyFrom 3 = .ok (.aload_n 0, 1) := by decide +kernel
theorem d_Poly_copyFrom_4 : decode b_Poly_copyFrom 4 = .ok (.getfield 9, 3) := by decide +kernel
theorem d_Poly_copyFrom_7 : decode b_Poly_copyFrom 7 = .ok (.arraylength, 1) := by decide +kernel
theorem d_Poly_copyFrom_8 : decode b_Poly_copyFrom 8 = .ok (.if_icmp .ge 34, 3) := by decide +kernel
theorem d_Poly_copyFrom_11 : decode b_Poly_copyFrom 11 = .ok (.aload_n 0, 1) := by decide +kernel
theorem d_Poly_copyFrom_12 : decode b_Poly_copyFrom 12 = .ok (.getfield 9, 3) := by decide +kernel
theorem d_Poly_copyFrom_15 : decode b_Poly_copyFrom 15 = .ok (.iload_n 2, 1) := by decide +kernel
theorem d_Poly_copyFrom_16 : decode b_Poly_copyFrom 16 = .ok (.iload_n 2, 1) := by decide +kernel
theorem d_Poly_copyFrom_17 : decode b_Poly_copyFrom 17 = .ok (.aload_n 1, 1) := by decide +kernel
theorem d_Poly_copyFrom_18 : decode b_Poly_copyFrom 18 = .ok (.getfield 9, 3) := by decide +kernel
theorem d_Poly_copyFrom_21 : decode b_Poly_copyFrom 21 = .ok (.arraylength, 1) := by decide +kernel
theorem d_Poly_copyFrom_22 : decode b_Poly_copyFrom 22 = .ok (.if_icmp .ge 12, 3) := by decide +kernel
theorem d_Poly_copyFrom_25 : decode b_Poly_copyFrom 25 = .ok (.aload_n 1, 1) := by decide +kernel
theorem d_Poly_copyFrom_26 : decode b_Poly_copyFrom 26 = .ok (.getfield 9, 3) := by decide +kernel
theorem d_Poly_copyFrom_29 : decode b_Poly_copyFrom 29 = .ok (.iload_n 2, 1) := by decide +kernel
theorem d_Poly_copyFrom_30 : decode b_Poly_copyFrom 30 = .ok (.iaload, 1) := by decide +kernel
theorem d_Poly_copyFrom_31 : decode b_Poly_copyFrom 31 = .ok (.goto 4, 3) := by decide +kernel
theorem d_Poly_copyFrom_34 : decode b_Poly_copyFrom 34 = .ok (.iconst 0, 1) := by decide +kernel
theorem d_Poly_copyFrom_35 : decode b_Poly_copyFrom 35 = .ok (.iastore, 1) := by decide +kernel
theorem d_Poly_copyFrom_36 : decode b_Poly_copyFrom 36 = .ok (.iinc 2 1, 3) := by decide +kernel
theorem d_Poly_copyFrom_39 : decode b_Poly_copyFrom 39 = .ok (.goto (-37), 3) := by decide +kernel
theorem d_Poly_copyFrom_42 : decode b_Poly_copyFrom 42 = .ok (.aload_n 0, 1) := by decide +kernel
theorem d_Poly_copyFrom_43 : decode b_Poly_copyFrom 43 = .ok (.invokevirtual 28, 3) := by decide +kernel
theorem d_Poly_copyFrom_46 : decode b_Poly_copyFrom 46 = .ok (.return_, 1) := by decide +kernel
theorem d_Poly_multiplyBy_0 : decode b_Poly_multiplyBy 0 = .ok (.iconst 0, 1) := by decide +kernel
theorem d_Poly_multiplyBy_1 : decode b_Poly_multiplyBy 1 = .ok (.istore_n 3, 1) := by decide +kernel
theorem d_Poly_multiplyBy_2 : decode b_Poly_multiplyBy 2 = .ok (.iload_n 3, 1) := by decide +kernel
theorem d_Poly_multiplyBy_3 : decode b_Poly_multiplyBy 3 = .ok (.iload_n 2, 1) := by decide +kernel
theorem d_Poly_multiplyBy_4 : decode b_Poly_multiplyBy 4 = .ok (.if_icmp .ge 90, 3) := by decide +kernel
theorem d_Poly_multiplyBy_7 : decode b_Poly_multiplyBy 7 = .ok (.aload_n 0, 1) := by decide +kernel
theorem d_Poly_multiplyBy_8 : decode b_Poly_multiplyBy 8 = .ok (.getfield 15, 3) := by decide +kernel
theorem d_Poly_multiplyBy_11 : decode b_Poly_multiplyBy 11 = .ok (.iconst 1, 1) := by decide +kernel
theorem d_Poly_multiplyBy_12 : decode b_Poly_multiplyBy 12 = .ok (.iadd, 1) := by decide +kernel
theorem d_Poly_multiplyBy_13 : decode b_Poly_multiplyBy 13 = .ok (.aload_n 0, 1) := by decide +kernel
theorem d_Poly_multiplyBy_14 : decode b_Poly_multiplyBy 14 = .ok (.getfield 9, 3) := by decide +kernel
theorem d_Poly_multiplyBy_17 : decode b_Poly_multiplyBy 17 = .ok (.arraylength, 1) := by decide +kernel
theorem d_Poly_multiplyBy_18 : decode b_Poly_multiplyBy 18 = .ok (.iconst 1, 1) := by decide +kernel
theorem d_Poly_multiplyBy_19 : decode b_Poly_multiplyBy 19 = .ok (.isub, 1) := by decide +kernel
theorem d_Poly_multiplyBy_20 : decode b_Poly_multiplyBy 20 = .ok (.invokestatic 31, 3) := by decide +kernel
theorem d_Poly_multiplyBy_23 : decode b_Poly_multiplyBy 23 = .ok (.istore 4, 2) := by decide +kernel
theorem d_Poly_multiplyBy_25 : decode b_Poly_multiplyBy 25 = .ok (.iload 4, 2) := by decide +kernel
theorem d_Poly_multiplyBy_27 : decode b_Poly_multiplyBy 27 = .ok (.ifCond .le 39, 3) := by decide +kernel
theorem d_Poly_multiplyBy_30 : decode b_Poly_multiplyBy 30 = .ok (.aload_n 0, 1) := by decide +kernel
theorem d_Poly_multiplyBy_31 : decode b_Poly_multiplyBy 31 = .ok (.getfield 9, 3) := by decide +kernel
theorem d_Poly_multiplyBy_34 : decode b_Poly_multiplyBy 34 = .ok (.iload 4, 2) := by decide +kernel
theorem d_Poly_multiplyBy_36 : decode b_Poly_multiplyBy 36 = .ok (.aload_n 0, 1) := by decide +kernel
theorem d_Poly_multiplyBy_37 : decode b_Poly_multiplyBy 37 = .ok (.getfield 9, 3) := by decide +kernel
theorem d_Poly_multiplyBy_40 : decode b_Poly_multiplyBy 40 = .ok (.iload 4, 2) := by decide +kernel
theorem d_Poly_multiplyBy_42 : decode b_Poly_multiplyBy 42 = .ok (.iaload, 1) := by decide +kernel
theorem d_Poly_multiplyBy_43 : decode b_Poly_multiplyBy 43 = .ok (.iload_n 1, 1) := by decide +kernel
theorem d_Poly_multiplyBy_44 : decode b_Poly_multiplyBy 44 = .ok (.imul, 1) := by decide +kernel
theorem d_Poly_multiplyBy_45 : decode b_Poly_multiplyBy 45 = .ok (.aload_n 0, 1) := by decide +kernel
theorem d_Poly_multiplyBy_46 : decode b_Poly_multiplyBy 46 = .ok (.getfield 9, 3) := by decide +kernel
theorem d_Poly_multiplyBy_49 : decode b_Poly_multiplyBy 49 = .ok (.iload 4, 2) := by decide +kernel
theorem d_Poly_multiplyBy_51 : decode b_Poly_multiplyBy 51 = .ok (.iconst 1, 1) := by decide +kernel
theorem d_Poly_multiplyBy_52 : decode b_Poly_multiplyBy 52 = .ok (.isub, 1) := by decide +kernel
theorem d_Poly_multiplyBy_53 : decode b_Poly_multiplyBy 53 = .ok (.iaload, 1) := by decide +kernel
theorem d_Poly_multiplyBy_54 : decode b_Poly_multiplyBy 54 = .ok (.iadd, 1) := by decide +kernel
theorem d_Poly_multiplyBy_55 : decode b_Poly_multiplyBy 55 = .ok (.sipush 10007, 3) := by decide +kernel
theorem d_Poly_multiplyBy_58 : decode b_Poly_multiplyBy 58 = .ok (.irem, 1) := by decide +kernel
theorem d_Poly_multiplyBy_59 : decode b_Poly_multiplyBy 59 = .ok (.iastore, 1) := by decide +kernel
theorem d_Poly_multiplyBy_60 : decode b_Poly_multiplyBy 60 = .ok (.iinc 4 (-1), 3) := by decide +kernel
theorem d_Poly_multiplyBy_63 : decode b_Poly_multiplyBy 63 = .ok (.goto (-38), 3) := by decide +kernel
theorem d_Poly_multiplyBy_66 : decode b_Poly_multiplyBy 66 = .ok (.aload_n 0, 1) := by decide +kernel
theorem d_Poly_multiplyBy_67 : decode b_Poly_multiplyBy 67 = .ok (.getfield 9, 3) := by decide +kernel
theorem d_Poly_multiplyBy_70 : decode b_Poly_multiplyBy 70 = .ok (.iconst 0, 1) := by decide +kernel
theorem d_Poly_multiplyBy_71 : decode b_Poly_multiplyBy 71 = .ok (.aload_n 0, 1) := by decide +kernel
theorem d_Poly_multiplyBy_72 : decode b_Poly_multiplyBy 72 = .ok (.getfield 9, 3) := by decide +kernel
theorem d_Poly_multiplyBy_75 : decode b_Poly_multiplyBy 75 = .ok (.iconst 0, 1) := by decide +kernel
theorem d_Poly_multiplyBy_76 : decode b_Poly_multiplyBy 76 = .ok (.iaload, 1) := by decide +kernel
theorem d_Poly_multiplyBy_77 : decode b_Poly_multiplyBy 77 = .ok (.iload_n 1, 1) := by decide +kernel
theorem d_Poly_multiplyBy_78 : decode b_Poly_multiplyBy 78 = .ok (.imul, 1) := by decide +kernel
theorem d_Poly_multiplyBy_79 : decode b_Poly_multiplyBy 79 = .ok (.sipush 10007, 3) := by decide +kernel
theorem d_Poly_multiplyBy_82 : decode b_Poly_multiplyBy 82 = .ok (.irem, 1) := by decide +kernel
theorem d_Poly_multiplyBy_83 : decode b_Poly_multiplyBy 83 = .ok (.iastore, 1) := by decide +kernel
theorem d_Poly_multiplyBy_84 : decode b_Poly_multiplyBy 84 = .ok (.aload_n 0, 1) := by decide +kernel
theorem d_Poly_multiplyBy_85 : decode b_Poly_multiplyBy 85 = .ok (.invokevirtual 28, 3) := by decide +kernel
theorem d_Poly_multiplyBy_88 : decode b_Poly_multiplyBy 88 = .ok (.iinc 3 1, 3) := by decide +kernel
theorem d_Poly_multiplyBy_91 : decode b_Poly_multiplyBy 91 = .ok (.goto (-89), 3) := by decide +kernel
theorem d_Poly_multiplyBy_94 : decode b_Poly_multiplyBy 94 = .ok (.return_, 1) := by decide +kernel
theorem d_Poly_addScaled_0 : decode b_Poly_addScaled 0 = .ok (.aload_n 0, 1) := by decide +kernel
theorem d_Poly_addScaled_1 : decode b_Poly_addScaled 1 = .ok (.getfield 9, 3) := by decide +kernel
theorem d_Poly_addScaled_4 : decode b_Poly_addScaled 4 = .ok (.arraylength, 1) := by decide +kernel
theorem d_Poly_addScaled_5 : decode b_Poly_addScaled 5 = .ok (.aload_n 1, 1) := by decide +kernel
theorem d_Poly_addScaled_6 : decode b_Poly_addScaled 6 = .ok (.getfield 9, 3) := by decide +kernel
theorem d_Poly_addScaled_9 : decode b_Poly_addScaled 9 = .ok (.arraylength, 1) := by decide +kernel
theorem d_Poly_addScaled_10 : decode b_Poly_addScaled 10 = .ok (.invokestatic 31, 3) := by decide +kernel
theorem d_Poly_addScaled_13 : decode b_Poly_addScaled 13 = .ok (.istore_n 3, 1) := by decide +kernel
theorem d_Poly_addScaled_14 : decode b_Poly_addScaled 14 = .ok (.iconst 0, 1) := by decide +kernel
theorem d_Poly_addScaled_15 : decode b_Poly_addScaled 15 = .ok (.istore 4, 2) := by decide +kernel
theorem d_Poly_addScaled_17 : decode b_Poly_addScaled 17 = .ok (.iload 4, 2) := by decide +kernel
theorem d_Poly_addScaled_19 : decode b_Poly_addScaled 19 = .ok (.iload_n 3, 1) := by decide +kernel
theorem d_Poly_addScaled_20 : decode b_Poly_addScaled 20 = .ok (.if_icmp .ge 37, 3) := by decide +kernel
theorem d_Poly_addScaled_23 : decode b_Poly_addScaled 23 = .ok (.aload_n 0, 1) := by decide +kernel
theorem d_Poly_addScaled_24 : decode b_Poly_addScaled 24 = .ok (.getfield 9, 3) := by decide +kernel
theorem d_Poly_addScaled_27 : decode b_Poly_addScaled 27 = .ok (.iload 4, 2) := by decide +kernel
theorem d_Poly_addScaled_29 : decode b_Poly_addScaled 29 = .ok (.aload_n 0, 1) := by decide +kernel
theorem d_Poly_addScaled_30 : decode b_Poly_addScaled 30 = .ok (.getfield 9, 3) := by decide +kernel
theorem d_Poly_addScaled_33 : decode b_Poly_addScaled 33 = .ok (.iload 4, 2) := by decide +kernel
theorem d_Poly_addScaled_35 : decode b_Poly_addScaled 35 = .ok (.iaload, 1) := by decide +kernel
theorem d_Poly_addScaled_36 : decode b_Poly_addScaled 36 = .ok (.aload_n 1, 1) := by decide +kernel
theorem d_Poly_addScaled_37 : decode b_Poly_addScaled 37 = .ok (.getfield 9, 3) := by decide +kernel
theorem d_Poly_addScaled_40 : decode b_Poly_addScaled 40 = .ok (.iload 4, 2) := by decide +kernel
theorem d_Poly_addScaled_42 : decode b_Poly_addScaled 42 = .ok (.iaload, 1) := by decide +kernel
theorem d_Poly_addScaled_43 : decode b_Poly_addScaled 43 = .ok (.iload_n 2, 1) := by decide +kernel
theorem d_Poly_addScaled_44 : decode b_Poly_addScaled 44 = .ok (.imul, 1) := by decide +kernel
theorem d_Poly_addScaled_45 : decode b_Poly_addScaled 45 = .ok (.iadd, 1) := by decide +kernel
theorem d_Poly_addScaled_46 : decode b_Poly_addScaled 46 = .ok (.sipush 10007, 3) := by decide +kernel
theorem d_Poly_addScaled_49 : decode b_Poly_addScaled 49 = .ok (.irem, 1) := by decide +kernel
theorem d_Poly_addScaled_50 : decode b_Poly_addScaled 50 = .ok (.iastore, 1) := by decide +kernel
theorem d_Poly_addScaled_51 : decode b_Poly_addScaled 51 = .ok (.iinc 4 1, 3) := by decide +kernel
theorem d_Poly_addScaled_54 : decode b_Poly_addScaled 54 = .ok (.goto (-37), 3) := by decide +kernel
theorem d_Poly_addScaled_57 : decode b_Poly_addScaled 57 = .ok (.aload_n 0, 1) := by decide +kernel
theorem d_Poly_addScaled_58 : decode b_Poly_addScaled 58 = .ok (.invokevirtual 28, 3) := by decide +kernel
theorem d_Poly_addScaled_61 : decode b_Poly_addScaled 61 = .ok (.return_, 1) := by decide +kernel
theorem d_Poly_at_0 : decode b_Poly_at 0 = .ok (.iconst 0, 1) := by decide +kernel
theorem d_Poly_at_1 : decode b_Poly_at 1 = .ok (.istore_n 2, 1) := by decide +kernel
theorem d_Poly_at_2 : decode b_Poly_at 2 = .ok (.aload_n 0, 1) := by decide +kernel
theorem d_Poly_at_3 : decode b_Poly_at 3 = .ok (.getfield 15, 3) := by decide +kernel
theorem d_Poly_at_6 : decode b_Poly_at 6 = .ok (.istore_n 3, 1) := by decide +kernel
theorem d_Poly_at_7 : decode b_Poly_at 7 = .ok (.iload_n 3, 1) := by decide +kernel
theorem d_Poly_at_8 : decode b_Poly_at 8 = .ok (.ifCond .lt 24, 3) := by decide +kernel
theorem d_Poly_at_11 : decode b_Poly_at 11 = .ok (.iload_n 2, 1) := by decide +kernel
theorem d_Poly_at_12 : decode b_Poly_at 12 = .ok (.iload_n 1, 1) := by decide +kernel
theorem d_Poly_at_13 : decode b_Poly_at 13 = .ok (.imul, 1) := by decide +kernel
theorem d_Poly_at_14 : decode b_Poly_at 14 = .ok (.aload_n 0, 1) := by decide +kernel
theorem d_Poly_at_15 : decode b_Poly_at 15 = .ok (.getfield 9, 3) := by decide +kernel
theorem d_Poly_at_18 : decode b_Poly_at 18 = .ok (.iload_n 3, 1) := by decide +kernel
theorem d_Poly_at_19 : decode b_Poly_at 19 = .ok (.iaload, 1) := by decide +kernel
theorem d_Poly_at_20 : decode b_Poly_at 20 = .ok (.iadd, 1) := by decide +kernel
theorem d_Poly_at_21 : decode b_Poly_at 21 = .ok (.sipush 10007, 3) := by decide +kernel
theorem d_Poly_at_24 : decode b_Poly_at 24 = .ok (.irem, 1) := by decide +kernel
theorem d_Poly_at_25 : decode b_Poly_at 25 = .ok (.istore_n 2, 1) := by decide +kernel
theorem d_Poly_at_26 : decode b_Poly_at 26 = .ok (.iinc 3 (-1), 3) := by decide +kernel
theorem d_Poly_at_29 : decode b_Poly_at 29 = .ok (.goto (-22), 3) := by decide +kernel
theorem d_Poly_at_32 : decode b_Poly_at 32 = .ok (.iload_n 2, 1) := by decide +kernel
theorem d_Poly_at_33 : decode b_Poly_at 33 = .ok (.ireturn, 1) := by decide +kernel
theorem d_Poly_divideBy_0 : decode b_Poly_divideBy 0 = .ok (.iload_n 1, 1) := by decide +kernel
theorem d_Poly_divideBy_1 : decode b_Poly_divideBy 1 = .ok (.ineg, 1) := by decide +kernel
theorem d_Poly_divideBy_2 : decode b_Poly_divideBy 2 = .ok (.invokestatic 37, 3) := by decide +kernel
theorem d_Poly_divideBy_5 : decode b_Poly_divideBy 5 = .ok (.istore_n 2, 1) := by decide +kernel
theorem d_Poly_divideBy_6 : decode b_Poly_divideBy 6 = .ok (.iconst 0, 1) := by decide +kernel
theorem d_Poly_divideBy_7 : decode b_Poly_divideBy 7 = .ok (.istore_n 3, 1) := by decide +kernel
theorem d_Poly_divideBy_8 : decode b_Poly_divideBy 8 = .ok (.aload_n 0, 1) := by decide +kernel
theorem d_Poly_divideBy_9 : decode b_Poly_divideBy 9 = .ok (.getfield 15, 3) := by decide +kernel
theorem d_Poly_divideBy_12 : decode b_Poly_divideBy 12 = .ok (.istore 4, 2) := by decide +kernel
theorem d_Poly_divideBy_14 : decode b_Poly_divideBy 14 = .ok (.iload 4, 2) := by decide +kernel
theorem d_Poly_divideBy_16 : decode b_Poly_divideBy 16 = .ok (.ifCond .lt 37, 3) := by decide +kernel
theorem d_Poly_divideBy_19 : decode b_Poly_divideBy 19 = .ok (.iload_n 3, 1) := by decide +kernel
theorem d_Poly_divideBy_20 : decode b_Poly_divideBy 20 = .ok (.iload_n 2, 1) := by decide +kernel
theorem d_Poly_divideBy_21 : decode b_Poly_divideBy 21 = .ok (.imul, 1) := by decide +kernel
theorem d_Poly_divideBy_22 : decode b_Poly_divideBy 22 = .ok (.aload_n 0, 1) := by decide +kernel
theorem d_Poly_divideBy_23 : decode b_Poly_divideBy 23 = .ok (.getfield 9, 3) := by decide +kernel
theorem d_Poly_divideBy_26 : decode b_Poly_divideBy 26 = .ok (.iload 4, 2) := by decide +kernel
theorem d_Poly_divideBy_28 : decode b_Poly_divideBy 28 = .ok (.iaload, 1) := by decide +kernel
theorem d_Poly_divideBy_29 : decode b_Poly_divideBy 29 = .ok (.iadd, 1) := by decide +kernel
theorem d_Poly_divideBy_30 : decode b_Poly_divideBy 30 = .ok (.sipush 10007, 3) := by decide +kernel
theorem d_Poly_divideBy_33 : decode b_Poly_divideBy 33 = .ok (.irem, 1) := by decide +kernel
theorem d_Poly_divideBy_34 : decode b_Poly_divideBy 34 = .ok (.istore 5, 2) := by decide +kernel
theorem d_Poly_divideBy_36 : decode b_Poly_divideBy 36 = .ok (.aload_n 0, 1) := by decide +kernel
theorem d_Poly_divideBy_37 : decode b_Poly_divideBy 37 = .ok (.getfield 9, 3) := by decide +kernel
theorem d_Poly_divideBy_40 : decode b_Poly_divideBy 40 = .ok (.iload 4, 2) := by decide +kernel
theorem d_Poly_divideBy_42 : decode b_Poly_divideBy 42 = .ok (.iload_n 3, 1) := by decide +kernel
theorem d_Poly_divideBy_43 : decode b_Poly_divideBy 43 = .ok (.iastore, 1) := by decide +kernel
theorem d_Poly_divideBy_44 : decode b_Poly_divideBy 44 = .ok (.iload 5, 2) := by decide +kernel
theorem d_Poly_divideBy_46 : decode b_Poly_divideBy 46 = .ok (.istore_n 3, 1) := by decide +kernel
theorem d_Poly_divideBy_47 : decode b_Poly_divideBy 47 = .ok (.iinc 4 (-1), 3) := by decide +kernel
theorem d_Poly_divideBy_50 : decode b_Poly_divideBy 50 = .ok (.goto (-36), 3) := by decide +kernel
theorem d_Poly_divideBy_53 : decode b_Poly_divideBy 53 = .ok (.aload_n 0, 1) := by decide +kernel
theorem d_Poly_divideBy_54 : decode b_Poly_divideBy 54 = .ok (.invokevirtual 28, 3) := by decide +kernel
theorem d_Poly_divideBy_57 : decode b_Poly_divideBy 57 = .ok (.iload_n 3, 1) := by decide +kernel
theorem d_Poly_divideBy_58 : decode b_Poly_divideBy 58 = .ok (.ireturn, 1) := by decide +kernel
theorem d_Poly_becomeProduct_0 : decode b_Poly_becomeProduct 0 = .ok (.aload_n 0, 1) := by decide +kernel
theorem d_Poly_becomeProduct_1 : decode b_Poly_becomeProduct 1 = .ok (.invokevirtual 25, 3) := by decide +kernel
theorem d_Poly_becomeProduct_4 : decode b_Poly_becomeProduct 4 = .ok (.iconst 0, 1) := by decide +kernel
theorem d_Poly_becomeProduct_5 : decode b_Poly_becomeProduct 5 = .ok (.istore_n 3, 1) := by decide +kernel
theorem d_Poly_becomeProduct_6 : decode b_Poly_becomeProduct 6 = .ok (.iload_n 3, 1) := by decide +kernel
theorem d_Poly_becomeProduct_7 : decode b_Poly_becomeProduct 7 = .ok (.aload_n 1, 1) := by decide +kernel
theorem d_Poly_becomeProduct_8 : decode b_Poly_becomeProduct 8 = .ok (.getfield 15, 3) := by decide +kernel
theorem d_Poly_becomeProduct_11 : decode b_Poly_becomeProduct 11 = .ok (.if_icmp .gt 76, 3) := by decide +kernel
theorem d_Poly_becomeProduct_14 : decode b_Poly_becomeProduct 14 = .ok (.iconst 0, 1) := by decide +kernel
theorem d_Poly_becomeProduct_15 : decode b_Poly_becomeProduct 15 = .ok (.istore 4, 2) := by decide +kernel
theorem d_Poly_becomeProduct_17 : decode b_Poly_becomeProduct 17 = .ok (.iload 4, 2) := by decide +kernel
theorem d_Poly_becomeProduct_19 : decode b_Poly_becomeProduct 19 = .ok (.aload_n 2, 1) := by decide +kernel
theorem d_Poly_becomeProduct_20 : decode b_Poly_becomeProduct 20 = .ok (.getfield 15, 3) := by decide +kernel
theorem d_Poly_becomeProduct_23 : decode b_Poly_becomeProduct 23 = .ok (.if_icmp .gt 58, 3) := by decide +kernel
theorem d_Poly_becomeProduct_26 : decode b_Poly_becomeProduct 26 = .ok (.iload_n 3, 1) := by decide +kernel
theorem d_Poly_becomeProduct_27 : decode b_Poly_becomeProduct 27 = .ok (.iload 4, 2) := by decide +kernel
theorem d_Poly_becomeProduct_29 : decode b_Poly_becomeProduct 29 = .ok (.iadd, 1) := by decide +kernel
theorem d_Poly_becomeProduct_30 : decode b_Poly_becomeProduct 30 = .ok (.aload_n 0, 1) := by decide +kernel
theorem d_Poly_becomeProduct_31 : decode b_Poly_becomeProduct 31 = .ok (.getfield 9, 3) := by decide +kernel
theorem d_Poly_becomeProduct_34 : decode b_Poly_becomeProduct 34 = .ok (.arraylength, 1) := by decide +kernel
theorem d_Poly_becomeProduct_35 : decode b_Poly_becomeProduct 35 = .ok (.if_icmp .ge 46, 3) := by decide +kernel
theorem d_Poly_becomeProduct_38 : decode b_Poly_becomeProduct 38 = .ok (.aload_n 0, 1) := by decide +kernel
theorem d_Poly_becomeProduct_39 : decode b_Poly_becomeProduct 39 = .ok (.getfield 9, 3) := by decide +kernel
theorem d_Poly_becomeProduct_42 : decode b_Poly_becomeProduct 42 = .ok (.iload_n 3, 1) := by decide +kernel
theorem d_Poly_becomeProduct_43 : decode b_Poly_becomeProduct 43 = .ok (.iload 4, 2) := by decide +kernel
theorem d_Poly_becomeProduct_45 : decode b_Poly_becomeProduct 45 = .ok (.iadd, 1) := by decide +kernel
theorem d_Poly_becomeProduct_46 : decode b_Poly_becomeProduct 46 = .ok (.aload_n 0, 1) := by decide +kernel
theorem d_Poly_becomeProduct_47 : decode b_Poly_becomeProduct 47 = .ok (.getfield 9, 3) := by decide +kernel
theorem d_Poly_becomeProduct_50 : decode b_Poly_becomeProduct 50 = .ok (.iload_n 3, 1) := by decide +kernel
theorem d_Poly_becomeProduct_51 : decode b_Poly_becomeProduct 51 = .ok (.iload 4, 2) := by decide +kernel
theorem d_Poly_becomeProduct_53 : decode b_Poly_becomeProduct 53 = .ok (.iadd, 1) := by decide +kernel
theorem d_Poly_becomeProduct_54 : decode b_Poly_becomeProduct 54 = .ok (.iaload, 1) := by decide +kernel
theorem d_Poly_becomeProduct_55 : decode b_Poly_becomeProduct 55 = .ok (.aload_n 1, 1) := by decide +kernel
theorem d_Poly_becomeProduct_56 : decode b_Poly_becomeProduct 56 = .ok (.getfield 9, 3) := by decide +kernel
theorem d_Poly_becomeProduct_59 : decode b_Poly_becomeProduct 59 = .ok (.iload_n 3, 1) := by decide +kernel
theorem d_Poly_becomeProduct_60 : decode b_Poly_becomeProduct 60 = .ok (.iaload, 1) := by decide +kernel
theorem d_Poly_becomeProduct_61 : decode b_Poly_becomeProduct 61 = .ok (.aload_n 2, 1) := by decide +kernel
theorem d_Poly_becomeProduct_62 : decode b_Poly_becomeProduct 62 = .ok (.getfield 9, 3) := by decide +kernel
theorem d_Poly_becomeProduct_65 : decode b_Poly_becomeProduct 65 = .ok (.iload 4, 2) := by decide +kernel
theorem d_Poly_becomeProduct_67 : decode b_Poly_becomeProduct 67 = .ok (.iaload, 1) := by decide +kernel
theorem d_Poly_becomeProduct_68 : decode b_Poly_becomeProduct 68 = .ok (.imul, 1) := by decide +kernel
theorem d_Poly_becomeProduct_69 : decode b_Poly_becomeProduct 69 = .ok (.iadd, 1) := by decide +kernel
theorem d_Poly_becomeProduct_70 : decode b_Poly_becomeProduct 70 = .ok (.sipush 10007, 3) := by decide +kernel
theorem d_Poly_becomeProduct_73 : decode b_Poly_becomeProduct 73 = .ok (.irem, 1) := by decide +kernel
theorem d_Poly_becomeProduct_74 : decode b_Poly_becomeProduct 74 = .ok (.iastore, 1) := by decide +kernel
theorem d_Poly_becomeProduct_75 : decode b_Poly_becomeProduct 75 = .ok (.iinc 4 1, 3) := by decide +kernel
theorem d_Poly_becomeProduct_78 : decode b_Poly_becomeProduct 78 = .ok (.goto (-61), 3) := by decide +kernel
theorem d_Poly_becomeProduct_81 : decode b_Poly_becomeProduct 81 = .ok (.iinc 3 1, 3) := by decide +kernel
theorem d_Poly_becomeProduct_84 : decode b_Poly_becomeProduct 84 = .ok (.goto (-78), 3) := by decide +kernel
theorem d_Poly_becomeProduct_87 : decode b_Poly_becomeProduct 87 = .ok (.aload_n 0, 1) := by decide +kernel
theorem d_Poly_becomeProduct_88 : decode b_Poly_becomeProduct 88 = .ok (.invokevirtual 28, 3) := by decide +kernel
theorem d_Poly_becomeProduct_91 : decode b_Poly_becomeProduct 91 = .ok (.return_, 1) := by decide +kernel
theorem d_Poly_moveOn_0 : decode b_Poly_moveOn 0 = .ok (.iconst 0, 1) := by decide +kernel
theorem d_Poly_moveOn_1 : decode b_Poly_moveOn 1 = .ok (.istore_n 1, 1) := by decide +kernel
theorem d_Poly_moveOn_2 : decode b_Poly_moveOn 2 = .ok (.iload_n 1, 1) := by decide +kernel
theorem d_Poly_moveOn_3 : decode b_Poly_moveOn 3 = .ok (.aload_n 0, 1) := by decide +kernel
theorem d_Poly_moveOn_4 : decode b_Poly_moveOn 4 = .ok (.getfield 15, 3) := by decide +kernel
theorem d_Poly_moveOn_7 : decode b_Poly_moveOn 7 = .ok (.if_icmp .ge 52, 3) := by decide +kernel
theorem d_Poly_moveOn_10 : decode b_Poly_moveOn 10 = .ok (.aload_n 0, 1) := by decide +kernel
theorem d_Poly_moveOn_11 : decode b_Poly_moveOn 11 = .ok (.getfield 15, 3) := by decide +kernel
theorem d_Poly_moveOn_14 : decode b_Poly_moveOn 14 = .ok (.iconst 1, 1) := by decide +kernel
theorem d_Poly_moveOn_15 : decode b_Poly_moveOn 15 = .ok (.isub, 1) := by decide +kernel
theorem d_Poly_moveOn_16 : decode b_Poly_moveOn 16 = .ok (.istore_n 2, 1) := by decide +kernel
theorem d_Poly_moveOn_17 : decode b_Poly_moveOn 17 = .ok (.iload_n 2, 1) := by decide +kernel
theorem d_Poly_moveOn_18 : decode b_Poly_moveOn 18 = .ok (.iload_n 1, 1) := by decide +kernel
theorem d_Poly_moveOn_19 : decode b_Poly_moveOn 19 = .ok (.if_icmp .lt 34, 3) := by decide +kernel
theorem d_Poly_moveOn_22 : decode b_Poly_moveOn 22 = .ok (.aload_n 0, 1) := by decide +kernel
theorem d_Poly_moveOn_23 : decode b_Poly_moveOn 23 = .ok (.getfield 9, 3) := by decide +kernel
theorem d_Poly_moveOn_26 : decode b_Poly_moveOn 26 = .ok (.iload_n 2, 1) := by decide +kernel
theorem d_Poly_moveOn_27 : decode b_Poly_moveOn 27 = .ok (.aload_n 0, 1) := by decide +kernel
theorem d_Poly_moveOn_28 : decode b_Poly_moveOn 28 = .ok (.getfield 9, 3) := by decide +kernel
theorem d_Poly_moveOn_31 : decode b_Poly_moveOn 31 = .ok (.iload_n 2, 1) := by decide +kernel
theorem d_Poly_moveOn_32 : decode b_Poly_moveOn 32 = .ok (.iaload, 1) := by decide +kernel
theorem d_Poly_moveOn_33 : decode b_Poly_moveOn 33 = .ok (.aload_n 0, 1) := by decide +kernel
theorem d_Poly_moveOn_34 : decode b_Poly_moveOn 34 = .ok (.getfield 9, 3) := by decide +kernel
theorem d_Poly_moveOn_37 : decode b_Poly_moveOn 37 = .ok (.iload_n 2, 1) := by decide +kernel
theorem d_Poly_moveOn_38 : decode b_Poly_moveOn 38 = .ok (.iconst 1, 1) := by decide +kernel
theorem d_Poly_moveOn_39 : decode b_Poly_moveOn 39 = .ok (.iadd, 1) := by decide +kernel
theorem d_Poly_moveOn_40 : decode b_Poly_moveOn 40 = .ok (.iaload, 1) := by decide +kernel
theorem d_Poly_moveOn_41 : decode b_Poly_moveOn 41 = .ok (.iadd, 1) := by decide +kernel
theorem d_Poly_moveOn_42 : decode b_Poly_moveOn 42 = .ok (.sipush 10007, 3) := by decide +kernel
theorem d_Poly_moveOn_45 : decode b_Poly_moveOn 45 = .ok (.irem, 1) := by decide +kernel
theorem d_Poly_moveOn_46 : decode b_Poly_moveOn 46 = .ok (.iastore, 1) := by decide +kernel
theorem d_Poly_moveOn_47 : decode b_Poly_moveOn 47 = .ok (.iinc 2 (-1), 3) := by decide +kernel
theorem d_Poly_moveOn_50 : decode b_Poly_moveOn 50 = .ok (.goto (-33), 3) := by decide +kernel
theorem d_Poly_moveOn_53 : decode b_Poly_moveOn 53 = .ok (.iinc 1 1, 3) := by decide +kernel
theorem d_Poly_moveOn_56 : decode b_Poly_moveOn 56 = .ok (.goto (-54), 3) := by decide +kernel
theorem d_Poly_moveOn_59 : decode b_Poly_moveOn 59 = .ok (.return_, 1) := by decide +kernel
theorem d_Poly_scale_0 : decode b_Poly_scale 0 = .ok (.iconst 0, 1) := by decide +kernel
theorem d_Poly_scale_1 : decode b_Poly_scale 1 = .ok (.istore_n 2, 1) := by decide +kernel
theorem d_Poly_scale_2 : decode b_Poly_scale 2 = .ok (.iload_n 2, 1) := by decide +kernel
theorem d_Poly_scale_3 : decode b_Poly_scale 3 = .ok (.aload_n 0, 1) := by decide +kernel
theorem d_Poly_scale_4 : decode b_Poly_scale 4 = .ok (.getfield 15, 3) := by decide +kernel
theorem d_Poly_scale_7 : decode b_Poly_scale 7 = .ok (.if_icmp .gt 27, 3) := by decide +kernel
theorem d_Poly_scale_10 : decode b_Poly_scale 10 = .ok (.aload_n 0, 1) := by decide +kernel
theorem d_Poly_scale_11 : decode b_Poly_scale 11 = .ok (.getfield 9, 3) := by decide +kernel
theorem d_Poly_scale_14 : decode b_Poly_scale 14 = .ok (.iload_n 2, 1) := by decide +kernel
theorem d_Poly_scale_15 : decode b_Poly_scale 15 = .ok (.aload_n 0, 1) := by decide +kernel
theorem d_Poly_scale_16 : decode b_Poly_scale 16 = .ok (.getfield 9, 3) := by decide +kernel
theorem d_Poly_scale_19 : decode b_Poly_scale 19 = .ok (.iload_n 2, 1) := by decide +kernel
theorem d_Poly_scale_20 : decode b_Poly_scale 20 = .ok (.iaload, 1) := by decide +kernel
theorem d_Poly_scale_21 : decode b_Poly_scale 21 = .ok (.iload_n 1, 1) := by decide +kernel
theorem d_Poly_scale_22 : decode b_Poly_scale 22 = .ok (.imul, 1) := by decide +kernel
theorem d_Poly_scale_23 : decode b_Poly_scale 23 = .ok (.sipush 10007, 3) := by decide +kernel
theorem d_Poly_scale_26 : decode b_Poly_scale 26 = .ok (.irem, 1) := by decide +kernel
theorem d_Poly_scale_27 : decode b_Poly_scale 27 = .ok (.iastore, 1) := by decide +kernel
theorem d_Poly_scale_28 : decode b_Poly_scale 28 = .ok (.iinc 2 1, 3) := by decide +kernel
theorem d_Poly_scale_31 : decode b_Poly_scale 31 = .ok (.goto (-29), 3) := by decide +kernel
theorem d_Poly_scale_34 : decode b_Poly_scale 34 = .ok (.aload_n 0, 1) := by decide +kernel
theorem d_Poly_scale_35 : decode b_Poly_scale 35 = .ok (.invokevirtual 28, 3) := by decide +kernel
theorem d_Poly_scale_38 : decode b_Poly_scale 38 = .ok (.return_, 1) := by decide +kernel
theorem d_Poly_matches_0 : decode b_Poly_matches 0 = .ok (.aload_n 0, 1) := by decide +kernel
theorem d_Poly_matches_1 : decode b_Poly_matches 1 = .ok (.getfield 15, 3) := by decide +kernel
theorem d_Poly_matches_4 : decode b_Poly_matches 4 = .ok (.aload_n 1, 1) := by decide +kernel
theorem d_Poly_matches_5 : decode b_Poly_matches 5 = .ok (.getfield 15, 3) := by decide +kernel
theorem d_Poly_matches_8 : decode b_Poly_matches 8 = .ok (.if_icmp .eq 5, 3) := by decide +kernel
theorem d_Poly_matches_11 : decode b_Poly_matches 11 = .ok (.iconst 0, 1) := by decide +kernel
theorem d_Poly_matches_12 : decode b_Poly_matches 12 = .ok (.ireturn, 1) := by decide +kernel
theorem d_Poly_matches_13 : decode b_Poly_matches 13 = .ok (.iconst 0, 1) := by decide +kernel
theorem d_Poly_matches_14 : decode b_Poly_matches 14 = .ok (.istore_n 2, 1) := by decide +kernel
theorem d_Poly_matches_15 : decode b_Poly_matches 15 = .ok (.iload_n 2, 1) := by decide +kernel
theorem d_Poly_matches_16 : decode b_Poly_matches 16 = .ok (.aload_n 0, 1) := by decide +kernel
theorem d_Poly_matches_17 : decode b_Poly_matches 17 = .ok (.getfield 15, 3) := by decide +kernel
theorem d_Poly_matches_20 : decode b_Poly_matches 20 = .ok (.if_icmp .gt 26, 3) := by decide +kernel
theorem d_Poly_matches_23 : decode b_Poly_matches 23 = .ok (.aload_n 0, 1) := by decide +kernel
theorem d_Poly_matches_24 : decode b_Poly_matches 24 = .ok (.getfield 9, 3) := by decide +kernel
theorem d_Poly_matches_27 : decode b_Poly_matches 27 = .ok (.iload_n 2, 1) := by decide +kernel
theorem d_Poly_matches_28 : decode b_Poly_matches 28 = .ok (.iaload, 1) := by decide +kernel
theorem d_Poly_matches_29 : decode b_Poly_matches 29 = .ok (.aload_n 1, 1) := by decide +kernel
theorem d_Poly_matches_30 : decode b_Poly_matches 30 = .ok (.getfield 9, 3) := by decide +kernel
theorem d_Poly_matches_33 : decode b_Poly_matches 33 = .ok (.iload_n 2, 1) := by decide +kernel
theorem d_Poly_matches_34 : decode b_Poly_matches 34 = .ok (.iaload, 1) := by decide +kernel
theorem d_Poly_matches_35 : decode b_Poly_matches 35 = .ok (.if_icmp .eq 5, 3) := by decide +kernel
theorem d_Poly_matches_38 : decode b_Poly_matches 38 = .ok (.iconst 0, 1) := by decide +kernel
theorem d_Poly_matches_39 : decode b_Poly_matches 39 = .ok (.ireturn, 1) := by decide +kernel
theorem d_Poly_matches_40 : decode b_Poly_matches 40 = .ok (.iinc 2 1, 3) := by decide +kernel
theorem d_Poly_matches_43 : decode b_Poly_matches 43 = .ok (.goto (-28), 3) := by decide +kernel
theorem d_Poly_matches_46 : decode b_Poly_matches 46 = .ok (.iconst 1, 1) := by decide +kernel
theorem d_Poly_matches_47 : decode b_Poly_matches 47 = .ok (.ireturn, 1) := by decide +kernel
