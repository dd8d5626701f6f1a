theorem dX9_mirroredCone_11 : decode cX9_mirroredCone 11 = .ok (.ireturn, 1) := by decide +kernel
theorem dX9_mirroredCone_12 : decode cX9_mirroredCone 12 = .ok (.aload_n 0, 1) := by decide +kernel
theorem dX9_mirroredCone_13 : decode cX9_mirroredCone 13 = .ok (.getfield 59, 3) := by decide +kernel
theorem dX9_mirroredCone_16 : decode cX9_mirroredCone 16 = .ok (.aload_n 2, 1) := by decide +kernel
theorem dX9_mirroredCone_17 : decode cX9_mirroredCone 17 = .ok (.invokevirtual 216, 3) := by decide +kernel
theorem dX9_mirroredCone_20 : decode cX9_mirroredCone 20 = .ok (.istore_n 3, 1) := by decide +kernel
theorem dX9_mirroredCone_21 : decode cX9_mirroredCone 21 = .ok (.iload_n 3, 1) := by decide +kernel
theorem dX9_mirroredCone_22 : decode cX9_mirroredCone 22 = .ok (.iconst (-1), 1) := by decide +kernel
theorem dX9_mirroredCone_23 : decode cX9_mirroredCone 23 = .ok (.if_icmp .ne 8, 3) := by decide +kernel
theorem dX9_mirroredCone_26 : decode cX9_mirroredCone 26 = .ok (.bipush (-5), 2) := by decide +kernel
theorem dX9_mirroredCone_28 : decode cX9_mirroredCone 28 = .ok (.goto 4, 3) := by decide +kernel
theorem dX9_mirroredCone_31 : decode cX9_mirroredCone 31 = .ok (.iload_n 3, 1) := by decide +kernel
theorem dX9_mirroredCone_32 : decode cX9_mirroredCone 32 = .ok (.ireturn, 1) := by decide +kernel
theorem dX9_flattestCone_0 : decode cX9_flattestCone 0 = .ok (.aload_n 0, 1) := by decide +kernel
theorem dX9_flattestCone_1 : decode cX9_flattestCone 1 = .ok (.getfield 59, 3) := by decide +kernel
theorem dX9_flattestCone_4 : decode cX9_flattestCone 4 = .ok (.aload_n 0, 1) := by decide +kernel
theorem dX9_flattestCone_5 : decode cX9_flattestCone 5 = .ok (.getfield 45, 3) := by decide +kernel
theorem dX9_flattestCone_8 : decode cX9_flattestCone 8 = .ok (.aload_n 0, 1) := by decide +kernel
theorem dX9_flattestCone_9 : decode cX9_flattestCone 9 = .ok (.getfield 38, 3) := by decide +kernel
theorem dX9_flattestCone_12 : decode cX9_flattestCone 12 = .ok (.invokevirtual 168, 3) := by decide +kernel
theorem dX9_flattestCone_15 : decode cX9_flattestCone 15 = .ok (.aload_n 0, 1) := by decide +kernel
theorem dX9_flattestCone_16 : decode cX9_flattestCone 16 = .ok (.getfield 59, 3) := by decide +kernel
theorem dX9_flattestCone_19 : decode cX9_flattestCone 19 = .ok (.invokevirtual 219, 3) := by decide +kernel
theorem dX9_flattestCone_22 : decode cX9_flattestCone 22 = .ok (.ireturn, 1) := by decide +kernel
theorem dX9_setCoefficient_0 : decode cX9_setCoefficient 0 = .ok (.iload_n 1, 1) := by decide +kernel
theorem dX9_setCoefficient_1 : decode cX9_setCoefficient 1 = .ok (.invokestatic 140, 3) := by decide +kernel
theorem dX9_setCoefficient_4 : decode cX9_setCoefficient 4 = .ok (.ifCond .eq 10, 3) := by decide +kernel
theorem dX9_setCoefficient_7 : decode cX9_setCoefficient 7 = .ok (.iload_n 2, 1) := by decide +kernel
theorem dX9_setCoefficient_8 : decode cX9_setCoefficient 8 = .ok (.invokestatic 140, 3) := by decide +kernel
theorem dX9_setCoefficient_11 : decode cX9_setCoefficient 11 = .ok (.ifCond .ne 5, 3) := by decide +kernel
theorem dX9_setCoefficient_14 : decode cX9_setCoefficient 14 = .ok (.iconst (-1), 1) := by decide +kernel
theorem dX9_setCoefficient_15 : decode cX9_setCoefficient 15 = .ok (.ireturn, 1) := by decide +kernel
theorem dX9_setCoefficient_16 : decode cX9_setCoefficient 16 = .ok (.bipush 9, 2) := by decide +kernel
theorem dX9_setCoefficient_18 : decode cX9_setCoefficient 18 = .ok (.iload_n 1, 1) := by decide +kernel
theorem dX9_setCoefficient_19 : decode cX9_setCoefficient 19 = .ok (.imul, 1) := by decide +kernel
theorem dX9_setCoefficient_20 : decode cX9_setCoefficient 20 = .ok (.iload_n 2, 1) := by decide +kernel
theorem dX9_setCoefficient_21 : decode cX9_setCoefficient 21 = .ok (.iadd, 1) := by decide +kernel
theorem dX9_setCoefficient_22 : decode cX9_setCoefficient 22 = .ok (.istore 4, 2) := by decide +kernel
theorem dX9_setCoefficient_24 : decode cX9_setCoefficient 24 = .ok (.aload_n 0, 1) := by decide +kernel
theorem dX9_setCoefficient_25 : decode cX9_setCoefficient 25 = .ok (.getfield 19, 3) := by decide +kernel
theorem dX9_setCoefficient_28 : decode cX9_setCoefficient 28 = .ok (.getfield 222, 3) := by decide +kernel
theorem dX9_setCoefficient_31 : decode cX9_setCoefficient 31 = .ok (.iload 4, 2) := by decide +kernel
theorem dX9_setCoefficient_33 : decode cX9_setCoefficient 33 = .ok (.iaload, 1) := by decide +kernel
theorem dX9_setCoefficient_34 : decode cX9_setCoefficient 34 = .ok (.istore 5, 2) := by decide +kernel
theorem dX9_setCoefficient_36 : decode cX9_setCoefficient 36 = .ok (.aload_n 0, 1) := by decide +kernel
theorem dX9_setCoefficient_37 : decode cX9_setCoefficient 37 = .ok (.getfield 19, 3) := by decide +kernel
theorem dX9_setCoefficient_40 : decode cX9_setCoefficient 40 = .ok (.getfield 222, 3) := by decide +kernel
theorem dX9_setCoefficient_43 : decode cX9_setCoefficient 43 = .ok (.iload 4, 2) := by decide +kernel
theorem dX9_setCoefficient_45 : decode cX9_setCoefficient 45 = .ok (.aload_n 0, 1) := by decide +kernel
theorem dX9_setCoefficient_46 : decode cX9_setCoefficient 46 = .ok (.getfield 12, 3) := by decide +kernel
theorem dX9_setCoefficient_49 : decode cX9_setCoefficient 49 = .ok (.iload_n 3, 1) := by decide +kernel
theorem dX9_setCoefficient_50 : decode cX9_setCoefficient 50 = .ok (.invokevirtual 225, 3) := by decide +kernel
theorem dX9_setCoefficient_53 : decode cX9_setCoefficient 53 = .ok (.iastore, 1) := by decide +kernel
theorem dX9_setCoefficient_54 : decode cX9_setCoefficient 54 = .ok (.iload 5, 2) := by decide +kernel
theorem dX9_setCoefficient_56 : decode cX9_setCoefficient 56 = .ok (.ireturn, 1) := by decide +kernel
theorem dX9_coefficient_0 : decode cX9_coefficient 0 = .ok (.iload_n 1, 1) := by decide +kernel
theorem dX9_coefficient_1 : decode cX9_coefficient 1 = .ok (.invokestatic 140, 3) := by decide +kernel
theorem dX9_coefficient_4 : decode cX9_coefficient 4 = .ok (.ifCond .eq 27, 3) := by decide +kernel
theorem dX9_coefficient_7 : decode cX9_coefficient 7 = .ok (.iload_n 2, 1) := by decide +kernel
theorem dX9_coefficient_8 : decode cX9_coefficient 8 = .ok (.invokestatic 140, 3) := by decide +kernel
theorem dX9_coefficient_11 : decode cX9_coefficient 11 = .ok (.ifCond .eq 20, 3) := by decide +kernel
theorem dX9_coefficient_14 : decode cX9_coefficient 14 = .ok (.aload_n 0, 1) := by decide +kernel
theorem dX9_coefficient_15 : decode cX9_coefficient 15 = .ok (.getfield 19, 3) := by decide +kernel
theorem dX9_coefficient_18 : decode cX9_coefficient 18 = .ok (.getfield 222, 3) := by decide +kernel
theorem dX9_coefficient_21 : decode cX9_coefficient 21 = .ok (.bipush 9, 2) := by decide +kernel
theorem dX9_coefficient_23 : decode cX9_coefficient 23 = .ok (.iload_n 1, 1) := by decide +kernel
theorem dX9_coefficient_24 : decode cX9_coefficient 24 = .ok (.imul, 1) := by decide +kernel
theorem dX9_coefficient_25 : decode cX9_coefficient 25 = .ok (.iload_n 2, 1) := by decide +kernel
theorem dX9_coefficient_26 : decode cX9_coefficient 26 = .ok (.iadd, 1) := by decide +kernel
theorem dX9_coefficient_27 : decode cX9_coefficient 27 = .ok (.iaload, 1) := by decide +kernel
theorem dX9_coefficient_28 : decode cX9_coefficient 28 = .ok (.goto 4, 3) := by decide +kernel
theorem dX9_coefficient_31 : decode cX9_coefficient 31 = .ok (.iconst (-1), 1) := by decide +kernel
theorem dX9_coefficient_32 : decode cX9_coefficient 32 = .ok (.ireturn, 1) := by decide +kernel
theorem dX9_termCount_0 : decode cX9_termCount 0 = .ok (.aload_n 0, 1) := by decide +kernel
theorem dX9_termCount_1 : decode cX9_termCount 1 = .ok (.getfield 19, 3) := by decide +kernel
theorem dX9_termCount_4 : decode cX9_termCount 4 = .ok (.invokevirtual 228, 3) := by decide +kernel
theorem dX9_termCount_7 : decode cX9_termCount 7 = .ok (.ireturn, 1) := by decide +kernel
theorem dX9_evaluate_0 : decode cX9_evaluate 0 = .ok (.aload_n 0, 1) := by decide +kernel
theorem dX9_evaluate_1 : decode cX9_evaluate 1 = .ok (.getfield 12, 3) := by decide +kernel
theorem dX9_evaluate_4 : decode cX9_evaluate 4 = .ok (.iload_n 1, 1) := by decide +kernel
theorem dX9_evaluate_5 : decode cX9_evaluate 5 = .ok (.invokevirtual 116, 3) := by decide +kernel
theorem dX9_evaluate_8 : decode cX9_evaluate 8 = .ok (.ifCond .eq 18, 3) := by decide +kernel
theorem dX9_evaluate_11 : decode cX9_evaluate 11 = .ok (.aload_n 0, 1) := by decide +kernel
theorem dX9_evaluate_12 : decode cX9_evaluate 12 = .ok (.getfield 19, 3) := by decide +kernel
theorem dX9_evaluate_15 : decode cX9_evaluate 15 = .ok (.aload_n 0, 1) := by decide +kernel
theorem dX9_evaluate_16 : decode cX9_evaluate 16 = .ok (.getfield 12, 3) := by decide +kernel
theorem dX9_evaluate_19 : decode cX9_evaluate 19 = .ok (.iload_n 1, 1) := by decide +kernel
theorem dX9_evaluate_20 : decode cX9_evaluate 20 = .ok (.invokevirtual 231, 3) := by decide +kernel
theorem dX9_evaluate_23 : decode cX9_evaluate 23 = .ok (.goto 4, 3) := by decide +kernel
theorem dX9_evaluate_26 : decode cX9_evaluate 26 = .ok (.iconst (-1), 1) := by decide +kernel
theorem dX9_evaluate_27 : decode cX9_evaluate 27 = .ok (.ireturn, 1) := by decide +kernel
theorem dX9_isVanishing_0 : decode cX9_isVanishing 0 = .ok (.iconst 0, 1) := by decide +kernel
theorem dX9_isVanishing_1 : decode cX9_isVanishing 1 = .ok (.istore_n 1, 1) := by decide +kernel
theorem dX9_isVanishing_2 : decode cX9_isVanishing 2 = .ok (.iload_n 1, 1) := by decide +kernel
theorem dX9_isVanishing_3 : decode cX9_isVanishing 3 = .ok (.aload_n 0, 1) := by decide +kernel
theorem dX9_isVanishing_4 : decode cX9_isVanishing 4 = .ok (.getfield 12, 3) := by decide +kernel
theorem dX9_isVanishing_7 : decode cX9_isVanishing 7 = .ok (.getfield 109, 3) := by decide +kernel
theorem dX9_isVanishing_10 : decode cX9_isVanishing 10 = .ok (.if_icmp .ge 26, 3) := by decide +kernel
theorem dX9_isVanishing_13 : decode cX9_isVanishing 13 = .ok (.aload_n 0, 1) := by decide +kernel
theorem dX9_isVanishing_14 : decode cX9_isVanishing 14 = .ok (.getfield 19, 3) := by decide +kernel
theorem dX9_isVanishing_17 : decode cX9_isVanishing 17 = .ok (.aload_n 0, 1) := by decide +kernel
theorem dX9_isVanishing_18 : decode cX9_isVanishing 18 = .ok (.getfield 12, 3) := by decide +kernel
theorem dX9_isVanishing_21 : decode cX9_isVanishing 21 = .ok (.iload_n 1, 1) := by decide +kernel
theorem dX9_isVanishing_22 : decode cX9_isVanishing 22 = .ok (.invokevirtual 231, 3) := by decide +kernel
theorem dX9_isVanishing_25 : decode cX9_isVanishing 25 = .ok (.ifCond .eq 5, 3) := by decide +kernel
theorem dX9_isVanishing_28 : decode cX9_isVanishing 28 = .ok (.iconst 0, 1) := by decide +kernel
theorem dX9_isVanishing_29 : decode cX9_isVanishing 29 = .ok (.ireturn, 1) := by decide +kernel
theorem dX9_isVanishing_30 : decode cX9_isVanishing 30 = .ok (.iinc 1 1, 3) := by decide +kernel
theorem dX9_isVanishing_33 : decode cX9_isVanishing 33 = .ok (.goto (-31), 3) := by decide +kernel
theorem dX9_isVanishing_36 : decode cX9_isVanishing 36 = .ok (.iconst 1, 1) := by decide +kernel
theorem dX9_isVanishing_37 : decode cX9_isVanishing 37 = .ok (.ireturn, 1) := by decide +kernel
theorem dX9_reduceToNormalForm_0 : decode cX9_reduceToNormalForm 0 = .ok (.aload_n 0, 1) := by decide +kernel
theorem dX9_reduceToNormalForm_1 : decode cX9_reduceToNormalForm 1 = .ok (.iload_n 1, 1) := by decide +kernel
theorem dX9_reduceToNormalForm_2 : decode cX9_reduceToNormalForm 2 = .ok (.invokevirtual 173, 3) := by decide +kernel
theorem dX9_reduceToNormalForm_5 : decode cX9_reduceToNormalForm 5 = .ok (.astore_n 2, 1) := by decide +kernel
theorem dX9_reduceToNormalForm_6 : decode cX9_reduceToNormalForm 6 = .ok (.aload_n 2, 1) := by decide +kernel
theorem dX9_reduceToNormalForm_7 : decode cX9_reduceToNormalForm 7 = .ok (.ifnonnull 5, 3) := by decide +kernel
theorem dX9_reduceToNormalForm_10 : decode cX9_reduceToNormalForm 10 = .ok (.iconst (-1), 1) := by decide +kernel
theorem dX9_reduceToNormalForm_11 : decode cX9_reduceToNormalForm 11 = .ok (.ireturn, 1) := by decide +kernel
theorem dX9_reduceToNormalForm_12 : decode cX9_reduceToNormalForm 12 = .ok (.aload_n 0, 1) := by decide +kernel
theorem dX9_reduceToNormalForm_13 : decode cX9_reduceToNormalForm 13 = .ok (.getfield 38, 3) := by decide +kernel
theorem dX9_reduceToNormalForm_16 : decode cX9_reduceToNormalForm 16 = .ok (.aload_n 2, 1) := by decide +kernel
theorem dX9_reduceToNormalForm_17 : decode cX9_reduceToNormalForm 17 = .ok (.invokevirtual 235, 3) := by decide +kernel
theorem dX9_reduceToNormalForm_20 : decode cX9_reduceToNormalForm 20 = .ok (.iconst 0, 1) := by decide +kernel
theorem dX9_reduceToNormalForm_21 : decode cX9_reduceToNormalForm 21 = .ok (.istore_n 3, 1) := by decide +kernel
theorem dX9_reduceToNormalForm_22 : decode cX9_reduceToNormalForm 22 = .ok (.iload_n 3, 1) := by decide +kernel
theorem dX9_reduceToNormalForm_23 : decode cX9_reduceToNormalForm 23 = .ok (.aload_n 0, 1) := by decide +kernel
theorem dX9_reduceToNormalForm_24 : decode cX9_reduceToNormalForm 24 = .ok (.getfield 12, 3) := by decide +kernel
theorem dX9_reduceToNormalForm_27 : decode cX9_reduceToNormalForm 27 = .ok (.getfield 109, 3) := by decide +kernel
theorem dX9_reduceToNormalForm_30 : decode cX9_reduceToNormalForm 30 = .ok (.if_icmp .ge 30, 3) := by decide +kernel
theorem dX9_reduceToNormalForm_33 : decode cX9_reduceToNormalForm 33 = .ok (.aload_n 0, 1) := by decide +kernel
theorem dX9_reduceToNormalForm_34 : decode cX9_reduceToNormalForm 34 = .ok (.getfield 38, 3) := by decide +kernel
theorem dX9_reduceToNormalForm_37 : decode cX9_reduceToNormalForm 37 = .ok (.getfield 239, 3) := by decide +kernel
theorem dX9_reduceToNormalForm_40 : decode cX9_reduceToNormalForm 40 = .ok (.iload_n 3, 1) := by decide +kernel
theorem dX9_reduceToNormalForm_41 : decode cX9_reduceToNormalForm 41 = .ok (.aload_n 0, 1) := by decide +kernel
theorem dX9_reduceToNormalForm_42 : decode cX9_reduceToNormalForm 42 = .ok (.getfield 19, 3) := by decide +kernel
theorem dX9_reduceToNormalForm_45 : decode cX9_reduceToNormalForm 45 = .ok (.aload_n 0, 1) := by decide +kernel
theorem dX9_reduceToNormalForm_46 : decode cX9_reduceToNormalForm 46 = .ok (.getfield 12, 3) := by decide +kernel
theorem dX9_reduceToNormalForm_49 : decode cX9_reduceToNormalForm 49 = .ok (.iload_n 3, 1) := by decide +kernel
theorem dX9_reduceToNormalForm_50 : decode cX9_reduceToNormalForm 50 = .ok (.invokevirtual 231, 3) := by decide +kernel
theorem dX9_reduceToNormalForm_53 : decode cX9_reduceToNormalForm 53 = .ok (.iastore, 1) := by decide +kernel
theorem dX9_reduceToNormalForm_54 : decode cX9_reduceToNormalForm 54 = .ok (.iinc 3 1, 3) := by decide +kernel
theorem dX9_reduceToNormalForm_57 : decode cX9_reduceToNormalForm 57 = .ok (.goto (-35), 3) := by decide +kernel
theorem dX9_reduceToNormalForm_60 : decode cX9_reduceToNormalForm 60 = .ok (.aload_n 0, 1) := by decide +kernel
theorem dX9_reduceToNormalForm_61 : decode cX9_reduceToNormalForm 61 = .ok (.invokevirtual 242, 3) := by decide +kernel
theorem dX9_reduceToNormalForm_64 : decode cX9_reduceToNormalForm 64 = .ok (.ireturn, 1) := by decide +kernel
theorem dX9_interpolate_0 : decode cX9_interpolate 0 = .ok (.aload_n 0, 1) := by decide +kernel
theorem dX9_interpolate_1 : decode cX9_interpolate 1 = .ok (.iload_n 1, 1) := by decide +kernel
theorem dX9_interpolate_2 : decode cX9_interpolate 2 = .ok (.invokevirtual 173, 3) := by decide +kernel
theorem dX9_interpolate_5 : decode cX9_interpolate 5 = .ok (.astore_n 3, 1) := by decide +kernel
theorem dX9_interpolate_6 : decode cX9_interpolate 6 = .ok (.aload_n 0, 1) := by decide +kernel
theorem dX9_interpolate_7 : decode cX9_interpolate 7 = .ok (.iload_n 2, 1) := by decide +kernel
theorem dX9_interpolate_8 : decode cX9_interpolate 8 = .ok (.invokevirtual 245, 3) := by decide +kernel
theorem dX9_interpolate_11 : decode cX9_interpolate 11 = .ok (.astore 4, 2) := by decide +kernel
theorem dX9_interpolate_13 : decode cX9_interpolate 13 = .ok (.aload_n 3, 1) := by decide +kernel
theorem dX9_interpolate_14 : decode cX9_interpolate 14 = .ok (.ifnull 8, 3) := by decide +kernel
theorem dX9_interpolate_17 : decode cX9_interpolate 17 = .ok (.aload 4, 2) := by decide +kernel
theorem dX9_interpolate_19 : decode cX9_interpolate 19 = .ok (.ifnonnull 5, 3) := by decide +kernel
theorem dX9_interpolate_22 : decode cX9_interpolate 22 = .ok (.iconst (-1), 1) := by decide +kernel
theorem dX9_interpolate_23 : decode cX9_interpolate 23 = .ok (.ireturn, 1) := by decide +kernel
theorem dX9_interpolate_24 : decode cX9_interpolate 24 = .ok (.aload 4, 2) := by decide +kernel
theorem dX9_interpolate_26 : decode cX9_interpolate 26 = .ok (.getfield 249, 3) := by decide +kernel
theorem dX9_interpolate_29 : decode cX9_interpolate 29 = .ok (.iconst 1, 1) := by decide +kernel
theorem dX9_interpolate_30 : decode cX9_interpolate 30 = .ok (.if_icmp .eq 9, 3) := by decide +kernel
theorem dX9_interpolate_33 : decode cX9_interpolate 33 = .ok (.aload 4, 2) := by decide +kernel
theorem dX9_interpolate_35 : decode cX9_interpolate 35 = .ok (.invokevirtual 252, 3) := by decide +kernel
theorem dX9_interpolate_38 : decode cX9_interpolate 38 = .ok (.ireturn, 1) := by decide +kernel
theorem dX9_interpolate_39 : decode cX9_interpolate 39 = .ok (.aload 4, 2) := by decide +kernel
theorem dX9_interpolate_41 : decode cX9_interpolate 41 = .ok (.getfield 255, 3) := by decide +kernel
theorem dX9_interpolate_44 : decode cX9_interpolate 44 = .ok (.aload_n 0, 1) := by decide +kernel
theorem dX9_interpolate_45 : decode cX9_interpolate 45 = .ok (.getfield 12, 3) := by decide +kernel
theorem dX9_interpolate_48 : decode cX9_interpolate 48 = .ok (.getfield 109, 3) := by decide +kernel
theorem dX9_interpolate_51 : decode cX9_interpolate 51 = .ok (.if_icmp .eq 6, 3) := by decide +kernel
theorem dX9_interpolate_54 : decode cX9_interpolate 54 = .ok (.bipush (-9), 2) := by decide +kernel
theorem dX9_interpolate_56 : decode cX9_interpolate 56 = .ok (.ireturn, 1) := by decide +kernel
theorem dX9_interpolate_57 : decode cX9_interpolate 57 = .ok (.aload_n 0, 1) := by decide +kernel
theorem dX9_interpolate_58 : decode cX9_interpolate 58 = .ok (.getfield 38, 3) := by decide +kernel
theorem dX9_interpolate_61 : decode cX9_interpolate 61 = .ok (.aload_n 3, 1) := by decide +kernel
theorem dX9_interpolate_62 : decode cX9_interpolate 62 = .ok (.invokevirtual 235, 3) := by decide +kernel
theorem dX9_interpolate_65 : decode cX9_interpolate 65 = .ok (.iconst 0, 1) := by decide +kernel
theorem dX9_interpolate_66 : decode cX9_interpolate 66 = .ok (.istore 5, 2) := by decide +kernel
theorem dX9_interpolate_68 : decode cX9_interpolate 68 = .ok (.iload 5, 2) := by decide +kernel
theorem dX9_interpolate_70 : decode cX9_interpolate 70 = .ok (.aload_n 0, 1) := by decide +kernel
theorem dX9_interpolate_71 : decode cX9_interpolate 71 = .ok (.getfield 12, 3) := by decide +kernel
theorem dX9_interpolate_74 : decode cX9_interpolate 74 = .ok (.getfield 109, 3) := by decide +kernel
theorem dX9_interpolate_77 : decode cX9_interpolate 77 = .ok (.if_icmp .ge 34, 3) := by decide +kernel
theorem dX9_interpolate_80 : decode cX9_interpolate 80 = .ok (.aload_n 0, 1) := by decide +kernel
theorem dX9_interpolate_81 : decode cX9_interpolate 81 = .ok (.getfield 38, 3) := by decide +kernel
theorem dX9_interpolate_84 : decode cX9_interpolate 84 = .ok (.getfield 239, 3) := by decide +kernel
theorem dX9_interpolate_87 : decode cX9_interpolate 87 = .ok (.iload 5, 2) := by decide +kernel
theorem dX9_interpolate_89 : decode cX9_interpolate 89 = .ok (.aload_n 0, 1) := by decide +kernel
theorem dX9_interpolate_90 : decode cX9_interpolate 90 = .ok (.getfield 12, 3) := by decide +kernel
theorem dX9_interpolate_93 : decode cX9_interpolate 93 = .ok (.aload 4, 2) := by decide +kernel
theorem dX9_interpolate_95 : decode cX9_interpolate 95 = .ok (.getfield 258, 3) := by decide +kernel
theorem dX9_interpolate_98 : decode cX9_interpolate 98 = .ok (.iload 5, 2) := by decide +kernel
theorem dX9_interpolate_100 : decode cX9_interpolate 100 = .ok (.iaload, 1) := by decide +kernel
theorem dX9_interpolate_101 : decode cX9_interpolate 101 = .ok (.invokevirtual 225, 3) := by decide +kernel
theorem dX9_interpolate_104 : decode cX9_interpolate 104 = .ok (.iastore, 1) := by decide +kernel
theorem dX9_interpolate_105 : decode cX9_interpolate 105 = .ok (.iinc 5 1, 3) := by decide +kernel
theorem dX9_interpolate_108 : decode cX9_interpolate 108 = .ok (.goto (-40), 3) := by decide +kernel
theorem dX9_interpolate_111 : decode cX9_interpolate 111 = .ok (.aload_n 0, 1) := by decide +kernel
theorem dX9_interpolate_112 : decode cX9_interpolate 112 = .ok (.invokevirtual 242, 3) := by decide +kernel
theorem dX9_interpolate_115 : decode cX9_interpolate 115 = .ok (.ireturn, 1) := by decide +kernel
theorem dX9_loadBasisPolynomial_0 : decode cX9_loadBasisPolynomial 0 = .ok (.aload_n 0, 1) := by decide +kernel
theorem dX9_loadBasisPolynomial_1 : decode cX9_loadBasisPolynomial 1 = .ok (.iload_n 1, 1) := by decide +kernel
theorem dX9_loadBasisPolynomial_2 : decode cX9_loadBasisPolynomial 2 = .ok (.iload_n 2, 1) := by decide +kernel
theorem dX9_loadBasisPolynomial_3 : decode cX9_loadBasisPolynomial 3 = .ok (.invokevirtual 198, 3) := by decide +kernel
theorem dX9_loadBasisPolynomial_6 : decode cX9_loadBasisPolynomial 6 = .ok (.astore_n 3, 1) := by decide +kernel
theorem dX9_loadBasisPolynomial_7 : decode cX9_loadBasisPolynomial 7 = .ok (.aload_n 3, 1) := by decide +kernel
theorem dX9_loadBasisPolynomial_8 : decode cX9_loadBasisPolynomial 8 = .ok (.ifnonnull 5, 3) := by decide +kernel
theorem dX9_loadBasisPolynomial_11 : decode cX9_loadBasisPolynomial 11 = .ok (.iconst (-1), 1) := by decide +kernel
theorem dX9_loadBasisPolynomial_12 : decode cX9_loadBasisPolynomial 12 = .ok (.ireturn, 1) := by decide +kernel
theorem dX9_loadBasisPolynomial_13 : decode cX9_loadBasisPolynomial 13 = .ok (.aload_n 0, 1) := by decide +kernel
theorem dX9_loadBasisPolynomial_14 : decode cX9_loadBasisPolynomial 14 = .ok (.getfield 19, 3) := by decide +kernel
theorem dX9_loadBasisPolynomial_17 : decode cX9_loadBasisPolynomial 17 = .ok (.invokevirtual 96, 3) := by decide +kernel
theorem dX9_loadBasisPolynomial_20 : decode cX9_loadBasisPolynomial 20 = .ok (.iconst 0, 1) := by decide +kernel
theorem dX9_loadBasisPolynomial_21 : decode cX9_loadBasisPolynomial 21 = .ok (.istore 4, 2) := by decide +kernel
theorem dX9_loadBasisPolynomial_23 : decode cX9_loadBasisPolynomial 23 = .ok (.iload 4, 2) := by decide +kernel
theorem dX9_loadBasisPolynomial_25 : decode cX9_loadBasisPolynomial 25 = .ok (.aload_n 3, 1) := by decide +kernel
theorem dX9_loadBasisPolynomial_26 : decode cX9_loadBasisPolynomial 26 = .ok (.getfield 261, 3) := by decide +kernel
theorem dX9_loadBasisPolynomial_29 : decode cX9_loadBasisPolynomial 29 = .ok (.if_icmp .ge 31, 3) := by decide +kernel
theorem dX9_loadBasisPolynomial_32 : decode cX9_loadBasisPolynomial 32 = .ok (.aload_n 0, 1) := by decide +kernel
theorem dX9_loadBasisPolynomial_33 : decode cX9_loadBasisPolynomial 33 = .ok (.getfield 19, 3) := by decide +kernel
theorem dX9_loadBasisPolynomial_36 : decode cX9_loadBasisPolynomial 36 = .ok (.getfield 222, 3) := by decide +kernel
theorem dX9_loadBasisPolynomial_39 : decode cX9_loadBasisPolynomial 39 = .ok (.aload_n 3, 1) := by decide +kernel
theorem dX9_loadBasisPolynomial_40 : decode cX9_loadBasisPolynomial 40 = .ok (.getfield 262, 3) := by decide +kernel
theorem dX9_loadBasisPolynomial_43 : decode cX9_loadBasisPolynomial 43 = .ok (.iload 4, 2) := by decide +kernel
theorem dX9_loadBasisPolynomial_45 : decode cX9_loadBasisPolynomial 45 = .ok (.iaload, 1) := by decide +kernel
theorem dX9_loadBasisPolynomial_46 : decode cX9_loadBasisPolynomial 46 = .ok (.aload_n 3, 1) := by decide +kernel
theorem dX9_loadBasisPolynomial_47 : decode cX9_loadBasisPolynomial 47 = .ok (.getfield 265, 3) := by decide +kernel
theorem dX9_loadBasisPolynomial_50 : decode cX9_loadBasisPolynomial 50 = .ok (.iload 4, 2) := by decide +kernel
theorem dX9_loadBasisPolynomial_52 : decode cX9_loadBasisPolynomial 52 = .ok (.iaload, 1) := by decide +kernel
theorem dX9_loadBasisPolynomial_53 : decode cX9_loadBasisPolynomial 53 = .ok (.iastore, 1) := by decide +kernel
theorem dX9_loadBasisPolynomial_54 : decode cX9_loadBasisPolynomial 54 = .ok (.iinc 4 1, 3) := by decide +kernel
theorem dX9_loadBasisPolynomial_57 : decode cX9_loadBasisPolynomial 57 = .ok (.goto (-34), 3) := by decide +kernel
theorem dX9_loadBasisPolynomial_60 : decode cX9_loadBasisPolynomial 60 = .ok (.aload_n 0, 1) := by decide +kernel
theorem dX9_loadBasisPolynomial_61 : decode cX9_loadBasisPolynomial 61 = .ok (.getfield 19, 3) := by decide +kernel
theorem dX9_loadBasisPolynomial_64 : decode cX9_loadBasisPolynomial 64 = .ok (.invokevirtual 228, 3) := by decide +kernel
theorem dX9_loadBasisPolynomial_67 : decode cX9_loadBasisPolynomial 67 = .ok (.ireturn, 1) := by decide +kernel
theorem dX9_appendInput_0 : decode cX9_appendInput 0 = .ok (.iload_n 1, 1) := by decide +kernel
theorem dX9_appendInput_1 : decode cX9_appendInput 1 = .ok (.iconst 1, 1) := by decide +kernel
theorem dX9_appendInput_2 : decode cX9_appendInput 2 = .ok (.if_icmp .lt 9, 3) := by decide +kernel
theorem dX9_appendInput_5 : decode cX9_appendInput 5 = .ok (.iload_n 1, 1) := by decide +kernel
theorem dX9_appendInput_6 : decode cX9_appendInput 6 = .ok (.bipush 127, 2) := by decide +kernel
theorem dX9_appendInput_8 : decode cX9_appendInput 8 = .ok (.if_icmp .le 6, 3) := by decide +kernel
theorem dX9_appendInput_11 : decode cX9_appendInput 11 = .ok (.bipush (-2), 2) := by decide +kernel
theorem dX9_appendInput_13 : decode cX9_appendInput 13 = .ok (.ireturn, 1) := by decide +kernel
theorem dX9_appendInput_14 : decode cX9_appendInput 14 = .ok (.aload_n 0, 1) := by decide +kernel
theorem dX9_appendInput_15 : decode cX9_appendInput 15 = .ok (.getfield 66, 3) := by decide +kernel
theorem dX9_appendInput_18 : decode cX9_appendInput 18 = .ok (.getfield 266, 3) := by decide +kernel
theorem dX9_appendInput_21 : decode cX9_appendInput 21 = .ok (.bipush 60, 2) := by decide +kernel
theorem dX9_appendInput_23 : decode cX9_appendInput 23 = .ok (.if_icmp .lt 6, 3) := by decide +kernel
theorem dX9_appendInput_26 : decode cX9_appendInput 26 = .ok (.bipush (-4), 2) := by decide +kernel
theorem dX9_appendInput_28 : decode cX9_appendInput 28 = .ok (.ireturn, 1) := by decide +kernel
theorem dX9_appendInput_29 : decode cX9_appendInput 29 = .ok (.aload_n 0, 1) := by decide +kernel
theorem dX9_appendInput_30 : decode cX9_appendInput 30 = .ok (.getfield 66, 3) := by decide +kernel
theorem dX9_appendInput_33 : decode cX9_appendInput 33 = .ok (.iload_n 1, 1) := by decide +kernel
theorem dX9_appendInput_34 : decode cX9_appendInput 34 = .ok (.invokevirtual 267, 3) := by decide +kernel
theorem dX9_appendInput_37 : decode cX9_appendInput 37 = .ok (.aload_n 0, 1) := by decide +kernel
theorem dX9_appendInput_38 : decode cX9_appendInput 38 = .ok (.getfield 66, 3) := by decide +kernel
theorem dX9_appendInput_41 : decode cX9_appendInput 41 = .ok (.getfield 266, 3) := by decide +kernel
theorem dX9_appendInput_44 : decode cX9_appendInput 44 = .ok (.ireturn, 1) := by decide +kernel
theorem dX9_inputLength_0 : decode cX9_inputLength 0 = .ok (.aload_n 0, 1) := by decide +kernel
theorem dX9_inputLength_1 : decode cX9_inputLength 1 = .ok (.getfield 66, 3) := by decide +kernel
theorem dX9_inputLength_4 : decode cX9_inputLength 4 = .ok (.getfield 266, 3) := by decide +kernel
theorem dX9_inputLength_7 : decode cX9_inputLength 7 = .ok (.ireturn, 1) := by decide +kernel
theorem dX9_parsePoints_0 : decode cX9_parsePoints 0 = .ok (.aload_n 0, 1) := by decide +kernel
theorem dX9_parsePoints_1 : decode cX9_parsePoints 1 = .ok (.getfield 66, 3) := by decide +kernel
theorem dX9_parsePoints_4 : decode cX9_parsePoints 4 = .ok (.invokevirtual 269, 3) := by decide +kernel
theorem dX9_parsePoints_7 : decode cX9_parsePoints 7 = .ok (.istore_n 1, 1) := by decide +kernel
theorem dX9_parsePoints_8 : decode cX9_parsePoints 8 = .ok (.aload_n 0, 1) := by decide +kernel
theorem dX9_parsePoints_9 : decode cX9_parsePoints 9 = .ok (.getfield 66, 3) := by decide +kernel
theorem dX9_parsePoints_12 : decode cX9_parsePoints 12 = .ok (.iconst 0, 1) := by decide +kernel
theorem dX9_parsePoints_13 : decode cX9_parsePoints 13 = .ok (.putfield 266, 3) := by decide +kernel
theorem dX9_parsePoints_16 : decode cX9_parsePoints 16 = .ok (.iload_n 1, 1) := by decide +kernel
theorem dX9_parsePoints_17 : decode cX9_parsePoints 17 = .ok (.iconst (-1), 1) := by decide +kernel
theorem dX9_parsePoints_18 : decode cX9_parsePoints 18 = .ok (.if_icmp .eq 8, 3) := by decide +kernel
theorem dX9_parsePoints_21 : decode cX9_parsePoints 21 = .ok (.bipush (-100), 2) := by decide +kernel
theorem dX9_parsePoints_23 : decode cX9_parsePoints 23 = .ok (.iload_n 1, 1) := by decide +kernel
theorem dX9_parsePoints_24 : decode cX9_parsePoints 24 = .ok (.isub, 1) := by decide +kernel
theorem dX9_parsePoints_25 : decode cX9_parsePoints 25 = .ok (.ireturn, 1) := by decide +kernel
theorem dX9_parsePoints_26 : decode cX9_parsePoints 26 = .ok (.aload_n 0, 1) := by decide +kernel
theorem dX9_parsePoints_27 : decode cX9_parsePoints 27 = .ok (.getfield 12, 3) := by decide +kernel
theorem dX9_parsePoints_30 : decode cX9_parsePoints 30 = .ok (.getfield 109, 3) := by decide +kernel
theorem dX9_parsePoints_33 : decode cX9_parsePoints 33 = .ok (.istore_n 2, 1) := by decide +kernel
theorem dX9_parsePoints_34 : decode cX9_parsePoints 34 = .ok (.iconst 0, 1) := by decide +kernel
theorem dX9_parsePoints_35 : decode cX9_parsePoints 35 = .ok (.istore_n 3, 1) := by decide +kernel
theorem dX9_parsePoints_36 : decode cX9_parsePoints 36 = .ok (.iload_n 3, 1) := by decide +kernel
theorem dX9_parsePoints_37 : decode cX9_parsePoints 37 = .ok (.iconst 1, 1) := by decide +kernel
theorem dX9_parsePoints_38 : decode cX9_parsePoints 38 = .ok (.iadd, 1) := by decide +kernel
theorem dX9_parsePoints_39 : decode cX9_parsePoints 39 = .ok (.aload_n 0, 1) := by decide +kernel
theorem dX9_parsePoints_40 : decode cX9_parsePoints 40 = .ok (.getfield 66, 3) := by decide +kernel
theorem dX9_parsePoints_43 : decode cX9_parsePoints 43 = .ok (.getfield 272, 3) := by decide +kernel
theorem dX9_parsePoints_46 : decode cX9_parsePoints 46 = .ok (.if_icmp .ge 34, 3) := by decide +kernel
theorem dX9_parsePoints_49 : decode cX9_parsePoints 49 = .ok (.aload_n 0, 1) := by decide +kernel
theorem dX9_parsePoints_50 : decode cX9_parsePoints 50 = .ok (.aload_n 0, 1) := by decide +kernel
theorem dX9_parsePoints_51 : decode cX9_parsePoints 51 = .ok (.getfield 66, 3) := by decide +kernel
theorem dX9_parsePoints_54 : decode cX9_parsePoints 54 = .ok (.getfield 275, 3) := by decide +kernel
theorem dX9_parsePoints_57 : decode cX9_parsePoints 57 = .ok (.iload_n 3, 1) := by decide +kernel
theorem dX9_parsePoints_58 : decode cX9_parsePoints 58 = .ok (.iaload, 1) := by decide +kernel
theorem dX9_parsePoints_59 : decode cX9_parsePoints 59 = .ok (.aload_n 0, 1) := by decide +kernel
theorem dX9_parsePoints_60 : decode cX9_parsePoints 60 = .ok (.getfield 66, 3) := by decide +kernel
theorem dX9_parsePoints_63 : decode cX9_parsePoints 63 = .ok (.getfield 275, 3) := by decide +kernel
theorem dX9_parsePoints_66 : decode cX9_parsePoints 66 = .ok (.iload_n 3, 1) := by decide +kernel
theorem dX9_parsePoints_67 : decode cX9_parsePoints 67 = .ok (.iconst 1, 1) := by decide +kernel
theorem dX9_parsePoints_68 : decode cX9_parsePoints 68 = .ok (.iadd, 1) := by decide +kernel
theorem dX9_parsePoints_69 : decode cX9_parsePoints 69 = .ok (.iaload, 1) := by decide +kernel
theorem dX9_parsePoints_70 : decode cX9_parsePoints 70 = .ok (.invokevirtual 276, 3) := by decide +kernel
theorem dX9_parsePoints_73 : decode cX9_parsePoints 73 = .ok (.pop, 1) := by decide +kernel
theorem dX9_parsePoints_74 : decode cX9_parsePoints 74 = .ok (.iinc 3 2, 3) := by decide +kernel
theorem dX9_parsePoints_77 : decode cX9_parsePoints 77 = .ok (.goto (-41), 3) := by decide +kernel
theorem dX9_parsePoints_80 : decode cX9_parsePoints 80 = .ok (.aload_n 0, 1) := by decide +kernel
theorem dX9_parsePoints_81 : decode cX9_parsePoints 81 = .ok (.getfield 12, 3) := by decide +kernel
theorem dX9_parsePoints_84 : decode cX9_parsePoints 84 = .ok (.getfield 109, 3) := by decide +kernel
theorem dX9_parsePoints_87 : decode cX9_parsePoints 87 = .ok (.iload_n 2, 1) := by decide +kernel
theorem dX9_parsePoints_88 : decode cX9_parsePoints 88 = .ok (.isub, 1) := by decide +kernel
theorem dX9_parsePoints_89 : decode cX9_parsePoints 89 = .ok (.ireturn, 1) := by decide +kernel
theorem dX9_format_0 : decode cX9_format 0 = .ok (.aload_n 0, 1) := by decide +kernel
theorem dX9_format_1 : decode cX9_format 1 = .ok (.iload_n 1, 1) := by decide +kernel
theorem dX9_format_2 : decode cX9_format 2 = .ok (.iload_n 2, 1) := by decide +kernel
theorem dX9_format_3 : decode cX9_format 3 = .ok (.invokevirtual 198, 3) := by decide +kernel
theorem dX9_format_6 : decode cX9_format 6 = .ok (.astore_n 3, 1) := by decide +kernel
theorem dX9_format_7 : decode cX9_format 7 = .ok (.aload_n 3, 1) := by decide +kernel
theorem dX9_format_8 : decode cX9_format 8 = .ok (.ifnonnull 5, 3) := by decide +kernel
theorem dX9_format_11 : decode cX9_format 11 = .ok (.iconst (-1), 1) := by decide +kernel
theorem dX9_format_12 : decode cX9_format 12 = .ok (.ireturn, 1) := by decide +kernel
theorem dX9_format_13 : decode cX9_format 13 = .ok (.aload_n 0, 1) := by decide +kernel
theorem dX9_format_14 : decode cX9_format 14 = .ok (.getfield 73, 3) := by decide +kernel
theorem dX9_format_17 : decode cX9_format 17 = .ok (.iconst 0, 1) := by decide +kernel
theorem dX9_format_18 : decode cX9_format 18 = .ok (.invokevirtual 279, 3) := by decide +kernel
theorem dX9_format_21 : decode cX9_format 21 = .ok (.aload_n 0, 1) := by decide +kernel
theorem dX9_format_22 : decode cX9_format 22 = .ok (.aload_n 3, 1) := by decide +kernel
theorem dX9_format_23 : decode cX9_format 23 = .ok (.getfield 159, 3) := by decide +kernel
theorem dX9_format_26 : decode cX9_format 26 = .ok (.iconst 1, 1) := by decide +kernel
theorem dX9_format_27 : decode cX9_format 27 = .ok (.invokevirtual 282, 3) := by decide +kernel
theorem dX9_format_30 : decode cX9_format 30 = .ok (.iconst 0, 1) := by decide +kernel
theorem dX9_format_31 : decode cX9_format 31 = .ok (.istore 4, 2) := by decide +kernel
theorem dX9_format_33 : decode cX9_format 33 = .ok (.iload 4, 2) := by decide +kernel
theorem dX9_format_35 : decode cX9_format 35 = .ok (.aload_n 3, 1) := by decide +kernel
theorem dX9_format_36 : decode cX9_format 36 = .ok (.getfield 261, 3) := by decide +kernel
theorem dX9_format_39 : decode cX9_format 39 = .ok (.if_icmp .ge 51, 3) := by decide +kernel
theorem dX9_format_42 : decode cX9_format 42 = .ok (.aload_n 3, 1) := by decide +kernel
theorem dX9_format_43 : decode cX9_format 43 = .ok (.getfield 262, 3) := by decide +kernel
theorem dX9_format_46 : decode cX9_format 46 = .ok (.iload 4, 2) := by decide +kernel
theorem dX9_format_48 : decode cX9_format 48 = .ok (.iaload, 1) := by decide +kernel
theorem dX9_format_49 : decode cX9_format 49 = .ok (.aload_n 3, 1) := by decide +kernel
theorem dX9_format_50 : decode cX9_format 50 = .ok (.getfield 159, 3) := by decide +kernel
theorem dX9_format_53 : decode cX9_format 53 = .ok (.if_icmp .eq 31, 3) := by decide +kernel
theorem dX9_format_56 : decode cX9_format 56 = .ok (.aload_n 0, 1) := by decide +kernel
theorem dX9_format_57 : decode cX9_format 57 = .ok (.getfield 73, 3) := by decide +kernel
theorem dX9_format_60 : decode cX9_format 60 = .ok (.bipush 43, 2) := by decide +kernel
theorem dX9_format_62 : decode cX9_format 62 = .ok (.invokevirtual 285, 3) := by decide +kernel
theorem dX9_format_65 : decode cX9_format 65 = .ok (.pop, 1) := by decide +kernel
theorem dX9_format_66 : decode cX9_format 66 = .ok (.aload_n 0, 1) := by decide +kernel
theorem dX9_format_67 : decode cX9_format 67 = .ok (.aload_n 3, 1) := by decide +kernel
theorem dX9_format_68 : decode cX9_format 68 = .ok (.getfield 262, 3) := by decide +kernel
theorem dX9_format_71 : decode cX9_format 71 = .ok (.iload 4, 2) := by decide +kernel
theorem dX9_format_73 : decode cX9_format 73 = .ok (.iaload, 1) := by decide +kernel
theorem dX9_format_74 : decode cX9_format 74 = .ok (.aload_n 3, 1) := by decide +kernel
theorem dX9_format_75 : decode cX9_format 75 = .ok (.getfield 265, 3) := by decide +kernel
theorem dX9_format_78 : decode cX9_format 78 = .ok (.iload 4, 2) := by decide +kernel
theorem dX9_format_80 : decode cX9_format 80 = .ok (.iaload, 1) := by decide +kernel
theorem dX9_format_81 : decode cX9_format 81 = .ok (.invokevirtual 282, 3) := by decide +kernel
theorem dX9_format_84 : decode cX9_format 84 = .ok (.iinc 4 1, 3) := by decide +kernel
theorem dX9_format_87 : decode cX9_format 87 = .ok (.goto (-54), 3) := by decide +kernel
theorem dX9_format_90 : decode cX9_format 90 = .ok (.aload_n 0, 1) := by decide +kernel
theorem dX9_format_91 : decode cX9_format 91 = .ok (.getfield 73, 3) := by decide +kernel
theorem dX9_format_94 : decode cX9_format 94 = .ok (.invokevirtual 288, 3) := by decide +kernel
theorem dX9_format_97 : decode cX9_format 97 = .ok (.ireturn, 1) := by decide +kernel
theorem dX9_outputByte_0 : decode cX9_outputByte 0 = .ok (.iload_n 1, 1) := by decide +kernel
theorem dX9_outputByte_1 : decode cX9_outputByte 1 = .ok (.ifCond .lt 14, 3) := by decide +kernel
theorem dX9_outputByte_4 : decode cX9_outputByte 4 = .ok (.iload_n 1, 1) := by decide +kernel
theorem dX9_outputByte_5 : decode cX9_outputByte 5 = .ok (.aload_n 0, 1) := by decide +kernel
theorem dX9_outputByte_6 : decode cX9_outputByte 6 = .ok (.getfield 73, 3) := by decide +kernel
theorem dX9_outputByte_9 : decode cX9_outputByte 9 = .ok (.invokevirtual 288, 3) := by decide +kernel
theorem dX9_outputByte_12 : decode cX9_outputByte 12 = .ok (.if_icmp .lt 5, 3) := by decide +kernel
theorem dX9_outputByte_15 : decode cX9_outputByte 15 = .ok (.iconst (-1), 1) := by decide +kernel
theorem dX9_outputByte_16 : decode cX9_outputByte 16 = .ok (.ireturn, 1) := by decide +kernel
theorem dX9_outputByte_17 : decode cX9_outputByte 17 = .ok (.aload_n 0, 1) := by decide +kernel
theorem dX9_outputByte_18 : decode cX9_outputByte 18 = .ok (.getfield 73, 3) := by decide +kernel
theorem dX9_outputByte_21 : decode cX9_outputByte 21 = .ok (.iload_n 1, 1) := by decide +kernel
theorem dX9_outputByte_22 : decode cX9_outputByte 22 = .ok (.invokevirtual 290, 3) := by decide +kernel
theorem dX9_outputByte_25 : decode cX9_outputByte 25 = .ok (.ireturn, 1) := by decide +kernel
theorem dX9_newArray_0 : decode cX9_newArray 0 = .ok (.aload_n 0, 1) := by decide +kernel
theorem dX9_newArray_1 : decode cX9_newArray 1 = .ok (.iload_n 1, 1) := by decide +kernel
theorem dX9_newArray_2 : decode cX9_newArray 2 = .ok (.invokevirtual 245, 3) := by decide +kernel
theorem dX9_newArray_5 : decode cX9_newArray 5 = .ok (.astore_n 3, 1) := by decide +kernel
theorem dX9_newArray_6 : decode cX9_newArray 6 = .ok (.aload_n 3, 1) := by decide +kernel
theorem dX9_newArray_7 : decode cX9_newArray 7 = .ok (.ifnonnull 5, 3) := by decide +kernel
theorem dX9_newArray_10 : decode cX9_newArray 10 = .ok (.iconst (-1), 1) := by decide +kernel
theorem dX9_newArray_11 : decode cX9_newArray 11 = .ok (.ireturn, 1) := by decide +kernel
theorem dX9_newArray_12 : decode cX9_newArray 12 = .ok (.iload_n 2, 1) := by decide +kernel
theorem dX9_newArray_13 : decode cX9_newArray 13 = .ok (.bipush 20, 2) := by decide +kernel
theorem dX9_newArray_15 : decode cX9_newArray 15 = .ok (.if_icmp .le 6, 3) := by decide +kernel
theorem dX9_newArray_18 : decode cX9_newArray 18 = .ok (.bipush (-2), 2) := by decide +kernel
theorem dX9_newArray_20 : decode cX9_newArray 20 = .ok (.ireturn, 1) := by decide +kernel
theorem dX9_newArray_21 : decode cX9_newArray 21 = .ok (.iload_n 2, 1) := by decide +kernel
theorem dX9_newArray_22 : decode cX9_newArray 22 = .ok (.ifCond .ge 6, 3) := by decide +kernel
theorem dX9_newArray_25 : decode cX9_newArray 25 = .ok (.bipush (-8), 2) := by decide +kernel
theorem dX9_newArray_27 : decode cX9_newArray 27 = .ok (.ireturn, 1) := by decide +kernel
theorem dX9_newArray_28 : decode cX9_newArray 28 = .ok (.aload_n 3, 1) := by decide +kernel
theorem dX9_newArray_29 : decode cX9_newArray 29 = .ok (.iload_n 2, 1) := by decide +kernel
theorem dX9_newArray_30 : decode cX9_newArray 30 = .ok (.invokevirtual 294, 3) := by decide +kernel
theorem dX9_newArray_33 : decode cX9_newArray 33 = .ok (.iconst 1, 1) := by decide +kernel
theorem dX9_newArray_34 : decode cX9_newArray 34 = .ok (.ireturn, 1) := by decide +kernel
theorem dX9_setElement_0 : decode cX9_setElement 0 = .ok (.aload_n 0, 1) := by decide +kernel
theorem dX9_setElement_1 : decode cX9_setElement 1 = .ok (.iload_n 1, 1) := by decide +kernel
theorem dX9_setElement_2 : decode cX9_setElement 2 = .ok (.invokevirtual 245, 3) := by decide +kernel
theorem dX9_setElement_5 : decode cX9_setElement 5 = .ok (.astore 4, 2) := by decide +kernel
theorem dX9_setElement_7 : decode cX9_setElement 7 = .ok (.aload 4, 2) := by decide +kernel
theorem dX9_setElement_9 : decode cX9_setElement 9 = .ok (.ifnonnull 5, 3) := by decide +kernel
theorem dX9_setElement_12 : decode cX9_setElement 12 = .ok (.iconst (-1), 1) := by decide +kernel
theorem dX9_setElement_13 : decode cX9_setElement 13 = .ok (.ireturn, 1) := by decide +kernel
theorem dX9_setElement_14 : decode cX9_setElement 14 = .ok (.iload_n 3, 1) := by decide +kernel
theorem dX9_setElement_15 : decode cX9_setElement 15 = .ok (.ifCond .lt 10, 3) := by decide +kernel
theorem dX9_setElement_18 : decode cX9_setElement 18 = .ok (.iload_n 3, 1) := by decide +kernel
theorem dX9_setElement_19 : decode cX9_setElement 19 = .ok (.sipush 9999, 3) := by decide +kernel
theorem dX9_setElement_22 : decode cX9_setElement 22 = .ok (.if_icmp .le 6, 3) := by decide +kernel
theorem dX9_setElement_25 : decode cX9_setElement 25 = .ok (.bipush (-2), 2) := by decide +kernel
theorem dX9_setElement_27 : decode cX9_setElement 27 = .ok (.ireturn, 1) := by decide +kernel
theorem dX9_setElement_28 : decode cX9_setElement 28 = .ok (.aload 4, 2) := by decide +kernel
theorem dX9_setElement_30 : decode cX9_setElement 30 = .ok (.getfield 249, 3) := by decide +kernel
theorem dX9_setElement_33 : decode cX9_setElement 33 = .ok (.iconst 1, 1) := by decide +kernel
theorem dX9_setElement_34 : decode cX9_setElement 34 = .ok (.if_icmp .eq 9, 3) := by decide +kernel
theorem dX9_setElement_37 : decode cX9_setElement 37 = .ok (.aload 4, 2) := by decide +kernel
theorem dX9_setElement_39 : decode cX9_setElement 39 = .ok (.invokevirtual 252, 3) := by decide +kernel
theorem dX9_setElement_42 : decode cX9_setElement 42 = .ok (.ireturn, 1) := by decide +kernel
theorem dX9_setElement_43 : decode cX9_setElement 43 = .ok (.iload_n 2, 1) := by decide +kernel
theorem dX9_setElement_44 : decode cX9_setElement 44 = .ok (.ifCond .lt 12, 3) := by decide +kernel
theorem dX9_setElement_47 : decode cX9_setElement 47 = .ok (.iload_n 2, 1) := by decide +kernel
theorem dX9_setElement_48 : decode cX9_setElement 48 = .ok (.aload 4, 2) := by decide +kernel
theorem dX9_setElement_50 : decode cX9_setElement 50 = .ok (.getfield 255, 3) := by decide +kernel
theorem dX9_setElement_53 : decode cX9_setElement 53 = .ok (.if_icmp .lt 5, 3) := by decide +kernel
theorem dX9_setElement_56 : decode cX9_setElement 56 = .ok (.iconst (-1), 1) := by decide +kernel
theorem dX9_setElement_57 : decode cX9_setElement 57 = .ok (.ireturn, 1) := by decide +kernel
theorem dX9_setElement_58 : decode cX9_setElement 58 = .ok (.aload 4, 2) := by decide +kernel
theorem dX9_setElement_60 : decode cX9_setElement 60 = .ok (.getfield 258, 3) := by decide +kernel
theorem dX9_setElement_63 : decode cX9_setElement 63 = .ok (.iload_n 2, 1) := by decide +kernel
theorem dX9_setElement_64 : decode cX9_setElement 64 = .ok (.iaload, 1) := by decide +kernel
theorem dX9_setElement_65 : decode cX9_setElement 65 = .ok (.istore 5, 2) := by decide +kernel
theorem dX9_setElement_67 : decode cX9_setElement 67 = .ok (.aload 4, 2) := by decide +kernel
theorem dX9_setElement_69 : decode cX9_setElement 69 = .ok (.getfield 258, 3) := by decide +kernel
theorem dX9_setElement_72 : decode cX9_setElement 72 = .ok (.iload_n 2, 1) := by decide +kernel
theorem dX9_setElement_73 : decode cX9_setElement 73 = .ok (.iload_n 3, 1) := by decide +kernel
theorem dX9_setElement_74 : decode cX9_setElement 74 = .ok (.iastore, 1) := by decide +kernel
theorem dX9_setElement_75 : decode cX9_setElement 75 = .ok (.iload 5, 2) := by decide +kernel
theorem dX9_setElement_77 : decode cX9_setElement 77 = .ok (.ireturn, 1) := by decide +kernel
theorem dX9_element_0 : decode cX9_element 0 = .ok (.aload_n 0, 1) := by decide +kernel
theorem dX9_element_1 : decode cX9_element 1 = .ok (.iload_n 1, 1) := by decide +kernel
theorem dX9_element_2 : decode cX9_element 2 = .ok (.invokevirtual 245, 3) := by decide +kernel
theorem dX9_element_5 : decode cX9_element 5 = .ok (.astore_n 3, 1) := by decide +kernel
theorem dX9_element_6 : decode cX9_element 6 = .ok (.aload_n 3, 1) := by decide +kernel
theorem dX9_element_7 : decode cX9_element 7 = .ok (.ifnonnull 5, 3) := by decide +kernel
theorem dX9_element_10 : decode cX9_element 10 = .ok (.iconst (-1), 1) := by decide +kernel
theorem dX9_element_11 : decode cX9_element 11 = .ok (.ireturn, 1) := by decide +kernel
theorem dX9_element_12 : decode cX9_element 12 = .ok (.aload_n 3, 1) := by decide +kernel
theorem dX9_element_13 : decode cX9_element 13 = .ok (.getfield 249, 3) := by decide +kernel
theorem dX9_element_16 : decode cX9_element 16 = .ok (.iconst 1, 1) := by decide +kernel
theorem dX9_element_17 : decode cX9_element 17 = .ok (.if_icmp .eq 8, 3) := by decide +kernel
theorem dX9_element_20 : decode cX9_element 20 = .ok (.aload_n 3, 1) := by decide +kernel
theorem dX9_element_21 : decode cX9_element 21 = .ok (.invokevirtual 252, 3) := by decide +kernel
theorem dX9_element_24 : decode cX9_element 24 = .ok (.ireturn, 1) := by decide +kernel
theorem dX9_element_25 : decode cX9_element 25 = .ok (.iload_n 2, 1) := by decide +kernel
theorem dX9_element_26 : decode cX9_element 26 = .ok (.ifCond .lt 11, 3) := by decide +kernel
theorem dX9_element_29 : decode cX9_element 29 = .ok (.iload_n 2, 1) := by decide +kernel
theorem dX9_element_30 : decode cX9_element 30 = .ok (.aload_n 3, 1) := by decide +kernel
theorem dX9_element_31 : decode cX9_element 31 = .ok (.getfield 255, 3) := by decide +kernel
theorem dX9_element_34 : decode cX9_element 34 = .ok (.if_icmp .lt 5, 3) := by decide +kernel
theorem dX9_element_37 : decode cX9_element 37 = .ok (.iconst (-1), 1) := by decide +kernel
theorem dX9_element_38 : decode cX9_element 38 = .ok (.ireturn, 1) := by decide +kernel
theorem dX9_element_39 : decode cX9_element 39 = .ok (.aload_n 3, 1) := by decide +kernel
theorem dX9_element_40 : decode cX9_element 40 = .ok (.getfield 258, 3) := by decide +kernel
theorem dX9_element_43 : decode cX9_element 43 = .ok (.iload_n 2, 1) := by decide +kernel
theorem dX9_element_44 : decode cX9_element 44 = .ok (.iaload, 1) := by decide +kernel
theorem dX9_element_45 : decode cX9_element 45 = .ok (.ireturn, 1) := by decide +kernel
theorem dX9_storePolynomial_0 : decode cX9_storePolynomial 0 = .ok (.aload_n 0, 1) := by decide +kernel
theorem dX9_storePolynomial_1 : decode cX9_storePolynomial 1 = .ok (.iload_n 1, 1) := by decide +kernel
theorem dX9_storePolynomial_2 : decode cX9_storePolynomial 2 = .ok (.invokevirtual 245, 3) := by decide +kernel
theorem dX9_storePolynomial_5 : decode cX9_storePolynomial 5 = .ok (.astore_n 2, 1) := by decide +kernel
theorem dX9_storePolynomial_6 : decode cX9_storePolynomial 6 = .ok (.aload_n 2, 1) := by decide +kernel
theorem dX9_storePolynomial_7 : decode cX9_storePolynomial 7 = .ok (.ifnonnull 5, 3) := by decide +kernel
theorem dX9_storePolynomial_10 : decode cX9_storePolynomial 10 = .ok (.iconst (-1), 1) := by decide +kernel
theorem dX9_storePolynomial_11 : decode cX9_storePolynomial 11 = .ok (.ireturn, 1) := by decide +kernel
theorem dX9_storePolynomial_12 : decode cX9_storePolynomial 12 = .ok (.aload_n 2, 1) := by decide +kernel
theorem dX9_storePolynomial_13 : decode cX9_storePolynomial 13 = .ok (.aload_n 0, 1) := by decide +kernel
theorem dX9_storePolynomial_14 : decode cX9_storePolynomial 14 = .ok (.getfield 19, 3) := by decide +kernel
theorem dX9_storePolynomial_17 : decode cX9_storePolynomial 17 = .ok (.invokevirtual 297, 3) := by decide +kernel
theorem dX9_storePolynomial_20 : decode cX9_storePolynomial 20 = .ok (.aload_n 0, 1) := by decide +kernel
theorem dX9_storePolynomial_21 : decode cX9_storePolynomial 21 = .ok (.getfield 19, 3) := by decide +kernel
theorem dX9_storePolynomial_24 : decode cX9_storePolynomial 24 = .ok (.invokevirtual 228, 3) := by decide +kernel
theorem dX9_storePolynomial_27 : decode cX9_storePolynomial 27 = .ok (.ireturn, 1) := by decide +kernel
theorem dX9_loadPolynomial_0 : decode cX9_loadPolynomial 0 = .ok (.aload_n 0, 1) := by decide +kernel
theorem dX9_loadPolynomial_1 : decode cX9_loadPolynomial 1 = .ok (.iload_n 1, 1) := by decide +kernel
theorem dX9_loadPolynomial_2 : decode cX9_loadPolynomial 2 = .ok (.invokevirtual 245, 3) := by decide +kernel
theorem dX9_loadPolynomial_5 : decode cX9_loadPolynomial 5 = .ok (.astore_n 2, 1) := by decide +kernel
theorem dX9_loadPolynomial_6 : decode cX9_loadPolynomial 6 = .ok (.aload_n 2, 1) := by decide +kernel
theorem dX9_loadPolynomial_7 : decode cX9_loadPolynomial 7 = .ok (.ifnonnull 5, 3) := by decide +kernel
theorem dX9_loadPolynomial_10 : decode cX9_loadPolynomial 10 = .ok (.iconst (-1), 1) := by decide +kernel
theorem dX9_loadPolynomial_11 : decode cX9_loadPolynomial 11 = .ok (.ireturn, 1) := by decide +kernel
theorem dX9_loadPolynomial_12 : decode cX9_loadPolynomial 12 = .ok (.aload_n 2, 1) := by decide +kernel
theorem dX9_loadPolynomial_13 : decode cX9_loadPolynomial 13 = .ok (.getfield 249, 3) := by decide +kernel
theorem dX9_loadPolynomial_16 : decode cX9_loadPolynomial 16 = .ok (.ifCond .ne 6, 3) := by decide +kernel
theorem dX9_loadPolynomial_19 : decode cX9_loadPolynomial 19 = .ok (.bipush (-6), 2) := by decide +kernel
theorem dX9_loadPolynomial_21 : decode cX9_loadPolynomial 21 = .ok (.ireturn, 1) := by decide +kernel
theorem dX9_loadPolynomial_22 : decode cX9_loadPolynomial 22 = .ok (.aload_n 2, 1) := by decide +kernel
theorem dX9_loadPolynomial_23 : decode cX9_loadPolynomial 23 = .ok (.getfield 249, 3) := by decide +kernel
theorem dX9_loadPolynomial_26 : decode cX9_loadPolynomial 26 = .ok (.iconst 2, 1) := by decide +kernel
theorem dX9_loadPolynomial_27 : decode cX9_loadPolynomial 27 = .ok (.if_icmp .eq 6, 3) := by decide +kernel
theorem dX9_loadPolynomial_30 : decode cX9_loadPolynomial 30 = .ok (.bipush (-7), 2) := by decide +kernel
theorem dX9_loadPolynomial_32 : decode cX9_loadPolynomial 32 = .ok (.ireturn, 1) := by decide +kernel
theorem dX9_loadPolynomial_33 : decode cX9_loadPolynomial 33 = .ok (.iconst 0, 1) := by decide +kernel
theorem dX9_loadPolynomial_34 : decode cX9_loadPolynomial 34 = .ok (.istore_n 3, 1) := by decide +kernel
theorem dX9_loadPolynomial_35 : decode cX9_loadPolynomial 35 = .ok (.iload_n 3, 1) := by decide +kernel
theorem dX9_loadPolynomial_36 : decode cX9_loadPolynomial 36 = .ok (.bipush 81, 2) := by decide +kernel
theorem dX9_loadPolynomial_38 : decode cX9_loadPolynomial 38 = .ok (.if_icmp .ge 31, 3) := by decide +kernel
theorem dX9_loadPolynomial_41 : decode cX9_loadPolynomial 41 = .ok (.aload_n 0, 1) := by decide +kernel
theorem dX9_loadPolynomial_42 : decode cX9_loadPolynomial 42 = .ok (.getfield 19, 3) := by decide +kernel
theorem dX9_loadPolynomial_45 : decode cX9_loadPolynomial 45 = .ok (.getfield 222, 3) := by decide +kernel
theorem dX9_loadPolynomial_48 : decode cX9_loadPolynomial 48 = .ok (.iload_n 3, 1) := by decide +kernel
theorem dX9_loadPolynomial_49 : decode cX9_loadPolynomial 49 = .ok (.aload_n 0, 1) := by decide +kernel
theorem dX9_loadPolynomial_50 : decode cX9_loadPolynomial 50 = .ok (.getfield 12, 3) := by decide +kernel
theorem dX9_loadPolynomial_53 : decode cX9_loadPolynomial 53 = .ok (.aload_n 2, 1) := by decide +kernel
theorem dX9_loadPolynomial_54 : decode cX9_loadPolynomial 54 = .ok (.getfield 258, 3) := by decide +kernel
theorem dX9_loadPolynomial_57 : decode cX9_loadPolynomial 57 = .ok (.iload_n 3, 1) := by decide +kernel
theorem dX9_loadPolynomial_58 : decode cX9_loadPolynomial 58 = .ok (.iaload, 1) := by decide +kernel
theorem dX9_loadPolynomial_59 : decode cX9_loadPolynomial 59 = .ok (.invokevirtual 225, 3) := by decide +kernel
theorem dX9_loadPolynomial_62 : decode cX9_loadPolynomial 62 = .ok (.iastore, 1) := by decide +kernel
theorem dX9_loadPolynomial_63 : decode cX9_loadPolynomial 63 = .ok (.iinc 3 1, 3) := by decide +kernel
theorem dX9_loadPolynomial_66 : decode cX9_loadPolynomial 66 = .ok (.goto (-31), 3) := by decide +kernel
theorem dX9_loadPolynomial_69 : decode cX9_loadPolynomial 69 = .ok (.aload_n 0, 1) := by decide +kernel
theorem dX9_loadPolynomial_70 : decode cX9_loadPolynomial 70 = .ok (.getfield 19, 3) := by decide +kernel
theorem dX9_loadPolynomial_73 : decode cX9_loadPolynomial 73 = .ok (.invokevirtual 228, 3) := by decide +kernel
theorem dX9_loadPolynomial_76 : decode cX9_loadPolynomial 76 = .ok (.ireturn, 1) := by decide +kernel
theorem dX9_clearSlot_0 : decode cX9_clearSlot 0 = .ok (.aload_n 0, 1) := by decide +kernel
theorem dX9_clearSlot_1 : decode cX9_clearSlot 1 = .ok (.iload_n 1, 1) := by decide +kernel
theorem dX9_clearSlot_2 : decode cX9_clearSlot 2 = .ok (.invokevirtual 245, 3) := by decide +kernel
theorem dX9_clearSlot_5 : decode cX9_clearSlot 5 = .ok (.astore_n 2, 1) := by decide +kernel
theorem dX9_clearSlot_6 : decode cX9_clearSlot 6 = .ok (.aload_n 2, 1) := by decide +kernel
theorem dX9_clearSlot_7 : decode cX9_clearSlot 7 = .ok (.ifnonnull 5, 3) := by decide +kernel
theorem dX9_clearSlot_10 : decode cX9_clearSlot 10 = .ok (.iconst (-1), 1) := by decide +kernel
theorem dX9_clearSlot_11 : decode cX9_clearSlot 11 = .ok (.ireturn, 1) := by decide +kernel
theorem dX9_clearSlot_12 : decode cX9_clearSlot 12 = .ok (.aload_n 2, 1) := by decide +kernel
theorem dX9_clearSlot_13 : decode cX9_clearSlot 13 = .ok (.getfield 249, 3) := by decide +kernel
theorem dX9_clearSlot_16 : decode cX9_clearSlot 16 = .ok (.istore_n 3, 1) := by decide +kernel
theorem dX9_clearSlot_17 : decode cX9_clearSlot 17 = .ok (.aload_n 2, 1) := by decide +kernel
theorem dX9_clearSlot_18 : decode cX9_clearSlot 18 = .ok (.iconst 0, 1) := by decide +kernel
theorem dX9_clearSlot_19 : decode cX9_clearSlot 19 = .ok (.putfield 249, 3) := by decide +kernel
theorem dX9_clearSlot_22 : decode cX9_clearSlot 22 = .ok (.iload_n 3, 1) := by decide +kernel
theorem dX9_clearSlot_23 : decode cX9_clearSlot 23 = .ok (.ireturn, 1) := by decide +kernel
theorem dX9_firstDifference_0 : decode cX9_firstDifference 0 = .ok (.aload_n 0, 1) := by decide +kernel
theorem dX9_firstDifference_1 : decode cX9_firstDifference 1 = .ok (.iload_n 1, 1) := by decide +kernel
theorem dX9_firstDifference_2 : decode cX9_firstDifference 2 = .ok (.invokevirtual 245, 3) := by decide +kernel
theorem dX9_firstDifference_5 : decode cX9_firstDifference 5 = .ok (.astore_n 3, 1) := by decide +kernel
theorem dX9_firstDifference_6 : decode cX9_firstDifference 6 = .ok (.aload_n 0, 1) := by decide +kernel
theorem dX9_firstDifference_7 : decode cX9_firstDifference 7 = .ok (.iload_n 2, 1) := by decide +kernel
theorem dX9_firstDifference_8 : decode cX9_firstDifference 8 = .ok (.invokevirtual 173, 3) := by decide +kernel
theorem dX9_firstDifference_11 : decode cX9_firstDifference 11 = .ok (.astore 4, 2) := by decide +kernel
theorem dX9_firstDifference_13 : decode cX9_firstDifference 13 = .ok (.aload_n 3, 1) := by decide +kernel
theorem dX9_firstDifference_14 : decode cX9_firstDifference 14 = .ok (.ifnull 8, 3) := by decide +kernel
theorem dX9_firstDifference_17 : decode cX9_firstDifference 17 = .ok (.aload 4, 2) := by decide +kernel
theorem dX9_firstDifference_19 : decode cX9_firstDifference 19 = .ok (.ifnonnull 5, 3) := by decide +kernel
theorem dX9_firstDifference_22 : decode cX9_firstDifference 22 = .ok (.iconst (-1), 1) := by decide +kernel
theorem dX9_firstDifference_23 : decode cX9_firstDifference 23 = .ok (.ireturn, 1) := by decide +kernel
theorem dX9_firstDifference_24 : decode cX9_firstDifference 24 = .ok (.aload_n 3, 1) := by decide +kernel
theorem dX9_firstDifference_25 : decode cX9_firstDifference 25 = .ok (.getfield 249, 3) := by decide +kernel
theorem dX9_firstDifference_28 : decode cX9_firstDifference 28 = .ok (.iconst 1, 1) := by decide +kernel
theorem dX9_firstDifference_29 : decode cX9_firstDifference 29 = .ok (.if_icmp .eq 8, 3) := by decide +kernel
theorem dX9_firstDifference_32 : decode cX9_firstDifference 32 = .ok (.aload_n 3, 1) := by decide +kernel
theorem dX9_firstDifference_33 : decode cX9_firstDifference 33 = .ok (.invokevirtual 252, 3) := by decide +kernel
theorem dX9_firstDifference_36 : decode cX9_firstDifference 36 = .ok (.ireturn, 1) := by decide +kernel
theorem dX9_firstDifference_37 : decode cX9_firstDifference 37 = .ok (.iconst 0, 1) := by decide +kernel
theorem dX9_firstDifference_38 : decode cX9_firstDifference 38 = .ok (.istore 5, 2) := by decide +kernel
theorem dX9_firstDifference_40 : decode cX9_firstDifference 40 = .ok (.iload 5, 2) := by decide +kernel
theorem dX9_firstDifference_42 : decode cX9_firstDifference 42 = .ok (.aload_n 3, 1) := by decide +kernel
theorem dX9_firstDifference_43 : decode cX9_firstDifference 43 = .ok (.getfield 255, 3) := by decide +kernel
theorem dX9_firstDifference_46 : decode cX9_firstDifference 46 = .ok (.if_icmp .ge 37, 3) := by decide +kernel
theorem dX9_firstDifference_49 : decode cX9_firstDifference 49 = .ok (.iload 5, 2) := by decide +kernel
theorem dX9_firstDifference_51 : decode cX9_firstDifference 51 = .ok (.bipush 9, 2) := by decide +kernel
theorem dX9_firstDifference_53 : decode cX9_firstDifference 53 = .ok (.if_icmp .ge 21, 3) := by decide +kernel
theorem dX9_firstDifference_56 : decode cX9_firstDifference 56 = .ok (.aload_n 3, 1) := by decide +kernel
theorem dX9_firstDifference_57 : decode cX9_firstDifference 57 = .ok (.getfield 258, 3) := by decide +kernel
theorem dX9_firstDifference_60 : decode cX9_firstDifference 60 = .ok (.iload 5, 2) := by decide +kernel
theorem dX9_firstDifference_62 : decode cX9_firstDifference 62 = .ok (.iaload, 1) := by decide +kernel
theorem dX9_firstDifference_63 : decode cX9_firstDifference 63 = .ok (.aload 4, 2) := by decide +kernel
theorem dX9_firstDifference_65 : decode cX9_firstDifference 65 = .ok (.getfield 151, 3) := by decide +kernel
theorem dX9_firstDifference_68 : decode cX9_firstDifference 68 = .ok (.iload 5, 2) := by decide +kernel
theorem dX9_firstDifference_70 : decode cX9_firstDifference 70 = .ok (.iaload, 1) := by decide +kernel
theorem dX9_firstDifference_71 : decode cX9_firstDifference 71 = .ok (.if_icmp .eq 6, 3) := by decide +kernel
theorem dX9_firstDifference_74 : decode cX9_firstDifference 74 = .ok (.iload 5, 2) := by decide +kernel
theorem dX9_firstDifference_76 : decode cX9_firstDifference 76 = .ok (.ireturn, 1) := by decide +kernel
theorem dX9_firstDifference_77 : decode cX9_firstDifference 77 = .ok (.iinc 5 1, 3) := by decide +kernel
theorem dX9_firstDifference_80 : decode cX9_firstDifference 80 = .ok (.goto (-40), 3) := by decide +kernel
theorem dX9_firstDifference_83 : decode cX9_firstDifference 83 = .ok (.bipush (-5), 2) := by decide +kernel
theorem dX9_firstDifference_85 : decode cX9_firstDifference 85 = .ok (.ireturn, 1) := by decide +kernel
theorem dX9_saveSnapshot_0 : decode cX9_saveSnapshot 0 = .ok (.aload_n 0, 1) := by decide +kernel
theorem dX9_saveSnapshot_1 : decode cX9_saveSnapshot 1 = .ok (.getfield 23, 3) := by decide +kernel
theorem dX9_saveSnapshot_4 : decode cX9_saveSnapshot 4 = .ok (.aload_n 0, 1) := by decide +kernel
theorem dX9_saveSnapshot_5 : decode cX9_saveSnapshot 5 = .ok (.getfield 12, 3) := by decide +kernel
theorem dX9_saveSnapshot_8 : decode cX9_saveSnapshot 8 = .ok (.invokevirtual 301, 3) := by decide +kernel
theorem dX9_saveSnapshot_11 : decode cX9_saveSnapshot 11 = .ok (.aload_n 0, 1) := by decide +kernel
theorem dX9_saveSnapshot_12 : decode cX9_saveSnapshot 12 = .ok (.getfield 26, 3) := by decide +kernel
theorem dX9_saveSnapshot_15 : decode cX9_saveSnapshot 15 = .ok (.aload_n 0, 1) := by decide +kernel
theorem dX9_saveSnapshot_16 : decode cX9_saveSnapshot 16 = .ok (.getfield 19, 3) := by decide +kernel
theorem dX9_saveSnapshot_19 : decode cX9_saveSnapshot 19 = .ok (.invokevirtual 304, 3) := by decide +kernel
theorem dX9_saveSnapshot_22 : decode cX9_saveSnapshot 22 = .ok (.aload_n 0, 1) := by decide +kernel
theorem dX9_saveSnapshot_23 : decode cX9_saveSnapshot 23 = .ok (.iconst 1, 1) := by decide +kernel
theorem dX9_saveSnapshot_24 : decode cX9_saveSnapshot 24 = .ok (.putfield 29, 3) := by decide +kernel
theorem dX9_saveSnapshot_27 : decode cX9_saveSnapshot 27 = .ok (.aload_n 0, 1) := by decide +kernel
theorem dX9_saveSnapshot_28 : decode cX9_saveSnapshot 28 = .ok (.getfield 12, 3) := by decide +kernel
theorem dX9_saveSnapshot_31 : decode cX9_saveSnapshot 31 = .ok (.getfield 109, 3) := by decide +kernel
theorem dX9_saveSnapshot_34 : decode cX9_saveSnapshot 34 = .ok (.ireturn, 1) := by decide +kernel
theorem dX9_restoreSnapshot_0 : decode cX9_restoreSnapshot 0 = .ok (.aload_n 0, 1) := by decide +kernel
theorem dX9_restoreSnapshot_1 : decode cX9_restoreSnapshot 1 = .ok (.getfield 29, 3) := by decide +kernel
theorem dX9_restoreSnapshot_4 : decode cX9_restoreSnapshot 4 = .ok (.ifCond .ne 6, 3) := by decide +kernel
theorem dX9_restoreSnapshot_7 : decode cX9_restoreSnapshot 7 = .ok (.bipush (-5), 2) := by decide +kernel
theorem dX9_restoreSnapshot_9 : decode cX9_restoreSnapshot 9 = .ok (.ireturn, 1) := by decide +kernel
theorem dX9_restoreSnapshot_10 : decode cX9_restoreSnapshot 10 = .ok (.aload_n 0, 1) := by decide +kernel
theorem dX9_restoreSnapshot_11 : decode cX9_restoreSnapshot 11 = .ok (.getfield 12, 3) := by decide +kernel
theorem dX9_restoreSnapshot_14 : decode cX9_restoreSnapshot 14 = .ok (.aload_n 0, 1) := by decide +kernel
theorem dX9_restoreSnapshot_15 : decode cX9_restoreSnapshot 15 = .ok (.getfield 23, 3) := by decide +kernel
theorem dX9_restoreSnapshot_18 : decode cX9_restoreSnapshot 18 = .ok (.invokevirtual 301, 3) := by decide +kernel
theorem dX9_restoreSnapshot_21 : decode cX9_restoreSnapshot 21 = .ok (.aload_n 0, 1) := by decide +kernel
theorem dX9_restoreSnapshot_22 : decode cX9_restoreSnapshot 22 = .ok (.getfield 19, 3) := by decide +kernel
theorem dX9_restoreSnapshot_25 : decode cX9_restoreSnapshot 25 = .ok (.aload_n 0, 1) := by decide +kernel
theorem dX9_restoreSnapshot_26 : decode cX9_restoreSnapshot 26 = .ok (.getfield 26, 3) := by decide +kernel
theorem dX9_restoreSnapshot_29 : decode cX9_restoreSnapshot 29 = .ok (.invokevirtual 304, 3) := by decide +kernel
theorem dX9_restoreSnapshot_32 : decode cX9_restoreSnapshot 32 = .ok (.aload_n 0, 1) := by decide +kernel
theorem dX9_restoreSnapshot_33 : decode cX9_restoreSnapshot 33 = .ok (.getfield 59, 3) := by decide +kernel
theorem dX9_restoreSnapshot_36 : decode cX9_restoreSnapshot 36 = .ok (.invokevirtual 99, 3) := by decide +kernel
theorem dX9_restoreSnapshot_39 : decode cX9_restoreSnapshot 39 = .ok (.aload_n 0, 1) := by decide +kernel
theorem dX9_restoreSnapshot_40 : decode cX9_restoreSnapshot 40 = .ok (.getfield 12, 3) := by decide +kernel
theorem dX9_restoreSnapshot_43 : decode cX9_restoreSnapshot 43 = .ok (.getfield 109, 3) := by decide +kernel
theorem dX9_restoreSnapshot_46 : decode cX9_restoreSnapshot 46 = .ok (.ireturn, 1) := by decide +kernel
theorem dX9_isAllowedPrime_0 : decode cX9_isAllowedPrime 0 = .ok (.getstatic 306, 3) := by decide +kernel
theorem dX9_isAllowedPrime_3 : decode cX9_isAllowedPrime 3 = .ok (.astore_n 1, 1) := by decide +kernel
theorem dX9_isAllowedPrime_4 : decode cX9_isAllowedPrime 4 = .ok (.aload_n 1, 1) := by decide +kernel
theorem dX9_isAllowedPrime_5 : decode cX9_isAllowedPrime 5 = .ok (.arraylength, 1) := by decide +kernel
theorem dX9_isAllowedPrime_6 : decode cX9_isAllowedPrime 6 = .ok (.istore_n 2, 1) := by decide +kernel
theorem dX9_isAllowedPrime_7 : decode cX9_isAllowedPrime 7 = .ok (.iconst 0, 1) := by decide +kernel
theorem dX9_isAllowedPrime_8 : decode cX9_isAllowedPrime 8 = .ok (.istore_n 3, 1) := by decide +kernel
theorem dX9_isAllowedPrime_9 : decode cX9_isAllowedPrime 9 = .ok (.iload_n 3, 1) := by decide +kernel
theorem dX9_isAllowedPrime_10 : decode cX9_isAllowedPrime 10 = .ok (.iload_n 2, 1) := by decide +kernel
theorem dX9_isAllowedPrime_11 : decode cX9_isAllowedPrime 11 = .ok (.if_icmp .ge 22, 3) := by decide +kernel
theorem dX9_isAllowedPrime_14 : decode cX9_isAllowedPrime 14 = .ok (.aload_n 1, 1) := by decide +kernel
theorem dX9_isAllowedPrime_15 : decode cX9_isAllowedPrime 15 = .ok (.iload_n 3, 1) := by decide +kernel
theorem dX9_isAllowedPrime_16 : decode cX9_isAllowedPrime 16 = .ok (.iaload, 1) := by decide +kernel
theorem dX9_isAllowedPrime_17 : decode cX9_isAllowedPrime 17 = .ok (.istore 4, 2) := by decide +kernel
theorem dX9_isAllowedPrime_19 : decode cX9_isAllowedPrime 19 = .ok (.iload 4, 2) := by decide +kernel
theorem dX9_isAllowedPrime_21 : decode cX9_isAllowedPrime 21 = .ok (.iload_n 0, 1) := by decide +kernel
theorem dX9_isAllowedPrime_22 : decode cX9_isAllowedPrime 22 = .ok (.if_icmp .ne 5, 3) := by decide +kernel
theorem dX9_isAllowedPrime_25 : decode cX9_isAllowedPrime 25 = .ok (.iconst 1, 1) := by decide +kernel
theorem dX9_isAllowedPrime_26 : decode cX9_isAllowedPrime 26 = .ok (.ireturn, 1) := by decide +kernel
theorem dX9_isAllowedPrime_27 : decode cX9_isAllowedPrime 27 = .ok (.iinc 3 1, 3) := by decide +kernel
theorem dX9_isAllowedPrime_30 : decode cX9_isAllowedPrime 30 = .ok (.goto (-21), 3) := by decide +kernel
theorem dX9_isAllowedPrime_33 : decode cX9_isAllowedPrime 33 = .ok (.iconst 0, 1) := by decide +kernel
theorem dX9_isAllowedPrime_34 : decode cX9_isAllowedPrime 34 = .ok (.ireturn, 1) := by decide +kernel
theorem dX9_isExponent_0 : decode cX9_isExponent 0 = .ok (.iload_n 0, 1) := by decide +kernel
theorem dX9_isExponent_1 : decode cX9_isExponent 1 = .ok (.ifCond .lt 13, 3) := by decide +kernel
theorem dX9_isExponent_4 : decode cX9_isExponent 4 = .ok (.iload_n 0, 1) := by decide +kernel
theorem dX9_isExponent_5 : decode cX9_isExponent 5 = .ok (.bipush 9, 2) := by decide +kernel
theorem dX9_isExponent_7 : decode cX9_isExponent 7 = .ok (.if_icmp .ge 7, 3) := by decide +kernel
theorem dX9_isExponent_10 : decode cX9_isExponent 10 = .ok (.iconst 1, 1) := by decide +kernel
theorem dX9_isExponent_11 : decode cX9_isExponent 11 = .ok (.goto 4, 3) := by decide +kernel
theorem dX9_isExponent_14 : decode cX9_isExponent 14 = .ok (.iconst 0, 1) := by decide +kernel
theorem dX9_isExponent_15 : decode cX9_isExponent 15 = .ok (.ireturn, 1) := by decide +kernel
theorem dX9_isWeight_0 : decode cX9_isWeight 0 = .ok (.iload_n 0, 1) := by decide +kernel
theorem dX9_isWeight_1 : decode cX9_isWeight 1 = .ok (.ifCond .lt 31, 3) := by decide +kernel
theorem dX9_isWeight_4 : decode cX9_isWeight 4 = .ok (.iload_n 0, 1) := by decide +kernel
theorem dX9_isWeight_5 : decode cX9_isWeight 5 = .ok (.bipush 99, 2) := by decide +kernel
theorem dX9_isWeight_7 : decode cX9_isWeight 7 = .ok (.if_icmp .gt 25, 3) := by decide +kernel
theorem dX9_isWeight_10 : decode cX9_isWeight 10 = .ok (.iload_n 1, 1) := by decide +kernel
theorem dX9_isWeight_11 : decode cX9_isWeight 11 = .ok (.ifCond .lt 21, 3) := by decide +kernel
theorem dX9_isWeight_14 : decode cX9_isWeight 14 = .ok (.iload_n 1, 1) := by decide +kernel
theorem dX9_isWeight_15 : decode cX9_isWeight 15 = .ok (.bipush 99, 2) := by decide +kernel
theorem dX9_isWeight_17 : decode cX9_isWeight 17 = .ok (.if_icmp .gt 15, 3) := by decide +kernel
theorem dX9_isWeight_20 : decode cX9_isWeight 20 = .ok (.iload_n 0, 1) := by decide +kernel
theorem dX9_isWeight_21 : decode cX9_isWeight 21 = .ok (.ifCond .ne 7, 3) := by decide +kernel
theorem dX9_isWeight_24 : decode cX9_isWeight 24 = .ok (.iload_n 1, 1) := by decide +kernel
theorem dX9_isWeight_25 : decode cX9_isWeight 25 = .ok (.ifCond .eq 7, 3) := by decide +kernel
theorem dX9_isWeight_28 : decode cX9_isWeight 28 = .ok (.iconst 1, 1) := by decide +kernel
theorem dX9_isWeight_29 : decode cX9_isWeight 29 = .ok (.goto 4, 3) := by decide +kernel
theorem dX9_isWeight_32 : decode cX9_isWeight 32 = .ok (.iconst 0, 1) := by decide +kernel
theorem dX9_isWeight_33 : decode cX9_isWeight 33 = .ok (.ireturn, 1) := by decide +kernel
theorem dX9_isOrder_0 : decode cX9_isOrder 0 = .ok (.iload_n 0, 1) := by decide +kernel
theorem dX9_isOrder_1 : decode cX9_isOrder 1 = .ok (.iload_n 1, 1) := by decide +kernel
theorem dX9_isOrder_2 : decode cX9_isOrder 2 = .ok (.invokestatic 186, 3) := by decide +kernel
theorem dX9_isOrder_5 : decode cX9_isOrder 5 = .ok (.ifCond .eq 16, 3) := by decide +kernel
theorem dX9_isOrder_8 : decode cX9_isOrder 8 = .ok (.iload_n 2, 1) := by decide +kernel
theorem dX9_isOrder_9 : decode cX9_isOrder 9 = .ok (.ifCond .eq 8, 3) := by decide +kernel
theorem dX9_isOrder_12 : decode cX9_isOrder 12 = .ok (.iload_n 2, 1) := by decide +kernel
theorem dX9_isOrder_13 : decode cX9_isOrder 13 = .ok (.iconst 1, 1) := by decide +kernel
theorem dX9_isOrder_14 : decode cX9_isOrder 14 = .ok (.if_icmp .ne 7, 3) := by decide +kernel
theorem dX9_isOrder_17 : decode cX9_isOrder 17 = .ok (.iconst 1, 1) := by decide +kernel
theorem dX9_isOrder_18 : decode cX9_isOrder 18 = .ok (.goto 4, 3) := by decide +kernel
theorem dX9_isOrder_21 : decode cX9_isOrder 21 = .ok (.iconst 0, 1) := by decide +kernel
theorem dX9_isOrder_22 : decode cX9_isOrder 22 = .ok (.ireturn, 1) := by decide +kernel
theorem dX9_decimalExponents_0 : decode cX9_decimalExponents 0 = .ok (.bipush 10, 2) := by decide +kernel
theorem dX9_decimalExponents_2 : decode cX9_decimalExponents 2 = .ok (.iload_n 0, 1) := by decide +kernel
theorem dX9_decimalExponents_3 : decode cX9_decimalExponents 3 = .ok (.bipush 9, 2) := by decide +kernel
theorem dX9_decimalExponents_5 : decode cX9_decimalExponents 5 = .ok (.idiv, 1) := by decide +kernel
theorem dX9_decimalExponents_6 : decode cX9_decimalExponents 6 = .ok (.imul, 1) := by decide +kernel
theorem dX9_decimalExponents_7 : decode cX9_decimalExponents 7 = .ok (.iload_n 0, 1) := by decide +kernel
theorem dX9_decimalExponents_8 : decode cX9_decimalExponents 8 = .ok (.bipush 9, 2) := by decide +kernel
theorem dX9_decimalExponents_10 : decode cX9_decimalExponents 10 = .ok (.irem, 1) := by decide +kernel
theorem dX9_decimalExponents_11 : decode cX9_decimalExponents 11 = .ok (.iadd, 1) := by decide +kernel
theorem dX9_decimalExponents_12 : decode cX9_decimalExponents 12 = .ok (.ireturn, 1) := by decide +kernel
theorem dX9_computeOrder_0 : decode cX9_computeOrder 0 = .ok (.aload_n 0, 1) := by decide +kernel
theorem dX9_computeOrder_1 : decode cX9_computeOrder 1 = .ok (.getfield 45, 3) := by decide +kernel
theorem dX9_computeOrder_4 : decode cX9_computeOrder 4 = .ok (.iload_n 1, 1) := by decide +kernel
theorem dX9_computeOrder_5 : decode cX9_computeOrder 5 = .ok (.iload_n 2, 1) := by decide +kernel
theorem dX9_computeOrder_6 : decode cX9_computeOrder 6 = .ok (.iload_n 3, 1) := by decide +kernel
theorem dX9_computeOrder_7 : decode cX9_computeOrder 7 = .ok (.invokevirtual 309, 3) := by decide +kernel
theorem dX9_computeOrder_10 : decode cX9_computeOrder 10 = .ok (.aload_n 0, 1) := by decide +kernel
theorem dX9_computeOrder_11 : decode cX9_computeOrder 11 = .ok (.getfield 52, 3) := by decide +kernel
theorem dX9_computeOrder_14 : decode cX9_computeOrder 14 = .ok (.aload_n 0, 1) := by decide +kernel
theorem dX9_computeOrder_15 : decode cX9_computeOrder 15 = .ok (.getfield 45, 3) := by decide +kernel
theorem dX9_computeOrder_18 : decode cX9_computeOrder 18 = .ok (.aload_n 0, 1) := by decide +kernel
theorem dX9_computeOrder_19 : decode cX9_computeOrder 19 = .ok (.getfield 38, 3) := by decide +kernel
theorem dX9_computeOrder_22 : decode cX9_computeOrder 22 = .ok (.invokevirtual 312, 3) := by decide +kernel
theorem dX9_computeOrder_25 : decode cX9_computeOrder 25 = .ok (.return_, 1) := by decide +kernel
theorem dX9_findCone_0 : decode cX9_findCone 0 = .ok (.aload_n 0, 1) := by decide +kernel
theorem dX9_findCone_1 : decode cX9_findCone 1 = .ok (.getfield 59, 3) := by decide +kernel
theorem dX9_findCone_4 : decode cX9_findCone 4 = .ok (.aload_n 0, 1) := by decide +kernel
theorem dX9_findCone_5 : decode cX9_findCone 5 = .ok (.getfield 45, 3) := by decide +kernel
theorem dX9_findCone_8 : decode cX9_findCone 8 = .ok (.aload_n 0, 1) := by decide +kernel
theorem dX9_findCone_9 : decode cX9_findCone 9 = .ok (.getfield 38, 3) := by decide +kernel
theorem dX9_findCone_12 : decode cX9_findCone 12 = .ok (.invokevirtual 168, 3) := by decide +kernel
theorem dX9_findCone_15 : decode cX9_findCone 15 = .ok (.aload_n 0, 1) := by decide +kernel
theorem dX9_findCone_16 : decode cX9_findCone 16 = .ok (.getfield 59, 3) := by decide +kernel
theorem dX9_findCone_19 : decode cX9_findCone 19 = .ok (.iload_n 1, 1) := by decide +kernel
theorem dX9_findCone_20 : decode cX9_findCone 20 = .ok (.invokevirtual 193, 3) := by decide +kernel
theorem dX9_findCone_23 : decode cX9_findCone 23 = .ok (.areturn, 1) := by decide +kernel
theorem dX9_findBasisPolynomial_0 : decode cX9_findBasisPolynomial 0 = .ok (.aload_n 0, 1) := by decide +kernel
theorem dX9_findBasisPolynomial_1 : decode cX9_findBasisPolynomial 1 = .ok (.iload_n 1, 1) := by decide +kernel
theorem dX9_findBasisPolynomial_2 : decode cX9_findBasisPolynomial 2 = .ok (.invokevirtual 173, 3) := by decide +kernel
theorem dX9_findBasisPolynomial_5 : decode cX9_findBasisPolynomial 5 = .ok (.astore_n 3, 1) := by decide +kernel
theorem dX9_findBasisPolynomial_6 : decode cX9_findBasisPolynomial 6 = .ok (.aload_n 3, 1) := by decide +kernel
theorem dX9_findBasisPolynomial_7 : decode cX9_findBasisPolynomial 7 = .ok (.ifnonnull 7, 3) := by decide +kernel
theorem dX9_findBasisPolynomial_10 : decode cX9_findBasisPolynomial 10 = .ok (.aconst_null, 1) := by decide +kernel
theorem dX9_findBasisPolynomial_11 : decode cX9_findBasisPolynomial 11 = .ok (.goto 8, 3) := by decide +kernel
theorem dX9_findBasisPolynomial_14 : decode cX9_findBasisPolynomial 14 = .ok (.aload_n 3, 1) := by decide +kernel
theorem dX9_findBasisPolynomial_15 : decode cX9_findBasisPolynomial 15 = .ok (.iload_n 2, 1) := by decide +kernel
theorem dX9_findBasisPolynomial_16 : decode cX9_findBasisPolynomial 16 = .ok (.invokevirtual 155, 3) := by decide +kernel
theorem dX9_findBasisPolynomial_19 : decode cX9_findBasisPolynomial 19 = .ok (.areturn, 1) := by decide +kernel
theorem dX9_findSlot_0 : decode cX9_findSlot 0 = .ok (.iload_n 1, 1) := by decide +kernel
theorem dX9_findSlot_1 : decode cX9_findSlot 1 = .ok (.ifCond .lt 17, 3) := by decide +kernel
theorem dX9_findSlot_4 : decode cX9_findSlot 4 = .ok (.iload_n 1, 1) := by decide +kernel
theorem dX9_findSlot_5 : decode cX9_findSlot 5 = .ok (.iconst 4, 1) := by decide +kernel
theorem dX9_findSlot_6 : decode cX9_findSlot 6 = .ok (.if_icmp .ge 12, 3) := by decide +kernel
theorem dX9_findSlot_9 : decode cX9_findSlot 9 = .ok (.aload_n 0, 1) := by decide +kernel
theorem dX9_findSlot_10 : decode cX9_findSlot 10 = .ok (.getfield 79, 3) := by decide +kernel
theorem dX9_findSlot_13 : decode cX9_findSlot 13 = .ok (.iload_n 1, 1) := by decide +kernel
theorem dX9_findSlot_14 : decode cX9_findSlot 14 = .ok (.aaload, 1) := by decide +kernel
theorem dX9_findSlot_15 : decode cX9_findSlot 15 = .ok (.goto 4, 3) := by decide +kernel
theorem dX9_findSlot_18 : decode cX9_findSlot 18 = .ok (.aconst_null, 1) := by decide +kernel
theorem dX9_findSlot_19 : decode cX9_findSlot 19 = .ok (.areturn, 1) := by decide +kernel
theorem dX9_replaceByInterpolation_0 : decode cX9_replaceByInterpolation 0 = .ok (.aload_n 0, 1) := by decide +kernel
theorem dX9_replaceByInterpolation_1 : decode cX9_replaceByInterpolation 1 = .ok (.getfield 38, 3) := by decide +kernel
theorem dX9_replaceByInterpolation_4 : decode cX9_replaceByInterpolation 4 = .ok (.invokevirtual 315, 3) := by decide +kernel
theorem dX9_replaceByInterpolation_7 : decode cX9_replaceByInterpolation 7 = .ok (.aload_n 0, 1) := by decide +kernel
theorem dX9_replaceByInterpolation_8 : decode cX9_replaceByInterpolation 8 = .ok (.getfield 19, 3) := by decide +kernel
theorem dX9_replaceByInterpolation_11 : decode cX9_replaceByInterpolation 11 = .ok (.invokevirtual 96, 3) := by decide +kernel
theorem dX9_replaceByInterpolation_14 : decode cX9_replaceByInterpolation 14 = .ok (.iconst 0, 1) := by decide +kernel
theorem dX9_replaceByInterpolation_15 : decode cX9_replaceByInterpolation 15 = .ok (.istore_n 1, 1) := by decide +kernel
theorem dX9_replaceByInterpolation_16 : decode cX9_replaceByInterpolation 16 = .ok (.iload_n 1, 1) := by decide +kernel
theorem dX9_replaceByInterpolation_17 : decode cX9_replaceByInterpolation 17 = .ok (.aload_n 0, 1) := by decide +kernel
theorem dX9_replaceByInterpolation_18 : decode cX9_replaceByInterpolation 18 = .ok (.getfield 38, 3) := by decide +kernel
theorem dX9_replaceByInterpolation_21 : decode cX9_replaceByInterpolation 21 = .ok (.getfield 318, 3) := by decide +kernel
theorem dX9_replaceByInterpolation_24 : decode cX9_replaceByInterpolation 24 = .ok (.if_icmp .ge 35, 3) := by decide +kernel
theorem dX9_replaceByInterpolation_27 : decode cX9_replaceByInterpolation 27 = .ok (.aload_n 0, 1) := by decide +kernel
theorem dX9_replaceByInterpolation_28 : decode cX9_replaceByInterpolation 28 = .ok (.getfield 19, 3) := by decide +kernel
theorem dX9_replaceByInterpolation_31 : decode cX9_replaceByInterpolation 31 = .ok (.getfield 222, 3) := by decide +kernel
theorem dX9_replaceByInterpolation_34 : decode cX9_replaceByInterpolation 34 = .ok (.aload_n 0, 1) := by decide +kernel
theorem dX9_replaceByInterpolation_35 : decode cX9_replaceByInterpolation 35 = .ok (.getfield 38, 3) := by decide +kernel
theorem dX9_replaceByInterpolation_38 : decode cX9_replaceByInterpolation 38 = .ok (.getfield 319, 3) := by decide +kernel
theorem dX9_replaceByInterpolation_41 : decode cX9_replaceByInterpolation 41 = .ok (.iload_n 1, 1) := by decide +kernel
theorem dX9_replaceByInterpolation_42 : decode cX9_replaceByInterpolation 42 = .ok (.iaload, 1) := by decide +kernel
theorem dX9_replaceByInterpolation_43 : decode cX9_replaceByInterpolation 43 = .ok (.aload_n 0, 1) := by decide +kernel
theorem dX9_replaceByInterpolation_44 : decode cX9_replaceByInterpolation 44 = .ok (.getfield 38, 3) := by decide +kernel
theorem dX9_replaceByInterpolation_47 : decode cX9_replaceByInterpolation 47 = .ok (.getfield 320, 3) := by decide +kernel
theorem dX9_replaceByInterpolation_50 : decode cX9_replaceByInterpolation 50 = .ok (.iload_n 1, 1) := by decide +kernel
theorem dX9_replaceByInterpolation_51 : decode cX9_replaceByInterpolation 51 = .ok (.iaload, 1) := by decide +kernel
theorem dX9_replaceByInterpolation_52 : decode cX9_replaceByInterpolation 52 = .ok (.iastore, 1) := by decide +kernel
theorem dX9_replaceByInterpolation_53 : decode cX9_replaceByInterpolation 53 = .ok (.iinc 1 1, 3) := by decide +kernel
theorem dX9_replaceByInterpolation_56 : decode cX9_replaceByInterpolation 56 = .ok (.goto (-40), 3) := by decide +kernel
theorem dX9_replaceByInterpolation_59 : decode cX9_replaceByInterpolation 59 = .ok (.aload_n 0, 1) := by decide +kernel
theorem dX9_replaceByInterpolation_60 : decode cX9_replaceByInterpolation 60 = .ok (.getfield 19, 3) := by decide +kernel
theorem dX9_replaceByInterpolation_63 : decode cX9_replaceByInterpolation 63 = .ok (.invokevirtual 228, 3) := by decide +kernel
theorem dX9_replaceByInterpolation_66 : decode cX9_replaceByInterpolation 66 = .ok (.ireturn, 1) := by decide +kernel
theorem dX9_writeTerm_0 : decode cX9_writeTerm 0 = .ok (.aload_n 0, 1) := by decide +kernel
theorem dX9_writeTerm_1 : decode cX9_writeTerm 1 = .ok (.getfield 73, 3) := by decide +kernel
theorem dX9_writeTerm_4 : decode cX9_writeTerm 4 = .ok (.iload_n 2, 1) := by decide +kernel
theorem dX9_writeTerm_5 : decode cX9_writeTerm 5 = .ok (.invokevirtual 323, 3) := by decide +kernel
theorem dX9_writeTerm_8 : decode cX9_writeTerm 8 = .ok (.pop, 1) := by decide +kernel
theorem dX9_writeTerm_9 : decode cX9_writeTerm 9 = .ok (.iload_n 1, 1) := by decide +kernel
theorem dX9_writeTerm_10 : decode cX9_writeTerm 10 = .ok (.bipush 9, 2) := by decide +kernel
theorem dX9_writeTerm_12 : decode cX9_writeTerm 12 = .ok (.idiv, 1) := by decide +kernel
theorem dX9_writeTerm_13 : decode cX9_writeTerm 13 = .ok (.istore_n 3, 1) := by decide +kernel
theorem dX9_writeTerm_14 : decode cX9_writeTerm 14 = .ok (.iload_n 1, 1) := by decide +kernel
theorem dX9_writeTerm_15 : decode cX9_writeTerm 15 = .ok (.bipush 9, 2) := by decide +kernel
theorem dX9_writeTerm_17 : decode cX9_writeTerm 17 = .ok (.irem, 1) := by decide +kernel
theorem dX9_writeTerm_18 : decode cX9_writeTerm 18 = .ok (.istore 4, 2) := by decide +kernel
theorem dX9_writeTerm_20 : decode cX9_writeTerm 20 = .ok (.iload_n 3, 1) := by decide +kernel
theorem dX9_writeTerm_21 : decode cX9_writeTerm 21 = .ok (.ifCond .eq 17, 3) := by decide +kernel
theorem dX9_writeTerm_24 : decode cX9_writeTerm 24 = .ok (.aload_n 0, 1) := by decide +kernel
theorem dX9_writeTerm_25 : decode cX9_writeTerm 25 = .ok (.getfield 73, 3) := by decide +kernel
theorem dX9_writeTerm_28 : decode cX9_writeTerm 28 = .ok (.bipush 120, 2) := by decide +kernel
theorem dX9_writeTerm_30 : decode cX9_writeTerm 30 = .ok (.invokevirtual 285, 3) := by decide +kernel
theorem dX9_writeTerm_33 : decode cX9_writeTerm 33 = .ok (.iload_n 3, 1) := by decide +kernel
theorem dX9_writeTerm_34 : decode cX9_writeTerm 34 = .ok (.invokevirtual 323, 3) := by decide +kernel
theorem dX9_writeTerm_37 : decode cX9_writeTerm 37 = .ok (.pop, 1) := by decide +kernel
theorem dX9_writeTerm_38 : decode cX9_writeTerm 38 = .ok (.iload 4, 2) := by decide +kernel
theorem dX9_writeTerm_40 : decode cX9_writeTerm 40 = .ok (.ifCond .eq 18, 3) := by decide +kernel
theorem dX9_writeTerm_43 : decode cX9_writeTerm 43 = .ok (.aload_n 0, 1) := by decide +kernel
theorem dX9_writeTerm_44 : decode cX9_writeTerm 44 = .ok (.getfield 73, 3) := by decide +kernel
theorem dX9_writeTerm_47 : decode cX9_writeTerm 47 = .ok (.bipush 121, 2) := by decide +kernel
theorem dX9_writeTerm_49 : decode cX9_writeTerm 49 = .ok (.invokevirtual 285, 3) := by decide +kernel
theorem dX9_writeTerm_52 : decode cX9_writeTerm 52 = .ok (.iload 4, 2) := by decide +kernel
theorem dX9_writeTerm_54 : decode cX9_writeTerm 54 = .ok (.invokevirtual 323, 3) := by decide +kernel
theorem dX9_writeTerm_57 : decode cX9_writeTerm 57 = .ok (.pop, 1) := by decide +kernel
theorem dX9_writeTerm_58 : decode cX9_writeTerm 58 = .ok (.return_, 1) := by decide +kernel
theorem dX10_init_0 : decode cX10_init 0 = .ok (.aload_n 0, 1) := by decide +kernel
theorem dX10_init_1 : decode cX10_init 1 = .ok (.invokespecial 1, 3) := by decide +kernel
theorem dX10_init_4 : decode cX10_init 4 = .ok (.aload_n 0, 1) := by decide +kernel
theorem dX10_init_5 : decode cX10_init 5 = .ok (.bipush 7, 2) := by decide +kernel
theorem dX10_init_7 : decode cX10_init 7 = .ok (.putfield 7, 3) := by decide +kernel
theorem dX10_init_10 : decode cX10_init 10 = .ok (.aload_n 0, 1) := by decide +kernel
theorem dX10_init_11 : decode cX10_init 11 = .ok (.bipush 8, 2) := by decide +kernel
theorem dX10_init_13 : decode cX10_init 13 = .ok (.newarray .int, 2) := by decide +kernel
theorem dX10_init_15 : decode cX10_init 15 = .ok (.putfield 13, 3) := by decide +kernel
theorem dX10_init_18 : decode cX10_init 18 = .ok (.aload_n 0, 1) := by decide +kernel
theorem dX10_init_19 : decode cX10_init 19 = .ok (.bipush 8, 2) := by decide +kernel
theorem dX10_init_21 : decode cX10_init 21 = .ok (.newarray .int, 2) := by decide +kernel
theorem dX10_init_23 : decode cX10_init 23 = .ok (.putfield 17, 3) := by decide +kernel
theorem dX10_init_26 : decode cX10_init 26 = .ok (.aload_n 0, 1) := by decide +kernel
theorem dX10_init_27 : decode cX10_init 27 = .ok (.bipush 81, 2) := by decide +kernel
theorem dX10_init_29 : decode cX10_init 29 = .ok (.newarray .int, 2) := by decide +kernel
theorem dX10_init_31 : decode cX10_init 31 = .ok (.putfield 20, 3) := by decide +kernel
theorem dX10_init_34 : decode cX10_init 34 = .ok (.aload_n 0, 1) := by decide +kernel
theorem dX10_init_35 : decode cX10_init 35 = .ok (.bipush 81, 2) := by decide +kernel
theorem dX10_init_37 : decode cX10_init 37 = .ok (.newarray .int, 2) := by decide +kernel
theorem dX10_init_39 : decode cX10_init 39 = .ok (.putfield 23, 3) := by decide +kernel
theorem dX10_init_42 : decode cX10_init 42 = .ok (.aload_n 0, 1) := by decide +kernel
theorem dX10_init_43 : decode cX10_init 43 = .ok (.bipush 81, 2) := by decide +kernel
theorem dX10_init_45 : decode cX10_init 45 = .ok (.newarray .boolean, 2) := by decide +kernel
theorem dX10_init_47 : decode cX10_init 47 = .ok (.putfield 26, 3) := by decide +kernel
theorem dX10_init_50 : decode cX10_init 50 = .ok (.aload_n 0, 1) := by decide +kernel
theorem dX10_init_51 : decode cX10_init 51 = .ok (.bipush 8, 2) := by decide +kernel
theorem dX10_init_53 : decode cX10_init 53 = .ok (.newarray .int, 2) := by decide +kernel
theorem dX10_init_55 : decode cX10_init 55 = .ok (.putfield 30, 3) := by decide +kernel
theorem dX10_init_58 : decode cX10_init 58 = .ok (.aload_n 0, 1) := by decide +kernel
theorem dX10_init_59 : decode cX10_init 59 = .ok (.bipush 64, 2) := by decide +kernel
theorem dX10_init_61 : decode cX10_init 61 = .ok (.newarray .int, 2) := by decide +kernel
theorem dX10_init_63 : decode cX10_init 63 = .ok (.putfield 33, 3) := by decide +kernel
theorem dX10_init_66 : decode cX10_init 66 = .ok (.aload_n 0, 1) := by decide +kernel
theorem dX10_init_67 : decode cX10_init 67 = .ok (.bipush 64, 2) := by decide +kernel
theorem dX10_init_69 : decode cX10_init 69 = .ok (.newarray .int, 2) := by decide +kernel
theorem dX10_init_71 : decode cX10_init 71 = .ok (.putfield 36, 3) := by decide +kernel
theorem dX10_init_74 : decode cX10_init 74 = .ok (.aload_n 0, 1) := by decide +kernel
theorem dX10_init_75 : decode cX10_init 75 = .ok (.bipush 8, 2) := by decide +kernel
theorem dX10_init_77 : decode cX10_init 77 = .ok (.newarray .int, 2) := by decide +kernel
theorem dX10_init_79 : decode cX10_init 79 = .ok (.putfield 39, 3) := by decide +kernel
theorem dX10_init_82 : decode cX10_init 82 = .ok (.aload_n 0, 1) := by decide +kernel
theorem dX10_init_83 : decode cX10_init 83 = .ok (.bipush 8, 2) := by decide +kernel
theorem dX10_init_85 : decode cX10_init 85 = .ok (.newarray .int, 2) := by decide +kernel
theorem dX10_init_87 : decode cX10_init 87 = .ok (.putfield 42, 3) := by decide +kernel
theorem dX10_init_90 : decode cX10_init 90 = .ok (.aload_n 0, 1) := by decide +kernel
theorem dX10_init_91 : decode cX10_init 91 = .ok (.bipush 8, 2) := by decide +kernel
theorem dX10_init_93 : decode cX10_init 93 = .ok (.newarray .int, 2) := by decide +kernel
theorem dX10_init_95 : decode cX10_init 95 = .ok (.putfield 45, 3) := by decide +kernel
theorem dX10_init_98 : decode cX10_init 98 = .ok (.aload_n 0, 1) := by decide +kernel
theorem dX10_init_99 : decode cX10_init 99 = .ok (.bipush 9, 2) := by decide +kernel
theorem dX10_init_101 : decode cX10_init 101 = .ok (.newarray .int, 2) := by decide +kernel
theorem dX10_init_103 : decode cX10_init 103 = .ok (.putfield 48, 3) := by decide +kernel
theorem dX10_init_106 : decode cX10_init 106 = .ok (.aload_n 0, 1) := by decide +kernel
theorem dX10_init_107 : decode cX10_init 107 = .ok (.bipush 9, 2) := by decide +kernel
theorem dX10_init_109 : decode cX10_init 109 = .ok (.newarray .int, 2) := by decide +kernel
theorem dX10_init_111 : decode cX10_init 111 = .ok (.putfield 51, 3) := by decide +kernel
theorem dX10_init_114 : decode cX10_init 114 = .ok (.aload_n 0, 1) := by decide +kernel
theorem dX10_init_115 : decode cX10_init 115 = .ok (.sipush 729, 3) := by decide +kernel
theorem dX10_init_118 : decode cX10_init 118 = .ok (.newarray .int, 2) := by decide +kernel
theorem dX10_init_120 : decode cX10_init 120 = .ok (.putfield 54, 3) := by decide +kernel
theorem dX10_init_123 : decode cX10_init 123 = .ok (.aload_n 0, 1) := by decide +kernel
theorem dX10_init_124 : decode cX10_init 124 = .ok (.bipush 32, 2) := by decide +kernel
theorem dX10_init_126 : decode cX10_init 126 = .ok (.newarray .int, 2) := by decide +kernel
theorem dX10_init_128 : decode cX10_init 128 = .ok (.putfield 57, 3) := by decide +kernel
theorem dX10_init_131 : decode cX10_init 131 = .ok (.aload_n 0, 1) := by decide +kernel
theorem dX10_init_132 : decode cX10_init 132 = .ok (.bipush 32, 2) := by decide +kernel
theorem dX10_init_134 : decode cX10_init 134 = .ok (.newarray .int, 2) := by decide +kernel
theorem dX10_init_136 : decode cX10_init 136 = .ok (.putfield 60, 3) := by decide +kernel
theorem dX10_init_139 : decode cX10_init 139 = .ok (.aload_n 0, 1) := by decide +kernel
theorem dX10_init_140 : decode cX10_init 140 = .ok (.bipush 32, 2) := by decide +kernel
theorem dX10_init_142 : decode cX10_init 142 = .ok (.newarray .int, 2) := by decide +kernel
theorem dX10_init_144 : decode cX10_init 144 = .ok (.putfield 63, 3) := by decide +kernel
theorem dX10_init_147 : decode cX10_init 147 = .ok (.aload_n 0, 1) := by decide +kernel
theorem dX10_init_148 : decode cX10_init 148 = .ok (.sipush 288, 3) := by decide +kernel
theorem dX10_init_151 : decode cX10_init 151 = .ok (.newarray .int, 2) := by decide +kernel
theorem dX10_init_153 : decode cX10_init 153 = .ok (.putfield 66, 3) := by decide +kernel
theorem dX10_init_156 : decode cX10_init 156 = .ok (.aload_n 0, 1) := by decide +kernel
theorem dX10_init_157 : decode cX10_init 157 = .ok (.sipush 288, 3) := by decide +kernel
theorem dX10_init_160 : decode cX10_init 160 = .ok (.newarray .int, 2) := by decide +kernel
theorem dX10_init_162 : decode cX10_init 162 = .ok (.putfield 69, 3) := by decide +kernel
theorem dX10_init_165 : decode cX10_init 165 = .ok (.aload_n 0, 1) := by decide +kernel
theorem dX10_init_166 : decode cX10_init 166 = .ok (.sipush 23328, 3) := by decide +kernel
theorem dX10_init_169 : decode cX10_init 169 = .ok (.newarray .int, 2) := by decide +kernel
theorem dX10_init_171 : decode cX10_init 171 = .ok (.putfield 72, 3) := by decide +kernel
theorem dX10_init_174 : decode cX10_init 174 = .ok (.aload_n 0, 1) := by decide +kernel
theorem dX10_init_175 : decode cX10_init 175 = .ok (.bipush 8, 2) := by decide +kernel
theorem dX10_init_177 : decode cX10_init 177 = .ok (.newarray .int, 2) := by decide +kernel
theorem dX10_init_179 : decode cX10_init 179 = .ok (.putfield 75, 3) := by decide +kernel
theorem dX10_init_182 : decode cX10_init 182 = .ok (.aload_n 0, 1) := by decide +kernel
theorem dX10_init_183 : decode cX10_init 183 = .ok (.bipush 72, 2) := by decide +kernel
theorem dX10_init_185 : decode cX10_init 185 = .ok (.newarray .int, 2) := by decide +kernel
theorem dX10_init_187 : decode cX10_init 187 = .ok (.putfield 78, 3) := by decide +kernel
theorem dX10_init_190 : decode cX10_init 190 = .ok (.aload_n 0, 1) := by decide +kernel
theorem dX10_init_191 : decode cX10_init 191 = .ok (.bipush 8, 2) := by decide +kernel
theorem dX10_init_193 : decode cX10_init 193 = .ok (.newarray .int, 2) := by decide +kernel
theorem dX10_init_195 : decode cX10_init 195 = .ok (.putfield 81, 3) := by decide +kernel
theorem dX10_init_198 : decode cX10_init 198 = .ok (.aload_n 0, 1) := by decide +kernel
theorem dX10_init_199 : decode cX10_init 199 = .ok (.bipush 60, 2) := by decide +kernel
theorem dX10_init_201 : decode cX10_init 201 = .ok (.newarray .int, 2) := by decide +kernel
theorem dX10_init_203 : decode cX10_init 203 = .ok (.putfield 84, 3) := by decide +kernel
theorem dX10_init_206 : decode cX10_init 206 = .ok (.aload_n 0, 1) := by decide +kernel
theorem dX10_init_207 : decode cX10_init 207 = .ok (.bipush 120, 2) := by decide +kernel
theorem dX10_init_209 : decode cX10_init 209 = .ok (.newarray .int, 2) := by decide +kernel
theorem dX10_init_211 : decode cX10_init 211 = .ok (.putfield 87, 3) := by decide +kernel
theorem dX10_init_214 : decode cX10_init 214 = .ok (.aload_n 0, 1) := by decide +kernel
theorem dX10_init_215 : decode cX10_init 215 = .ok (.iconst 4, 1) := by decide +kernel
theorem dX10_init_216 : decode cX10_init 216 = .ok (.newarray .int, 2) := by decide +kernel
theorem dX10_init_218 : decode cX10_init 218 = .ok (.putfield 90, 3) := by decide +kernel
theorem dX10_init_221 : decode cX10_init 221 = .ok (.aload_n 0, 1) := by decide +kernel
theorem dX10_init_222 : decode cX10_init 222 = .ok (.iconst 4, 1) := by decide +kernel
theorem dX10_init_223 : decode cX10_init 223 = .ok (.newarray .int, 2) := by decide +kernel
theorem dX10_init_225 : decode cX10_init 225 = .ok (.putfield 93, 3) := by decide +kernel
theorem dX10_init_228 : decode cX10_init 228 = .ok (.aload_n 0, 1) := by decide +kernel
theorem dX10_init_229 : decode cX10_init 229 = .ok (.bipush 80, 2) := by decide +kernel
theorem dX10_init_231 : decode cX10_init 231 = .ok (.newarray .int, 2) := by decide +kernel
theorem dX10_init_233 : decode cX10_init 233 = .ok (.putfield 96, 3) := by decide +kernel
theorem dX10_init_236 : decode cX10_init 236 = .ok (.aload_n 0, 1) := by decide +kernel
theorem dX10_init_237 : decode cX10_init 237 = .ok (.sipush 324, 3) := by decide +kernel
theorem dX10_init_240 : decode cX10_init 240 = .ok (.newarray .int, 2) := by decide +kernel
theorem dX10_init_242 : decode cX10_init 242 = .ok (.putfield 99, 3) := by decide +kernel
theorem dX10_init_245 : decode cX10_init 245 = .ok (.aload_n 0, 1) := by decide +kernel
theorem dX10_init_246 : decode cX10_init 246 = .ok (.bipush 8, 2) := by decide +kernel
theorem dX10_init_248 : decode cX10_init 248 = .ok (.newarray .int, 2) := by decide +kernel
theorem dX10_init_250 : decode cX10_init 250 = .ok (.putfield 102, 3) := by decide +kernel
theorem dX10_init_253 : decode cX10_init 253 = .ok (.aload_n 0, 1) := by decide +kernel
theorem dX10_init_254 : decode cX10_init 254 = .ok (.bipush 8, 2) := by decide +kernel
theorem dX10_init_256 : decode cX10_init 256 = .ok (.newarray .int, 2) := by decide +kernel
theorem dX10_init_258 : decode cX10_init 258 = .ok (.putfield 105, 3) := by decide +kernel
theorem dX10_init_261 : decode cX10_init 261 = .ok (.aload_n 0, 1) := by decide +kernel
theorem dX10_init_262 : decode cX10_init 262 = .ok (.bipush 81, 2) := by decide +kernel
theorem dX10_init_264 : decode cX10_init 264 = .ok (.newarray .int, 2) := by decide +kernel
theorem dX10_init_266 : decode cX10_init 266 = .ok (.putfield 108, 3) := by decide +kernel
theorem dX10_init_269 : decode cX10_init 269 = .ok (.return_, 1) := by decide +kernel
theorem dX10_isIn_0 : decode cX10_isIn 0 = .ok (.iload_n 0, 1) := by decide +kernel
theorem dX10_isIn_1 : decode cX10_isIn 1 = .ok (.iload_n 1, 1) := by decide +kernel
theorem dX10_isIn_2 : decode cX10_isIn 2 = .ok (.if_icmp .lt 12, 3) := by decide +kernel
theorem dX10_isIn_5 : decode cX10_isIn 5 = .ok (.iload_n 0, 1) := by decide +kernel
theorem dX10_isIn_6 : decode cX10_isIn 6 = .ok (.iload_n 2, 1) := by decide +kernel
theorem dX10_isIn_7 : decode cX10_isIn 7 = .ok (.if_icmp .gt 7, 3) := by decide +kernel
theorem dX10_isIn_10 : decode cX10_isIn 10 = .ok (.iconst 1, 1) := by decide +kernel
theorem dX10_isIn_11 : decode cX10_isIn 11 = .ok (.goto 4, 3) := by decide +kernel
theorem dX10_isIn_14 : decode cX10_isIn 14 = .ok (.iconst 0, 1) := by decide +kernel
theorem dX10_isIn_15 : decode cX10_isIn 15 = .ok (.ireturn, 1) := by decide +kernel
theorem dX10_isPoint_0 : decode cX10_isPoint 0 = .ok (.iload_n 1, 1) := by decide +kernel
theorem dX10_isPoint_1 : decode cX10_isPoint 1 = .ok (.iconst 0, 1) := by decide +kernel
theorem dX10_isPoint_2 : decode cX10_isPoint 2 = .ok (.aload_n 0, 1) := by decide +kernel
theorem dX10_isPoint_3 : decode cX10_isPoint 3 = .ok (.getfield 111, 3) := by decide +kernel
theorem dX10_isPoint_6 : decode cX10_isPoint 6 = .ok (.iconst 1, 1) := by decide +kernel
theorem dX10_isPoint_7 : decode cX10_isPoint 7 = .ok (.isub, 1) := by decide +kernel
theorem dX10_isPoint_8 : decode cX10_isPoint 8 = .ok (.invokestatic 114, 3) := by decide +kernel
theorem dX10_isPoint_11 : decode cX10_isPoint 11 = .ok (.ireturn, 1) := by decide +kernel
theorem dX10_isExponent_0 : decode cX10_isExponent 0 = .ok (.iload_n 0, 1) := by decide +kernel
theorem dX10_isExponent_1 : decode cX10_isExponent 1 = .ok (.iconst 0, 1) := by decide +kernel
theorem dX10_isExponent_2 : decode cX10_isExponent 2 = .ok (.bipush 8, 2) := by decide +kernel
theorem dX10_isExponent_4 : decode cX10_isExponent 4 = .ok (.invokestatic 114, 3) := by decide +kernel
theorem dX10_isExponent_7 : decode cX10_isExponent 7 = .ok (.ireturn, 1) := by decide +kernel
theorem dX10_power_0 : decode cX10_power 0 = .ok (.iconst 1, 1) := by decide +kernel
theorem dX10_power_1 : decode cX10_power 1 = .ok (.aload_n 0, 1) := by decide +kernel
theorem dX10_power_2 : decode cX10_power 2 = .ok (.getfield 7, 3) := by decide +kernel
theorem dX10_power_5 : decode cX10_power 5 = .ok (.irem, 1) := by decide +kernel
theorem dX10_power_6 : decode cX10_power 6 = .ok (.istore_n 3, 1) := by decide +kernel
theorem dX10_power_7 : decode cX10_power 7 = .ok (.iconst 0, 1) := by decide +kernel
theorem dX10_power_8 : decode cX10_power 8 = .ok (.istore 4, 2) := by decide +kernel
theorem dX10_power_10 : decode cX10_power 10 = .ok (.iload 4, 2) := by decide +kernel
theorem dX10_power_12 : decode cX10_power 12 = .ok (.iload_n 2, 1) := by decide +kernel
theorem dX10_power_13 : decode cX10_power 13 = .ok (.if_icmp .ge 18, 3) := by decide +kernel
theorem dX10_power_16 : decode cX10_power 16 = .ok (.iload_n 3, 1) := by decide +kernel
theorem dX10_power_17 : decode cX10_power 17 = .ok (.iload_n 1, 1) := by decide +kernel
theorem dX10_power_18 : decode cX10_power 18 = .ok (.imul, 1) := by decide +kernel
theorem dX10_power_19 : decode cX10_power 19 = .ok (.aload_n 0, 1) := by decide +kernel
theorem dX10_power_20 : decode cX10_power 20 = .ok (.getfield 7, 3) := by decide +kernel
theorem dX10_power_23 : decode cX10_power 23 = .ok (.irem, 1) := by decide +kernel
theorem dX10_power_24 : decode cX10_power 24 = .ok (.istore_n 3, 1) := by decide +kernel
theorem dX10_power_25 : decode cX10_power 25 = .ok (.iinc 4 1, 3) := by decide +kernel
theorem dX10_power_28 : decode cX10_power 28 = .ok (.goto (-18), 3) := by decide +kernel
theorem dX10_power_31 : decode cX10_power 31 = .ok (.iload_n 3, 1) := by decide +kernel
theorem dX10_power_32 : decode cX10_power 32 = .ok (.ireturn, 1) := by decide +kernel
theorem dX10_inverse_0 : decode cX10_inverse 0 = .ok (.iconst 1, 1) := by decide +kernel
theorem dX10_inverse_1 : decode cX10_inverse 1 = .ok (.istore_n 2, 1) := by decide +kernel
theorem dX10_inverse_2 : decode cX10_inverse 2 = .ok (.iload_n 2, 1) := by decide +kernel
theorem dX10_inverse_3 : decode cX10_inverse 3 = .ok (.iload_n 1, 1) := by decide +kernel
theorem dX10_inverse_4 : decode cX10_inverse 4 = .ok (.imul, 1) := by decide +kernel
theorem dX10_inverse_5 : decode cX10_inverse 5 = .ok (.aload_n 0, 1) := by decide +kernel
theorem dX10_inverse_6 : decode cX10_inverse 6 = .ok (.getfield 7, 3) := by decide +kernel
theorem dX10_inverse_9 : decode cX10_inverse 9 = .ok (.irem, 1) := by decide +kernel
theorem dX10_inverse_10 : decode cX10_inverse 10 = .ok (.iconst 1, 1) := by decide +kernel
theorem dX10_inverse_11 : decode cX10_inverse 11 = .ok (.if_icmp .eq 9, 3) := by decide +kernel
theorem dX10_inverse_14 : decode cX10_inverse 14 = .ok (.iinc 2 1, 3) := by decide +kernel
theorem dX10_inverse_17 : decode cX10_inverse 17 = .ok (.goto (-15), 3) := by decide +kernel
theorem dX10_inverse_20 : decode cX10_inverse 20 = .ok (.iload_n 2, 1) := by decide +kernel
theorem dX10_inverse_21 : decode cX10_inverse 21 = .ok (.ireturn, 1) := by decide +kernel
theorem dX10_isPrime_0 : decode cX10_isPrime 0 = .ok (.iload_n 0, 1) := by decide +kernel
theorem dX10_isPrime_1 : decode cX10_isPrime 1 = .ok (.iconst 1, 1) := by decide +kernel
theorem dX10_isPrime_2 : decode cX10_isPrime 2 = .ok (.if_icmp .le 7, 3) := by decide +kernel
theorem dX10_isPrime_5 : decode cX10_isPrime 5 = .ok (.iconst 1, 1) := by decide +kernel
theorem dX10_isPrime_6 : decode cX10_isPrime 6 = .ok (.goto 4, 3) := by decide +kernel
theorem dX10_isPrime_9 : decode cX10_isPrime 9 = .ok (.iconst 0, 1) := by decide +kernel
theorem dX10_isPrime_10 : decode cX10_isPrime 10 = .ok (.istore_n 1, 1) := by decide +kernel
theorem dX10_isPrime_11 : decode cX10_isPrime 11 = .ok (.iconst 2, 1) := by decide +kernel
theorem dX10_isPrime_12 : decode cX10_isPrime 12 = .ok (.istore_n 2, 1) := by decide +kernel
theorem dX10_isPrime_13 : decode cX10_isPrime 13 = .ok (.iload_n 2, 1) := by decide +kernel
theorem dX10_isPrime_14 : decode cX10_isPrime 14 = .ok (.iload_n 0, 1) := by decide +kernel
theorem dX10_isPrime_15 : decode cX10_isPrime 15 = .ok (.if_icmp .ge 25, 3) := by decide +kernel
theorem dX10_isPrime_18 : decode cX10_isPrime 18 = .ok (.iload_n 1, 1) := by decide +kernel
theorem dX10_isPrime_19 : decode cX10_isPrime 19 = .ok (.ifCond .eq 13, 3) := by decide +kernel
theorem dX10_isPrime_22 : decode cX10_isPrime 22 = .ok (.iload_n 0, 1) := by decide +kernel
theorem dX10_isPrime_23 : decode cX10_isPrime 23 = .ok (.iload_n 2, 1) := by decide +kernel
theorem dX10_isPrime_24 : decode cX10_isPrime 24 = .ok (.irem, 1) := by decide +kernel
theorem dX10_isPrime_25 : decode cX10_isPrime 25 = .ok (.ifCond .eq 7, 3) := by decide +kernel
theorem dX10_isPrime_28 : decode cX10_isPrime 28 = .ok (.iconst 1, 1) := by decide +kernel
theorem dX10_isPrime_29 : decode cX10_isPrime 29 = .ok (.goto 4, 3) := by decide +kernel
theorem dX10_isPrime_32 : decode cX10_isPrime 32 = .ok (.iconst 0, 1) := by decide +kernel
theorem dX10_isPrime_33 : decode cX10_isPrime 33 = .ok (.istore_n 1, 1) := by decide +kernel
theorem dX10_isPrime_34 : decode cX10_isPrime 34 = .ok (.iinc 2 1, 3) := by decide +kernel
theorem dX10_isPrime_37 : decode cX10_isPrime 37 = .ok (.goto (-24), 3) := by decide +kernel
theorem dX10_isPrime_40 : decode cX10_isPrime 40 = .ok (.iload_n 1, 1) := by decide +kernel
theorem dX10_isPrime_41 : decode cX10_isPrime 41 = .ok (.ireturn, 1) := by decide +kernel
theorem dX10_clearCurrent_0 : decode cX10_clearCurrent 0 = .ok (.iconst 0, 1) := by decide +kernel
theorem dX10_clearCurrent_1 : decode cX10_clearCurrent 1 = .ok (.istore_n 1, 1) := by decide +kernel
theorem dX10_clearCurrent_2 : decode cX10_clearCurrent 2 = .ok (.iload_n 1, 1) := by decide +kernel
theorem dX10_clearCurrent_3 : decode cX10_clearCurrent 3 = .ok (.bipush 81, 2) := by decide +kernel
theorem dX10_clearCurrent_5 : decode cX10_clearCurrent 5 = .ok (.if_icmp .ge 16, 3) := by decide +kernel
theorem dX10_clearCurrent_8 : decode cX10_clearCurrent 8 = .ok (.aload_n 0, 1) := by decide +kernel
theorem dX10_clearCurrent_9 : decode cX10_clearCurrent 9 = .ok (.getfield 20, 3) := by decide +kernel
theorem dX10_clearCurrent_12 : decode cX10_clearCurrent 12 = .ok (.iload_n 1, 1) := by decide +kernel
theorem dX10_clearCurrent_13 : decode cX10_clearCurrent 13 = .ok (.iconst 0, 1) := by decide +kernel
theorem dX10_clearCurrent_14 : decode cX10_clearCurrent 14 = .ok (.iastore, 1) := by decide +kernel
theorem dX10_clearCurrent_15 : decode cX10_clearCurrent 15 = .ok (.iinc 1 1, 3) := by decide +kernel
theorem dX10_clearCurrent_18 : decode cX10_clearCurrent 18 = .ok (.goto (-16), 3) := by decide +kernel
theorem dX10_clearCurrent_21 : decode cX10_clearCurrent 21 = .ok (.return_, 1) := by decide +kernel
theorem dX10_setPrime_0 : decode cX10_setPrime 0 = .ok (.iload_n 1, 1) := by decide +kernel
theorem dX10_setPrime_1 : decode cX10_setPrime 1 = .ok (.iconst 2, 1) := by decide +kernel
theorem dX10_setPrime_2 : decode cX10_setPrime 2 = .ok (.bipush 31, 2) := by decide +kernel
theorem dX10_setPrime_4 : decode cX10_setPrime 4 = .ok (.invokestatic 114, 3) := by decide +kernel
theorem dX10_setPrime_7 : decode cX10_setPrime 7 = .ok (.ifCond .eq 10, 3) := by decide +kernel
theorem dX10_setPrime_10 : decode cX10_setPrime 10 = .ok (.iload_n 1, 1) := by decide +kernel
theorem dX10_setPrime_11 : decode cX10_setPrime 11 = .ok (.invokestatic 118, 3) := by decide +kernel
theorem dX10_setPrime_14 : decode cX10_setPrime 14 = .ok (.ifCond .ne 6, 3) := by decide +kernel
theorem dX10_setPrime_17 : decode cX10_setPrime 17 = .ok (.bipush (-2), 2) := by decide +kernel
theorem dX10_setPrime_19 : decode cX10_setPrime 19 = .ok (.ireturn, 1) := by decide +kernel
theorem dX10_setPrime_20 : decode cX10_setPrime 20 = .ok (.aload_n 0, 1) := by decide +kernel
theorem dX10_setPrime_21 : decode cX10_setPrime 21 = .ok (.getfield 7, 3) := by decide +kernel
theorem dX10_setPrime_24 : decode cX10_setPrime 24 = .ok (.istore_n 2, 1) := by decide +kernel
theorem dX10_setPrime_25 : decode cX10_setPrime 25 = .ok (.aload_n 0, 1) := by decide +kernel
theorem dX10_setPrime_26 : decode cX10_setPrime 26 = .ok (.iload_n 1, 1) := by decide +kernel
theorem dX10_setPrime_27 : decode cX10_setPrime 27 = .ok (.putfield 7, 3) := by decide +kernel
theorem dX10_setPrime_30 : decode cX10_setPrime 30 = .ok (.aload_n 0, 1) := by decide +kernel
theorem dX10_setPrime_31 : decode cX10_setPrime 31 = .ok (.iconst 0, 1) := by decide +kernel
theorem dX10_setPrime_32 : decode cX10_setPrime 32 = .ok (.putfield 111, 3) := by decide +kernel
theorem dX10_setPrime_35 : decode cX10_setPrime 35 = .ok (.aload_n 0, 1) := by decide +kernel
theorem dX10_setPrime_36 : decode cX10_setPrime 36 = .ok (.iconst 0, 1) := by decide +kernel
theorem dX10_setPrime_37 : decode cX10_setPrime 37 = .ok (.putfield 122, 3) := by decide +kernel
theorem dX10_setPrime_40 : decode cX10_setPrime 40 = .ok (.aload_n 0, 1) := by decide +kernel
theorem dX10_setPrime_41 : decode cX10_setPrime 41 = .ok (.invokevirtual 126, 3) := by decide +kernel
theorem dX10_setPrime_44 : decode cX10_setPrime 44 = .ok (.iload_n 2, 1) := by decide +kernel
theorem dX10_setPrime_45 : decode cX10_setPrime 45 = .ok (.ireturn, 1) := by decide +kernel
theorem dX10_prime_0 : decode cX10_prime 0 = .ok (.aload_n 0, 1) := by decide +kernel
theorem dX10_prime_1 : decode cX10_prime 1 = .ok (.getfield 7, 3) := by decide +kernel
theorem dX10_prime_4 : decode cX10_prime 4 = .ok (.ireturn, 1) := by decide +kernel
theorem dX10_addPoint_0 : decode cX10_addPoint 0 = .ok (.iload_n 1, 1) := by decide +kernel
theorem dX10_addPoint_1 : decode cX10_addPoint 1 = .ok (.iconst 0, 1) := by decide +kernel
theorem dX10_addPoint_2 : decode cX10_addPoint 2 = .ok (.aload_n 0, 1) := by decide +kernel
theorem dX10_addPoint_3 : decode cX10_addPoint 3 = .ok (.getfield 7, 3) := by decide +kernel
theorem dX10_addPoint_6 : decode cX10_addPoint 6 = .ok (.iconst 1, 1) := by decide +kernel
theorem dX10_addPoint_7 : decode cX10_addPoint 7 = .ok (.isub, 1) := by decide +kernel
theorem dX10_addPoint_8 : decode cX10_addPoint 8 = .ok (.invokestatic 114, 3) := by decide +kernel
theorem dX10_addPoint_11 : decode cX10_addPoint 11 = .ok (.ifCond .eq 17, 3) := by decide +kernel
theorem dX10_addPoint_14 : decode cX10_addPoint 14 = .ok (.iload_n 2, 1) := by decide +kernel
theorem dX10_addPoint_15 : decode cX10_addPoint 15 = .ok (.iconst 0, 1) := by decide +kernel
theorem dX10_addPoint_16 : decode cX10_addPoint 16 = .ok (.aload_n 0, 1) := by decide +kernel
theorem dX10_addPoint_17 : decode cX10_addPoint 17 = .ok (.getfield 7, 3) := by decide +kernel
theorem dX10_addPoint_20 : decode cX10_addPoint 20 = .ok (.iconst 1, 1) := by decide +kernel
theorem dX10_addPoint_21 : decode cX10_addPoint 21 = .ok (.isub, 1) := by decide +kernel
theorem dX10_addPoint_22 : decode cX10_addPoint 22 = .ok (.invokestatic 114, 3) := by decide +kernel
theorem dX10_addPoint_25 : decode cX10_addPoint 25 = .ok (.ifCond .ne 6, 3) := by decide +kernel
theorem dX10_addPoint_28 : decode cX10_addPoint 28 = .ok (.bipush (-2), 2) := by decide +kernel
theorem dX10_addPoint_30 : decode cX10_addPoint 30 = .ok (.ireturn, 1) := by decide +kernel
theorem dX10_addPoint_31 : decode cX10_addPoint 31 = .ok (.iconst 0, 1) := by decide +kernel
theorem dX10_addPoint_32 : decode cX10_addPoint 32 = .ok (.istore_n 3, 1) := by decide +kernel
theorem dX10_addPoint_33 : decode cX10_addPoint 33 = .ok (.iload_n 3, 1) := by decide +kernel
theorem dX10_addPoint_34 : decode cX10_addPoint 34 = .ok (.aload_n 0, 1) := by decide +kernel
theorem dX10_addPoint_35 : decode cX10_addPoint 35 = .ok (.getfield 111, 3) := by decide +kernel
theorem dX10_addPoint_38 : decode cX10_addPoint 38 = .ok (.if_icmp .ge 32, 3) := by decide +kernel
theorem dX10_addPoint_41 : decode cX10_addPoint 41 = .ok (.aload_n 0, 1) := by decide +kernel
theorem dX10_addPoint_42 : decode cX10_addPoint 42 = .ok (.getfield 13, 3) := by decide +kernel
theorem dX10_addPoint_45 : decode cX10_addPoint 45 = .ok (.iload_n 3, 1) := by decide +kernel
theorem dX10_addPoint_46 : decode cX10_addPoint 46 = .ok (.iaload, 1) := by decide +kernel
theorem dX10_addPoint_47 : decode cX10_addPoint 47 = .ok (.iload_n 1, 1) := by decide +kernel
theorem dX10_addPoint_48 : decode cX10_addPoint 48 = .ok (.if_icmp .ne 16, 3) := by decide +kernel
theorem dX10_addPoint_51 : decode cX10_addPoint 51 = .ok (.aload_n 0, 1) := by decide +kernel
theorem dX10_addPoint_52 : decode cX10_addPoint 52 = .ok (.getfield 17, 3) := by decide +kernel
theorem dX10_addPoint_55 : decode cX10_addPoint 55 = .ok (.iload_n 3, 1) := by decide +kernel
theorem dX10_addPoint_56 : decode cX10_addPoint 56 = .ok (.iaload, 1) := by decide +kernel
theorem dX10_addPoint_57 : decode cX10_addPoint 57 = .ok (.iload_n 2, 1) := by decide +kernel
theorem dX10_addPoint_58 : decode cX10_addPoint 58 = .ok (.if_icmp .ne 6, 3) := by decide +kernel
theorem dX10_addPoint_61 : decode cX10_addPoint 61 = .ok (.bipush (-3), 2) := by decide +kernel
theorem dX10_addPoint_63 : decode cX10_addPoint 63 = .ok (.ireturn, 1) := by decide +kernel
theorem dX10_addPoint_64 : decode cX10_addPoint 64 = .ok (.iinc 3 1, 3) := by decide +kernel
theorem dX10_addPoint_67 : decode cX10_addPoint 67 = .ok (.goto (-34), 3) := by decide +kernel
theorem dX10_addPoint_70 : decode cX10_addPoint 70 = .ok (.aload_n 0, 1) := by decide +kernel
theorem dX10_addPoint_71 : decode cX10_addPoint 71 = .ok (.getfield 111, 3) := by decide +kernel
theorem dX10_addPoint_74 : decode cX10_addPoint 74 = .ok (.bipush 8, 2) := by decide +kernel
theorem dX10_addPoint_76 : decode cX10_addPoint 76 = .ok (.if_icmp .ne 6, 3) := by decide +kernel
theorem dX10_addPoint_79 : decode cX10_addPoint 79 = .ok (.bipush (-4), 2) := by decide +kernel
theorem dX10_addPoint_81 : decode cX10_addPoint 81 = .ok (.ireturn, 1) := by decide +kernel
theorem dX10_addPoint_82 : decode cX10_addPoint 82 = .ok (.aload_n 0, 1) := by decide +kernel
theorem dX10_addPoint_83 : decode cX10_addPoint 83 = .ok (.getfield 13, 3) := by decide +kernel
theorem dX10_addPoint_86 : decode cX10_addPoint 86 = .ok (.aload_n 0, 1) := by decide +kernel
theorem dX10_addPoint_87 : decode cX10_addPoint 87 = .ok (.getfield 111, 3) := by decide +kernel
theorem dX10_addPoint_90 : decode cX10_addPoint 90 = .ok (.iload_n 1, 1) := by decide +kernel
theorem dX10_addPoint_91 : decode cX10_addPoint 91 = .ok (.iastore, 1) := by decide +kernel
theorem dX10_addPoint_92 : decode cX10_addPoint 92 = .ok (.aload_n 0, 1) := by decide +kernel
theorem dX10_addPoint_93 : decode cX10_addPoint 93 = .ok (.getfield 17, 3) := by decide +kernel
theorem dX10_addPoint_96 : decode cX10_addPoint 96 = .ok (.aload_n 0, 1) := by decide +kernel
theorem dX10_addPoint_97 : decode cX10_addPoint 97 = .ok (.getfield 111, 3) := by decide +kernel
theorem dX10_addPoint_100 : decode cX10_addPoint 100 = .ok (.iload_n 2, 1) := by decide +kernel
theorem dX10_addPoint_101 : decode cX10_addPoint 101 = .ok (.iastore, 1) := by decide +kernel
theorem dX10_addPoint_102 : decode cX10_addPoint 102 = .ok (.aload_n 0, 1) := by decide +kernel
theorem dX10_addPoint_103 : decode cX10_addPoint 103 = .ok (.dup, 1) := by decide +kernel
theorem dX10_addPoint_104 : decode cX10_addPoint 104 = .ok (.getfield 111, 3) := by decide +kernel
theorem dX10_addPoint_107 : decode cX10_addPoint 107 = .ok (.iconst 1, 1) := by decide +kernel
theorem dX10_addPoint_108 : decode cX10_addPoint 108 = .ok (.iadd, 1) := by decide +kernel
theorem dX10_addPoint_109 : decode cX10_addPoint 109 = .ok (.putfield 111, 3) := by decide +kernel
theorem dX10_addPoint_112 : decode cX10_addPoint 112 = .ok (.aload_n 0, 1) := by decide +kernel
theorem dX10_addPoint_113 : decode cX10_addPoint 113 = .ok (.iconst 0, 1) := by decide +kernel
theorem dX10_addPoint_114 : decode cX10_addPoint 114 = .ok (.putfield 122, 3) := by decide +kernel
theorem dX10_addPoint_117 : decode cX10_addPoint 117 = .ok (.aload_n 0, 1) := by decide +kernel
theorem dX10_addPoint_118 : decode cX10_addPoint 118 = .ok (.getfield 111, 3) := by decide +kernel
theorem dX10_addPoint_121 : decode cX10_addPoint 121 = .ok (.ireturn, 1) := by decide +kernel
theorem dX10_removePoint_0 : decode cX10_removePoint 0 = .ok (.aload_n 0, 1) := by decide +kernel
theorem dX10_removePoint_1 : decode cX10_removePoint 1 = .ok (.iload_n 1, 1) := by decide +kernel
theorem dX10_removePoint_2 : decode cX10_removePoint 2 = .ok (.invokevirtual 129, 3) := by decide +kernel
theorem dX10_removePoint_5 : decode cX10_removePoint 5 = .ok (.ifCond .ne 5, 3) := by decide +kernel
theorem dX10_removePoint_8 : decode cX10_removePoint 8 = .ok (.iconst (-1), 1) := by decide +kernel
theorem dX10_removePoint_9 : decode cX10_removePoint 9 = .ok (.ireturn, 1) := by decide +kernel
theorem dX10_removePoint_10 : decode cX10_removePoint 10 = .ok (.iload_n 1, 1) := by decide +kernel
theorem dX10_removePoint_11 : decode cX10_removePoint 11 = .ok (.istore_n 2, 1) := by decide +kernel
theorem dX10_removePoint_12 : decode cX10_removePoint 12 = .ok (.iload_n 2, 1) := by decide +kernel
theorem dX10_removePoint_13 : decode cX10_removePoint 13 = .ok (.aload_n 0, 1) := by decide +kernel
theorem dX10_removePoint_14 : decode cX10_removePoint 14 = .ok (.getfield 111, 3) := by decide +kernel
theorem dX10_removePoint_17 : decode cX10_removePoint 17 = .ok (.iconst 1, 1) := by decide +kernel
theorem dX10_removePoint_18 : decode cX10_removePoint 18 = .ok (.isub, 1) := by decide +kernel
theorem dX10_removePoint_19 : decode cX10_removePoint 19 = .ok (.if_icmp .ge 37, 3) := by decide +kernel
theorem dX10_removePoint_22 : decode cX10_removePoint 22 = .ok (.aload_n 0, 1) := by decide +kernel
theorem dX10_removePoint_23 : decode cX10_removePoint 23 = .ok (.getfield 13, 3) := by decide +kernel
theorem dX10_removePoint_26 : decode cX10_removePoint 26 = .ok (.iload_n 2, 1) := by decide +kernel
theorem dX10_removePoint_27 : decode cX10_removePoint 27 = .ok (.aload_n 0, 1) := by decide +kernel
theorem dX10_removePoint_28 : decode cX10_removePoint 28 = .ok (.getfield 13, 3) := by decide +kernel
theorem dX10_removePoint_31 : decode cX10_removePoint 31 = .ok (.iload_n 2, 1) := by decide +kernel
theorem dX10_removePoint_32 : decode cX10_removePoint 32 = .ok (.iconst 1, 1) := by decide +kernel
theorem dX10_removePoint_33 : decode cX10_removePoint 33 = .ok (.iadd, 1) := by decide +kernel
theorem dX10_removePoint_34 : decode cX10_removePoint 34 = .ok (.iaload, 1) := by decide +kernel
theorem dX10_removePoint_35 : decode cX10_removePoint 35 = .ok (.iastore, 1) := by decide +kernel
theorem dX10_removePoint_36 : decode cX10_removePoint 36 = .ok (.aload_n 0, 1) := by decide +kernel
theorem dX10_removePoint_37 : decode cX10_removePoint 37 = .ok (.getfield 17, 3) := by decide +kernel
theorem dX10_removePoint_40 : decode cX10_removePoint 40 = .ok (.iload_n 2, 1) := by decide +kernel
theorem dX10_removePoint_41 : decode cX10_removePoint 41 = .ok (.aload_n 0, 1) := by decide +kernel
theorem dX10_removePoint_42 : decode cX10_removePoint 42 = .ok (.getfield 17, 3) := by decide +kernel
theorem dX10_removePoint_45 : decode cX10_removePoint 45 = .ok (.iload_n 2, 1) := by decide +kernel
theorem dX10_removePoint_46 : decode cX10_removePoint 46 = .ok (.iconst 1, 1) := by decide +kernel
theorem dX10_removePoint_47 : decode cX10_removePoint 47 = .ok (.iadd, 1) := by decide +kernel
theorem dX10_removePoint_48 : decode cX10_removePoint 48 = .ok (.iaload, 1) := by decide +kernel
theorem dX10_removePoint_49 : decode cX10_removePoint 49 = .ok (.iastore, 1) := by decide +kernel
theorem dX10_removePoint_50 : decode cX10_removePoint 50 = .ok (.iinc 2 1, 3) := by decide +kernel
theorem dX10_removePoint_53 : decode cX10_removePoint 53 = .ok (.goto (-41), 3) := by decide +kernel
theorem dX10_removePoint_56 : decode cX10_removePoint 56 = .ok (.aload_n 0, 1) := by decide +kernel
theorem dX10_removePoint_57 : decode cX10_removePoint 57 = .ok (.dup, 1) := by decide +kernel
theorem dX10_removePoint_58 : decode cX10_removePoint 58 = .ok (.getfield 111, 3) := by decide +kernel
theorem dX10_removePoint_61 : decode cX10_removePoint 61 = .ok (.iconst 1, 1) := by decide +kernel
theorem dX10_removePoint_62 : decode cX10_removePoint 62 = .ok (.isub, 1) := by decide +kernel
theorem dX10_removePoint_63 : decode cX10_removePoint 63 = .ok (.putfield 111, 3) := by decide +kernel
theorem dX10_removePoint_66 : decode cX10_removePoint 66 = .ok (.aload_n 0, 1) := by decide +kernel
theorem dX10_removePoint_67 : decode cX10_removePoint 67 = .ok (.iconst 0, 1) := by decide +kernel
theorem dX10_removePoint_68 : decode cX10_removePoint 68 = .ok (.putfield 122, 3) := by decide +kernel
theorem dX10_removePoint_71 : decode cX10_removePoint 71 = .ok (.aload_n 0, 1) := by decide +kernel
theorem dX10_removePoint_72 : decode cX10_removePoint 72 = .ok (.getfield 111, 3) := by decide +kernel
theorem dX10_removePoint_75 : decode cX10_removePoint 75 = .ok (.ireturn, 1) := by decide +kernel
theorem dX10_pointCount_0 : decode cX10_pointCount 0 = .ok (.aload_n 0, 1) := by decide +kernel
theorem dX10_pointCount_1 : decode cX10_pointCount 1 = .ok (.getfield 111, 3) := by decide +kernel
theorem dX10_pointCount_4 : decode cX10_pointCount 4 = .ok (.ireturn, 1) := by decide +kernel
theorem dX10_pointX_0 : decode cX10_pointX 0 = .ok (.aload_n 0, 1) := by decide +kernel
theorem dX10_pointX_1 : decode cX10_pointX 1 = .ok (.iload_n 1, 1) := by decide +kernel
theorem dX10_pointX_2 : decode cX10_pointX 2 = .ok (.invokevirtual 129, 3) := by decide +kernel
theorem dX10_pointX_5 : decode cX10_pointX 5 = .ok (.ifCond .eq 12, 3) := by decide +kernel
theorem dX10_pointX_8 : decode cX10_pointX 8 = .ok (.aload_n 0, 1) := by decide +kernel
theorem dX10_pointX_9 : decode cX10_pointX 9 = .ok (.getfield 13, 3) := by decide +kernel
theorem dX10_pointX_12 : decode cX10_pointX 12 = .ok (.iload_n 1, 1) := by decide +kernel
theorem dX10_pointX_13 : decode cX10_pointX 13 = .ok (.iaload, 1) := by decide +kernel
theorem dX10_pointX_14 : decode cX10_pointX 14 = .ok (.goto 4, 3) := by decide +kernel
theorem dX10_pointX_17 : decode cX10_pointX 17 = .ok (.iconst (-1), 1) := by decide +kernel
theorem dX10_pointX_18 : decode cX10_pointX 18 = .ok (.ireturn, 1) := by decide +kernel
theorem dX10_pointY_0 : decode cX10_pointY 0 = .ok (.aload_n 0, 1) := by decide +kernel
theorem dX10_pointY_1 : decode cX10_pointY 1 = .ok (.iload_n 1, 1) := by decide +kernel
theorem dX10_pointY_2 : decode cX10_pointY 2 = .ok (.invokevirtual 129, 3) := by decide +kernel
theorem dX10_pointY_5 : decode cX10_pointY 5 = .ok (.ifCond .eq 12, 3) := by decide +kernel
theorem dX10_pointY_8 : decode cX10_pointY 8 = .ok (.aload_n 0, 1) := by decide +kernel
theorem dX10_pointY_9 : decode cX10_pointY 9 = .ok (.getfield 17, 3) := by decide +kernel
theorem dX10_pointY_12 : decode cX10_pointY 12 = .ok (.iload_n 1, 1) := by decide +kernel
theorem dX10_pointY_13 : decode cX10_pointY 13 = .ok (.iaload, 1) := by decide +kernel
theorem dX10_pointY_14 : decode cX10_pointY 14 = .ok (.goto 4, 3) := by decide +kernel
theorem dX10_pointY_17 : decode cX10_pointY 17 = .ok (.iconst (-1), 1) := by decide +kernel
theorem dX10_pointY_18 : decode cX10_pointY 18 = .ok (.ireturn, 1) := by decide +kernel
theorem dX10_swapCoordinates_0 : decode cX10_swapCoordinates 0 = .ok (.iconst 1, 1) := by decide +kernel
theorem dX10_swapCoordinates_1 : decode cX10_swapCoordinates 1 = .ok (.istore_n 1, 1) := by decide +kernel
theorem dX10_swapCoordinates_2 : decode cX10_swapCoordinates 2 = .ok (.iconst 0, 1) := by decide +kernel
theorem dX10_swapCoordinates_3 : decode cX10_swapCoordinates 3 = .ok (.istore_n 2, 1) := by decide +kernel
theorem dX10_swapCoordinates_4 : decode cX10_swapCoordinates 4 = .ok (.iload_n 2, 1) := by decide +kernel
theorem dX10_swapCoordinates_5 : decode cX10_swapCoordinates 5 = .ok (.aload_n 0, 1) := by decide +kernel
theorem dX10_swapCoordinates_6 : decode cX10_swapCoordinates 6 = .ok (.getfield 111, 3) := by decide +kernel
theorem dX10_swapCoordinates_9 : decode cX10_swapCoordinates 9 = .ok (.if_icmp .ge 85, 3) := by decide +kernel
theorem dX10_swapCoordinates_12 : decode cX10_swapCoordinates 12 = .ok (.iconst 0, 1) := by decide +kernel
theorem dX10_swapCoordinates_13 : decode cX10_swapCoordinates 13 = .ok (.istore_n 3, 1) := by decide +kernel
theorem dX10_swapCoordinates_14 : decode cX10_swapCoordinates 14 = .ok (.iconst 0, 1) := by decide +kernel
theorem dX10_swapCoordinates_15 : decode cX10_swapCoordinates 15 = .ok (.istore 4, 2) := by decide +kernel
theorem dX10_swapCoordinates_17 : decode cX10_swapCoordinates 17 = .ok (.iload 4, 2) := by decide +kernel
theorem dX10_swapCoordinates_19 : decode cX10_swapCoordinates 19 = .ok (.aload_n 0, 1) := by decide +kernel
theorem dX10_swapCoordinates_20 : decode cX10_swapCoordinates 20 = .ok (.getfield 111, 3) := by decide +kernel
theorem dX10_swapCoordinates_23 : decode cX10_swapCoordinates 23 = .ok (.if_icmp .ge 51, 3) := by decide +kernel
theorem dX10_swapCoordinates_26 : decode cX10_swapCoordinates 26 = .ok (.iload_n 3, 1) := by decide +kernel
theorem dX10_swapCoordinates_27 : decode cX10_swapCoordinates 27 = .ok (.ifCond .ne 35, 3) := by decide +kernel
theorem dX10_swapCoordinates_30 : decode cX10_swapCoordinates 30 = .ok (.aload_n 0, 1) := by decide +kernel
theorem dX10_swapCoordinates_31 : decode cX10_swapCoordinates 31 = .ok (.getfield 13, 3) := by decide +kernel
theorem dX10_swapCoordinates_34 : decode cX10_swapCoordinates 34 = .ok (.iload 4, 2) := by decide +kernel
theorem dX10_swapCoordinates_36 : decode cX10_swapCoordinates 36 = .ok (.iaload, 1) := by decide +kernel
theorem dX10_swapCoordinates_37 : decode cX10_swapCoordinates 37 = .ok (.aload_n 0, 1) := by decide +kernel
theorem dX10_swapCoordinates_38 : decode cX10_swapCoordinates 38 = .ok (.getfield 17, 3) := by decide +kernel
theorem dX10_swapCoordinates_41 : decode cX10_swapCoordinates 41 = .ok (.iload_n 2, 1) := by decide +kernel
theorem dX10_swapCoordinates_42 : decode cX10_swapCoordinates 42 = .ok (.iaload, 1) := by decide +kernel
theorem dX10_swapCoordinates_43 : decode cX10_swapCoordinates 43 = .ok (.if_icmp .ne 23, 3) := by decide +kernel
theorem dX10_swapCoordinates_46 : decode cX10_swapCoordinates 46 = .ok (.aload_n 0, 1) := by decide +kernel
theorem dX10_swapCoordinates_47 : decode cX10_swapCoordinates 47 = .ok (.getfield 17, 3) := by decide +kernel
theorem dX10_swapCoordinates_50 : decode cX10_swapCoordinates 50 = .ok (.iload 4, 2) := by decide +kernel
theorem dX10_swapCoordinates_52 : decode cX10_swapCoordinates 52 = .ok (.iaload, 1) := by decide +kernel
theorem dX10_swapCoordinates_53 : decode cX10_swapCoordinates 53 = .ok (.aload_n 0, 1) := by decide +kernel
theorem dX10_swapCoordinates_54 : decode cX10_swapCoordinates 54 = .ok (.getfield 13, 3) := by decide +kernel
theorem dX10_swapCoordinates_57 : decode cX10_swapCoordinates 57 = .ok (.iload_n 2, 1) := by decide +kernel
theorem dX10_swapCoordinates_58 : decode cX10_swapCoordinates 58 = .ok (.iaload, 1) := by decide +kernel
theorem dX10_swapCoordinates_59 : decode cX10_swapCoordinates 59 = .ok (.if_icmp .ne 7, 3) := by decide +kernel
theorem dX10_swapCoordinates_62 : decode cX10_swapCoordinates 62 = .ok (.iconst 1, 1) := by decide +kernel
theorem dX10_swapCoordinates_63 : decode cX10_swapCoordinates 63 = .ok (.goto 4, 3) := by decide +kernel
theorem dX10_swapCoordinates_66 : decode cX10_swapCoordinates 66 = .ok (.iconst 0, 1) := by decide +kernel
theorem dX10_swapCoordinates_67 : decode cX10_swapCoordinates 67 = .ok (.istore_n 3, 1) := by decide +kernel
theorem dX10_swapCoordinates_68 : decode cX10_swapCoordinates 68 = .ok (.iinc 4 1, 3) := by decide +kernel
theorem dX10_swapCoordinates_71 : decode cX10_swapCoordinates 71 = .ok (.goto (-54), 3) := by decide +kernel
theorem dX10_swapCoordinates_74 : decode cX10_swapCoordinates 74 = .ok (.iload_n 1, 1) := by decide +kernel
theorem dX10_swapCoordinates_75 : decode cX10_swapCoordinates 75 = .ok (.ifCond .eq 11, 3) := by decide +kernel
theorem dX10_swapCoordinates_78 : decode cX10_swapCoordinates 78 = .ok (.iload_n 3, 1) := by decide +kernel
theorem dX10_swapCoordinates_79 : decode cX10_swapCoordinates 79 = .ok (.ifCond .eq 7, 3) := by decide +kernel
theorem dX10_swapCoordinates_82 : decode cX10_swapCoordinates 82 = .ok (.iconst 1, 1) := by decide +kernel
theorem dX10_swapCoordinates_83 : decode cX10_swapCoordinates 83 = .ok (.goto 4, 3) := by decide +kernel
theorem dX10_swapCoordinates_86 : decode cX10_swapCoordinates 86 = .ok (.iconst 0, 1) := by decide +kernel
theorem dX10_swapCoordinates_87 : decode cX10_swapCoordinates 87 = .ok (.istore_n 1, 1) := by decide +kernel
theorem dX10_swapCoordinates_88 : decode cX10_swapCoordinates 88 = .ok (.iinc 2 1, 3) := by decide +kernel
theorem dX10_swapCoordinates_91 : decode cX10_swapCoordinates 91 = .ok (.goto (-87), 3) := by decide +kernel
theorem dX10_swapCoordinates_94 : decode cX10_swapCoordinates 94 = .ok (.iconst 0, 1) := by decide +kernel
theorem dX10_swapCoordinates_95 : decode cX10_swapCoordinates 95 = .ok (.istore_n 2, 1) := by decide +kernel
theorem dX10_swapCoordinates_96 : decode cX10_swapCoordinates 96 = .ok (.iload_n 2, 1) := by decide +kernel
theorem dX10_swapCoordinates_97 : decode cX10_swapCoordinates 97 = .ok (.aload_n 0, 1) := by decide +kernel
theorem dX10_swapCoordinates_98 : decode cX10_swapCoordinates 98 = .ok (.getfield 111, 3) := by decide +kernel
theorem dX10_swapCoordinates_101 : decode cX10_swapCoordinates 101 = .ok (.if_icmp .ge 35, 3) := by decide +kernel
theorem dX10_swapCoordinates_104 : decode cX10_swapCoordinates 104 = .ok (.aload_n 0, 1) := by decide +kernel
theorem dX10_swapCoordinates_105 : decode cX10_swapCoordinates 105 = .ok (.getfield 13, 3) := by decide +kernel
theorem dX10_swapCoordinates_108 : decode cX10_swapCoordinates 108 = .ok (.iload_n 2, 1) := by decide +kernel
theorem dX10_swapCoordinates_109 : decode cX10_swapCoordinates 109 = .ok (.iaload, 1) := by decide +kernel
theorem dX10_swapCoordinates_110 : decode cX10_swapCoordinates 110 = .ok (.istore_n 3, 1) := by decide +kernel
theorem dX10_swapCoordinates_111 : decode cX10_swapCoordinates 111 = .ok (.aload_n 0, 1) := by decide +kernel
theorem dX10_swapCoordinates_112 : decode cX10_swapCoordinates 112 = .ok (.getfield 13, 3) := by decide +kernel
theorem dX10_swapCoordinates_115 : decode cX10_swapCoordinates 115 = .ok (.iload_n 2, 1) := by decide +kernel
theorem dX10_swapCoordinates_116 : decode cX10_swapCoordinates 116 = .ok (.aload_n 0, 1) := by decide +kernel
theorem dX10_swapCoordinates_117 : decode cX10_swapCoordinates 117 = .ok (.getfield 17, 3) := by decide +kernel
theorem dX10_swapCoordinates_120 : decode cX10_swapCoordinates 120 = .ok (.iload_n 2, 1) := by decide +kernel
theorem dX10_swapCoordinates_121 : decode cX10_swapCoordinates 121 = .ok (.iaload, 1) := by decide +kernel
theorem dX10_swapCoordinates_122 : decode cX10_swapCoordinates 122 = .ok (.iastore, 1) := by decide +kernel
theorem dX10_swapCoordinates_123 : decode cX10_swapCoordinates 123 = .ok (.aload_n 0, 1) := by decide +kernel
theorem dX10_swapCoordinates_124 : decode cX10_swapCoordinates 124 = .ok (.getfield 17, 3) := by decide +kernel
theorem dX10_swapCoordinates_127 : decode cX10_swapCoordinates 127 = .ok (.iload_n 2, 1) := by decide +kernel
theorem dX10_swapCoordinates_128 : decode cX10_swapCoordinates 128 = .ok (.iload_n 3, 1) := by decide +kernel
theorem dX10_swapCoordinates_129 : decode cX10_swapCoordinates 129 = .ok (.iastore, 1) := by decide +kernel
theorem dX10_swapCoordinates_130 : decode cX10_swapCoordinates 130 = .ok (.iinc 2 1, 3) := by decide +kernel
theorem dX10_swapCoordinates_133 : decode cX10_swapCoordinates 133 = .ok (.goto (-37), 3) := by decide +kernel
theorem dX10_swapCoordinates_136 : decode cX10_swapCoordinates 136 = .ok (.aload_n 0, 1) := by decide +kernel
theorem dX10_swapCoordinates_137 : decode cX10_swapCoordinates 137 = .ok (.iconst 0, 1) := by decide +kernel
theorem dX10_swapCoordinates_138 : decode cX10_swapCoordinates 138 = .ok (.putfield 122, 3) := by decide +kernel
theorem dX10_swapCoordinates_141 : decode cX10_swapCoordinates 141 = .ok (.iload_n 1, 1) := by decide +kernel
theorem dX10_swapCoordinates_142 : decode cX10_swapCoordinates 142 = .ok (.ifCond .eq 7, 3) := by decide +kernel
theorem dX10_swapCoordinates_145 : decode cX10_swapCoordinates 145 = .ok (.iconst 1, 1) := by decide +kernel
theorem dX10_swapCoordinates_146 : decode cX10_swapCoordinates 146 = .ok (.goto 4, 3) := by decide +kernel
theorem dX10_swapCoordinates_149 : decode cX10_swapCoordinates 149 = .ok (.iconst 0, 1) := by decide +kernel
theorem dX10_swapCoordinates_150 : decode cX10_swapCoordinates 150 = .ok (.ireturn, 1) := by decide +kernel
theorem dX10_translate_0 : decode cX10_translate 0 = .ok (.iload_n 1, 1) := by decide +kernel
theorem dX10_translate_1 : decode cX10_translate 1 = .ok (.iconst 0, 1) := by decide +kernel
theorem dX10_translate_2 : decode cX10_translate 2 = .ok (.aload_n 0, 1) := by decide +kernel
theorem dX10_translate_3 : decode cX10_translate 3 = .ok (.getfield 7, 3) := by decide +kernel
theorem dX10_translate_6 : decode cX10_translate 6 = .ok (.iconst 1, 1) := by decide +kernel
theorem dX10_translate_7 : decode cX10_translate 7 = .ok (.isub, 1) := by decide +kernel
theorem dX10_translate_8 : decode cX10_translate 8 = .ok (.invokestatic 114, 3) := by decide +kernel
theorem dX10_translate_11 : decode cX10_translate 11 = .ok (.ifCond .eq 17, 3) := by decide +kernel
theorem dX10_translate_14 : decode cX10_translate 14 = .ok (.iload_n 2, 1) := by decide +kernel
theorem dX10_translate_15 : decode cX10_translate 15 = .ok (.iconst 0, 1) := by decide +kernel
theorem dX10_translate_16 : decode cX10_translate 16 = .ok (.aload_n 0, 1) := by decide +kernel
theorem dX10_translate_17 : decode cX10_translate 17 = .ok (.getfield 7, 3) := by decide +kernel
theorem dX10_translate_20 : decode cX10_translate 20 = .ok (.iconst 1, 1) := by decide +kernel
theorem dX10_translate_21 : decode cX10_translate 21 = .ok (.isub, 1) := by decide +kernel
theorem dX10_translate_22 : decode cX10_translate 22 = .ok (.invokestatic 114, 3) := by decide +kernel
theorem dX10_translate_25 : decode cX10_translate 25 = .ok (.ifCond .ne 6, 3) := by decide +kernel
theorem dX10_translate_28 : decode cX10_translate 28 = .ok (.bipush (-2), 2) := by decide +kernel
theorem dX10_translate_30 : decode cX10_translate 30 = .ok (.ireturn, 1) := by decide +kernel
theorem dX10_translate_31 : decode cX10_translate 31 = .ok (.iconst 0, 1) := by decide +kernel
theorem dX10_translate_32 : decode cX10_translate 32 = .ok (.istore_n 3, 1) := by decide +kernel
theorem dX10_translate_33 : decode cX10_translate 33 = .ok (.iload_n 3, 1) := by decide +kernel
theorem dX10_translate_34 : decode cX10_translate 34 = .ok (.aload_n 0, 1) := by decide +kernel
theorem dX10_translate_35 : decode cX10_translate 35 = .ok (.getfield 111, 3) := by decide +kernel
theorem dX10_translate_38 : decode cX10_translate 38 = .ok (.if_icmp .ge 47, 3) := by decide +kernel
theorem dX10_translate_41 : decode cX10_translate 41 = .ok (.aload_n 0, 1) := by decide +kernel
theorem dX10_translate_42 : decode cX10_translate 42 = .ok (.getfield 13, 3) := by decide +kernel
theorem dX10_translate_45 : decode cX10_translate 45 = .ok (.iload_n 3, 1) := by decide +kernel
theorem dX10_translate_46 : decode cX10_translate 46 = .ok (.aload_n 0, 1) := by decide +kernel
theorem dX10_translate_47 : decode cX10_translate 47 = .ok (.getfield 13, 3) := by decide +kernel
theorem dX10_translate_50 : decode cX10_translate 50 = .ok (.iload_n 3, 1) := by decide +kernel
theorem dX10_translate_51 : decode cX10_translate 51 = .ok (.iaload, 1) := by decide +kernel
theorem dX10_translate_52 : decode cX10_translate 52 = .ok (.iload_n 1, 1) := by decide +kernel
theorem dX10_translate_53 : decode cX10_translate 53 = .ok (.iadd, 1) := by decide +kernel
theorem dX10_translate_54 : decode cX10_translate 54 = .ok (.aload_n 0, 1) := by decide +kernel
theorem dX10_translate_55 : decode cX10_translate 55 = .ok (.getfield 7, 3) := by decide +kernel
theorem dX10_translate_58 : decode cX10_translate 58 = .ok (.irem, 1) := by decide +kernel
theorem dX10_translate_59 : decode cX10_translate 59 = .ok (.iastore, 1) := by decide +kernel
theorem dX10_translate_60 : decode cX10_translate 60 = .ok (.aload_n 0, 1) := by decide +kernel
theorem dX10_translate_61 : decode cX10_translate 61 = .ok (.getfield 17, 3) := by decide +kernel
theorem dX10_translate_64 : decode cX10_translate 64 = .ok (.iload_n 3, 1) := by decide +kernel
theorem dX10_translate_65 : decode cX10_translate 65 = .ok (.aload_n 0, 1) := by decide +kernel
theorem dX10_translate_66 : decode cX10_translate 66 = .ok (.getfield 17, 3) := by decide +kernel
theorem dX10_translate_69 : decode cX10_translate 69 = .ok (.iload_n 3, 1) := by decide +kernel
theorem dX10_translate_70 : decode cX10_translate 70 = .ok (.iaload, 1) := by decide +kernel
theorem dX10_translate_71 : decode cX10_translate 71 = .ok (.iload_n 2, 1) := by decide +kernel
theorem dX10_translate_72 : decode cX10_translate 72 = .ok (.iadd, 1) := by decide +kernel
theorem dX10_translate_73 : decode cX10_translate 73 = .ok (.aload_n 0, 1) := by decide +kernel
theorem dX10_translate_74 : decode cX10_translate 74 = .ok (.getfield 7, 3) := by decide +kernel
theorem dX10_translate_77 : decode cX10_translate 77 = .ok (.irem, 1) := by decide +kernel
theorem dX10_translate_78 : decode cX10_translate 78 = .ok (.iastore, 1) := by decide +kernel
theorem dX10_translate_79 : decode cX10_translate 79 = .ok (.iinc 3 1, 3) := by decide +kernel
theorem dX10_translate_82 : decode cX10_translate 82 = .ok (.goto (-49), 3) := by decide +kernel
theorem dX10_translate_85 : decode cX10_translate 85 = .ok (.aload_n 0, 1) := by decide +kernel
theorem dX10_translate_86 : decode cX10_translate 86 = .ok (.iconst 0, 1) := by decide +kernel
theorem dX10_translate_87 : decode cX10_translate 87 = .ok (.putfield 122, 3) := by decide +kernel
theorem dX10_translate_90 : decode cX10_translate 90 = .ok (.aload_n 0, 1) := by decide +kernel
theorem dX10_translate_91 : decode cX10_translate 91 = .ok (.getfield 111, 3) := by decide +kernel
theorem dX10_translate_94 : decode cX10_translate 94 = .ok (.ireturn, 1) := by decide +kernel
theorem dX10_scale_0 : decode cX10_scale 0 = .ok (.iload_n 1, 1) := by decide +kernel
theorem dX10_scale_1 : decode cX10_scale 1 = .ok (.iconst 1, 1) := by decide +kernel
theorem dX10_scale_2 : decode cX10_scale 2 = .ok (.aload_n 0, 1) := by decide +kernel
theorem dX10_scale_3 : decode cX10_scale 3 = .ok (.getfield 7, 3) := by decide +kernel
theorem dX10_scale_6 : decode cX10_scale 6 = .ok (.iconst 1, 1) := by decide +kernel
theorem dX10_scale_7 : decode cX10_scale 7 = .ok (.isub, 1) := by decide +kernel
theorem dX10_scale_8 : decode cX10_scale 8 = .ok (.invokestatic 114, 3) := by decide +kernel
theorem dX10_scale_11 : decode cX10_scale 11 = .ok (.ifCond .eq 17, 3) := by decide +kernel
theorem dX10_scale_14 : decode cX10_scale 14 = .ok (.iload_n 2, 1) := by decide +kernel
theorem dX10_scale_15 : decode cX10_scale 15 = .ok (.iconst 1, 1) := by decide +kernel
theorem dX10_scale_16 : decode cX10_scale 16 = .ok (.aload_n 0, 1) := by decide +kernel
theorem dX10_scale_17 : decode cX10_scale 17 = .ok (.getfield 7, 3) := by decide +kernel
theorem dX10_scale_20 : decode cX10_scale 20 = .ok (.iconst 1, 1) := by decide +kernel
theorem dX10_scale_21 : decode cX10_scale 21 = .ok (.isub, 1) := by decide +kernel
theorem dX10_scale_22 : decode cX10_scale 22 = .ok (.invokestatic 114, 3) := by decide +kernel
theorem dX10_scale_25 : decode cX10_scale 25 = .ok (.ifCond .ne 6, 3) := by decide +kernel
theorem dX10_scale_28 : decode cX10_scale 28 = .ok (.bipush (-2), 2) := by decide +kernel
theorem dX10_scale_30 : decode cX10_scale 30 = .ok (.ireturn, 1) := by decide +kernel
theorem dX10_scale_31 : decode cX10_scale 31 = .ok (.iconst 0, 1) := by decide +kernel
theorem dX10_scale_32 : decode cX10_scale 32 = .ok (.istore_n 3, 1) := by decide +kernel
theorem dX10_scale_33 : decode cX10_scale 33 = .ok (.iload_n 3, 1) := by decide +kernel
theorem dX10_scale_34 : decode cX10_scale 34 = .ok (.aload_n 0, 1) := by decide +kernel
theorem dX10_scale_35 : decode cX10_scale 35 = .ok (.getfield 111, 3) := by decide +kernel
theorem dX10_scale_38 : decode cX10_scale 38 = .ok (.if_icmp .ge 47, 3) := by decide +kernel
theorem dX10_scale_41 : decode cX10_scale 41 = .ok (.aload_n 0, 1) := by decide +kernel
theorem dX10_scale_42 : decode cX10_scale 42 = .ok (.getfield 13, 3) := by decide +kernel
theorem dX10_scale_45 : decode cX10_scale 45 = .ok (.iload_n 3, 1) := by decide +kernel
theorem dX10_scale_46 : decode cX10_scale 46 = .ok (.aload_n 0, 1) := by decide +kernel
theorem dX10_scale_47 : decode cX10_scale 47 = .ok (.getfield 13, 3) := by decide +kernel
theorem dX10_scale_50 : decode cX10_scale 50 = .ok (.iload_n 3, 1) := by decide +kernel
theorem dX10_scale_51 : decode cX10_scale 51 = .ok (.iaload, 1) := by decide +kernel
theorem dX10_scale_52 : decode cX10_scale 52 = .ok (.iload_n 1, 1) := by decide +kernel
theorem dX10_scale_53 : decode cX10_scale 53 = .ok (.imul, 1) := by decide +kernel
theorem dX10_scale_54 : decode cX10_scale 54 = .ok (.aload_n 0, 1) := by decide +kernel
theorem dX10_scale_55 : decode cX10_scale 55 = .ok (.getfield 7, 3) := by decide +kernel
theorem dX10_scale_58 : decode cX10_scale 58 = .ok (.irem, 1) := by decide +kernel
theorem dX10_scale_59 : decode cX10_scale 59 = .ok (.iastore, 1) := by decide +kernel
theorem dX10_scale_60 : decode cX10_scale 60 = .ok (.aload_n 0, 1) := by decide +kernel
theorem dX10_scale_61 : decode cX10_scale 61 = .ok (.getfield 17, 3) := by decide +kernel
theorem dX10_scale_64 : decode cX10_scale 64 = .ok (.iload_n 3, 1) := by decide +kernel
theorem dX10_scale_65 : decode cX10_scale 65 = .ok (.aload_n 0, 1) := by decide +kernel
theorem dX10_scale_66 : decode cX10_scale 66 = .ok (.getfield 17, 3) := by decide +kernel
theorem dX10_scale_69 : decode cX10_scale 69 = .ok (.iload_n 3, 1) := by decide +kernel
theorem dX10_scale_70 : decode cX10_scale 70 = .ok (.iaload, 1) := by decide +kernel
theorem dX10_scale_71 : decode cX10_scale 71 = .ok (.iload_n 2, 1) := by decide +kernel
theorem dX10_scale_72 : decode cX10_scale 72 = .ok (.imul, 1) := by decide +kernel
theorem dX10_scale_73 : decode cX10_scale 73 = .ok (.aload_n 0, 1) := by decide +kernel
theorem dX10_scale_74 : decode cX10_scale 74 = .ok (.getfield 7, 3) := by decide +kernel
theorem dX10_scale_77 : decode cX10_scale 77 = .ok (.irem, 1) := by decide +kernel
theorem dX10_scale_78 : decode cX10_scale 78 = .ok (.iastore, 1) := by decide +kernel
theorem dX10_scale_79 : decode cX10_scale 79 = .ok (.iinc 3 1, 3) := by decide +kernel
theorem dX10_scale_82 : decode cX10_scale 82 = .ok (.goto (-49), 3) := by decide +kernel
theorem dX10_scale_85 : decode cX10_scale 85 = .ok (.aload_n 0, 1) := by decide +kernel
theorem dX10_scale_86 : decode cX10_scale 86 = .ok (.iconst 0, 1) := by decide +kernel
theorem dX10_scale_87 : decode cX10_scale 87 = .ok (.putfield 122, 3) := by decide +kernel
theorem dX10_scale_90 : decode cX10_scale 90 = .ok (.aload_n 0, 1) := by decide +kernel
theorem dX10_scale_91 : decode cX10_scale 91 = .ok (.getfield 111, 3) := by decide +kernel
theorem dX10_scale_94 : decode cX10_scale 94 = .ok (.ireturn, 1) := by decide +kernel
theorem dX10_isGreater_0 : decode cX10_isGreater 0 = .ok (.iload_n 0, 1) := by decide +kernel
theorem dX10_isGreater_1 : decode cX10_isGreater 1 = .ok (.bipush 9, 2) := by decide +kernel
theorem dX10_isGreater_3 : decode cX10_isGreater 3 = .ok (.idiv, 1) := by decide +kernel
theorem dX10_isGreater_4 : decode cX10_isGreater 4 = .ok (.istore 5, 2) := by decide +kernel
theorem dX10_isGreater_6 : decode cX10_isGreater 6 = .ok (.iload_n 0, 1) := by decide +kernel
theorem dX10_isGreater_7 : decode cX10_isGreater 7 = .ok (.bipush 9, 2) := by decide +kernel
theorem dX10_isGreater_9 : decode cX10_isGreater 9 = .ok (.irem, 1) := by decide +kernel
theorem dX10_isGreater_10 : decode cX10_isGreater 10 = .ok (.istore 6, 2) := by decide +kernel
theorem dX10_isGreater_12 : decode cX10_isGreater 12 = .ok (.iload_n 1, 1) := by decide +kernel
theorem dX10_isGreater_13 : decode cX10_isGreater 13 = .ok (.bipush 9, 2) := by decide +kernel
theorem dX10_isGreater_15 : decode cX10_isGreater 15 = .ok (.idiv, 1) := by decide +kernel
theorem dX10_isGreater_16 : decode cX10_isGreater 16 = .ok (.istore 7, 2) := by decide +kernel
theorem dX10_isGreater_18 : decode cX10_isGreater 18 = .ok (.iload_n 1, 1) := by decide +kernel
theorem dX10_isGreater_19 : decode cX10_isGreater 19 = .ok (.bipush 9, 2) := by decide +kernel
theorem dX10_isGreater_21 : decode cX10_isGreater 21 = .ok (.irem, 1) := by decide +kernel
theorem dX10_isGreater_22 : decode cX10_isGreater 22 = .ok (.istore 8, 2) := by decide +kernel
theorem dX10_isGreater_24 : decode cX10_isGreater 24 = .ok (.iload_n 2, 1) := by decide +kernel
theorem dX10_isGreater_25 : decode cX10_isGreater 25 = .ok (.iload 5, 2) := by decide +kernel
theorem dX10_isGreater_27 : decode cX10_isGreater 27 = .ok (.iload 7, 2) := by decide +kernel
theorem dX10_isGreater_29 : decode cX10_isGreater 29 = .ok (.isub, 1) := by decide +kernel
theorem dX10_isGreater_30 : decode cX10_isGreater 30 = .ok (.imul, 1) := by decide +kernel
theorem dX10_isGreater_31 : decode cX10_isGreater 31 = .ok (.iload_n 3, 1) := by decide +kernel
theorem dX10_isGreater_32 : decode cX10_isGreater 32 = .ok (.iload 6, 2) := by decide +kernel
theorem dX10_isGreater_34 : decode cX10_isGreater 34 = .ok (.iload 8, 2) := by decide +kernel
theorem dX10_isGreater_36 : decode cX10_isGreater 36 = .ok (.isub, 1) := by decide +kernel
theorem dX10_isGreater_37 : decode cX10_isGreater 37 = .ok (.imul, 1) := by decide +kernel
theorem dX10_isGreater_38 : decode cX10_isGreater 38 = .ok (.iadd, 1) := by decide +kernel
theorem dX10_isGreater_39 : decode cX10_isGreater 39 = .ok (.istore 9, 2) := by decide +kernel
theorem dX10_isGreater_41 : decode cX10_isGreater 41 = .ok (.iload 9, 2) := by decide +kernel
theorem dX10_isGreater_43 : decode cX10_isGreater 43 = .ok (.ifCond .eq 14, 3) := by decide +kernel
theorem dX10_isGreater_46 : decode cX10_isGreater 46 = .ok (.iload 9, 2) := by decide +kernel
theorem dX10_isGreater_48 : decode cX10_isGreater 48 = .ok (.ifCond .le 7, 3) := by decide +kernel
theorem dX10_isGreater_51 : decode cX10_isGreater 51 = .ok (.iconst 1, 1) := by decide +kernel
theorem dX10_isGreater_52 : decode cX10_isGreater 52 = .ok (.goto 4, 3) := by decide +kernel
theorem dX10_isGreater_55 : decode cX10_isGreater 55 = .ok (.iconst 0, 1) := by decide +kernel
theorem dX10_isGreater_56 : decode cX10_isGreater 56 = .ok (.ireturn, 1) := by decide +kernel
theorem dX10_isGreater_57 : decode cX10_isGreater 57 = .ok (.iload 4, 2) := by decide +kernel
theorem dX10_isGreater_59 : decode cX10_isGreater 59 = .ok (.ifCond .ne 32, 3) := by decide +kernel
theorem dX10_isGreater_62 : decode cX10_isGreater 62 = .ok (.iload 5, 2) := by decide +kernel
theorem dX10_isGreater_64 : decode cX10_isGreater 64 = .ok (.iload 7, 2) := by decide +kernel
theorem dX10_isGreater_66 : decode cX10_isGreater 66 = .ok (.if_icmp .gt 17, 3) := by decide +kernel
theorem dX10_isGreater_69 : decode cX10_isGreater 69 = .ok (.iload 5, 2) := by decide +kernel
theorem dX10_isGreater_71 : decode cX10_isGreater 71 = .ok (.iload 7, 2) := by decide +kernel
theorem dX10_isGreater_73 : decode cX10_isGreater 73 = .ok (.if_icmp .ne 14, 3) := by decide +kernel
theorem dX10_isGreater_76 : decode cX10_isGreater 76 = .ok (.iload 6, 2) := by decide +kernel
theorem dX10_isGreater_78 : decode cX10_isGreater 78 = .ok (.iload 8, 2) := by decide +kernel
theorem dX10_isGreater_80 : decode cX10_isGreater 80 = .ok (.if_icmp .le 7, 3) := by decide +kernel
theorem dX10_isGreater_83 : decode cX10_isGreater 83 = .ok (.iconst 1, 1) := by decide +kernel
theorem dX10_isGreater_84 : decode cX10_isGreater 84 = .ok (.goto 33, 3) := by decide +kernel
theorem dX10_isGreater_87 : decode cX10_isGreater 87 = .ok (.iconst 0, 1) := by decide +kernel
theorem dX10_isGreater_88 : decode cX10_isGreater 88 = .ok (.goto 29, 3) := by decide +kernel
theorem dX10_isGreater_91 : decode cX10_isGreater 91 = .ok (.iload 6, 2) := by decide +kernel
theorem dX10_isGreater_93 : decode cX10_isGreater 93 = .ok (.iload 8, 2) := by decide +kernel
theorem dX10_isGreater_95 : decode cX10_isGreater 95 = .ok (.if_icmp .gt 17, 3) := by decide +kernel
theorem dX10_isGreater_98 : decode cX10_isGreater 98 = .ok (.iload 6, 2) := by decide +kernel
theorem dX10_isGreater_100 : decode cX10_isGreater 100 = .ok (.iload 8, 2) := by decide +kernel
theorem dX10_isGreater_102 : decode cX10_isGreater 102 = .ok (.if_icmp .ne 14, 3) := by decide +kernel
theorem dX10_isGreater_105 : decode cX10_isGreater 105 = .ok (.iload 5, 2) := by decide +kernel
theorem dX10_isGreater_107 : decode cX10_isGreater 107 = .ok (.iload 7, 2) := by decide +kernel
theorem dX10_isGreater_109 : decode cX10_isGreater 109 = .ok (.if_icmp .le 7, 3) := by decide +kernel
theorem dX10_isGreater_112 : decode cX10_isGreater 112 = .ok (.iconst 1, 1) := by decide +kernel
theorem dX10_isGreater_113 : decode cX10_isGreater 113 = .ok (.goto 4, 3) := by decide +kernel
theorem dX10_isGreater_116 : decode cX10_isGreater 116 = .ok (.iconst 0, 1) := by decide +kernel
theorem dX10_isGreater_117 : decode cX10_isGreater 117 = .ok (.ireturn, 1) := by decide +kernel
theorem dX10_sort_0 : decode cX10_sort 0 = .ok (.iconst 0, 1) := by decide +kernel
theorem dX10_sort_1 : decode cX10_sort 1 = .ok (.istore 4, 2) := by decide +kernel
theorem dX10_sort_3 : decode cX10_sort 3 = .ok (.iload 4, 2) := by decide +kernel
theorem dX10_sort_5 : decode cX10_sort 5 = .ok (.bipush 81, 2) := by decide +kernel
theorem dX10_sort_7 : decode cX10_sort 7 = .ok (.if_icmp .ge 69, 3) := by decide +kernel
theorem dX10_sort_10 : decode cX10_sort 10 = .ok (.iload 4, 2) := by decide +kernel
theorem dX10_sort_12 : decode cX10_sort 12 = .ok (.istore 5, 2) := by decide +kernel
theorem dX10_sort_14 : decode cX10_sort 14 = .ok (.iload 5, 2) := by decide +kernel
theorem dX10_sort_16 : decode cX10_sort 16 = .ok (.ifCond .le 45, 3) := by decide +kernel
theorem dX10_sort_19 : decode cX10_sort 19 = .ok (.aload_n 0, 1) := by decide +kernel
theorem dX10_sort_20 : decode cX10_sort 20 = .ok (.getfield 23, 3) := by decide +kernel
theorem dX10_sort_23 : decode cX10_sort 23 = .ok (.iload 5, 2) := by decide +kernel
theorem dX10_sort_25 : decode cX10_sort 25 = .ok (.iconst 1, 1) := by decide +kernel
theorem dX10_sort_26 : decode cX10_sort 26 = .ok (.isub, 1) := by decide +kernel
theorem dX10_sort_27 : decode cX10_sort 27 = .ok (.iaload, 1) := by decide +kernel
theorem dX10_sort_28 : decode cX10_sort 28 = .ok (.iload 4, 2) := by decide +kernel
theorem dX10_sort_30 : decode cX10_sort 30 = .ok (.iload_n 1, 1) := by decide +kernel
theorem dX10_sort_31 : decode cX10_sort 31 = .ok (.iload_n 2, 1) := by decide +kernel
theorem dX10_sort_32 : decode cX10_sort 32 = .ok (.iload_n 3, 1) := by decide +kernel
theorem dX10_sort_33 : decode cX10_sort 33 = .ok (.invokestatic 132, 3) := by decide +kernel
theorem dX10_sort_36 : decode cX10_sort 36 = .ok (.ifCond .eq 25, 3) := by decide +kernel
theorem dX10_sort_39 : decode cX10_sort 39 = .ok (.aload_n 0, 1) := by decide +kernel
theorem dX10_sort_40 : decode cX10_sort 40 = .ok (.getfield 23, 3) := by decide +kernel
theorem dX10_sort_43 : decode cX10_sort 43 = .ok (.iload 5, 2) := by decide +kernel
theorem dX10_sort_45 : decode cX10_sort 45 = .ok (.aload_n 0, 1) := by decide +kernel
theorem dX10_sort_46 : decode cX10_sort 46 = .ok (.getfield 23, 3) := by decide +kernel
theorem dX10_sort_49 : decode cX10_sort 49 = .ok (.iload 5, 2) := by decide +kernel
theorem dX10_sort_51 : decode cX10_sort 51 = .ok (.iconst 1, 1) := by decide +kernel
theorem dX10_sort_52 : decode cX10_sort 52 = .ok (.isub, 1) := by decide +kernel
theorem dX10_sort_53 : decode cX10_sort 53 = .ok (.iaload, 1) := by decide +kernel
theorem dX10_sort_54 : decode cX10_sort 54 = .ok (.iastore, 1) := by decide +kernel
theorem dX10_sort_55 : decode cX10_sort 55 = .ok (.iinc 5 (-1), 3) := by decide +kernel
theorem dX10_sort_58 : decode cX10_sort 58 = .ok (.goto (-44), 3) := by decide +kernel
theorem dX10_sort_61 : decode cX10_sort 61 = .ok (.aload_n 0, 1) := by decide +kernel
theorem dX10_sort_62 : decode cX10_sort 62 = .ok (.getfield 23, 3) := by decide +kernel
theorem dX10_sort_65 : decode cX10_sort 65 = .ok (.iload 5, 2) := by decide +kernel
theorem dX10_sort_67 : decode cX10_sort 67 = .ok (.iload 4, 2) := by decide +kernel
theorem dX10_sort_69 : decode cX10_sort 69 = .ok (.iastore, 1) := by decide +kernel
theorem dX10_sort_70 : decode cX10_sort 70 = .ok (.iinc 4 1, 3) := by decide +kernel
theorem dX10_sort_73 : decode cX10_sort 73 = .ok (.goto (-70), 3) := by decide +kernel
theorem dX10_sort_76 : decode cX10_sort 76 = .ok (.return_, 1) := by decide +kernel
theorem dX10_reduce_0 : decode cX10_reduce 0 = .ok (.iconst 0, 1) := by decide +kernel
theorem dX10_reduce_1 : decode cX10_reduce 1 = .ok (.istore_n 2, 1) := by decide +kernel
theorem dX10_reduce_2 : decode cX10_reduce 2 = .ok (.iload_n 2, 1) := by decide +kernel
theorem dX10_reduce_3 : decode cX10_reduce 3 = .ok (.aload_n 0, 1) := by decide +kernel
theorem dX10_reduce_4 : decode cX10_reduce 4 = .ok (.getfield 111, 3) := by decide +kernel
theorem dX10_reduce_7 : decode cX10_reduce 7 = .ok (.if_icmp .ge 56, 3) := by decide +kernel
theorem dX10_reduce_10 : decode cX10_reduce 10 = .ok (.aload_n 0, 1) := by decide +kernel
theorem dX10_reduce_11 : decode cX10_reduce 11 = .ok (.getfield 42, 3) := by decide +kernel
theorem dX10_reduce_14 : decode cX10_reduce 14 = .ok (.iload_n 2, 1) := by decide +kernel
theorem dX10_reduce_15 : decode cX10_reduce 15 = .ok (.aload_n 0, 1) := by decide +kernel
theorem dX10_reduce_16 : decode cX10_reduce 16 = .ok (.aload_n 0, 1) := by decide +kernel
theorem dX10_reduce_17 : decode cX10_reduce 17 = .ok (.getfield 13, 3) := by decide +kernel
theorem dX10_reduce_20 : decode cX10_reduce 20 = .ok (.iload_n 2, 1) := by decide +kernel
theorem dX10_reduce_21 : decode cX10_reduce 21 = .ok (.iaload, 1) := by decide +kernel
theorem dX10_reduce_22 : decode cX10_reduce 22 = .ok (.iload_n 1, 1) := by decide +kernel
theorem dX10_reduce_23 : decode cX10_reduce 23 = .ok (.bipush 9, 2) := by decide +kernel
theorem dX10_reduce_25 : decode cX10_reduce 25 = .ok (.idiv, 1) := by decide +kernel
theorem dX10_reduce_26 : decode cX10_reduce 26 = .ok (.invokevirtual 136, 3) := by decide +kernel
theorem dX10_reduce_29 : decode cX10_reduce 29 = .ok (.aload_n 0, 1) := by decide +kernel
theorem dX10_reduce_30 : decode cX10_reduce 30 = .ok (.aload_n 0, 1) := by decide +kernel
theorem dX10_reduce_31 : decode cX10_reduce 31 = .ok (.getfield 17, 3) := by decide +kernel
theorem dX10_reduce_34 : decode cX10_reduce 34 = .ok (.iload_n 2, 1) := by decide +kernel
theorem dX10_reduce_35 : decode cX10_reduce 35 = .ok (.iaload, 1) := by decide +kernel
theorem dX10_reduce_36 : decode cX10_reduce 36 = .ok (.iload_n 1, 1) := by decide +kernel
theorem dX10_reduce_37 : decode cX10_reduce 37 = .ok (.bipush 9, 2) := by decide +kernel
theorem dX10_reduce_39 : decode cX10_reduce 39 = .ok (.irem, 1) := by decide +kernel
theorem dX10_reduce_40 : decode cX10_reduce 40 = .ok (.invokevirtual 136, 3) := by decide +kernel
theorem dX10_reduce_43 : decode cX10_reduce 43 = .ok (.imul, 1) := by decide +kernel
theorem dX10_reduce_44 : decode cX10_reduce 44 = .ok (.aload_n 0, 1) := by decide +kernel
theorem dX10_reduce_45 : decode cX10_reduce 45 = .ok (.getfield 7, 3) := by decide +kernel
theorem dX10_reduce_48 : decode cX10_reduce 48 = .ok (.irem, 1) := by decide +kernel
theorem dX10_reduce_49 : decode cX10_reduce 49 = .ok (.iastore, 1) := by decide +kernel
theorem dX10_reduce_50 : decode cX10_reduce 50 = .ok (.aload_n 0, 1) := by decide +kernel
theorem dX10_reduce_51 : decode cX10_reduce 51 = .ok (.getfield 45, 3) := by decide +kernel
theorem dX10_reduce_54 : decode cX10_reduce 54 = .ok (.iload_n 2, 1) := by decide +kernel
theorem dX10_reduce_55 : decode cX10_reduce 55 = .ok (.iconst 0, 1) := by decide +kernel
theorem dX10_reduce_56 : decode cX10_reduce 56 = .ok (.iastore, 1) := by decide +kernel
theorem dX10_reduce_57 : decode cX10_reduce 57 = .ok (.iinc 2 1, 3) := by decide +kernel
theorem dX10_reduce_60 : decode cX10_reduce 60 = .ok (.goto (-58), 3) := by decide +kernel
theorem dX10_reduce_63 : decode cX10_reduce 63 = .ok (.iconst 0, 1) := by decide +kernel
theorem dX10_reduce_64 : decode cX10_reduce 64 = .ok (.istore_n 2, 1) := by decide +kernel
theorem dX10_reduce_65 : decode cX10_reduce 65 = .ok (.iload_n 2, 1) := by decide +kernel
theorem dX10_reduce_66 : decode cX10_reduce 66 = .ok (.aload_n 0, 1) := by decide +kernel
theorem dX10_reduce_67 : decode cX10_reduce 67 = .ok (.getfield 140, 3) := by decide +kernel
theorem dX10_reduce_70 : decode cX10_reduce 70 = .ok (.if_icmp .ge 127, 3) := by decide +kernel
theorem dX10_reduce_73 : decode cX10_reduce 73 = .ok (.aload_n 0, 1) := by decide +kernel
theorem dX10_reduce_74 : decode cX10_reduce 74 = .ok (.getfield 42, 3) := by decide +kernel
theorem dX10_reduce_77 : decode cX10_reduce 77 = .ok (.aload_n 0, 1) := by decide +kernel
theorem dX10_reduce_78 : decode cX10_reduce 78 = .ok (.getfield 39, 3) := by decide +kernel
theorem dX10_reduce_81 : decode cX10_reduce 81 = .ok (.iload_n 2, 1) := by decide +kernel
theorem dX10_reduce_82 : decode cX10_reduce 82 = .ok (.iaload, 1) := by decide +kernel
theorem dX10_reduce_83 : decode cX10_reduce 83 = .ok (.iaload, 1) := by decide +kernel
theorem dX10_reduce_84 : decode cX10_reduce 84 = .ok (.istore_n 3, 1) := by decide +kernel
theorem dX10_reduce_85 : decode cX10_reduce 85 = .ok (.iconst 0, 1) := by decide +kernel
theorem dX10_reduce_86 : decode cX10_reduce 86 = .ok (.istore 4, 2) := by decide +kernel
theorem dX10_reduce_88 : decode cX10_reduce 88 = .ok (.iload 4, 2) := by decide +kernel
theorem dX10_reduce_90 : decode cX10_reduce 90 = .ok (.aload_n 0, 1) := by decide +kernel
theorem dX10_reduce_91 : decode cX10_reduce 91 = .ok (.getfield 111, 3) := by decide +kernel
theorem dX10_reduce_94 : decode cX10_reduce 94 = .ok (.if_icmp .ge 45, 3) := by decide +kernel
theorem dX10_reduce_97 : decode cX10_reduce 97 = .ok (.aload_n 0, 1) := by decide +kernel
theorem dX10_reduce_98 : decode cX10_reduce 98 = .ok (.getfield 42, 3) := by decide +kernel
theorem dX10_reduce_101 : decode cX10_reduce 101 = .ok (.iload 4, 2) := by decide +kernel
theorem dX10_reduce_103 : decode cX10_reduce 103 = .ok (.aload_n 0, 1) := by decide +kernel
theorem dX10_reduce_104 : decode cX10_reduce 104 = .ok (.getfield 42, 3) := by decide +kernel
theorem dX10_reduce_107 : decode cX10_reduce 107 = .ok (.iload 4, 2) := by decide +kernel
theorem dX10_reduce_109 : decode cX10_reduce 109 = .ok (.iaload, 1) := by decide +kernel
theorem dX10_reduce_110 : decode cX10_reduce 110 = .ok (.iload_n 3, 1) := by decide +kernel
theorem dX10_reduce_111 : decode cX10_reduce 111 = .ok (.aload_n 0, 1) := by decide +kernel
theorem dX10_reduce_112 : decode cX10_reduce 112 = .ok (.getfield 33, 3) := by decide +kernel
theorem dX10_reduce_115 : decode cX10_reduce 115 = .ok (.bipush 8, 2) := by decide +kernel
theorem dX10_reduce_117 : decode cX10_reduce 117 = .ok (.iload_n 2, 1) := by decide +kernel
theorem dX10_reduce_118 : decode cX10_reduce 118 = .ok (.imul, 1) := by decide +kernel
theorem dX10_reduce_119 : decode cX10_reduce 119 = .ok (.iload 4, 2) := by decide +kernel
theorem dX10_reduce_121 : decode cX10_reduce 121 = .ok (.iadd, 1) := by decide +kernel
theorem dX10_reduce_122 : decode cX10_reduce 122 = .ok (.iaload, 1) := by decide +kernel
theorem dX10_reduce_123 : decode cX10_reduce 123 = .ok (.imul, 1) := by decide +kernel
theorem dX10_reduce_124 : decode cX10_reduce 124 = .ok (.isub, 1) := by decide +kernel
theorem dX10_reduce_125 : decode cX10_reduce 125 = .ok (.aload_n 0, 1) := by decide +kernel
theorem dX10_reduce_126 : decode cX10_reduce 126 = .ok (.getfield 7, 3) := by decide +kernel
theorem dX10_reduce_129 : decode cX10_reduce 129 = .ok (.invokestatic 143, 3) := by decide +kernel
theorem dX10_reduce_132 : decode cX10_reduce 132 = .ok (.iastore, 1) := by decide +kernel
theorem dX10_reduce_133 : decode cX10_reduce 133 = .ok (.iinc 4 1, 3) := by decide +kernel
theorem dX10_reduce_136 : decode cX10_reduce 136 = .ok (.goto (-48), 3) := by decide +kernel
theorem dX10_reduce_139 : decode cX10_reduce 139 = .ok (.iconst 0, 1) := by decide +kernel
theorem dX10_reduce_140 : decode cX10_reduce 140 = .ok (.istore 4, 2) := by decide +kernel
theorem dX10_reduce_142 : decode cX10_reduce 142 = .ok (.iload 4, 2) := by decide +kernel
theorem dX10_reduce_144 : decode cX10_reduce 144 = .ok (.aload_n 0, 1) := by decide +kernel
theorem dX10_reduce_145 : decode cX10_reduce 145 = .ok (.getfield 140, 3) := by decide +kernel
theorem dX10_reduce_148 : decode cX10_reduce 148 = .ok (.if_icmp .ge 43, 3) := by decide +kernel
theorem dX10_reduce_151 : decode cX10_reduce 151 = .ok (.aload_n 0, 1) := by decide +kernel
theorem dX10_reduce_152 : decode cX10_reduce 152 = .ok (.getfield 45, 3) := by decide +kernel
theorem dX10_reduce_155 : decode cX10_reduce 155 = .ok (.iload 4, 2) := by decide +kernel
theorem dX10_reduce_157 : decode cX10_reduce 157 = .ok (.aload_n 0, 1) := by decide +kernel
theorem dX10_reduce_158 : decode cX10_reduce 158 = .ok (.getfield 45, 3) := by decide +kernel
theorem dX10_reduce_161 : decode cX10_reduce 161 = .ok (.iload 4, 2) := by decide +kernel
theorem dX10_reduce_163 : decode cX10_reduce 163 = .ok (.iaload, 1) := by decide +kernel
theorem dX10_reduce_164 : decode cX10_reduce 164 = .ok (.iload_n 3, 1) := by decide +kernel
theorem dX10_reduce_165 : decode cX10_reduce 165 = .ok (.aload_n 0, 1) := by decide +kernel
theorem dX10_reduce_166 : decode cX10_reduce 166 = .ok (.getfield 36, 3) := by decide +kernel
theorem dX10_reduce_169 : decode cX10_reduce 169 = .ok (.bipush 8, 2) := by decide +kernel
theorem dX10_reduce_171 : decode cX10_reduce 171 = .ok (.iload_n 2, 1) := by decide +kernel
theorem dX10_reduce_172 : decode cX10_reduce 172 = .ok (.imul, 1) := by decide +kernel
theorem dX10_reduce_173 : decode cX10_reduce 173 = .ok (.iload 4, 2) := by decide +kernel
theorem dX10_reduce_175 : decode cX10_reduce 175 = .ok (.iadd, 1) := by decide +kernel
theorem dX10_reduce_176 : decode cX10_reduce 176 = .ok (.iaload, 1) := by decide +kernel
theorem dX10_reduce_177 : decode cX10_reduce 177 = .ok (.imul, 1) := by decide +kernel
theorem dX10_reduce_178 : decode cX10_reduce 178 = .ok (.iadd, 1) := by decide +kernel
theorem dX10_reduce_179 : decode cX10_reduce 179 = .ok (.aload_n 0, 1) := by decide +kernel
theorem dX10_reduce_180 : decode cX10_reduce 180 = .ok (.getfield 7, 3) := by decide +kernel
theorem dX10_reduce_183 : decode cX10_reduce 183 = .ok (.irem, 1) := by decide +kernel
theorem dX10_reduce_184 : decode cX10_reduce 184 = .ok (.iastore, 1) := by decide +kernel
theorem dX10_reduce_185 : decode cX10_reduce 185 = .ok (.iinc 4 1, 3) := by decide +kernel
theorem dX10_reduce_188 : decode cX10_reduce 188 = .ok (.goto (-46), 3) := by decide +kernel
theorem dX10_reduce_191 : decode cX10_reduce 191 = .ok (.iinc 2 1, 3) := by decide +kernel
theorem dX10_reduce_194 : decode cX10_reduce 194 = .ok (.goto (-129), 3) := by decide +kernel
theorem dX10_reduce_197 : decode cX10_reduce 197 = .ok (.iconst 0, 1) := by decide +kernel
theorem dX10_reduce_198 : decode cX10_reduce 198 = .ok (.istore_n 2, 1) := by decide +kernel
theorem dX10_reduce_199 : decode cX10_reduce 199 = .ok (.iload_n 2, 1) := by decide +kernel
theorem dX10_reduce_200 : decode cX10_reduce 200 = .ok (.aload_n 0, 1) := by decide +kernel
theorem dX10_reduce_201 : decode cX10_reduce 201 = .ok (.getfield 111, 3) := by decide +kernel
theorem dX10_reduce_204 : decode cX10_reduce 204 = .ok (.if_icmp .ge 18, 3) := by decide +kernel
theorem dX10_reduce_207 : decode cX10_reduce 207 = .ok (.aload_n 0, 1) := by decide +kernel
theorem dX10_reduce_208 : decode cX10_reduce 208 = .ok (.getfield 42, 3) := by decide +kernel
theorem dX10_reduce_211 : decode cX10_reduce 211 = .ok (.iload_n 2, 1) := by decide +kernel
theorem dX10_reduce_212 : decode cX10_reduce 212 = .ok (.iaload, 1) := by decide +kernel
theorem dX10_reduce_213 : decode cX10_reduce 213 = .ok (.ifCond .ne 9, 3) := by decide +kernel
theorem dX10_reduce_216 : decode cX10_reduce 216 = .ok (.iinc 2 1, 3) := by decide +kernel
theorem dX10_reduce_219 : decode cX10_reduce 219 = .ok (.goto (-20), 3) := by decide +kernel
theorem dX10_reduce_222 : decode cX10_reduce 222 = .ok (.iload_n 2, 1) := by decide +kernel
theorem dX10_reduce_223 : decode cX10_reduce 223 = .ok (.ireturn, 1) := by decide +kernel
theorem dX10_becomesStandard_0 : decode cX10_becomesStandard 0 = .ok (.aload_n 0, 1) := by decide +kernel
theorem dX10_becomesStandard_1 : decode cX10_becomesStandard 1 = .ok (.aload_n 0, 1) := by decide +kernel
theorem dX10_becomesStandard_2 : decode cX10_becomesStandard 2 = .ok (.getfield 42, 3) := by decide +kernel
theorem dX10_becomesStandard_5 : decode cX10_becomesStandard 5 = .ok (.iload_n 2, 1) := by decide +kernel
theorem dX10_becomesStandard_6 : decode cX10_becomesStandard 6 = .ok (.iaload, 1) := by decide +kernel
theorem dX10_becomesStandard_7 : decode cX10_becomesStandard 7 = .ok (.invokevirtual 148, 3) := by decide +kernel
theorem dX10_becomesStandard_10 : decode cX10_becomesStandard 10 = .ok (.istore_n 3, 1) := by decide +kernel
theorem dX10_becomesStandard_11 : decode cX10_becomesStandard 11 = .ok (.iconst 0, 1) := by decide +kernel
theorem dX10_becomesStandard_12 : decode cX10_becomesStandard 12 = .ok (.istore 4, 2) := by decide +kernel
theorem dX10_becomesStandard_14 : decode cX10_becomesStandard 14 = .ok (.iload 4, 2) := by decide +kernel
theorem dX10_becomesStandard_16 : decode cX10_becomesStandard 16 = .ok (.aload_n 0, 1) := by decide +kernel
theorem dX10_becomesStandard_17 : decode cX10_becomesStandard 17 = .ok (.getfield 111, 3) := by decide +kernel
theorem dX10_becomesStandard_20 : decode cX10_becomesStandard 20 = .ok (.if_icmp .ge 96, 3) := by decide +kernel
theorem dX10_becomesStandard_23 : decode cX10_becomesStandard 23 = .ok (.aload_n 0, 1) := by decide +kernel
theorem dX10_becomesStandard_24 : decode cX10_becomesStandard 24 = .ok (.getfield 33, 3) := by decide +kernel
theorem dX10_becomesStandard_27 : decode cX10_becomesStandard 27 = .ok (.bipush 8, 2) := by decide +kernel
theorem dX10_becomesStandard_29 : decode cX10_becomesStandard 29 = .ok (.aload_n 0, 1) := by decide +kernel
theorem dX10_becomesStandard_30 : decode cX10_becomesStandard 30 = .ok (.getfield 140, 3) := by decide +kernel
theorem dX10_becomesStandard_33 : decode cX10_becomesStandard 33 = .ok (.imul, 1) := by decide +kernel
theorem dX10_becomesStandard_34 : decode cX10_becomesStandard 34 = .ok (.iload 4, 2) := by decide +kernel
theorem dX10_becomesStandard_36 : decode cX10_becomesStandard 36 = .ok (.iadd, 1) := by decide +kernel
theorem dX10_becomesStandard_37 : decode cX10_becomesStandard 37 = .ok (.aload_n 0, 1) := by decide +kernel
theorem dX10_becomesStandard_38 : decode cX10_becomesStandard 38 = .ok (.getfield 42, 3) := by decide +kernel
theorem dX10_becomesStandard_41 : decode cX10_becomesStandard 41 = .ok (.iload 4, 2) := by decide +kernel
theorem dX10_becomesStandard_43 : decode cX10_becomesStandard 43 = .ok (.iaload, 1) := by decide +kernel
theorem dX10_becomesStandard_44 : decode cX10_becomesStandard 44 = .ok (.iload_n 3, 1) := by decide +kernel
theorem dX10_becomesStandard_45 : decode cX10_becomesStandard 45 = .ok (.imul, 1) := by decide +kernel
theorem dX10_becomesStandard_46 : decode cX10_becomesStandard 46 = .ok (.aload_n 0, 1) := by decide +kernel
theorem dX10_becomesStandard_47 : decode cX10_becomesStandard 47 = .ok (.getfield 7, 3) := by decide +kernel
theorem dX10_becomesStandard_50 : decode cX10_becomesStandard 50 = .ok (.irem, 1) := by decide +kernel
theorem dX10_becomesStandard_51 : decode cX10_becomesStandard 51 = .ok (.iastore, 1) := by decide +kernel
theorem dX10_becomesStandard_52 : decode cX10_becomesStandard 52 = .ok (.aload_n 0, 1) := by decide +kernel
theorem dX10_becomesStandard_53 : decode cX10_becomesStandard 53 = .ok (.getfield 36, 3) := by decide +kernel
theorem dX10_becomesStandard_56 : decode cX10_becomesStandard 56 = .ok (.bipush 8, 2) := by decide +kernel
theorem dX10_becomesStandard_58 : decode cX10_becomesStandard 58 = .ok (.aload_n 0, 1) := by decide +kernel
theorem dX10_becomesStandard_59 : decode cX10_becomesStandard 59 = .ok (.getfield 140, 3) := by decide +kernel
theorem dX10_becomesStandard_62 : decode cX10_becomesStandard 62 = .ok (.imul, 1) := by decide +kernel
theorem dX10_becomesStandard_63 : decode cX10_becomesStandard 63 = .ok (.iload 4, 2) := by decide +kernel
theorem dX10_becomesStandard_65 : decode cX10_becomesStandard 65 = .ok (.iadd, 1) := by decide +kernel
theorem dX10_becomesStandard_66 : decode cX10_becomesStandard 66 = .ok (.iload 4, 2) := by decide +kernel
theorem dX10_becomesStandard_68 : decode cX10_becomesStandard 68 = .ok (.aload_n 0, 1) := by decide +kernel
theorem dX10_becomesStandard_69 : decode cX10_becomesStandard 69 = .ok (.getfield 140, 3) := by decide +kernel
theorem dX10_becomesStandard_72 : decode cX10_becomesStandard 72 = .ok (.if_icmp .ge 23, 3) := by decide +kernel
theorem dX10_becomesStandard_75 : decode cX10_becomesStandard 75 = .ok (.aload_n 0, 1) := by decide +kernel
theorem dX10_becomesStandard_76 : decode cX10_becomesStandard 76 = .ok (.getfield 45, 3) := by decide +kernel
theorem dX10_becomesStandard_79 : decode cX10_becomesStandard 79 = .ok (.iload 4, 2) := by decide +kernel
theorem dX10_becomesStandard_81 : decode cX10_becomesStandard 81 = .ok (.iaload, 1) := by decide +kernel
theorem dX10_becomesStandard_82 : decode cX10_becomesStandard 82 = .ok (.ineg, 1) := by decide +kernel
theorem dX10_becomesStandard_83 : decode cX10_becomesStandard 83 = .ok (.iload_n 3, 1) := by decide +kernel
theorem dX10_becomesStandard_84 : decode cX10_becomesStandard 84 = .ok (.imul, 1) := by decide +kernel
theorem dX10_becomesStandard_85 : decode cX10_becomesStandard 85 = .ok (.aload_n 0, 1) := by decide +kernel
theorem dX10_becomesStandard_86 : decode cX10_becomesStandard 86 = .ok (.getfield 7, 3) := by decide +kernel
theorem dX10_becomesStandard_89 : decode cX10_becomesStandard 89 = .ok (.invokestatic 143, 3) := by decide +kernel
theorem dX10_becomesStandard_92 : decode cX10_becomesStandard 92 = .ok (.goto 17, 3) := by decide +kernel
theorem dX10_becomesStandard_95 : decode cX10_becomesStandard 95 = .ok (.iload 4, 2) := by decide +kernel
theorem dX10_becomesStandard_97 : decode cX10_becomesStandard 97 = .ok (.aload_n 0, 1) := by decide +kernel
theorem dX10_becomesStandard_98 : decode cX10_becomesStandard 98 = .ok (.getfield 140, 3) := by decide +kernel
theorem dX10_becomesStandard_101 : decode cX10_becomesStandard 101 = .ok (.if_icmp .ne 7, 3) := by decide +kernel
theorem dX10_becomesStandard_104 : decode cX10_becomesStandard 104 = .ok (.iload_n 3, 1) := by decide +kernel
theorem dX10_becomesStandard_105 : decode cX10_becomesStandard 105 = .ok (.goto 4, 3) := by decide +kernel
theorem dX10_becomesStandard_108 : decode cX10_becomesStandard 108 = .ok (.iconst 0, 1) := by decide +kernel
theorem dX10_becomesStandard_109 : decode cX10_becomesStandard 109 = .ok (.iastore, 1) := by decide +kernel
theorem dX10_becomesStandard_110 : decode cX10_becomesStandard 110 = .ok (.iinc 4 1, 3) := by decide +kernel
theorem dX10_becomesStandard_113 : decode cX10_becomesStandard 113 = .ok (.goto (-99), 3) := by decide +kernel
theorem dX10_becomesStandard_116 : decode cX10_becomesStandard 116 = .ok (.iconst 0, 1) := by decide +kernel
theorem dX10_becomesStandard_117 : decode cX10_becomesStandard 117 = .ok (.istore 4, 2) := by decide +kernel
theorem dX10_becomesStandard_119 : decode cX10_becomesStandard 119 = .ok (.iload 4, 2) := by decide +kernel
theorem dX10_becomesStandard_121 : decode cX10_becomesStandard 121 = .ok (.aload_n 0, 1) := by decide +kernel
theorem dX10_becomesStandard_122 : decode cX10_becomesStandard 122 = .ok (.getfield 140, 3) := by decide +kernel
theorem dX10_becomesStandard_125 : decode cX10_becomesStandard 125 = .ok (.if_icmp .ge 25, 3) := by decide +kernel
theorem dX10_becomesStandard_128 : decode cX10_becomesStandard 128 = .ok (.aload_n 0, 1) := by decide +kernel
theorem dX10_becomesStandard_129 : decode cX10_becomesStandard 129 = .ok (.getfield 36, 3) := by decide +kernel
theorem dX10_becomesStandard_132 : decode cX10_becomesStandard 132 = .ok (.bipush 8, 2) := by decide +kernel
theorem dX10_becomesStandard_134 : decode cX10_becomesStandard 134 = .ok (.iload 4, 2) := by decide +kernel
theorem dX10_becomesStandard_136 : decode cX10_becomesStandard 136 = .ok (.imul, 1) := by decide +kernel
theorem dX10_becomesStandard_137 : decode cX10_becomesStandard 137 = .ok (.aload_n 0, 1) := by decide +kernel
theorem dX10_becomesStandard_138 : decode cX10_becomesStandard 138 = .ok (.getfield 140, 3) := by decide +kernel
theorem dX10_becomesStandard_141 : decode cX10_becomesStandard 141 = .ok (.iadd, 1) := by decide +kernel
theorem dX10_becomesStandard_142 : decode cX10_becomesStandard 142 = .ok (.iconst 0, 1) := by decide +kernel
theorem dX10_becomesStandard_143 : decode cX10_becomesStandard 143 = .ok (.iastore, 1) := by decide +kernel
theorem dX10_becomesStandard_144 : decode cX10_becomesStandard 144 = .ok (.iinc 4 1, 3) := by decide +kernel
theorem dX10_becomesStandard_147 : decode cX10_becomesStandard 147 = .ok (.goto (-28), 3) := by decide +kernel
theorem dX10_becomesStandard_150 : decode cX10_becomesStandard 150 = .ok (.aload_n 0, 1) := by decide +kernel
theorem dX10_becomesStandard_151 : decode cX10_becomesStandard 151 = .ok (.getfield 39, 3) := by decide +kernel
theorem dX10_becomesStandard_154 : decode cX10_becomesStandard 154 = .ok (.aload_n 0, 1) := by decide +kernel
theorem dX10_becomesStandard_155 : decode cX10_becomesStandard 155 = .ok (.getfield 140, 3) := by decide +kernel
theorem dX10_becomesStandard_158 : decode cX10_becomesStandard 158 = .ok (.iload_n 2, 1) := by decide +kernel
theorem dX10_becomesStandard_159 : decode cX10_becomesStandard 159 = .ok (.iastore, 1) := by decide +kernel
theorem dX10_becomesStandard_160 : decode cX10_becomesStandard 160 = .ok (.aload_n 0, 1) := by decide +kernel
theorem dX10_becomesStandard_161 : decode cX10_becomesStandard 161 = .ok (.getfield 30, 3) := by decide +kernel
theorem dX10_becomesStandard_164 : decode cX10_becomesStandard 164 = .ok (.aload_n 0, 1) := by decide +kernel
theorem dX10_becomesStandard_165 : decode cX10_becomesStandard 165 = .ok (.getfield 140, 3) := by decide +kernel
theorem dX10_becomesStandard_168 : decode cX10_becomesStandard 168 = .ok (.iload_n 1, 1) := by decide +kernel
theorem dX10_becomesStandard_169 : decode cX10_becomesStandard 169 = .ok (.iastore, 1) := by decide +kernel
theorem dX10_becomesStandard_170 : decode cX10_becomesStandard 170 = .ok (.aload_n 0, 1) := by decide +kernel
theorem dX10_becomesStandard_171 : decode cX10_becomesStandard 171 = .ok (.getfield 26, 3) := by decide +kernel
theorem dX10_becomesStandard_174 : decode cX10_becomesStandard 174 = .ok (.iload_n 1, 1) := by decide +kernel
theorem dX10_becomesStandard_175 : decode cX10_becomesStandard 175 = .ok (.iconst 1, 1) := by decide +kernel
theorem dX10_becomesStandard_176 : decode cX10_becomesStandard 176 = .ok (.bastore, 1) := by decide +kernel
theorem dX10_becomesStandard_177 : decode cX10_becomesStandard 177 = .ok (.aload_n 0, 1) := by decide +kernel
theorem dX10_becomesStandard_178 : decode cX10_becomesStandard 178 = .ok (.dup, 1) := by decide +kernel
theorem dX10_becomesStandard_179 : decode cX10_becomesStandard 179 = .ok (.getfield 140, 3) := by decide +kernel
theorem dX10_becomesStandard_182 : decode cX10_becomesStandard 182 = .ok (.iconst 1, 1) := by decide +kernel
theorem dX10_becomesStandard_183 : decode cX10_becomesStandard 183 = .ok (.iadd, 1) := by decide +kernel
theorem dX10_becomesStandard_184 : decode cX10_becomesStandard 184 = .ok (.putfield 140, 3) := by decide +kernel
theorem dX10_becomesStandard_187 : decode cX10_becomesStandard 187 = .ok (.return_, 1) := by decide +kernel
theorem dX10_becomesCorner_0 : decode cX10_becomesCorner 0 = .ok (.aload_n 0, 1) := by decide +kernel
theorem dX10_becomesCorner_1 : decode cX10_becomesCorner 1 = .ok (.getfield 51, 3) := by decide +kernel
theorem dX10_becomesCorner_4 : decode cX10_becomesCorner 4 = .ok (.aload_n 0, 1) := by decide +kernel
theorem dX10_becomesCorner_5 : decode cX10_becomesCorner 5 = .ok (.getfield 152, 3) := by decide +kernel
theorem dX10_becomesCorner_8 : decode cX10_becomesCorner 8 = .ok (.iload_n 1, 1) := by decide +kernel
theorem dX10_becomesCorner_9 : decode cX10_becomesCorner 9 = .ok (.iastore, 1) := by decide +kernel
theorem dX10_becomesCorner_10 : decode cX10_becomesCorner 10 = .ok (.iconst 0, 1) := by decide +kernel
theorem dX10_becomesCorner_11 : decode cX10_becomesCorner 11 = .ok (.istore_n 2, 1) := by decide +kernel
theorem dX10_becomesCorner_12 : decode cX10_becomesCorner 12 = .ok (.iload_n 2, 1) := by decide +kernel
theorem dX10_becomesCorner_13 : decode cX10_becomesCorner 13 = .ok (.bipush 81, 2) := by decide +kernel
theorem dX10_becomesCorner_15 : decode cX10_becomesCorner 15 = .ok (.if_icmp .ge 38, 3) := by decide +kernel
theorem dX10_becomesCorner_18 : decode cX10_becomesCorner 18 = .ok (.aload_n 0, 1) := by decide +kernel
theorem dX10_becomesCorner_19 : decode cX10_becomesCorner 19 = .ok (.getfield 54, 3) := by decide +kernel
theorem dX10_becomesCorner_22 : decode cX10_becomesCorner 22 = .ok (.bipush 81, 2) := by decide +kernel
theorem dX10_becomesCorner_24 : decode cX10_becomesCorner 24 = .ok (.aload_n 0, 1) := by decide +kernel
theorem dX10_becomesCorner_25 : decode cX10_becomesCorner 25 = .ok (.getfield 152, 3) := by decide +kernel
theorem dX10_becomesCorner_28 : decode cX10_becomesCorner 28 = .ok (.imul, 1) := by decide +kernel
theorem dX10_becomesCorner_29 : decode cX10_becomesCorner 29 = .ok (.iload_n 2, 1) := by decide +kernel
theorem dX10_becomesCorner_30 : decode cX10_becomesCorner 30 = .ok (.iadd, 1) := by decide +kernel
theorem dX10_becomesCorner_31 : decode cX10_becomesCorner 31 = .ok (.iload_n 2, 1) := by decide +kernel
theorem dX10_becomesCorner_32 : decode cX10_becomesCorner 32 = .ok (.iload_n 1, 1) := by decide +kernel
theorem dX10_becomesCorner_33 : decode cX10_becomesCorner 33 = .ok (.if_icmp .ne 12, 3) := by decide +kernel
theorem dX10_becomesCorner_36 : decode cX10_becomesCorner 36 = .ok (.iconst 1, 1) := by decide +kernel
theorem dX10_becomesCorner_37 : decode cX10_becomesCorner 37 = .ok (.aload_n 0, 1) := by decide +kernel
theorem dX10_becomesCorner_38 : decode cX10_becomesCorner 38 = .ok (.getfield 7, 3) := by decide +kernel
theorem dX10_becomesCorner_41 : decode cX10_becomesCorner 41 = .ok (.irem, 1) := by decide +kernel
theorem dX10_becomesCorner_42 : decode cX10_becomesCorner 42 = .ok (.goto 4, 3) := by decide +kernel
theorem dX10_becomesCorner_45 : decode cX10_becomesCorner 45 = .ok (.iconst 0, 1) := by decide +kernel
theorem dX10_becomesCorner_46 : decode cX10_becomesCorner 46 = .ok (.iastore, 1) := by decide +kernel
theorem dX10_becomesCorner_47 : decode cX10_becomesCorner 47 = .ok (.iinc 2 1, 3) := by decide +kernel
theorem dX10_becomesCorner_50 : decode cX10_becomesCorner 50 = .ok (.goto (-38), 3) := by decide +kernel
theorem dX10_becomesCorner_53 : decode cX10_becomesCorner 53 = .ok (.iconst 0, 1) := by decide +kernel
theorem dX10_becomesCorner_54 : decode cX10_becomesCorner 54 = .ok (.istore_n 2, 1) := by decide +kernel
theorem dX10_becomesCorner_55 : decode cX10_becomesCorner 55 = .ok (.iload_n 2, 1) := by decide +kernel
theorem dX10_becomesCorner_56 : decode cX10_becomesCorner 56 = .ok (.aload_n 0, 1) := by decide +kernel
theorem dX10_becomesCorner_57 : decode cX10_becomesCorner 57 = .ok (.getfield 140, 3) := by decide +kernel
theorem dX10_becomesCorner_60 : decode cX10_becomesCorner 60 = .ok (.if_icmp .ge 42, 3) := by decide +kernel
theorem dX10_becomesCorner_63 : decode cX10_becomesCorner 63 = .ok (.aload_n 0, 1) := by decide +kernel
theorem dX10_becomesCorner_64 : decode cX10_becomesCorner 64 = .ok (.getfield 54, 3) := by decide +kernel
theorem dX10_becomesCorner_67 : decode cX10_becomesCorner 67 = .ok (.bipush 81, 2) := by decide +kernel
theorem dX10_becomesCorner_69 : decode cX10_becomesCorner 69 = .ok (.aload_n 0, 1) := by decide +kernel
theorem dX10_becomesCorner_70 : decode cX10_becomesCorner 70 = .ok (.getfield 152, 3) := by decide +kernel
theorem dX10_becomesCorner_73 : decode cX10_becomesCorner 73 = .ok (.imul, 1) := by decide +kernel
theorem dX10_becomesCorner_74 : decode cX10_becomesCorner 74 = .ok (.aload_n 0, 1) := by decide +kernel
theorem dX10_becomesCorner_75 : decode cX10_becomesCorner 75 = .ok (.getfield 30, 3) := by decide +kernel
theorem dX10_becomesCorner_78 : decode cX10_becomesCorner 78 = .ok (.iload_n 2, 1) := by decide +kernel
theorem dX10_becomesCorner_79 : decode cX10_becomesCorner 79 = .ok (.iaload, 1) := by decide +kernel
theorem dX10_becomesCorner_80 : decode cX10_becomesCorner 80 = .ok (.iadd, 1) := by decide +kernel
theorem dX10_becomesCorner_81 : decode cX10_becomesCorner 81 = .ok (.aload_n 0, 1) := by decide +kernel
theorem dX10_becomesCorner_82 : decode cX10_becomesCorner 82 = .ok (.getfield 45, 3) := by decide +kernel
theorem dX10_becomesCorner_85 : decode cX10_becomesCorner 85 = .ok (.iload_n 2, 1) := by decide +kernel
theorem dX10_becomesCorner_86 : decode cX10_becomesCorner 86 = .ok (.iaload, 1) := by decide +kernel
theorem dX10_becomesCorner_87 : decode cX10_becomesCorner 87 = .ok (.ineg, 1) := by decide +kernel
theorem dX10_becomesCorner_88 : decode cX10_becomesCorner 88 = .ok (.aload_n 0, 1) := by decide +kernel
theorem dX10_becomesCorner_89 : decode cX10_becomesCorner 89 = .ok (.getfield 7, 3) := by decide +kernel
theorem dX10_becomesCorner_92 : decode cX10_becomesCorner 92 = .ok (.invokestatic 143, 3) := by decide +kernel
theorem dX10_becomesCorner_95 : decode cX10_becomesCorner 95 = .ok (.iastore, 1) := by decide +kernel
theorem dX10_becomesCorner_96 : decode cX10_becomesCorner 96 = .ok (.iinc 2 1, 3) := by decide +kernel
theorem dX10_becomesCorner_99 : decode cX10_becomesCorner 99 = .ok (.goto (-44), 3) := by decide +kernel
theorem dX10_becomesCorner_102 : decode cX10_becomesCorner 102 = .ok (.aload_n 0, 1) := by decide +kernel
theorem dX10_becomesCorner_103 : decode cX10_becomesCorner 103 = .ok (.dup, 1) := by decide +kernel
theorem dX10_becomesCorner_104 : decode cX10_becomesCorner 104 = .ok (.getfield 152, 3) := by decide +kernel
theorem dX10_becomesCorner_107 : decode cX10_becomesCorner 107 = .ok (.iconst 1, 1) := by decide +kernel
theorem dX10_becomesCorner_108 : decode cX10_becomesCorner 108 = .ok (.iadd, 1) := by decide +kernel
theorem dX10_becomesCorner_109 : decode cX10_becomesCorner 109 = .ok (.putfield 152, 3) := by decide +kernel
theorem dX10_becomesCorner_112 : decode cX10_becomesCorner 112 = .ok (.return_, 1) := by decide +kernel
theorem dX10_isCorner_0 : decode cX10_isCorner 0 = .ok (.iload_n 1, 1) := by decide +kernel
theorem dX10_isCorner_1 : decode cX10_isCorner 1 = .ok (.bipush 9, 2) := by decide +kernel
theorem dX10_isCorner_3 : decode cX10_isCorner 3 = .ok (.idiv, 1) := by decide +kernel
theorem dX10_isCorner_4 : decode cX10_isCorner 4 = .ok (.ifCond .eq 15, 3) := by decide +kernel
theorem dX10_isCorner_7 : decode cX10_isCorner 7 = .ok (.aload_n 0, 1) := by decide +kernel
theorem dX10_isCorner_8 : decode cX10_isCorner 8 = .ok (.getfield 26, 3) := by decide +kernel
theorem dX10_isCorner_11 : decode cX10_isCorner 11 = .ok (.iload_n 1, 1) := by decide +kernel
theorem dX10_isCorner_12 : decode cX10_isCorner 12 = .ok (.bipush 9, 2) := by decide +kernel
theorem dX10_isCorner_14 : decode cX10_isCorner 14 = .ok (.isub, 1) := by decide +kernel
theorem dX10_isCorner_15 : decode cX10_isCorner 15 = .ok (.baload, 1) := by decide +kernel
theorem dX10_isCorner_16 : decode cX10_isCorner 16 = .ok (.ifCond .eq 25, 3) := by decide +kernel
theorem dX10_isCorner_19 : decode cX10_isCorner 19 = .ok (.iload_n 1, 1) := by decide +kernel
theorem dX10_isCorner_20 : decode cX10_isCorner 20 = .ok (.bipush 9, 2) := by decide +kernel
theorem dX10_isCorner_22 : decode cX10_isCorner 22 = .ok (.irem, 1) := by decide +kernel
theorem dX10_isCorner_23 : decode cX10_isCorner 23 = .ok (.ifCond .eq 14, 3) := by decide +kernel
theorem dX10_isCorner_26 : decode cX10_isCorner 26 = .ok (.aload_n 0, 1) := by decide +kernel
theorem dX10_isCorner_27 : decode cX10_isCorner 27 = .ok (.getfield 26, 3) := by decide +kernel
theorem dX10_isCorner_30 : decode cX10_isCorner 30 = .ok (.iload_n 1, 1) := by decide +kernel
theorem dX10_isCorner_31 : decode cX10_isCorner 31 = .ok (.iconst 1, 1) := by decide +kernel
theorem dX10_isCorner_32 : decode cX10_isCorner 32 = .ok (.isub, 1) := by decide +kernel
theorem dX10_isCorner_33 : decode cX10_isCorner 33 = .ok (.baload, 1) := by decide +kernel
theorem dX10_isCorner_34 : decode cX10_isCorner 34 = .ok (.ifCond .eq 7, 3) := by decide +kernel
theorem dX10_isCorner_37 : decode cX10_isCorner 37 = .ok (.iconst 1, 1) := by decide +kernel
theorem dX10_isCorner_38 : decode cX10_isCorner 38 = .ok (.goto 4, 3) := by decide +kernel
theorem dX10_isCorner_41 : decode cX10_isCorner 41 = .ok (.iconst 0, 1) := by decide +kernel
theorem dX10_isCorner_42 : decode cX10_isCorner 42 = .ok (.ireturn, 1) := by decide +kernel
theorem dX10_compute_0 : decode cX10_compute 0 = .ok (.aload_n 0, 1) := by decide +kernel
theorem dX10_compute_1 : decode cX10_compute 1 = .ok (.iload_n 1, 1) := by decide +kernel
theorem dX10_compute_2 : decode cX10_compute 2 = .ok (.iload_n 2, 1) := by decide +kernel
theorem dX10_compute_3 : decode cX10_compute 3 = .ok (.iload_n 3, 1) := by decide +kernel
theorem dX10_compute_4 : decode cX10_compute 4 = .ok (.invokevirtual 155, 3) := by decide +kernel
theorem dX10_compute_7 : decode cX10_compute 7 = .ok (.aload_n 0, 1) := by decide +kernel
theorem dX10_compute_8 : decode cX10_compute 8 = .ok (.iconst 0, 1) := by decide +kernel
theorem dX10_compute_9 : decode cX10_compute 9 = .ok (.putfield 140, 3) := by decide +kernel
theorem dX10_compute_12 : decode cX10_compute 12 = .ok (.aload_n 0, 1) := by decide +kernel
theorem dX10_compute_13 : decode cX10_compute 13 = .ok (.iconst 0, 1) := by decide +kernel
theorem dX10_compute_14 : decode cX10_compute 14 = .ok (.putfield 152, 3) := by decide +kernel
theorem dX10_compute_17 : decode cX10_compute 17 = .ok (.iconst 0, 1) := by decide +kernel
theorem dX10_compute_18 : decode cX10_compute 18 = .ok (.istore 4, 2) := by decide +kernel
theorem dX10_compute_20 : decode cX10_compute 20 = .ok (.iload 4, 2) := by decide +kernel
theorem dX10_compute_22 : decode cX10_compute 22 = .ok (.bipush 81, 2) := by decide +kernel
theorem dX10_compute_24 : decode cX10_compute 24 = .ok (.if_icmp .ge 17, 3) := by decide +kernel
theorem dX10_compute_27 : decode cX10_compute 27 = .ok (.aload_n 0, 1) := by decide +kernel
theorem dX10_compute_28 : decode cX10_compute 28 = .ok (.getfield 26, 3) := by decide +kernel
theorem dX10_compute_31 : decode cX10_compute 31 = .ok (.iload 4, 2) := by decide +kernel
theorem dX10_compute_33 : decode cX10_compute 33 = .ok (.iconst 0, 1) := by decide +kernel
theorem dX10_compute_34 : decode cX10_compute 34 = .ok (.bastore, 1) := by decide +kernel
theorem dX10_compute_35 : decode cX10_compute 35 = .ok (.iinc 4 1, 3) := by decide +kernel
theorem dX10_compute_38 : decode cX10_compute 38 = .ok (.goto (-18), 3) := by decide +kernel
theorem dX10_compute_41 : decode cX10_compute 41 = .ok (.iconst 0, 1) := by decide +kernel
theorem dX10_compute_42 : decode cX10_compute 42 = .ok (.istore 4, 2) := by decide +kernel
theorem dX10_compute_44 : decode cX10_compute 44 = .ok (.iload 4, 2) := by decide +kernel
theorem dX10_compute_46 : decode cX10_compute 46 = .ok (.bipush 81, 2) := by decide +kernel
theorem dX10_compute_48 : decode cX10_compute 48 = .ok (.if_icmp .ge 72, 3) := by decide +kernel
theorem dX10_compute_51 : decode cX10_compute 51 = .ok (.aload_n 0, 1) := by decide +kernel
theorem dX10_compute_52 : decode cX10_compute 52 = .ok (.aload_n 0, 1) := by decide +kernel
theorem dX10_compute_53 : decode cX10_compute 53 = .ok (.getfield 23, 3) := by decide +kernel
theorem dX10_compute_56 : decode cX10_compute 56 = .ok (.iload 4, 2) := by decide +kernel
theorem dX10_compute_58 : decode cX10_compute 58 = .ok (.iaload, 1) := by decide +kernel
theorem dX10_compute_59 : decode cX10_compute 59 = .ok (.invokevirtual 159, 3) := by decide +kernel
theorem dX10_compute_62 : decode cX10_compute 62 = .ok (.istore 5, 2) := by decide +kernel
theorem dX10_compute_64 : decode cX10_compute 64 = .ok (.iload 5, 2) := by decide +kernel
theorem dX10_compute_66 : decode cX10_compute 66 = .ok (.aload_n 0, 1) := by decide +kernel
theorem dX10_compute_67 : decode cX10_compute 67 = .ok (.getfield 111, 3) := by decide +kernel
theorem dX10_compute_70 : decode cX10_compute 70 = .ok (.if_icmp .ge 19, 3) := by decide +kernel
theorem dX10_compute_73 : decode cX10_compute 73 = .ok (.aload_n 0, 1) := by decide +kernel
theorem dX10_compute_74 : decode cX10_compute 74 = .ok (.aload_n 0, 1) := by decide +kernel
theorem dX10_compute_75 : decode cX10_compute 75 = .ok (.getfield 23, 3) := by decide +kernel
theorem dX10_compute_78 : decode cX10_compute 78 = .ok (.iload 4, 2) := by decide +kernel
theorem dX10_compute_80 : decode cX10_compute 80 = .ok (.iaload, 1) := by decide +kernel
theorem dX10_compute_81 : decode cX10_compute 81 = .ok (.iload 5, 2) := by decide +kernel
theorem dX10_compute_83 : decode cX10_compute 83 = .ok (.invokevirtual 162, 3) := by decide +kernel
theorem dX10_compute_86 : decode cX10_compute 86 = .ok (.goto 28, 3) := by decide +kernel
theorem dX10_compute_89 : decode cX10_compute 89 = .ok (.aload_n 0, 1) := by decide +kernel
theorem dX10_compute_90 : decode cX10_compute 90 = .ok (.aload_n 0, 1) := by decide +kernel
theorem dX10_compute_91 : decode cX10_compute 91 = .ok (.getfield 23, 3) := by decide +kernel
theorem dX10_compute_94 : decode cX10_compute 94 = .ok (.iload 4, 2) := by decide +kernel
theorem dX10_compute_96 : decode cX10_compute 96 = .ok (.iaload, 1) := by decide +kernel
theorem dX10_compute_97 : decode cX10_compute 97 = .ok (.invokevirtual 166, 3) := by decide +kernel
theorem dX10_compute_100 : decode cX10_compute 100 = .ok (.ifCond .eq 14, 3) := by decide +kernel
theorem dX10_compute_103 : decode cX10_compute 103 = .ok (.aload_n 0, 1) := by decide +kernel
theorem dX10_compute_104 : decode cX10_compute 104 = .ok (.aload_n 0, 1) := by decide +kernel
theorem dX10_compute_105 : decode cX10_compute 105 = .ok (.getfield 23, 3) := by decide +kernel
theorem dX10_compute_108 : decode cX10_compute 108 = .ok (.iload 4, 2) := by decide +kernel
theorem dX10_compute_110 : decode cX10_compute 110 = .ok (.iaload, 1) := by decide +kernel
theorem dX10_compute_111 : decode cX10_compute 111 = .ok (.invokevirtual 169, 3) := by decide +kernel
theorem dX10_compute_114 : decode cX10_compute 114 = .ok (.iinc 4 1, 3) := by decide +kernel
theorem dX10_compute_117 : decode cX10_compute 117 = .ok (.goto (-73), 3) := by decide +kernel
theorem dX10_compute_120 : decode cX10_compute 120 = .ok (.iconst 0, 1) := by decide +kernel
theorem dX10_compute_121 : decode cX10_compute 121 = .ok (.istore 4, 2) := by decide +kernel
theorem dX10_compute_123 : decode cX10_compute 123 = .ok (.iload 4, 2) := by decide +kernel
theorem dX10_compute_125 : decode cX10_compute 125 = .ok (.bipush 9, 2) := by decide +kernel
theorem dX10_compute_127 : decode cX10_compute 127 = .ok (.if_icmp .ge 64, 3) := by decide +kernel
theorem dX10_compute_130 : decode cX10_compute 130 = .ok (.aload_n 0, 1) := by decide +kernel
theorem dX10_compute_131 : decode cX10_compute 131 = .ok (.getfield 48, 3) := by decide +kernel
theorem dX10_compute_134 : decode cX10_compute 134 = .ok (.iload 4, 2) := by decide +kernel
theorem dX10_compute_136 : decode cX10_compute 136 = .ok (.iconst 0, 1) := by decide +kernel
theorem dX10_compute_137 : decode cX10_compute 137 = .ok (.iastore, 1) := by decide +kernel
theorem dX10_compute_138 : decode cX10_compute 138 = .ok (.iconst 0, 1) := by decide +kernel
theorem dX10_compute_139 : decode cX10_compute 139 = .ok (.istore 5, 2) := by decide +kernel
theorem dX10_compute_141 : decode cX10_compute 141 = .ok (.iload 5, 2) := by decide +kernel
theorem dX10_compute_143 : decode cX10_compute 143 = .ok (.bipush 9, 2) := by decide +kernel
theorem dX10_compute_145 : decode cX10_compute 145 = .ok (.if_icmp .ge 40, 3) := by decide +kernel
theorem dX10_compute_148 : decode cX10_compute 148 = .ok (.aload_n 0, 1) := by decide +kernel
theorem dX10_compute_149 : decode cX10_compute 149 = .ok (.getfield 48, 3) := by decide +kernel
theorem dX10_compute_152 : decode cX10_compute 152 = .ok (.iload 4, 2) := by decide +kernel
theorem dX10_compute_154 : decode cX10_compute 154 = .ok (.dup2, 1) := by decide +kernel
theorem dX10_compute_155 : decode cX10_compute 155 = .ok (.iaload, 1) := by decide +kernel
theorem dX10_compute_156 : decode cX10_compute 156 = .ok (.aload_n 0, 1) := by decide +kernel
theorem dX10_compute_157 : decode cX10_compute 157 = .ok (.getfield 26, 3) := by decide +kernel
theorem dX10_compute_160 : decode cX10_compute 160 = .ok (.bipush 9, 2) := by decide +kernel
theorem dX10_compute_162 : decode cX10_compute 162 = .ok (.iload 4, 2) := by decide +kernel
theorem dX10_compute_164 : decode cX10_compute 164 = .ok (.imul, 1) := by decide +kernel
theorem dX10_compute_165 : decode cX10_compute 165 = .ok (.iload 5, 2) := by decide +kernel
theorem dX10_compute_167 : decode cX10_compute 167 = .ok (.iadd, 1) := by decide +kernel
theorem dX10_compute_168 : decode cX10_compute 168 = .ok (.baload, 1) := by decide +kernel
theorem dX10_compute_169 : decode cX10_compute 169 = .ok (.ifCond .eq 7, 3) := by decide +kernel
theorem dX10_compute_172 : decode cX10_compute 172 = .ok (.iconst 1, 1) := by decide +kernel
theorem dX10_compute_173 : decode cX10_compute 173 = .ok (.goto 4, 3) := by decide +kernel
theorem dX10_compute_176 : decode cX10_compute 176 = .ok (.iconst 0, 1) := by decide +kernel
theorem dX10_compute_177 : decode cX10_compute 177 = .ok (.iadd, 1) := by decide +kernel
theorem dX10_compute_178 : decode cX10_compute 178 = .ok (.iastore, 1) := by decide +kernel
theorem dX10_compute_179 : decode cX10_compute 179 = .ok (.iinc 5 1, 3) := by decide +kernel
theorem dX10_compute_182 : decode cX10_compute 182 = .ok (.goto (-41), 3) := by decide +kernel
theorem dX10_compute_185 : decode cX10_compute 185 = .ok (.iinc 4 1, 3) := by decide +kernel
theorem dX10_compute_188 : decode cX10_compute 188 = .ok (.goto (-65), 3) := by decide +kernel
theorem dX10_compute_191 : decode cX10_compute 191 = .ok (.aload_n 0, 1) := by decide +kernel
theorem dX10_compute_192 : decode cX10_compute 192 = .ok (.invokevirtual 173, 3) := by decide +kernel
theorem dX10_compute_195 : decode cX10_compute 195 = .ok (.return_, 1) := by decide +kernel
theorem dX10_sortCorners_0 : decode cX10_sortCorners 0 = .ok (.iconst 1, 1) := by decide +kernel
theorem dX10_sortCorners_1 : decode cX10_sortCorners 1 = .ok (.istore_n 1, 1) := by decide +kernel
theorem dX10_sortCorners_2 : decode cX10_sortCorners 2 = .ok (.iload_n 1, 1) := by decide +kernel
theorem dX10_sortCorners_3 : decode cX10_sortCorners 3 = .ok (.aload_n 0, 1) := by decide +kernel
theorem dX10_sortCorners_4 : decode cX10_sortCorners 4 = .ok (.getfield 152, 3) := by decide +kernel
theorem dX10_sortCorners_7 : decode cX10_sortCorners 7 = .ok (.if_icmp .ge 146, 3) := by decide +kernel
theorem dX10_sortCorners_10 : decode cX10_sortCorners 10 = .ok (.iload_n 1, 1) := by decide +kernel
theorem dX10_sortCorners_11 : decode cX10_sortCorners 11 = .ok (.istore_n 2, 1) := by decide +kernel
theorem dX10_sortCorners_12 : decode cX10_sortCorners 12 = .ok (.iload_n 2, 1) := by decide +kernel
theorem dX10_sortCorners_13 : decode cX10_sortCorners 13 = .ok (.ifCond .le 134, 3) := by decide +kernel
theorem dX10_sortCorners_16 : decode cX10_sortCorners 16 = .ok (.aload_n 0, 1) := by decide +kernel
theorem dX10_sortCorners_17 : decode cX10_sortCorners 17 = .ok (.getfield 51, 3) := by decide +kernel
theorem dX10_sortCorners_20 : decode cX10_sortCorners 20 = .ok (.iload_n 2, 1) := by decide +kernel
theorem dX10_sortCorners_21 : decode cX10_sortCorners 21 = .ok (.iaload, 1) := by decide +kernel
theorem dX10_sortCorners_22 : decode cX10_sortCorners 22 = .ok (.bipush 9, 2) := by decide +kernel
theorem dX10_sortCorners_24 : decode cX10_sortCorners 24 = .ok (.idiv, 1) := by decide +kernel
theorem dX10_sortCorners_25 : decode cX10_sortCorners 25 = .ok (.aload_n 0, 1) := by decide +kernel
theorem dX10_sortCorners_26 : decode cX10_sortCorners 26 = .ok (.getfield 51, 3) := by decide +kernel
theorem dX10_sortCorners_29 : decode cX10_sortCorners 29 = .ok (.iload_n 2, 1) := by decide +kernel
theorem dX10_sortCorners_30 : decode cX10_sortCorners 30 = .ok (.iconst 1, 1) := by decide +kernel
theorem dX10_sortCorners_31 : decode cX10_sortCorners 31 = .ok (.isub, 1) := by decide +kernel
theorem dX10_sortCorners_32 : decode cX10_sortCorners 32 = .ok (.iaload, 1) := by decide +kernel
theorem dX10_sortCorners_33 : decode cX10_sortCorners 33 = .ok (.bipush 9, 2) := by decide +kernel
theorem dX10_sortCorners_35 : decode cX10_sortCorners 35 = .ok (.idiv, 1) := by decide +kernel
theorem dX10_sortCorners_36 : decode cX10_sortCorners 36 = .ok (.if_icmp .ge 111, 3) := by decide +kernel
theorem dX10_sortCorners_39 : decode cX10_sortCorners 39 = .ok (.aload_n 0, 1) := by decide +kernel
theorem dX10_sortCorners_40 : decode cX10_sortCorners 40 = .ok (.getfield 51, 3) := by decide +kernel
theorem dX10_sortCorners_43 : decode cX10_sortCorners 43 = .ok (.iload_n 2, 1) := by decide +kernel
theorem dX10_sortCorners_44 : decode cX10_sortCorners 44 = .ok (.iaload, 1) := by decide +kernel
theorem dX10_sortCorners_45 : decode cX10_sortCorners 45 = .ok (.istore_n 3, 1) := by decide +kernel
theorem dX10_sortCorners_46 : decode cX10_sortCorners 46 = .ok (.aload_n 0, 1) := by decide +kernel
theorem dX10_sortCorners_47 : decode cX10_sortCorners 47 = .ok (.getfield 51, 3) := by decide +kernel
theorem dX10_sortCorners_50 : decode cX10_sortCorners 50 = .ok (.iload_n 2, 1) := by decide +kernel
theorem dX10_sortCorners_51 : decode cX10_sortCorners 51 = .ok (.aload_n 0, 1) := by decide +kernel
theorem dX10_sortCorners_52 : decode cX10_sortCorners 52 = .ok (.getfield 51, 3) := by decide +kernel
theorem dX10_sortCorners_55 : decode cX10_sortCorners 55 = .ok (.iload_n 2, 1) := by decide +kernel
theorem dX10_sortCorners_56 : decode cX10_sortCorners 56 = .ok (.iconst 1, 1) := by decide +kernel
theorem dX10_sortCorners_57 : decode cX10_sortCorners 57 = .ok (.isub, 1) := by decide +kernel
theorem dX10_sortCorners_58 : decode cX10_sortCorners 58 = .ok (.iaload, 1) := by decide +kernel
theorem dX10_sortCorners_59 : decode cX10_sortCorners 59 = .ok (.iastore, 1) := by decide +kernel
theorem dX10_sortCorners_60 : decode cX10_sortCorners 60 = .ok (.aload_n 0, 1) := by decide +kernel
theorem dX10_sortCorners_61 : decode cX10_sortCorners 61 = .ok (.getfield 51, 3) := by decide +kernel
theorem dX10_sortCorners_64 : decode cX10_sortCorners 64 = .ok (.iload_n 2, 1) := by decide +kernel
theorem dX10_sortCorners_65 : decode cX10_sortCorners 65 = .ok (.iconst 1, 1) := by decide +kernel
theorem dX10_sortCorners_66 : decode cX10_sortCorners 66 = .ok (.isub, 1) := by decide +kernel
theorem dX10_sortCorners_67 : decode cX10_sortCorners 67 = .ok (.iload_n 3, 1) := by decide +kernel
theorem dX10_sortCorners_68 : decode cX10_sortCorners 68 = .ok (.iastore, 1) := by decide +kernel
theorem dX10_sortCorners_69 : decode cX10_sortCorners 69 = .ok (.iconst 0, 1) := by decide +kernel
theorem dX10_sortCorners_70 : decode cX10_sortCorners 70 = .ok (.istore 4, 2) := by decide +kernel
theorem dX10_sortCorners_72 : decode cX10_sortCorners 72 = .ok (.iload 4, 2) := by decide +kernel
theorem dX10_sortCorners_74 : decode cX10_sortCorners 74 = .ok (.bipush 81, 2) := by decide +kernel
theorem dX10_sortCorners_76 : decode cX10_sortCorners 76 = .ok (.if_icmp .ge 65, 3) := by decide +kernel
theorem dX10_sortCorners_79 : decode cX10_sortCorners 79 = .ok (.aload_n 0, 1) := by decide +kernel
theorem dX10_sortCorners_80 : decode cX10_sortCorners 80 = .ok (.getfield 54, 3) := by decide +kernel
theorem dX10_sortCorners_83 : decode cX10_sortCorners 83 = .ok (.bipush 81, 2) := by decide +kernel
theorem dX10_sortCorners_85 : decode cX10_sortCorners 85 = .ok (.iload_n 2, 1) := by decide +kernel
theorem dX10_sortCorners_86 : decode cX10_sortCorners 86 = .ok (.imul, 1) := by decide +kernel
theorem dX10_sortCorners_87 : decode cX10_sortCorners 87 = .ok (.iload 4, 2) := by decide +kernel
theorem dX10_sortCorners_89 : decode cX10_sortCorners 89 = .ok (.iadd, 1) := by decide +kernel
theorem dX10_sortCorners_90 : decode cX10_sortCorners 90 = .ok (.iaload, 1) := by decide +kernel
theorem dX10_sortCorners_91 : decode cX10_sortCorners 91 = .ok (.istore 5, 2) := by decide +kernel
theorem dX10_sortCorners_93 : decode cX10_sortCorners 93 = .ok (.aload_n 0, 1) := by decide +kernel
theorem dX10_sortCorners_94 : decode cX10_sortCorners 94 = .ok (.getfield 54, 3) := by decide +kernel
theorem dX10_sortCorners_97 : decode cX10_sortCorners 97 = .ok (.bipush 81, 2) := by decide +kernel
theorem dX10_sortCorners_99 : decode cX10_sortCorners 99 = .ok (.iload_n 2, 1) := by decide +kernel
theorem dX10_sortCorners_100 : decode cX10_sortCorners 100 = .ok (.imul, 1) := by decide +kernel
theorem dX10_sortCorners_101 : decode cX10_sortCorners 101 = .ok (.iload 4, 2) := by decide +kernel
theorem dX10_sortCorners_103 : decode cX10_sortCorners 103 = .ok (.iadd, 1) := by decide +kernel
theorem dX10_sortCorners_104 : decode cX10_sortCorners 104 = .ok (.aload_n 0, 1) := by decide +kernel
theorem dX10_sortCorners_105 : decode cX10_sortCorners 105 = .ok (.getfield 54, 3) := by decide +kernel
theorem dX10_sortCorners_108 : decode cX10_sortCorners 108 = .ok (.bipush 81, 2) := by decide +kernel
theorem dX10_sortCorners_110 : decode cX10_sortCorners 110 = .ok (.iload_n 2, 1) := by decide +kernel
theorem dX10_sortCorners_111 : decode cX10_sortCorners 111 = .ok (.iconst 1, 1) := by decide +kernel
theorem dX10_sortCorners_112 : decode cX10_sortCorners 112 = .ok (.isub, 1) := by decide +kernel
theorem dX10_sortCorners_113 : decode cX10_sortCorners 113 = .ok (.imul, 1) := by decide +kernel
theorem dX10_sortCorners_114 : decode cX10_sortCorners 114 = .ok (.iload 4, 2) := by decide +kernel
theorem dX10_sortCorners_116 : decode cX10_sortCorners 116 = .ok (.iadd, 1) := by decide +kernel
theorem dX10_sortCorners_117 : decode cX10_sortCorners 117 = .ok (.iaload, 1) := by decide +kernel
theorem dX10_sortCorners_118 : decode cX10_sortCorners 118 = .ok (.iastore, 1) := by decide +kernel
theorem dX10_sortCorners_119 : decode cX10_sortCorners 119 = .ok (.aload_n 0, 1) := by decide +kernel
theorem dX10_sortCorners_120 : decode cX10_sortCorners 120 = .ok (.getfield 54, 3) := by decide +kernel
theorem dX10_sortCorners_123 : decode cX10_sortCorners 123 = .ok (.bipush 81, 2) := by decide +kernel
theorem dX10_sortCorners_125 : decode cX10_sortCorners 125 = .ok (.iload_n 2, 1) := by decide +kernel
theorem dX10_sortCorners_126 : decode cX10_sortCorners 126 = .ok (.iconst 1, 1) := by decide +kernel
theorem dX10_sortCorners_127 : decode cX10_sortCorners 127 = .ok (.isub, 1) := by decide +kernel
theorem dX10_sortCorners_128 : decode cX10_sortCorners 128 = .ok (.imul, 1) := by decide +kernel
theorem dX10_sortCorners_129 : decode cX10_sortCorners 129 = .ok (.iload 4, 2) := by decide +kernel
theorem dX10_sortCorners_131 : decode cX10_sortCorners 131 = .ok (.iadd, 1) := by decide +kernel
theorem dX10_sortCorners_132 : decode cX10_sortCorners 132 = .ok (.iload 5, 2) := by decide +kernel
theorem dX10_sortCorners_134 : decode cX10_sortCorners 134 = .ok (.iastore, 1) := by decide +kernel
theorem dX10_sortCorners_135 : decode cX10_sortCorners 135 = .ok (.iinc 4 1, 3) := by decide +kernel
theorem dX10_sortCorners_138 : decode cX10_sortCorners 138 = .ok (.goto (-66), 3) := by decide +kernel
theorem dX10_sortCorners_141 : decode cX10_sortCorners 141 = .ok (.iinc 2 (-1), 3) := by decide +kernel
theorem dX10_sortCorners_144 : decode cX10_sortCorners 144 = .ok (.goto (-132), 3) := by decide +kernel
theorem dX10_sortCorners_147 : decode cX10_sortCorners 147 = .ok (.iinc 1 1, 3) := by decide +kernel
theorem dX10_sortCorners_150 : decode cX10_sortCorners 150 = .ok (.goto (-148), 3) := by decide +kernel
theorem dX10_sortCorners_153 : decode cX10_sortCorners 153 = .ok (.return_, 1) := by decide +kernel
theorem dX10_isWeight_0 : decode cX10_isWeight 0 = .ok (.iload_n 0, 1) := by decide +kernel
theorem dX10_isWeight_1 : decode cX10_isWeight 1 = .ok (.iconst 0, 1) := by decide +kernel
theorem dX10_isWeight_2 : decode cX10_isWeight 2 = .ok (.bipush 99, 2) := by decide +kernel
theorem dX10_isWeight_4 : decode cX10_isWeight 4 = .ok (.invokestatic 114, 3) := by decide +kernel
theorem dX10_isWeight_7 : decode cX10_isWeight 7 = .ok (.ifCond .eq 23, 3) := by decide +kernel
theorem dX10_isWeight_10 : decode cX10_isWeight 10 = .ok (.iload_n 1, 1) := by decide +kernel
theorem dX10_isWeight_11 : decode cX10_isWeight 11 = .ok (.iconst 0, 1) := by decide +kernel
theorem dX10_isWeight_12 : decode cX10_isWeight 12 = .ok (.bipush 99, 2) := by decide +kernel
theorem dX10_isWeight_14 : decode cX10_isWeight 14 = .ok (.invokestatic 114, 3) := by decide +kernel
theorem dX10_isWeight_17 : decode cX10_isWeight 17 = .ok (.ifCond .eq 13, 3) := by decide +kernel
theorem dX10_isWeight_20 : decode cX10_isWeight 20 = .ok (.iload_n 0, 1) := by decide +kernel
theorem dX10_isWeight_21 : decode cX10_isWeight 21 = .ok (.iload_n 1, 1) := by decide +kernel
theorem dX10_isWeight_22 : decode cX10_isWeight 22 = .ok (.iadd, 1) := by decide +kernel
theorem dX10_isWeight_23 : decode cX10_isWeight 23 = .ok (.ifCond .le 7, 3) := by decide +kernel
theorem dX10_isWeight_26 : decode cX10_isWeight 26 = .ok (.iconst 1, 1) := by decide +kernel
theorem dX10_isWeight_27 : decode cX10_isWeight 27 = .ok (.goto 4, 3) := by decide +kernel
theorem dX10_isWeight_30 : decode cX10_isWeight 30 = .ok (.iconst 0, 1) := by decide +kernel
theorem dX10_isWeight_31 : decode cX10_isWeight 31 = .ok (.ireturn, 1) := by decide +kernel
theorem dX10_columnHeight_0 : decode cX10_columnHeight 0 = .ok (.iload 4, 2) := by decide +kernel
theorem dX10_columnHeight_2 : decode cX10_columnHeight 2 = .ok (.invokestatic 176, 3) := by decide +kernel
theorem dX10_columnHeight_5 : decode cX10_columnHeight 5 = .ok (.ifCond .ne 5, 3) := by decide +kernel
theorem dX10_columnHeight_8 : decode cX10_columnHeight 8 = .ok (.iconst (-1), 1) := by decide +kernel
theorem dX10_columnHeight_9 : decode cX10_columnHeight 9 = .ok (.ireturn, 1) := by decide +kernel
theorem dX10_columnHeight_10 : decode cX10_columnHeight 10 = .ok (.iload_n 1, 1) := by decide +kernel
theorem dX10_columnHeight_11 : decode cX10_columnHeight 11 = .ok (.iload_n 2, 1) := by decide +kernel
theorem dX10_columnHeight_12 : decode cX10_columnHeight 12 = .ok (.invokestatic 179, 3) := by decide +kernel
theorem dX10_columnHeight_15 : decode cX10_columnHeight 15 = .ok (.ifCond .eq 12, 3) := by decide +kernel
theorem dX10_columnHeight_18 : decode cX10_columnHeight 18 = .ok (.iload_n 3, 1) := by decide +kernel
theorem dX10_columnHeight_19 : decode cX10_columnHeight 19 = .ok (.iconst 0, 1) := by decide +kernel
theorem dX10_columnHeight_20 : decode cX10_columnHeight 20 = .ok (.iconst 1, 1) := by decide +kernel
theorem dX10_columnHeight_21 : decode cX10_columnHeight 21 = .ok (.invokestatic 114, 3) := by decide +kernel
theorem dX10_columnHeight_24 : decode cX10_columnHeight 24 = .ok (.ifCond .ne 6, 3) := by decide +kernel
theorem dX10_columnHeight_27 : decode cX10_columnHeight 27 = .ok (.bipush (-2), 2) := by decide +kernel
theorem dX10_columnHeight_29 : decode cX10_columnHeight 29 = .ok (.ireturn, 1) := by decide +kernel
theorem dX10_columnHeight_30 : decode cX10_columnHeight 30 = .ok (.aload_n 0, 1) := by decide +kernel
theorem dX10_columnHeight_31 : decode cX10_columnHeight 31 = .ok (.iload_n 1, 1) := by decide +kernel
theorem dX10_columnHeight_32 : decode cX10_columnHeight 32 = .ok (.iload_n 2, 1) := by decide +kernel
theorem dX10_columnHeight_33 : decode cX10_columnHeight 33 = .ok (.iload_n 3, 1) := by decide +kernel
theorem dX10_columnHeight_34 : decode cX10_columnHeight 34 = .ok (.invokevirtual 183, 3) := by decide +kernel
theorem dX10_columnHeight_37 : decode cX10_columnHeight 37 = .ok (.aload_n 0, 1) := by decide +kernel
theorem dX10_columnHeight_38 : decode cX10_columnHeight 38 = .ok (.getfield 48, 3) := by decide +kernel
theorem dX10_columnHeight_41 : decode cX10_columnHeight 41 = .ok (.iload 4, 2) := by decide +kernel
theorem dX10_columnHeight_43 : decode cX10_columnHeight 43 = .ok (.iaload, 1) := by decide +kernel
theorem dX10_columnHeight_44 : decode cX10_columnHeight 44 = .ok (.ireturn, 1) := by decide +kernel
theorem dX10_cornerCount_0 : decode cX10_cornerCount 0 = .ok (.iload_n 1, 1) := by decide +kernel
theorem dX10_cornerCount_1 : decode cX10_cornerCount 1 = .ok (.iload_n 2, 1) := by decide +kernel
theorem dX10_cornerCount_2 : decode cX10_cornerCount 2 = .ok (.invokestatic 179, 3) := by decide +kernel
theorem dX10_cornerCount_5 : decode cX10_cornerCount 5 = .ok (.ifCond .eq 12, 3) := by decide +kernel
theorem dX10_cornerCount_8 : decode cX10_cornerCount 8 = .ok (.iload_n 3, 1) := by decide +kernel
theorem dX10_cornerCount_9 : decode cX10_cornerCount 9 = .ok (.iconst 0, 1) := by decide +kernel
theorem dX10_cornerCount_10 : decode cX10_cornerCount 10 = .ok (.iconst 1, 1) := by decide +kernel
theorem dX10_cornerCount_11 : decode cX10_cornerCount 11 = .ok (.invokestatic 114, 3) := by decide +kernel
theorem dX10_cornerCount_14 : decode cX10_cornerCount 14 = .ok (.ifCond .ne 6, 3) := by decide +kernel
theorem dX10_cornerCount_17 : decode cX10_cornerCount 17 = .ok (.bipush (-2), 2) := by decide +kernel
theorem dX10_cornerCount_19 : decode cX10_cornerCount 19 = .ok (.ireturn, 1) := by decide +kernel
theorem dX10_cornerCount_20 : decode cX10_cornerCount 20 = .ok (.aload_n 0, 1) := by decide +kernel
theorem dX10_cornerCount_21 : decode cX10_cornerCount 21 = .ok (.iload_n 1, 1) := by decide +kernel
theorem dX10_cornerCount_22 : decode cX10_cornerCount 22 = .ok (.iload_n 2, 1) := by decide +kernel
theorem dX10_cornerCount_23 : decode cX10_cornerCount 23 = .ok (.iload_n 3, 1) := by decide +kernel
theorem dX10_cornerCount_24 : decode cX10_cornerCount 24 = .ok (.invokevirtual 183, 3) := by decide +kernel
theorem dX10_cornerCount_27 : decode cX10_cornerCount 27 = .ok (.aload_n 0, 1) := by decide +kernel
theorem dX10_cornerCount_28 : decode cX10_cornerCount 28 = .ok (.getfield 152, 3) := by decide +kernel
theorem dX10_cornerCount_31 : decode cX10_cornerCount 31 = .ok (.ireturn, 1) := by decide +kernel
theorem dX10_exponents_0 : decode cX10_exponents 0 = .ok (.bipush 10, 2) := by decide +kernel
theorem dX10_exponents_2 : decode cX10_exponents 2 = .ok (.iload_n 0, 1) := by decide +kernel
theorem dX10_exponents_3 : decode cX10_exponents 3 = .ok (.bipush 9, 2) := by decide +kernel
theorem dX10_exponents_5 : decode cX10_exponents 5 = .ok (.idiv, 1) := by decide +kernel
theorem dX10_exponents_6 : decode cX10_exponents 6 = .ok (.imul, 1) := by decide +kernel
theorem dX10_exponents_7 : decode cX10_exponents 7 = .ok (.iload_n 0, 1) := by decide +kernel
theorem dX10_exponents_8 : decode cX10_exponents 8 = .ok (.bipush 9, 2) := by decide +kernel
theorem dX10_exponents_10 : decode cX10_exponents 10 = .ok (.irem, 1) := by decide +kernel
theorem dX10_exponents_11 : decode cX10_exponents 11 = .ok (.iadd, 1) := by decide +kernel
theorem dX10_exponents_12 : decode cX10_exponents 12 = .ok (.ireturn, 1) := by decide +kernel
theorem dX10_corner_0 : decode cX10_corner 0 = .ok (.iload_n 1, 1) := by decide +kernel
theorem dX10_corner_1 : decode cX10_corner 1 = .ok (.iload_n 2, 1) := by decide +kernel
theorem dX10_corner_2 : decode cX10_corner 2 = .ok (.invokestatic 179, 3) := by decide +kernel
theorem dX10_corner_5 : decode cX10_corner 5 = .ok (.ifCond .eq 12, 3) := by decide +kernel
theorem dX10_corner_8 : decode cX10_corner 8 = .ok (.iload_n 3, 1) := by decide +kernel
theorem dX10_corner_9 : decode cX10_corner 9 = .ok (.iconst 0, 1) := by decide +kernel
theorem dX10_corner_10 : decode cX10_corner 10 = .ok (.iconst 1, 1) := by decide +kernel
theorem dX10_corner_11 : decode cX10_corner 11 = .ok (.invokestatic 114, 3) := by decide +kernel
theorem dX10_corner_14 : decode cX10_corner 14 = .ok (.ifCond .ne 6, 3) := by decide +kernel
theorem dX10_corner_17 : decode cX10_corner 17 = .ok (.bipush (-2), 2) := by decide +kernel
theorem dX10_corner_19 : decode cX10_corner 19 = .ok (.ireturn, 1) := by decide +kernel
theorem dX10_corner_20 : decode cX10_corner 20 = .ok (.aload_n 0, 1) := by decide +kernel
theorem dX10_corner_21 : decode cX10_corner 21 = .ok (.iload_n 1, 1) := by decide +kernel
theorem dX10_corner_22 : decode cX10_corner 22 = .ok (.iload_n 2, 1) := by decide +kernel
theorem dX10_corner_23 : decode cX10_corner 23 = .ok (.iload_n 3, 1) := by decide +kernel
theorem dX10_corner_24 : decode cX10_corner 24 = .ok (.invokevirtual 183, 3) := by decide +kernel
theorem dX10_corner_27 : decode cX10_corner 27 = .ok (.iload 4, 2) := by decide +kernel
theorem dX10_corner_29 : decode cX10_corner 29 = .ok (.iconst 0, 1) := by decide +kernel
theorem dX10_corner_30 : decode cX10_corner 30 = .ok (.aload_n 0, 1) := by decide +kernel
theorem dX10_corner_31 : decode cX10_corner 31 = .ok (.getfield 152, 3) := by decide +kernel
theorem dX10_corner_34 : decode cX10_corner 34 = .ok (.iconst 1, 1) := by decide +kernel
theorem dX10_corner_35 : decode cX10_corner 35 = .ok (.isub, 1) := by decide +kernel
theorem dX10_corner_36 : decode cX10_corner 36 = .ok (.invokestatic 114, 3) := by decide +kernel
theorem dX10_corner_39 : decode cX10_corner 39 = .ok (.ifCond .eq 16, 3) := by decide +kernel
theorem dX10_corner_42 : decode cX10_corner 42 = .ok (.aload_n 0, 1) := by decide +kernel
theorem dX10_corner_43 : decode cX10_corner 43 = .ok (.getfield 51, 3) := by decide +kernel
theorem dX10_corner_46 : decode cX10_corner 46 = .ok (.iload 4, 2) := by decide +kernel
theorem dX10_corner_48 : decode cX10_corner 48 = .ok (.iaload, 1) := by decide +kernel
theorem dX10_corner_49 : decode cX10_corner 49 = .ok (.invokestatic 186, 3) := by decide +kernel
theorem dX10_corner_52 : decode cX10_corner 52 = .ok (.goto 4, 3) := by decide +kernel
theorem dX10_corner_55 : decode cX10_corner 55 = .ok (.iconst (-1), 1) := by decide +kernel
theorem dX10_corner_56 : decode cX10_corner 56 = .ok (.ireturn, 1) := by decide +kernel
theorem dX10_divisor_0 : decode cX10_divisor 0 = .ok (.iload_n 0, 1) := by decide +kernel
theorem dX10_divisor_1 : decode cX10_divisor 1 = .ok (.istore_n 2, 1) := by decide +kernel
theorem dX10_divisor_2 : decode cX10_divisor 2 = .ok (.iload_n 1, 1) := by decide +kernel
theorem dX10_divisor_3 : decode cX10_divisor 3 = .ok (.istore_n 3, 1) := by decide +kernel
theorem dX10_divisor_4 : decode cX10_divisor 4 = .ok (.iload_n 3, 1) := by decide +kernel
theorem dX10_divisor_5 : decode cX10_divisor 5 = .ok (.ifCond .eq 16, 3) := by decide +kernel
theorem dX10_divisor_8 : decode cX10_divisor 8 = .ok (.iload_n 2, 1) := by decide +kernel
theorem dX10_divisor_9 : decode cX10_divisor 9 = .ok (.iload_n 3, 1) := by decide +kernel
theorem dX10_divisor_10 : decode cX10_divisor 10 = .ok (.irem, 1) := by decide +kernel
theorem dX10_divisor_11 : decode cX10_divisor 11 = .ok (.istore 4, 2) := by decide +kernel
theorem dX10_divisor_13 : decode cX10_divisor 13 = .ok (.iload_n 3, 1) := by decide +kernel
theorem dX10_divisor_14 : decode cX10_divisor 14 = .ok (.istore_n 2, 1) := by decide +kernel
theorem dX10_divisor_15 : decode cX10_divisor 15 = .ok (.iload 4, 2) := by decide +kernel
theorem dX10_divisor_17 : decode cX10_divisor 17 = .ok (.istore_n 3, 1) := by decide +kernel
theorem dX10_divisor_18 : decode cX10_divisor 18 = .ok (.goto (-14), 3) := by decide +kernel
theorem dX10_divisor_21 : decode cX10_divisor 21 = .ok (.iload_n 2, 1) := by decide +kernel
theorem dX10_divisor_22 : decode cX10_divisor 22 = .ok (.ireturn, 1) := by decide +kernel
theorem dX10_wall_0 : decode cX10_wall 0 = .ok (.iconst 0, 1) := by decide +kernel
theorem dX10_wall_1 : decode cX10_wall 1 = .ok (.istore_n 2, 1) := by decide +kernel
theorem dX10_wall_2 : decode cX10_wall 2 = .ok (.iconst 0, 1) := by decide +kernel
theorem dX10_wall_3 : decode cX10_wall 3 = .ok (.istore_n 3, 1) := by decide +kernel
theorem dX10_wall_4 : decode cX10_wall 4 = .ok (.iconst 0, 1) := by decide +kernel
theorem dX10_wall_5 : decode cX10_wall 5 = .ok (.istore 4, 2) := by decide +kernel
theorem dX10_wall_7 : decode cX10_wall 7 = .ok (.iload 4, 2) := by decide +kernel
theorem dX10_wall_9 : decode cX10_wall 9 = .ok (.aload_n 0, 1) := by decide +kernel
theorem dX10_wall_10 : decode cX10_wall 10 = .ok (.getfield 152, 3) := by decide +kernel
theorem dX10_wall_13 : decode cX10_wall 13 = .ok (.if_icmp .ge 103, 3) := by decide +kernel
theorem dX10_wall_16 : decode cX10_wall 16 = .ok (.iconst 0, 1) := by decide +kernel
theorem dX10_wall_17 : decode cX10_wall 17 = .ok (.istore 5, 2) := by decide +kernel
theorem dX10_wall_19 : decode cX10_wall 19 = .ok (.iload 5, 2) := by decide +kernel
theorem dX10_wall_21 : decode cX10_wall 21 = .ok (.bipush 81, 2) := by decide +kernel
theorem dX10_wall_23 : decode cX10_wall 23 = .ok (.if_icmp .ge 87, 3) := by decide +kernel
theorem dX10_wall_26 : decode cX10_wall 26 = .ok (.iload 5, 2) := by decide +kernel
theorem dX10_wall_28 : decode cX10_wall 28 = .ok (.bipush 9, 2) := by decide +kernel
theorem dX10_wall_30 : decode cX10_wall 30 = .ok (.irem, 1) := by decide +kernel
theorem dX10_wall_31 : decode cX10_wall 31 = .ok (.aload_n 0, 1) := by decide +kernel
theorem dX10_wall_32 : decode cX10_wall 32 = .ok (.getfield 51, 3) := by decide +kernel
theorem dX10_wall_35 : decode cX10_wall 35 = .ok (.iload 4, 2) := by decide +kernel
theorem dX10_wall_37 : decode cX10_wall 37 = .ok (.iaload, 1) := by decide +kernel
theorem dX10_wall_38 : decode cX10_wall 38 = .ok (.bipush 9, 2) := by decide +kernel
theorem dX10_wall_40 : decode cX10_wall 40 = .ok (.irem, 1) := by decide +kernel
theorem dX10_wall_41 : decode cX10_wall 41 = .ok (.isub, 1) := by decide +kernel
theorem dX10_wall_42 : decode cX10_wall 42 = .ok (.istore 6, 2) := by decide +kernel
theorem dX10_wall_44 : decode cX10_wall 44 = .ok (.aload_n 0, 1) := by decide +kernel
theorem dX10_wall_45 : decode cX10_wall 45 = .ok (.getfield 51, 3) := by decide +kernel
theorem dX10_wall_48 : decode cX10_wall 48 = .ok (.iload 4, 2) := by decide +kernel
theorem dX10_wall_50 : decode cX10_wall 50 = .ok (.iaload, 1) := by decide +kernel
theorem dX10_wall_51 : decode cX10_wall 51 = .ok (.bipush 9, 2) := by decide +kernel
theorem dX10_wall_53 : decode cX10_wall 53 = .ok (.idiv, 1) := by decide +kernel
theorem dX10_wall_54 : decode cX10_wall 54 = .ok (.iload 5, 2) := by decide +kernel
theorem dX10_wall_56 : decode cX10_wall 56 = .ok (.bipush 9, 2) := by decide +kernel
theorem dX10_wall_58 : decode cX10_wall 58 = .ok (.idiv, 1) := by decide +kernel
theorem dX10_wall_59 : decode cX10_wall 59 = .ok (.isub, 1) := by decide +kernel
theorem dX10_wall_60 : decode cX10_wall 60 = .ok (.istore 7, 2) := by decide +kernel
theorem dX10_wall_62 : decode cX10_wall 62 = .ok (.iload 6, 2) := by decide +kernel
theorem dX10_wall_64 : decode cX10_wall 64 = .ok (.ifCond .le 40, 3) := by decide +kernel
theorem dX10_wall_67 : decode cX10_wall 67 = .ok (.aload_n 0, 1) := by decide +kernel
theorem dX10_wall_68 : decode cX10_wall 68 = .ok (.getfield 54, 3) := by decide +kernel
theorem dX10_wall_71 : decode cX10_wall 71 = .ok (.bipush 81, 2) := by decide +kernel
theorem dX10_wall_73 : decode cX10_wall 73 = .ok (.iload 4, 2) := by decide +kernel
theorem dX10_wall_75 : decode cX10_wall 75 = .ok (.imul, 1) := by decide +kernel
theorem dX10_wall_76 : decode cX10_wall 76 = .ok (.iload 5, 2) := by decide +kernel
theorem dX10_wall_78 : decode cX10_wall 78 = .ok (.iadd, 1) := by decide +kernel
theorem dX10_wall_79 : decode cX10_wall 79 = .ok (.iaload, 1) := by decide +kernel
theorem dX10_wall_80 : decode cX10_wall 80 = .ok (.ifCond .eq 24, 3) := by decide +kernel
theorem dX10_wall_83 : decode cX10_wall 83 = .ok (.iload_n 3, 1) := by decide +kernel
theorem dX10_wall_84 : decode cX10_wall 84 = .ok (.ifCond .eq 14, 3) := by decide +kernel
theorem dX10_wall_87 : decode cX10_wall 87 = .ok (.iload 7, 2) := by decide +kernel
theorem dX10_wall_89 : decode cX10_wall 89 = .ok (.iload_n 3, 1) := by decide +kernel
theorem dX10_wall_90 : decode cX10_wall 90 = .ok (.imul, 1) := by decide +kernel
theorem dX10_wall_91 : decode cX10_wall 91 = .ok (.iload_n 2, 1) := by decide +kernel
theorem dX10_wall_92 : decode cX10_wall 92 = .ok (.iload 6, 2) := by decide +kernel
theorem dX10_wall_94 : decode cX10_wall 94 = .ok (.imul, 1) := by decide +kernel
theorem dX10_wall_95 : decode cX10_wall 95 = .ok (.if_icmp .ge 9, 3) := by decide +kernel
theorem dX10_wall_98 : decode cX10_wall 98 = .ok (.iload 7, 2) := by decide +kernel
theorem dX10_wall_100 : decode cX10_wall 100 = .ok (.istore_n 2, 1) := by decide +kernel
theorem dX10_wall_101 : decode cX10_wall 101 = .ok (.iload 6, 2) := by decide +kernel
theorem dX10_wall_103 : decode cX10_wall 103 = .ok (.istore_n 3, 1) := by decide +kernel
theorem dX10_wall_104 : decode cX10_wall 104 = .ok (.iinc 5 1, 3) := by decide +kernel
theorem dX10_wall_107 : decode cX10_wall 107 = .ok (.goto (-88), 3) := by decide +kernel
theorem dX10_wall_110 : decode cX10_wall 110 = .ok (.iinc 4 1, 3) := by decide +kernel
theorem dX10_wall_113 : decode cX10_wall 113 = .ok (.goto (-106), 3) := by decide +kernel
theorem dX10_wall_116 : decode cX10_wall 116 = .ok (.iload_n 3, 1) := by decide +kernel
theorem dX10_wall_117 : decode cX10_wall 117 = .ok (.ifCond .ne 7, 3) := by decide +kernel
theorem dX10_wall_120 : decode cX10_wall 120 = .ok (.iconst 1, 1) := by decide +kernel
theorem dX10_wall_121 : decode cX10_wall 121 = .ok (.goto 8, 3) := by decide +kernel
theorem dX10_wall_124 : decode cX10_wall 124 = .ok (.iload_n 2, 1) := by decide +kernel
theorem dX10_wall_125 : decode cX10_wall 125 = .ok (.iload_n 3, 1) := by decide +kernel
theorem dX10_wall_126 : decode cX10_wall 126 = .ok (.invokestatic 189, 3) := by decide +kernel
theorem dX10_wall_129 : decode cX10_wall 129 = .ok (.istore 4, 2) := by decide +kernel
theorem dX10_wall_131 : decode cX10_wall 131 = .ok (.aload_n 0, 1) := by decide +kernel
theorem dX10_wall_132 : decode cX10_wall 132 = .ok (.getfield 57, 3) := by decide +kernel
theorem dX10_wall_135 : decode cX10_wall 135 = .ok (.iload_n 1, 1) := by decide +kernel
theorem dX10_wall_136 : decode cX10_wall 136 = .ok (.iload_n 2, 1) := by decide +kernel
theorem dX10_wall_137 : decode cX10_wall 137 = .ok (.iload 4, 2) := by decide +kernel
theorem dX10_wall_139 : decode cX10_wall 139 = .ok (.idiv, 1) := by decide +kernel
theorem dX10_wall_140 : decode cX10_wall 140 = .ok (.iastore, 1) := by decide +kernel
theorem dX10_wall_141 : decode cX10_wall 141 = .ok (.aload_n 0, 1) := by decide +kernel
theorem dX10_wall_142 : decode cX10_wall 142 = .ok (.getfield 60, 3) := by decide +kernel
theorem dX10_wall_145 : decode cX10_wall 145 = .ok (.iload_n 1, 1) := by decide +kernel
theorem dX10_wall_146 : decode cX10_wall 146 = .ok (.iload_n 3, 1) := by decide +kernel
theorem dX10_wall_147 : decode cX10_wall 147 = .ok (.iload 4, 2) := by decide +kernel
theorem dX10_wall_149 : decode cX10_wall 149 = .ok (.idiv, 1) := by decide +kernel
theorem dX10_wall_150 : decode cX10_wall 150 = .ok (.iastore, 1) := by decide +kernel
theorem dX10_wall_151 : decode cX10_wall 151 = .ok (.return_, 1) := by decide +kernel
theorem dX10_keep_0 : decode cX10_keep 0 = .ok (.aload_n 0, 1) := by decide +kernel
theorem dX10_keep_1 : decode cX10_keep 1 = .ok (.getfield 63, 3) := by decide +kernel
theorem dX10_keep_4 : decode cX10_keep 4 = .ok (.iload_n 1, 1) := by decide +kernel
theorem dX10_keep_5 : decode cX10_keep 5 = .ok (.aload_n 0, 1) := by decide +kernel
theorem dX10_keep_6 : decode cX10_keep 6 = .ok (.getfield 152, 3) := by decide +kernel
theorem dX10_keep_9 : decode cX10_keep 9 = .ok (.iastore, 1) := by decide +kernel
theorem dX10_keep_10 : decode cX10_keep 10 = .ok (.iconst 0, 1) := by decide +kernel
theorem dX10_keep_11 : decode cX10_keep 11 = .ok (.istore_n 2, 1) := by decide +kernel
theorem dX10_keep_12 : decode cX10_keep 12 = .ok (.iload_n 2, 1) := by decide +kernel
theorem dX10_keep_13 : decode cX10_keep 13 = .ok (.bipush 9, 2) := by decide +kernel
theorem dX10_keep_15 : decode cX10_keep 15 = .ok (.if_icmp .ge 26, 3) := by decide +kernel
theorem dX10_keep_18 : decode cX10_keep 18 = .ok (.aload_n 0, 1) := by decide +kernel
theorem dX10_keep_19 : decode cX10_keep 19 = .ok (.getfield 66, 3) := by decide +kernel
theorem dX10_keep_22 : decode cX10_keep 22 = .ok (.bipush 9, 2) := by decide +kernel
theorem dX10_keep_24 : decode cX10_keep 24 = .ok (.iload_n 1, 1) := by decide +kernel
theorem dX10_keep_25 : decode cX10_keep 25 = .ok (.imul, 1) := by decide +kernel
theorem dX10_keep_26 : decode cX10_keep 26 = .ok (.iload_n 2, 1) := by decide +kernel
theorem dX10_keep_27 : decode cX10_keep 27 = .ok (.iadd, 1) := by decide +kernel
theorem dX10_keep_28 : decode cX10_keep 28 = .ok (.aload_n 0, 1) := by decide +kernel
theorem dX10_keep_29 : decode cX10_keep 29 = .ok (.getfield 48, 3) := by decide +kernel
theorem dX10_keep_32 : decode cX10_keep 32 = .ok (.iload_n 2, 1) := by decide +kernel
theorem dX10_keep_33 : decode cX10_keep 33 = .ok (.iaload, 1) := by decide +kernel
theorem dX10_keep_34 : decode cX10_keep 34 = .ok (.iastore, 1) := by decide +kernel
theorem dX10_keep_35 : decode cX10_keep 35 = .ok (.iinc 2 1, 3) := by decide +kernel
theorem dX10_keep_38 : decode cX10_keep 38 = .ok (.goto (-26), 3) := by decide +kernel
theorem dX10_keep_41 : decode cX10_keep 41 = .ok (.iconst 0, 1) := by decide +kernel
theorem dX10_keep_42 : decode cX10_keep 42 = .ok (.istore_n 2, 1) := by decide +kernel
theorem dX10_keep_43 : decode cX10_keep 43 = .ok (.iload_n 2, 1) := by decide +kernel
theorem dX10_keep_44 : decode cX10_keep 44 = .ok (.aload_n 0, 1) := by decide +kernel
theorem dX10_keep_45 : decode cX10_keep 45 = .ok (.getfield 152, 3) := by decide +kernel
theorem dX10_keep_48 : decode cX10_keep 48 = .ok (.if_icmp .ge 67, 3) := by decide +kernel
theorem dX10_keep_51 : decode cX10_keep 51 = .ok (.aload_n 0, 1) := by decide +kernel
theorem dX10_keep_52 : decode cX10_keep 52 = .ok (.getfield 69, 3) := by decide +kernel
theorem dX10_keep_55 : decode cX10_keep 55 = .ok (.bipush 9, 2) := by decide +kernel
theorem dX10_keep_57 : decode cX10_keep 57 = .ok (.iload_n 1, 1) := by decide +kernel
theorem dX10_keep_58 : decode cX10_keep 58 = .ok (.imul, 1) := by decide +kernel
theorem dX10_keep_59 : decode cX10_keep 59 = .ok (.iload_n 2, 1) := by decide +kernel
theorem dX10_keep_60 : decode cX10_keep 60 = .ok (.iadd, 1) := by decide +kernel
theorem dX10_keep_61 : decode cX10_keep 61 = .ok (.aload_n 0, 1) := by decide +kernel
theorem dX10_keep_62 : decode cX10_keep 62 = .ok (.getfield 51, 3) := by decide +kernel
theorem dX10_keep_65 : decode cX10_keep 65 = .ok (.iload_n 2, 1) := by decide +kernel
theorem dX10_keep_66 : decode cX10_keep 66 = .ok (.iaload, 1) := by decide +kernel
theorem dX10_keep_67 : decode cX10_keep 67 = .ok (.iastore, 1) := by decide +kernel
theorem dX10_keep_68 : decode cX10_keep 68 = .ok (.iconst 0, 1) := by decide +kernel
theorem dX10_keep_69 : decode cX10_keep 69 = .ok (.istore_n 3, 1) := by decide +kernel
theorem dX10_keep_70 : decode cX10_keep 70 = .ok (.iload_n 3, 1) := by decide +kernel
theorem dX10_keep_71 : decode cX10_keep 71 = .ok (.bipush 81, 2) := by decide +kernel
theorem dX10_keep_73 : decode cX10_keep 73 = .ok (.if_icmp .ge 36, 3) := by decide +kernel
theorem dX10_keep_76 : decode cX10_keep 76 = .ok (.aload_n 0, 1) := by decide +kernel
theorem dX10_keep_77 : decode cX10_keep 77 = .ok (.getfield 72, 3) := by decide +kernel
theorem dX10_keep_80 : decode cX10_keep 80 = .ok (.bipush 81, 2) := by decide +kernel
theorem dX10_keep_82 : decode cX10_keep 82 = .ok (.bipush 9, 2) := by decide +kernel
theorem dX10_keep_84 : decode cX10_keep 84 = .ok (.iload_n 1, 1) := by decide +kernel
theorem dX10_keep_85 : decode cX10_keep 85 = .ok (.imul, 1) := by decide +kernel
theorem dX10_keep_86 : decode cX10_keep 86 = .ok (.iload_n 2, 1) := by decide +kernel
theorem dX10_keep_87 : decode cX10_keep 87 = .ok (.iadd, 1) := by decide +kernel
theorem dX10_keep_88 : decode cX10_keep 88 = .ok (.imul, 1) := by decide +kernel
theorem dX10_keep_89 : decode cX10_keep 89 = .ok (.iload_n 3, 1) := by decide +kernel
theorem dX10_keep_90 : decode cX10_keep 90 = .ok (.iadd, 1) := by decide +kernel
theorem dX10_keep_91 : decode cX10_keep 91 = .ok (.aload_n 0, 1) := by decide +kernel
theorem dX10_keep_92 : decode cX10_keep 92 = .ok (.getfield 54, 3) := by decide +kernel
theorem dX10_keep_95 : decode cX10_keep 95 = .ok (.bipush 81, 2) := by decide +kernel
theorem dX10_keep_97 : decode cX10_keep 97 = .ok (.iload_n 2, 1) := by decide +kernel
theorem dX10_keep_98 : decode cX10_keep 98 = .ok (.imul, 1) := by decide +kernel
theorem dX10_keep_99 : decode cX10_keep 99 = .ok (.iload_n 3, 1) := by decide +kernel
theorem dX10_keep_100 : decode cX10_keep 100 = .ok (.iadd, 1) := by decide +kernel
theorem dX10_keep_101 : decode cX10_keep 101 = .ok (.iaload, 1) := by decide +kernel
theorem dX10_keep_102 : decode cX10_keep 102 = .ok (.iastore, 1) := by decide +kernel
theorem dX10_keep_103 : decode cX10_keep 103 = .ok (.iinc 3 1, 3) := by decide +kernel
theorem dX10_keep_106 : decode cX10_keep 106 = .ok (.goto (-36), 3) := by decide +kernel
theorem dX10_keep_109 : decode cX10_keep 109 = .ok (.iinc 2 1, 3) := by decide +kernel
theorem dX10_keep_112 : decode cX10_keep 112 = .ok (.goto (-69), 3) := by decide +kernel
theorem dX10_keep_115 : decode cX10_keep 115 = .ok (.aload_n 0, 1) := by decide +kernel
theorem dX10_keep_116 : decode cX10_keep 116 = .ok (.iload_n 1, 1) := by decide +kernel
theorem dX10_keep_117 : decode cX10_keep 117 = .ok (.invokevirtual 192, 3) := by decide +kernel
theorem dX10_keep_120 : decode cX10_keep 120 = .ok (.return_, 1) := by decide +kernel
theorem dX10_fan_0 : decode cX10_fan 0 = .ok (.aload_n 0, 1) := by decide +kernel
theorem dX10_fan_1 : decode cX10_fan 1 = .ok (.getfield 122, 3) := by decide +kernel
theorem dX10_fan_4 : decode cX10_fan 4 = .ok (.ifCond .eq 4, 3) := by decide +kernel
theorem dX10_fan_7 : decode cX10_fan 7 = .ok (.return_, 1) := by decide +kernel
theorem dX10_fan_8 : decode cX10_fan 8 = .ok (.aload_n 0, 1) := by decide +kernel
theorem dX10_fan_9 : decode cX10_fan 9 = .ok (.iconst 0, 1) := by decide +kernel
theorem dX10_fan_10 : decode cX10_fan 10 = .ok (.putfield 195, 3) := by decide +kernel
theorem dX10_fan_13 : decode cX10_fan 13 = .ok (.iconst 1, 1) := by decide +kernel
theorem dX10_fan_14 : decode cX10_fan 14 = .ok (.istore_n 1, 1) := by decide +kernel
theorem dX10_fan_15 : decode cX10_fan 15 = .ok (.iconst 0, 1) := by decide +kernel
theorem dX10_fan_16 : decode cX10_fan 16 = .ok (.istore_n 2, 1) := by decide +kernel
theorem dX10_fan_17 : decode cX10_fan 17 = .ok (.iconst 1, 1) := by decide +kernel
theorem dX10_fan_18 : decode cX10_fan 18 = .ok (.istore_n 3, 1) := by decide +kernel
theorem dX10_fan_19 : decode cX10_fan 19 = .ok (.iload_n 3, 1) := by decide +kernel
theorem dX10_fan_20 : decode cX10_fan 20 = .ok (.ifCond .eq 61, 3) := by decide +kernel
theorem dX10_fan_23 : decode cX10_fan 23 = .ok (.aload_n 0, 1) := by decide +kernel
theorem dX10_fan_24 : decode cX10_fan 24 = .ok (.iload_n 1, 1) := by decide +kernel
theorem dX10_fan_25 : decode cX10_fan 25 = .ok (.iload_n 2, 1) := by decide +kernel
theorem dX10_fan_26 : decode cX10_fan 26 = .ok (.iconst 1, 1) := by decide +kernel
theorem dX10_fan_27 : decode cX10_fan 27 = .ok (.invokevirtual 183, 3) := by decide +kernel
theorem dX10_fan_30 : decode cX10_fan 30 = .ok (.aload_n 0, 1) := by decide +kernel
theorem dX10_fan_31 : decode cX10_fan 31 = .ok (.aload_n 0, 1) := by decide +kernel
theorem dX10_fan_32 : decode cX10_fan 32 = .ok (.getfield 195, 3) := by decide +kernel
theorem dX10_fan_35 : decode cX10_fan 35 = .ok (.invokevirtual 198, 3) := by decide +kernel
theorem dX10_fan_38 : decode cX10_fan 38 = .ok (.aload_n 0, 1) := by decide +kernel
theorem dX10_fan_39 : decode cX10_fan 39 = .ok (.getfield 60, 3) := by decide +kernel
theorem dX10_fan_42 : decode cX10_fan 42 = .ok (.aload_n 0, 1) := by decide +kernel
theorem dX10_fan_43 : decode cX10_fan 43 = .ok (.getfield 195, 3) := by decide +kernel
theorem dX10_fan_46 : decode cX10_fan 46 = .ok (.iaload, 1) := by decide +kernel
theorem dX10_fan_47 : decode cX10_fan 47 = .ok (.istore_n 1, 1) := by decide +kernel
theorem dX10_fan_48 : decode cX10_fan 48 = .ok (.aload_n 0, 1) := by decide +kernel
theorem dX10_fan_49 : decode cX10_fan 49 = .ok (.getfield 57, 3) := by decide +kernel
theorem dX10_fan_52 : decode cX10_fan 52 = .ok (.aload_n 0, 1) := by decide +kernel
theorem dX10_fan_53 : decode cX10_fan 53 = .ok (.getfield 195, 3) := by decide +kernel
theorem dX10_fan_56 : decode cX10_fan 56 = .ok (.iaload, 1) := by decide +kernel
theorem dX10_fan_57 : decode cX10_fan 57 = .ok (.istore_n 2, 1) := by decide +kernel
theorem dX10_fan_58 : decode cX10_fan 58 = .ok (.iload_n 1, 1) := by decide +kernel
theorem dX10_fan_59 : decode cX10_fan 59 = .ok (.ifCond .le 7, 3) := by decide +kernel
theorem dX10_fan_62 : decode cX10_fan 62 = .ok (.iconst 1, 1) := by decide +kernel
theorem dX10_fan_63 : decode cX10_fan 63 = .ok (.goto 4, 3) := by decide +kernel
theorem dX10_fan_66 : decode cX10_fan 66 = .ok (.iconst 0, 1) := by decide +kernel
theorem dX10_fan_67 : decode cX10_fan 67 = .ok (.istore_n 3, 1) := by decide +kernel
theorem dX10_fan_68 : decode cX10_fan 68 = .ok (.aload_n 0, 1) := by decide +kernel
theorem dX10_fan_69 : decode cX10_fan 69 = .ok (.dup, 1) := by decide +kernel
theorem dX10_fan_70 : decode cX10_fan 70 = .ok (.getfield 195, 3) := by decide +kernel
theorem dX10_fan_73 : decode cX10_fan 73 = .ok (.iconst 1, 1) := by decide +kernel
theorem dX10_fan_74 : decode cX10_fan 74 = .ok (.iadd, 1) := by decide +kernel
theorem dX10_fan_75 : decode cX10_fan 75 = .ok (.putfield 195, 3) := by decide +kernel
theorem dX10_fan_78 : decode cX10_fan 78 = .ok (.goto (-59), 3) := by decide +kernel
theorem dX10_fan_81 : decode cX10_fan 81 = .ok (.aload_n 0, 1) := by decide +kernel
theorem dX10_fan_82 : decode cX10_fan 82 = .ok (.iconst 1, 1) := by decide +kernel
theorem dX10_fan_83 : decode cX10_fan 83 = .ok (.putfield 122, 3) := by decide +kernel
theorem dX10_fan_86 : decode cX10_fan 86 = .ok (.return_, 1) := by decide +kernel
theorem dX10_isCone_0 : decode cX10_isCone 0 = .ok (.aload_n 0, 1) := by decide +kernel
