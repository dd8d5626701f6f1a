theorem dX10_isCone_1 : decode cX10_isCone 1 = .ok (.invokevirtual 201, 3) := by decide +kernel
theorem dX10_isCone_4 : decode cX10_isCone 4 = .ok (.iload_n 1, 1) := by decide +kernel
theorem dX10_isCone_5 : decode cX10_isCone 5 = .ok (.iconst 0, 1) := by decide +kernel
theorem dX10_isCone_6 : decode cX10_isCone 6 = .ok (.aload_n 0, 1) := by decide +kernel
theorem dX10_isCone_7 : decode cX10_isCone 7 = .ok (.getfield 195, 3) := by decide +kernel
theorem dX10_isCone_10 : decode cX10_isCone 10 = .ok (.iconst 1, 1) := by decide +kernel
theorem dX10_isCone_11 : decode cX10_isCone 11 = .ok (.isub, 1) := by decide +kernel
theorem dX10_isCone_12 : decode cX10_isCone 12 = .ok (.invokestatic 114, 3) := by decide +kernel
theorem dX10_isCone_15 : decode cX10_isCone 15 = .ok (.ireturn, 1) := by decide +kernel
theorem dX10_isBasis_0 : decode cX10_isBasis 0 = .ok (.aload_n 0, 1) := by decide +kernel
theorem dX10_isBasis_1 : decode cX10_isBasis 1 = .ok (.iload_n 1, 1) := by decide +kernel
theorem dX10_isBasis_2 : decode cX10_isBasis 2 = .ok (.invokevirtual 204, 3) := by decide +kernel
theorem dX10_isBasis_5 : decode cX10_isBasis 5 = .ok (.ifCond .eq 23, 3) := by decide +kernel
theorem dX10_isBasis_8 : decode cX10_isBasis 8 = .ok (.iload_n 2, 1) := by decide +kernel
theorem dX10_isBasis_9 : decode cX10_isBasis 9 = .ok (.iconst 0, 1) := by decide +kernel
theorem dX10_isBasis_10 : decode cX10_isBasis 10 = .ok (.aload_n 0, 1) := by decide +kernel
theorem dX10_isBasis_11 : decode cX10_isBasis 11 = .ok (.getfield 63, 3) := by decide +kernel
theorem dX10_isBasis_14 : decode cX10_isBasis 14 = .ok (.iload_n 1, 1) := by decide +kernel
theorem dX10_isBasis_15 : decode cX10_isBasis 15 = .ok (.iaload, 1) := by decide +kernel
theorem dX10_isBasis_16 : decode cX10_isBasis 16 = .ok (.iconst 1, 1) := by decide +kernel
theorem dX10_isBasis_17 : decode cX10_isBasis 17 = .ok (.isub, 1) := by decide +kernel
theorem dX10_isBasis_18 : decode cX10_isBasis 18 = .ok (.invokestatic 114, 3) := by decide +kernel
theorem dX10_isBasis_21 : decode cX10_isBasis 21 = .ok (.ifCond .eq 7, 3) := by decide +kernel
theorem dX10_isBasis_24 : decode cX10_isBasis 24 = .ok (.iconst 1, 1) := by decide +kernel
theorem dX10_isBasis_25 : decode cX10_isBasis 25 = .ok (.goto 4, 3) := by decide +kernel
theorem dX10_isBasis_28 : decode cX10_isBasis 28 = .ok (.iconst 0, 1) := by decide +kernel
theorem dX10_isBasis_29 : decode cX10_isBasis 29 = .ok (.ireturn, 1) := by decide +kernel
theorem dX10_cell_0 : decode cX10_cell 0 = .ok (.aload_n 0, 1) := by decide +kernel
theorem dX10_cell_1 : decode cX10_cell 1 = .ok (.getfield 72, 3) := by decide +kernel
theorem dX10_cell_4 : decode cX10_cell 4 = .ok (.bipush 81, 2) := by decide +kernel
theorem dX10_cell_6 : decode cX10_cell 6 = .ok (.bipush 9, 2) := by decide +kernel
theorem dX10_cell_8 : decode cX10_cell 8 = .ok (.iload_n 1, 1) := by decide +kernel
theorem dX10_cell_9 : decode cX10_cell 9 = .ok (.imul, 1) := by decide +kernel
theorem dX10_cell_10 : decode cX10_cell 10 = .ok (.iload_n 2, 1) := by decide +kernel
theorem dX10_cell_11 : decode cX10_cell 11 = .ok (.iadd, 1) := by decide +kernel
theorem dX10_cell_12 : decode cX10_cell 12 = .ok (.imul, 1) := by decide +kernel
theorem dX10_cell_13 : decode cX10_cell 13 = .ok (.iload_n 3, 1) := by decide +kernel
theorem dX10_cell_14 : decode cX10_cell 14 = .ok (.iadd, 1) := by decide +kernel
theorem dX10_cell_15 : decode cX10_cell 15 = .ok (.iaload, 1) := by decide +kernel
theorem dX10_cell_16 : decode cX10_cell 16 = .ok (.ireturn, 1) := by decide +kernel
theorem dX10_coneCount_0 : decode cX10_coneCount 0 = .ok (.aload_n 0, 1) := by decide +kernel
theorem dX10_coneCount_1 : decode cX10_coneCount 1 = .ok (.invokevirtual 201, 3) := by decide +kernel
theorem dX10_coneCount_4 : decode cX10_coneCount 4 = .ok (.aload_n 0, 1) := by decide +kernel
theorem dX10_coneCount_5 : decode cX10_coneCount 5 = .ok (.getfield 195, 3) := by decide +kernel
theorem dX10_coneCount_8 : decode cX10_coneCount 8 = .ok (.ireturn, 1) := by decide +kernel
theorem dX10_wallNumerator_0 : decode cX10_wallNumerator 0 = .ok (.aload_n 0, 1) := by decide +kernel
theorem dX10_wallNumerator_1 : decode cX10_wallNumerator 1 = .ok (.iload_n 1, 1) := by decide +kernel
theorem dX10_wallNumerator_2 : decode cX10_wallNumerator 2 = .ok (.invokevirtual 204, 3) := by decide +kernel
theorem dX10_wallNumerator_5 : decode cX10_wallNumerator 5 = .ok (.ifCond .ne 5, 3) := by decide +kernel
theorem dX10_wallNumerator_8 : decode cX10_wallNumerator 8 = .ok (.iconst (-1), 1) := by decide +kernel
theorem dX10_wallNumerator_9 : decode cX10_wallNumerator 9 = .ok (.ireturn, 1) := by decide +kernel
theorem dX10_wallNumerator_10 : decode cX10_wallNumerator 10 = .ok (.aload_n 0, 1) := by decide +kernel
theorem dX10_wallNumerator_11 : decode cX10_wallNumerator 11 = .ok (.getfield 60, 3) := by decide +kernel
theorem dX10_wallNumerator_14 : decode cX10_wallNumerator 14 = .ok (.iload_n 1, 1) := by decide +kernel
theorem dX10_wallNumerator_15 : decode cX10_wallNumerator 15 = .ok (.iaload, 1) := by decide +kernel
theorem dX10_wallNumerator_16 : decode cX10_wallNumerator 16 = .ok (.ifCond .ne 8, 3) := by decide +kernel
theorem dX10_wallNumerator_19 : decode cX10_wallNumerator 19 = .ok (.bipush (-5), 2) := by decide +kernel
theorem dX10_wallNumerator_21 : decode cX10_wallNumerator 21 = .ok (.goto 9, 3) := by decide +kernel
theorem dX10_wallNumerator_24 : decode cX10_wallNumerator 24 = .ok (.aload_n 0, 1) := by decide +kernel
theorem dX10_wallNumerator_25 : decode cX10_wallNumerator 25 = .ok (.getfield 57, 3) := by decide +kernel
theorem dX10_wallNumerator_28 : decode cX10_wallNumerator 28 = .ok (.iload_n 1, 1) := by decide +kernel
theorem dX10_wallNumerator_29 : decode cX10_wallNumerator 29 = .ok (.iaload, 1) := by decide +kernel
theorem dX10_wallNumerator_30 : decode cX10_wallNumerator 30 = .ok (.ireturn, 1) := by decide +kernel
theorem dX10_wallDenominator_0 : decode cX10_wallDenominator 0 = .ok (.aload_n 0, 1) := by decide +kernel
theorem dX10_wallDenominator_1 : decode cX10_wallDenominator 1 = .ok (.iload_n 1, 1) := by decide +kernel
theorem dX10_wallDenominator_2 : decode cX10_wallDenominator 2 = .ok (.invokevirtual 204, 3) := by decide +kernel
theorem dX10_wallDenominator_5 : decode cX10_wallDenominator 5 = .ok (.ifCond .ne 5, 3) := by decide +kernel
theorem dX10_wallDenominator_8 : decode cX10_wallDenominator 8 = .ok (.iconst (-1), 1) := by decide +kernel
theorem dX10_wallDenominator_9 : decode cX10_wallDenominator 9 = .ok (.ireturn, 1) := by decide +kernel
theorem dX10_wallDenominator_10 : decode cX10_wallDenominator 10 = .ok (.aload_n 0, 1) := by decide +kernel
theorem dX10_wallDenominator_11 : decode cX10_wallDenominator 11 = .ok (.getfield 60, 3) := by decide +kernel
theorem dX10_wallDenominator_14 : decode cX10_wallDenominator 14 = .ok (.iload_n 1, 1) := by decide +kernel
theorem dX10_wallDenominator_15 : decode cX10_wallDenominator 15 = .ok (.iaload, 1) := by decide +kernel
theorem dX10_wallDenominator_16 : decode cX10_wallDenominator 16 = .ok (.ifCond .ne 8, 3) := by decide +kernel
theorem dX10_wallDenominator_19 : decode cX10_wallDenominator 19 = .ok (.bipush (-5), 2) := by decide +kernel
theorem dX10_wallDenominator_21 : decode cX10_wallDenominator 21 = .ok (.goto 9, 3) := by decide +kernel
theorem dX10_wallDenominator_24 : decode cX10_wallDenominator 24 = .ok (.aload_n 0, 1) := by decide +kernel
theorem dX10_wallDenominator_25 : decode cX10_wallDenominator 25 = .ok (.getfield 60, 3) := by decide +kernel
theorem dX10_wallDenominator_28 : decode cX10_wallDenominator 28 = .ok (.iload_n 1, 1) := by decide +kernel
theorem dX10_wallDenominator_29 : decode cX10_wallDenominator 29 = .ok (.iaload, 1) := by decide +kernel
theorem dX10_wallDenominator_30 : decode cX10_wallDenominator 30 = .ok (.ireturn, 1) := by decide +kernel
theorem dX10_contains_0 : decode cX10_contains 0 = .ok (.iload_n 1, 1) := by decide +kernel
theorem dX10_contains_1 : decode cX10_contains 1 = .ok (.ifCond .eq 30, 3) := by decide +kernel
theorem dX10_contains_4 : decode cX10_contains 4 = .ok (.iload_n 2, 1) := by decide +kernel
theorem dX10_contains_5 : decode cX10_contains 5 = .ok (.ifCond .eq 26, 3) := by decide +kernel
theorem dX10_contains_8 : decode cX10_contains 8 = .ok (.iload_n 3, 1) := by decide +kernel
theorem dX10_contains_9 : decode cX10_contains 9 = .ok (.aload_n 0, 1) := by decide +kernel
theorem dX10_contains_10 : decode cX10_contains 10 = .ok (.getfield 60, 3) := by decide +kernel
theorem dX10_contains_13 : decode cX10_contains 13 = .ok (.iload_n 1, 1) := by decide +kernel
theorem dX10_contains_14 : decode cX10_contains 14 = .ok (.iconst 1, 1) := by decide +kernel
theorem dX10_contains_15 : decode cX10_contains 15 = .ok (.isub, 1) := by decide +kernel
theorem dX10_contains_16 : decode cX10_contains 16 = .ok (.iaload, 1) := by decide +kernel
theorem dX10_contains_17 : decode cX10_contains 17 = .ok (.imul, 1) := by decide +kernel
theorem dX10_contains_18 : decode cX10_contains 18 = .ok (.aload_n 0, 1) := by decide +kernel
theorem dX10_contains_19 : decode cX10_contains 19 = .ok (.getfield 57, 3) := by decide +kernel
theorem dX10_contains_22 : decode cX10_contains 22 = .ok (.iload_n 1, 1) := by decide +kernel
theorem dX10_contains_23 : decode cX10_contains 23 = .ok (.iconst 1, 1) := by decide +kernel
theorem dX10_contains_24 : decode cX10_contains 24 = .ok (.isub, 1) := by decide +kernel
theorem dX10_contains_25 : decode cX10_contains 25 = .ok (.iaload, 1) := by decide +kernel
theorem dX10_contains_26 : decode cX10_contains 26 = .ok (.iload_n 2, 1) := by decide +kernel
theorem dX10_contains_27 : decode cX10_contains 27 = .ok (.imul, 1) := by decide +kernel
theorem dX10_contains_28 : decode cX10_contains 28 = .ok (.if_icmp .lt 7, 3) := by decide +kernel
theorem dX10_contains_31 : decode cX10_contains 31 = .ok (.iconst 1, 1) := by decide +kernel
theorem dX10_contains_32 : decode cX10_contains 32 = .ok (.goto 4, 3) := by decide +kernel
theorem dX10_contains_35 : decode cX10_contains 35 = .ok (.iconst 0, 1) := by decide +kernel
theorem dX10_contains_36 : decode cX10_contains 36 = .ok (.istore 4, 2) := by decide +kernel
theorem dX10_contains_38 : decode cX10_contains 38 = .ok (.aload_n 0, 1) := by decide +kernel
theorem dX10_contains_39 : decode cX10_contains 39 = .ok (.getfield 60, 3) := by decide +kernel
theorem dX10_contains_42 : decode cX10_contains 42 = .ok (.iload_n 1, 1) := by decide +kernel
theorem dX10_contains_43 : decode cX10_contains 43 = .ok (.iaload, 1) := by decide +kernel
theorem dX10_contains_44 : decode cX10_contains 44 = .ok (.ifCond .eq 26, 3) := by decide +kernel
theorem dX10_contains_47 : decode cX10_contains 47 = .ok (.iload_n 2, 1) := by decide +kernel
theorem dX10_contains_48 : decode cX10_contains 48 = .ok (.ifCond .le 26, 3) := by decide +kernel
theorem dX10_contains_51 : decode cX10_contains 51 = .ok (.iload_n 3, 1) := by decide +kernel
theorem dX10_contains_52 : decode cX10_contains 52 = .ok (.aload_n 0, 1) := by decide +kernel
theorem dX10_contains_53 : decode cX10_contains 53 = .ok (.getfield 60, 3) := by decide +kernel
theorem dX10_contains_56 : decode cX10_contains 56 = .ok (.iload_n 1, 1) := by decide +kernel
theorem dX10_contains_57 : decode cX10_contains 57 = .ok (.iaload, 1) := by decide +kernel
theorem dX10_contains_58 : decode cX10_contains 58 = .ok (.imul, 1) := by decide +kernel
theorem dX10_contains_59 : decode cX10_contains 59 = .ok (.aload_n 0, 1) := by decide +kernel
theorem dX10_contains_60 : decode cX10_contains 60 = .ok (.getfield 57, 3) := by decide +kernel
theorem dX10_contains_63 : decode cX10_contains 63 = .ok (.iload_n 1, 1) := by decide +kernel
theorem dX10_contains_64 : decode cX10_contains 64 = .ok (.iaload, 1) := by decide +kernel
theorem dX10_contains_65 : decode cX10_contains 65 = .ok (.iload_n 2, 1) := by decide +kernel
theorem dX10_contains_66 : decode cX10_contains 66 = .ok (.imul, 1) := by decide +kernel
theorem dX10_contains_67 : decode cX10_contains 67 = .ok (.if_icmp .gt 7, 3) := by decide +kernel
theorem dX10_contains_70 : decode cX10_contains 70 = .ok (.iconst 1, 1) := by decide +kernel
theorem dX10_contains_71 : decode cX10_contains 71 = .ok (.goto 4, 3) := by decide +kernel
theorem dX10_contains_74 : decode cX10_contains 74 = .ok (.iconst 0, 1) := by decide +kernel
theorem dX10_contains_75 : decode cX10_contains 75 = .ok (.istore 5, 2) := by decide +kernel
theorem dX10_contains_77 : decode cX10_contains 77 = .ok (.iload 4, 2) := by decide +kernel
theorem dX10_contains_79 : decode cX10_contains 79 = .ok (.ifCond .eq 12, 3) := by decide +kernel
theorem dX10_contains_82 : decode cX10_contains 82 = .ok (.iload 5, 2) := by decide +kernel
theorem dX10_contains_84 : decode cX10_contains 84 = .ok (.ifCond .eq 7, 3) := by decide +kernel
theorem dX10_contains_87 : decode cX10_contains 87 = .ok (.iconst 1, 1) := by decide +kernel
theorem dX10_contains_88 : decode cX10_contains 88 = .ok (.goto 4, 3) := by decide +kernel
theorem dX10_contains_91 : decode cX10_contains 91 = .ok (.iconst 0, 1) := by decide +kernel
theorem dX10_contains_92 : decode cX10_contains 92 = .ok (.ireturn, 1) := by decide +kernel
theorem dX10_firstConeContaining_0 : decode cX10_firstConeContaining 0 = .ok (.iload_n 1, 1) := by decide +kernel
theorem dX10_firstConeContaining_1 : decode cX10_firstConeContaining 1 = .ok (.iload_n 2, 1) := by decide +kernel
theorem dX10_firstConeContaining_2 : decode cX10_firstConeContaining 2 = .ok (.invokestatic 179, 3) := by decide +kernel
theorem dX10_firstConeContaining_5 : decode cX10_firstConeContaining 5 = .ok (.ifCond .ne 6, 3) := by decide +kernel
theorem dX10_firstConeContaining_8 : decode cX10_firstConeContaining 8 = .ok (.bipush (-2), 2) := by decide +kernel
theorem dX10_firstConeContaining_10 : decode cX10_firstConeContaining 10 = .ok (.ireturn, 1) := by decide +kernel
theorem dX10_firstConeContaining_11 : decode cX10_firstConeContaining 11 = .ok (.aload_n 0, 1) := by decide +kernel
theorem dX10_firstConeContaining_12 : decode cX10_firstConeContaining 12 = .ok (.invokevirtual 201, 3) := by decide +kernel
theorem dX10_firstConeContaining_15 : decode cX10_firstConeContaining 15 = .ok (.iconst 0, 1) := by decide +kernel
theorem dX10_firstConeContaining_16 : decode cX10_firstConeContaining 16 = .ok (.istore_n 3, 1) := by decide +kernel
theorem dX10_firstConeContaining_17 : decode cX10_firstConeContaining 17 = .ok (.aload_n 0, 1) := by decide +kernel
theorem dX10_firstConeContaining_18 : decode cX10_firstConeContaining 18 = .ok (.iload_n 3, 1) := by decide +kernel
theorem dX10_firstConeContaining_19 : decode cX10_firstConeContaining 19 = .ok (.iload_n 1, 1) := by decide +kernel
theorem dX10_firstConeContaining_20 : decode cX10_firstConeContaining 20 = .ok (.iload_n 2, 1) := by decide +kernel
theorem dX10_firstConeContaining_21 : decode cX10_firstConeContaining 21 = .ok (.invokevirtual 207, 3) := by decide +kernel
theorem dX10_firstConeContaining_24 : decode cX10_firstConeContaining 24 = .ok (.ifCond .ne 9, 3) := by decide +kernel
theorem dX10_firstConeContaining_27 : decode cX10_firstConeContaining 27 = .ok (.iinc 3 1, 3) := by decide +kernel
theorem dX10_firstConeContaining_30 : decode cX10_firstConeContaining 30 = .ok (.goto (-13), 3) := by decide +kernel
theorem dX10_firstConeContaining_33 : decode cX10_firstConeContaining 33 = .ok (.iload_n 3, 1) := by decide +kernel
theorem dX10_firstConeContaining_34 : decode cX10_firstConeContaining 34 = .ok (.ireturn, 1) := by decide +kernel
theorem dX10_conesContaining_0 : decode cX10_conesContaining 0 = .ok (.iload_n 1, 1) := by decide +kernel
theorem dX10_conesContaining_1 : decode cX10_conesContaining 1 = .ok (.iload_n 2, 1) := by decide +kernel
theorem dX10_conesContaining_2 : decode cX10_conesContaining 2 = .ok (.invokestatic 179, 3) := by decide +kernel
theorem dX10_conesContaining_5 : decode cX10_conesContaining 5 = .ok (.ifCond .ne 6, 3) := by decide +kernel
theorem dX10_conesContaining_8 : decode cX10_conesContaining 8 = .ok (.bipush (-2), 2) := by decide +kernel
theorem dX10_conesContaining_10 : decode cX10_conesContaining 10 = .ok (.ireturn, 1) := by decide +kernel
theorem dX10_conesContaining_11 : decode cX10_conesContaining 11 = .ok (.aload_n 0, 1) := by decide +kernel
theorem dX10_conesContaining_12 : decode cX10_conesContaining 12 = .ok (.invokevirtual 201, 3) := by decide +kernel
theorem dX10_conesContaining_15 : decode cX10_conesContaining 15 = .ok (.iconst 0, 1) := by decide +kernel
theorem dX10_conesContaining_16 : decode cX10_conesContaining 16 = .ok (.istore_n 3, 1) := by decide +kernel
theorem dX10_conesContaining_17 : decode cX10_conesContaining 17 = .ok (.iconst 0, 1) := by decide +kernel
theorem dX10_conesContaining_18 : decode cX10_conesContaining 18 = .ok (.istore 4, 2) := by decide +kernel
theorem dX10_conesContaining_20 : decode cX10_conesContaining 20 = .ok (.iload 4, 2) := by decide +kernel
theorem dX10_conesContaining_22 : decode cX10_conesContaining 22 = .ok (.aload_n 0, 1) := by decide +kernel
theorem dX10_conesContaining_23 : decode cX10_conesContaining 23 = .ok (.getfield 195, 3) := by decide +kernel
theorem dX10_conesContaining_26 : decode cX10_conesContaining 26 = .ok (.if_icmp .ge 28, 3) := by decide +kernel
theorem dX10_conesContaining_29 : decode cX10_conesContaining 29 = .ok (.iload_n 3, 1) := by decide +kernel
theorem dX10_conesContaining_30 : decode cX10_conesContaining 30 = .ok (.aload_n 0, 1) := by decide +kernel
theorem dX10_conesContaining_31 : decode cX10_conesContaining 31 = .ok (.iload 4, 2) := by decide +kernel
theorem dX10_conesContaining_33 : decode cX10_conesContaining 33 = .ok (.iload_n 1, 1) := by decide +kernel
theorem dX10_conesContaining_34 : decode cX10_conesContaining 34 = .ok (.iload_n 2, 1) := by decide +kernel
theorem dX10_conesContaining_35 : decode cX10_conesContaining 35 = .ok (.invokevirtual 207, 3) := by decide +kernel
theorem dX10_conesContaining_38 : decode cX10_conesContaining 38 = .ok (.ifCond .eq 7, 3) := by decide +kernel
theorem dX10_conesContaining_41 : decode cX10_conesContaining 41 = .ok (.iconst 1, 1) := by decide +kernel
theorem dX10_conesContaining_42 : decode cX10_conesContaining 42 = .ok (.goto 4, 3) := by decide +kernel
theorem dX10_conesContaining_45 : decode cX10_conesContaining 45 = .ok (.iconst 0, 1) := by decide +kernel
theorem dX10_conesContaining_46 : decode cX10_conesContaining 46 = .ok (.iadd, 1) := by decide +kernel
theorem dX10_conesContaining_47 : decode cX10_conesContaining 47 = .ok (.istore_n 3, 1) := by decide +kernel
theorem dX10_conesContaining_48 : decode cX10_conesContaining 48 = .ok (.iinc 4 1, 3) := by decide +kernel
theorem dX10_conesContaining_51 : decode cX10_conesContaining 51 = .ok (.goto (-31), 3) := by decide +kernel
theorem dX10_conesContaining_54 : decode cX10_conesContaining 54 = .ok (.iload_n 3, 1) := by decide +kernel
theorem dX10_conesContaining_55 : decode cX10_conesContaining 55 = .ok (.ireturn, 1) := by decide +kernel
theorem dX10_coneHeight_0 : decode cX10_coneHeight 0 = .ok (.aload_n 0, 1) := by decide +kernel
theorem dX10_coneHeight_1 : decode cX10_coneHeight 1 = .ok (.iload_n 1, 1) := by decide +kernel
theorem dX10_coneHeight_2 : decode cX10_coneHeight 2 = .ok (.invokevirtual 204, 3) := by decide +kernel
theorem dX10_coneHeight_5 : decode cX10_coneHeight 5 = .ok (.ifCond .eq 24, 3) := by decide +kernel
theorem dX10_coneHeight_8 : decode cX10_coneHeight 8 = .ok (.iload_n 2, 1) := by decide +kernel
theorem dX10_coneHeight_9 : decode cX10_coneHeight 9 = .ok (.invokestatic 176, 3) := by decide +kernel
theorem dX10_coneHeight_12 : decode cX10_coneHeight 12 = .ok (.ifCond .eq 17, 3) := by decide +kernel
theorem dX10_coneHeight_15 : decode cX10_coneHeight 15 = .ok (.aload_n 0, 1) := by decide +kernel
theorem dX10_coneHeight_16 : decode cX10_coneHeight 16 = .ok (.getfield 66, 3) := by decide +kernel
theorem dX10_coneHeight_19 : decode cX10_coneHeight 19 = .ok (.bipush 9, 2) := by decide +kernel
theorem dX10_coneHeight_21 : decode cX10_coneHeight 21 = .ok (.iload_n 1, 1) := by decide +kernel
theorem dX10_coneHeight_22 : decode cX10_coneHeight 22 = .ok (.imul, 1) := by decide +kernel
theorem dX10_coneHeight_23 : decode cX10_coneHeight 23 = .ok (.iload_n 2, 1) := by decide +kernel
theorem dX10_coneHeight_24 : decode cX10_coneHeight 24 = .ok (.iadd, 1) := by decide +kernel
theorem dX10_coneHeight_25 : decode cX10_coneHeight 25 = .ok (.iaload, 1) := by decide +kernel
theorem dX10_coneHeight_26 : decode cX10_coneHeight 26 = .ok (.goto 4, 3) := by decide +kernel
theorem dX10_coneHeight_29 : decode cX10_coneHeight 29 = .ok (.iconst (-1), 1) := by decide +kernel
theorem dX10_coneHeight_30 : decode cX10_coneHeight 30 = .ok (.ireturn, 1) := by decide +kernel
theorem dX10_basisSize_0 : decode cX10_basisSize 0 = .ok (.aload_n 0, 1) := by decide +kernel
theorem dX10_basisSize_1 : decode cX10_basisSize 1 = .ok (.iload_n 1, 1) := by decide +kernel
theorem dX10_basisSize_2 : decode cX10_basisSize 2 = .ok (.invokevirtual 204, 3) := by decide +kernel
theorem dX10_basisSize_5 : decode cX10_basisSize 5 = .ok (.ifCond .eq 12, 3) := by decide +kernel
theorem dX10_basisSize_8 : decode cX10_basisSize 8 = .ok (.aload_n 0, 1) := by decide +kernel
theorem dX10_basisSize_9 : decode cX10_basisSize 9 = .ok (.getfield 63, 3) := by decide +kernel
theorem dX10_basisSize_12 : decode cX10_basisSize 12 = .ok (.iload_n 1, 1) := by decide +kernel
theorem dX10_basisSize_13 : decode cX10_basisSize 13 = .ok (.iaload, 1) := by decide +kernel
theorem dX10_basisSize_14 : decode cX10_basisSize 14 = .ok (.goto 4, 3) := by decide +kernel
theorem dX10_basisSize_17 : decode cX10_basisSize 17 = .ok (.iconst (-1), 1) := by decide +kernel
theorem dX10_basisSize_18 : decode cX10_basisSize 18 = .ok (.ireturn, 1) := by decide +kernel
theorem dX10_basisCorner_0 : decode cX10_basisCorner 0 = .ok (.aload_n 0, 1) := by decide +kernel
theorem dX10_basisCorner_1 : decode cX10_basisCorner 1 = .ok (.iload_n 1, 1) := by decide +kernel
theorem dX10_basisCorner_2 : decode cX10_basisCorner 2 = .ok (.iload_n 2, 1) := by decide +kernel
theorem dX10_basisCorner_3 : decode cX10_basisCorner 3 = .ok (.invokevirtual 210, 3) := by decide +kernel
theorem dX10_basisCorner_6 : decode cX10_basisCorner 6 = .ok (.ifCond .eq 20, 3) := by decide +kernel
theorem dX10_basisCorner_9 : decode cX10_basisCorner 9 = .ok (.aload_n 0, 1) := by decide +kernel
theorem dX10_basisCorner_10 : decode cX10_basisCorner 10 = .ok (.getfield 69, 3) := by decide +kernel
theorem dX10_basisCorner_13 : decode cX10_basisCorner 13 = .ok (.bipush 9, 2) := by decide +kernel
theorem dX10_basisCorner_15 : decode cX10_basisCorner 15 = .ok (.iload_n 1, 1) := by decide +kernel
theorem dX10_basisCorner_16 : decode cX10_basisCorner 16 = .ok (.imul, 1) := by decide +kernel
theorem dX10_basisCorner_17 : decode cX10_basisCorner 17 = .ok (.iload_n 2, 1) := by decide +kernel
theorem dX10_basisCorner_18 : decode cX10_basisCorner 18 = .ok (.iadd, 1) := by decide +kernel
theorem dX10_basisCorner_19 : decode cX10_basisCorner 19 = .ok (.iaload, 1) := by decide +kernel
theorem dX10_basisCorner_20 : decode cX10_basisCorner 20 = .ok (.invokestatic 186, 3) := by decide +kernel
theorem dX10_basisCorner_23 : decode cX10_basisCorner 23 = .ok (.goto 4, 3) := by decide +kernel
theorem dX10_basisCorner_26 : decode cX10_basisCorner 26 = .ok (.iconst (-1), 1) := by decide +kernel
theorem dX10_basisCorner_27 : decode cX10_basisCorner 27 = .ok (.ireturn, 1) := by decide +kernel
theorem dX10_basisCoefficient_0 : decode cX10_basisCoefficient 0 = .ok (.aload_n 0, 1) := by decide +kernel
theorem dX10_basisCoefficient_1 : decode cX10_basisCoefficient 1 = .ok (.iload_n 1, 1) := by decide +kernel
theorem dX10_basisCoefficient_2 : decode cX10_basisCoefficient 2 = .ok (.iload_n 2, 1) := by decide +kernel
theorem dX10_basisCoefficient_3 : decode cX10_basisCoefficient 3 = .ok (.invokevirtual 210, 3) := by decide +kernel
theorem dX10_basisCoefficient_6 : decode cX10_basisCoefficient 6 = .ok (.ifCond .eq 22, 3) := by decide +kernel
theorem dX10_basisCoefficient_9 : decode cX10_basisCoefficient 9 = .ok (.iload_n 3, 1) := by decide +kernel
theorem dX10_basisCoefficient_10 : decode cX10_basisCoefficient 10 = .ok (.invokestatic 176, 3) := by decide +kernel
theorem dX10_basisCoefficient_13 : decode cX10_basisCoefficient 13 = .ok (.ifCond .eq 15, 3) := by decide +kernel
theorem dX10_basisCoefficient_16 : decode cX10_basisCoefficient 16 = .ok (.iload 4, 2) := by decide +kernel
theorem dX10_basisCoefficient_18 : decode cX10_basisCoefficient 18 = .ok (.invokestatic 176, 3) := by decide +kernel
theorem dX10_basisCoefficient_21 : decode cX10_basisCoefficient 21 = .ok (.ifCond .eq 7, 3) := by decide +kernel
theorem dX10_basisCoefficient_24 : decode cX10_basisCoefficient 24 = .ok (.iconst 1, 1) := by decide +kernel
theorem dX10_basisCoefficient_25 : decode cX10_basisCoefficient 25 = .ok (.goto 4, 3) := by decide +kernel
theorem dX10_basisCoefficient_28 : decode cX10_basisCoefficient 28 = .ok (.iconst 0, 1) := by decide +kernel
theorem dX10_basisCoefficient_29 : decode cX10_basisCoefficient 29 = .ok (.istore 5, 2) := by decide +kernel
theorem dX10_basisCoefficient_31 : decode cX10_basisCoefficient 31 = .ok (.iload 5, 2) := by decide +kernel
theorem dX10_basisCoefficient_33 : decode cX10_basisCoefficient 33 = .ok (.ifCond .eq 19, 3) := by decide +kernel
theorem dX10_basisCoefficient_36 : decode cX10_basisCoefficient 36 = .ok (.aload_n 0, 1) := by decide +kernel
theorem dX10_basisCoefficient_37 : decode cX10_basisCoefficient 37 = .ok (.iload_n 1, 1) := by decide +kernel
theorem dX10_basisCoefficient_38 : decode cX10_basisCoefficient 38 = .ok (.iload_n 2, 1) := by decide +kernel
theorem dX10_basisCoefficient_39 : decode cX10_basisCoefficient 39 = .ok (.bipush 9, 2) := by decide +kernel
theorem dX10_basisCoefficient_41 : decode cX10_basisCoefficient 41 = .ok (.iload_n 3, 1) := by decide +kernel
theorem dX10_basisCoefficient_42 : decode cX10_basisCoefficient 42 = .ok (.imul, 1) := by decide +kernel
theorem dX10_basisCoefficient_43 : decode cX10_basisCoefficient 43 = .ok (.iload 4, 2) := by decide +kernel
theorem dX10_basisCoefficient_45 : decode cX10_basisCoefficient 45 = .ok (.iadd, 1) := by decide +kernel
theorem dX10_basisCoefficient_46 : decode cX10_basisCoefficient 46 = .ok (.invokevirtual 213, 3) := by decide +kernel
theorem dX10_basisCoefficient_49 : decode cX10_basisCoefficient 49 = .ok (.goto 4, 3) := by decide +kernel
theorem dX10_basisCoefficient_52 : decode cX10_basisCoefficient 52 = .ok (.iconst (-1), 1) := by decide +kernel
theorem dX10_basisCoefficient_53 : decode cX10_basisCoefficient 53 = .ok (.ireturn, 1) := by decide +kernel
theorem dX10_changedCorners_0 : decode cX10_changedCorners 0 = .ok (.aload_n 0, 1) := by decide +kernel
theorem dX10_changedCorners_1 : decode cX10_changedCorners 1 = .ok (.iload_n 1, 1) := by decide +kernel
theorem dX10_changedCorners_2 : decode cX10_changedCorners 2 = .ok (.invokevirtual 204, 3) := by decide +kernel
theorem dX10_changedCorners_5 : decode cX10_changedCorners 5 = .ok (.ifCond .ne 5, 3) := by decide +kernel
theorem dX10_changedCorners_8 : decode cX10_changedCorners 8 = .ok (.iconst (-1), 1) := by decide +kernel
theorem dX10_changedCorners_9 : decode cX10_changedCorners 9 = .ok (.ireturn, 1) := by decide +kernel
theorem dX10_changedCorners_10 : decode cX10_changedCorners 10 = .ok (.aload_n 0, 1) := by decide +kernel
theorem dX10_changedCorners_11 : decode cX10_changedCorners 11 = .ok (.getfield 60, 3) := by decide +kernel
theorem dX10_changedCorners_14 : decode cX10_changedCorners 14 = .ok (.iload_n 1, 1) := by decide +kernel
theorem dX10_changedCorners_15 : decode cX10_changedCorners 15 = .ok (.iaload, 1) := by decide +kernel
theorem dX10_changedCorners_16 : decode cX10_changedCorners 16 = .ok (.ifCond .ne 6, 3) := by decide +kernel
theorem dX10_changedCorners_19 : decode cX10_changedCorners 19 = .ok (.bipush (-5), 2) := by decide +kernel
theorem dX10_changedCorners_21 : decode cX10_changedCorners 21 = .ok (.ireturn, 1) := by decide +kernel
theorem dX10_changedCorners_22 : decode cX10_changedCorners 22 = .ok (.iconst 0, 1) := by decide +kernel
theorem dX10_changedCorners_23 : decode cX10_changedCorners 23 = .ok (.istore_n 2, 1) := by decide +kernel
theorem dX10_changedCorners_24 : decode cX10_changedCorners 24 = .ok (.iconst 0, 1) := by decide +kernel
theorem dX10_changedCorners_25 : decode cX10_changedCorners 25 = .ok (.istore_n 3, 1) := by decide +kernel
theorem dX10_changedCorners_26 : decode cX10_changedCorners 26 = .ok (.iload_n 3, 1) := by decide +kernel
theorem dX10_changedCorners_27 : decode cX10_changedCorners 27 = .ok (.aload_n 0, 1) := by decide +kernel
theorem dX10_changedCorners_28 : decode cX10_changedCorners 28 = .ok (.getfield 63, 3) := by decide +kernel
theorem dX10_changedCorners_31 : decode cX10_changedCorners 31 = .ok (.iload_n 1, 1) := by decide +kernel
theorem dX10_changedCorners_32 : decode cX10_changedCorners 32 = .ok (.iaload, 1) := by decide +kernel
theorem dX10_changedCorners_33 : decode cX10_changedCorners 33 = .ok (.if_icmp .ge 87, 3) := by decide +kernel
theorem dX10_changedCorners_36 : decode cX10_changedCorners 36 = .ok (.iconst 0, 1) := by decide +kernel
theorem dX10_changedCorners_37 : decode cX10_changedCorners 37 = .ok (.istore 4, 2) := by decide +kernel
theorem dX10_changedCorners_39 : decode cX10_changedCorners 39 = .ok (.iconst 0, 1) := by decide +kernel
theorem dX10_changedCorners_40 : decode cX10_changedCorners 40 = .ok (.istore 5, 2) := by decide +kernel
theorem dX10_changedCorners_42 : decode cX10_changedCorners 42 = .ok (.iload 5, 2) := by decide +kernel
theorem dX10_changedCorners_44 : decode cX10_changedCorners 44 = .ok (.aload_n 0, 1) := by decide +kernel
theorem dX10_changedCorners_45 : decode cX10_changedCorners 45 = .ok (.getfield 63, 3) := by decide +kernel
theorem dX10_changedCorners_48 : decode cX10_changedCorners 48 = .ok (.iload_n 1, 1) := by decide +kernel
theorem dX10_changedCorners_49 : decode cX10_changedCorners 49 = .ok (.iconst 1, 1) := by decide +kernel
theorem dX10_changedCorners_50 : decode cX10_changedCorners 50 = .ok (.iadd, 1) := by decide +kernel
theorem dX10_changedCorners_51 : decode cX10_changedCorners 51 = .ok (.iaload, 1) := by decide +kernel
theorem dX10_changedCorners_52 : decode cX10_changedCorners 52 = .ok (.if_icmp .ge 49, 3) := by decide +kernel
theorem dX10_changedCorners_55 : decode cX10_changedCorners 55 = .ok (.iload 4, 2) := by decide +kernel
theorem dX10_changedCorners_57 : decode cX10_changedCorners 57 = .ok (.ifCond .ne 31, 3) := by decide +kernel
theorem dX10_changedCorners_60 : decode cX10_changedCorners 60 = .ok (.aload_n 0, 1) := by decide +kernel
theorem dX10_changedCorners_61 : decode cX10_changedCorners 61 = .ok (.getfield 69, 3) := by decide +kernel
theorem dX10_changedCorners_64 : decode cX10_changedCorners 64 = .ok (.bipush 9, 2) := by decide +kernel
theorem dX10_changedCorners_66 : decode cX10_changedCorners 66 = .ok (.iload_n 1, 1) := by decide +kernel
theorem dX10_changedCorners_67 : decode cX10_changedCorners 67 = .ok (.imul, 1) := by decide +kernel
theorem dX10_changedCorners_68 : decode cX10_changedCorners 68 = .ok (.iload_n 3, 1) := by decide +kernel
theorem dX10_changedCorners_69 : decode cX10_changedCorners 69 = .ok (.iadd, 1) := by decide +kernel
theorem dX10_changedCorners_70 : decode cX10_changedCorners 70 = .ok (.iaload, 1) := by decide +kernel
theorem dX10_changedCorners_71 : decode cX10_changedCorners 71 = .ok (.aload_n 0, 1) := by decide +kernel
theorem dX10_changedCorners_72 : decode cX10_changedCorners 72 = .ok (.getfield 69, 3) := by decide +kernel
theorem dX10_changedCorners_75 : decode cX10_changedCorners 75 = .ok (.bipush 9, 2) := by decide +kernel
theorem dX10_changedCorners_77 : decode cX10_changedCorners 77 = .ok (.iload_n 1, 1) := by decide +kernel
theorem dX10_changedCorners_78 : decode cX10_changedCorners 78 = .ok (.iconst 1, 1) := by decide +kernel
theorem dX10_changedCorners_79 : decode cX10_changedCorners 79 = .ok (.iadd, 1) := by decide +kernel
theorem dX10_changedCorners_80 : decode cX10_changedCorners 80 = .ok (.imul, 1) := by decide +kernel
theorem dX10_changedCorners_81 : decode cX10_changedCorners 81 = .ok (.iload 5, 2) := by decide +kernel
theorem dX10_changedCorners_83 : decode cX10_changedCorners 83 = .ok (.iadd, 1) := by decide +kernel
theorem dX10_changedCorners_84 : decode cX10_changedCorners 84 = .ok (.iaload, 1) := by decide +kernel
theorem dX10_changedCorners_85 : decode cX10_changedCorners 85 = .ok (.if_icmp .ne 7, 3) := by decide +kernel
theorem dX10_changedCorners_88 : decode cX10_changedCorners 88 = .ok (.iconst 1, 1) := by decide +kernel
theorem dX10_changedCorners_89 : decode cX10_changedCorners 89 = .ok (.goto 4, 3) := by decide +kernel
theorem dX10_changedCorners_92 : decode cX10_changedCorners 92 = .ok (.iconst 0, 1) := by decide +kernel
theorem dX10_changedCorners_93 : decode cX10_changedCorners 93 = .ok (.istore 4, 2) := by decide +kernel
theorem dX10_changedCorners_95 : decode cX10_changedCorners 95 = .ok (.iinc 5 1, 3) := by decide +kernel
theorem dX10_changedCorners_98 : decode cX10_changedCorners 98 = .ok (.goto (-56), 3) := by decide +kernel
theorem dX10_changedCorners_101 : decode cX10_changedCorners 101 = .ok (.iload_n 2, 1) := by decide +kernel
theorem dX10_changedCorners_102 : decode cX10_changedCorners 102 = .ok (.iload 4, 2) := by decide +kernel
theorem dX10_changedCorners_104 : decode cX10_changedCorners 104 = .ok (.ifCond .eq 7, 3) := by decide +kernel
theorem dX10_changedCorners_107 : decode cX10_changedCorners 107 = .ok (.iconst 0, 1) := by decide +kernel
theorem dX10_changedCorners_108 : decode cX10_changedCorners 108 = .ok (.goto 4, 3) := by decide +kernel
theorem dX10_changedCorners_111 : decode cX10_changedCorners 111 = .ok (.iconst 1, 1) := by decide +kernel
theorem dX10_changedCorners_112 : decode cX10_changedCorners 112 = .ok (.iadd, 1) := by decide +kernel
theorem dX10_changedCorners_113 : decode cX10_changedCorners 113 = .ok (.istore_n 2, 1) := by decide +kernel
theorem dX10_changedCorners_114 : decode cX10_changedCorners 114 = .ok (.iinc 3 1, 3) := by decide +kernel
theorem dX10_changedCorners_117 : decode cX10_changedCorners 117 = .ok (.goto (-91), 3) := by decide +kernel
theorem dX10_changedCorners_120 : decode cX10_changedCorners 120 = .ok (.iload_n 2, 1) := by decide +kernel
theorem dX10_changedCorners_121 : decode cX10_changedCorners 121 = .ok (.ireturn, 1) := by decide +kernel
theorem dX10_isSame_0 : decode cX10_isSame 0 = .ok (.iconst 1, 1) := by decide +kernel
theorem dX10_isSame_1 : decode cX10_isSame 1 = .ok (.istore 5, 2) := by decide +kernel
theorem dX10_isSame_3 : decode cX10_isSame 3 = .ok (.iconst 0, 1) := by decide +kernel
theorem dX10_isSame_4 : decode cX10_isSame 4 = .ok (.istore 6, 2) := by decide +kernel
theorem dX10_isSame_6 : decode cX10_isSame 6 = .ok (.iload 6, 2) := by decide +kernel
theorem dX10_isSame_8 : decode cX10_isSame 8 = .ok (.bipush 81, 2) := by decide +kernel
theorem dX10_isSame_10 : decode cX10_isSame 10 = .ok (.if_icmp .ge 41, 3) := by decide +kernel
theorem dX10_isSame_13 : decode cX10_isSame 13 = .ok (.iload 5, 2) := by decide +kernel
theorem dX10_isSame_15 : decode cX10_isSame 15 = .ok (.ifCond .eq 27, 3) := by decide +kernel
theorem dX10_isSame_18 : decode cX10_isSame 18 = .ok (.aload_n 0, 1) := by decide +kernel
theorem dX10_isSame_19 : decode cX10_isSame 19 = .ok (.iload_n 1, 1) := by decide +kernel
theorem dX10_isSame_20 : decode cX10_isSame 20 = .ok (.iload_n 2, 1) := by decide +kernel
theorem dX10_isSame_21 : decode cX10_isSame 21 = .ok (.iload 6, 2) := by decide +kernel
theorem dX10_isSame_23 : decode cX10_isSame 23 = .ok (.invokevirtual 213, 3) := by decide +kernel
theorem dX10_isSame_26 : decode cX10_isSame 26 = .ok (.aload_n 0, 1) := by decide +kernel
theorem dX10_isSame_27 : decode cX10_isSame 27 = .ok (.iload_n 3, 1) := by decide +kernel
theorem dX10_isSame_28 : decode cX10_isSame 28 = .ok (.iload 4, 2) := by decide +kernel
theorem dX10_isSame_30 : decode cX10_isSame 30 = .ok (.iload 6, 2) := by decide +kernel
theorem dX10_isSame_32 : decode cX10_isSame 32 = .ok (.invokevirtual 213, 3) := by decide +kernel
theorem dX10_isSame_35 : decode cX10_isSame 35 = .ok (.if_icmp .ne 7, 3) := by decide +kernel
theorem dX10_isSame_38 : decode cX10_isSame 38 = .ok (.iconst 1, 1) := by decide +kernel
theorem dX10_isSame_39 : decode cX10_isSame 39 = .ok (.goto 4, 3) := by decide +kernel
theorem dX10_isSame_42 : decode cX10_isSame 42 = .ok (.iconst 0, 1) := by decide +kernel
theorem dX10_isSame_43 : decode cX10_isSame 43 = .ok (.istore 5, 2) := by decide +kernel
theorem dX10_isSame_45 : decode cX10_isSame 45 = .ok (.iinc 6 1, 3) := by decide +kernel
theorem dX10_isSame_48 : decode cX10_isSame 48 = .ok (.goto (-42), 3) := by decide +kernel
theorem dX10_isSame_51 : decode cX10_isSame 51 = .ok (.iload 5, 2) := by decide +kernel
theorem dX10_isSame_53 : decode cX10_isSame 53 = .ok (.ireturn, 1) := by decide +kernel
theorem dX10_isNew_0 : decode cX10_isNew 0 = .ok (.iconst 1, 1) := by decide +kernel
theorem dX10_isNew_1 : decode cX10_isNew 1 = .ok (.istore_n 3, 1) := by decide +kernel
theorem dX10_isNew_2 : decode cX10_isNew 2 = .ok (.iconst 0, 1) := by decide +kernel
theorem dX10_isNew_3 : decode cX10_isNew 3 = .ok (.istore 4, 2) := by decide +kernel
theorem dX10_isNew_5 : decode cX10_isNew 5 = .ok (.iload 4, 2) := by decide +kernel
theorem dX10_isNew_7 : decode cX10_isNew 7 = .ok (.iload_n 1, 1) := by decide +kernel
theorem dX10_isNew_8 : decode cX10_isNew 8 = .ok (.if_icmp .ge 53, 3) := by decide +kernel
theorem dX10_isNew_11 : decode cX10_isNew 11 = .ok (.iconst 0, 1) := by decide +kernel
theorem dX10_isNew_12 : decode cX10_isNew 12 = .ok (.istore 5, 2) := by decide +kernel
theorem dX10_isNew_14 : decode cX10_isNew 14 = .ok (.iload 5, 2) := by decide +kernel
theorem dX10_isNew_16 : decode cX10_isNew 16 = .ok (.aload_n 0, 1) := by decide +kernel
theorem dX10_isNew_17 : decode cX10_isNew 17 = .ok (.getfield 63, 3) := by decide +kernel
theorem dX10_isNew_20 : decode cX10_isNew 20 = .ok (.iload 4, 2) := by decide +kernel
theorem dX10_isNew_22 : decode cX10_isNew 22 = .ok (.iaload, 1) := by decide +kernel
theorem dX10_isNew_23 : decode cX10_isNew 23 = .ok (.if_icmp .ge 32, 3) := by decide +kernel
theorem dX10_isNew_26 : decode cX10_isNew 26 = .ok (.iload_n 3, 1) := by decide +kernel
theorem dX10_isNew_27 : decode cX10_isNew 27 = .ok (.ifCond .eq 20, 3) := by decide +kernel
theorem dX10_isNew_30 : decode cX10_isNew 30 = .ok (.aload_n 0, 1) := by decide +kernel
theorem dX10_isNew_31 : decode cX10_isNew 31 = .ok (.iload_n 1, 1) := by decide +kernel
theorem dX10_isNew_32 : decode cX10_isNew 32 = .ok (.iload_n 2, 1) := by decide +kernel
theorem dX10_isNew_33 : decode cX10_isNew 33 = .ok (.iload 4, 2) := by decide +kernel
theorem dX10_isNew_35 : decode cX10_isNew 35 = .ok (.iload 5, 2) := by decide +kernel
theorem dX10_isNew_37 : decode cX10_isNew 37 = .ok (.invokevirtual 217, 3) := by decide +kernel
theorem dX10_isNew_40 : decode cX10_isNew 40 = .ok (.ifCond .ne 7, 3) := by decide +kernel
theorem dX10_isNew_43 : decode cX10_isNew 43 = .ok (.iconst 1, 1) := by decide +kernel
theorem dX10_isNew_44 : decode cX10_isNew 44 = .ok (.goto 4, 3) := by decide +kernel
theorem dX10_isNew_47 : decode cX10_isNew 47 = .ok (.iconst 0, 1) := by decide +kernel
theorem dX10_isNew_48 : decode cX10_isNew 48 = .ok (.istore_n 3, 1) := by decide +kernel
theorem dX10_isNew_49 : decode cX10_isNew 49 = .ok (.iinc 5 1, 3) := by decide +kernel
theorem dX10_isNew_52 : decode cX10_isNew 52 = .ok (.goto (-38), 3) := by decide +kernel
theorem dX10_isNew_55 : decode cX10_isNew 55 = .ok (.iinc 4 1, 3) := by decide +kernel
theorem dX10_isNew_58 : decode cX10_isNew 58 = .ok (.goto (-53), 3) := by decide +kernel
theorem dX10_isNew_61 : decode cX10_isNew 61 = .ok (.iload_n 3, 1) := by decide +kernel
theorem dX10_isNew_62 : decode cX10_isNew 62 = .ok (.ireturn, 1) := by decide +kernel
theorem dX10_universalSize_0 : decode cX10_universalSize 0 = .ok (.aload_n 0, 1) := by decide +kernel
theorem dX10_universalSize_1 : decode cX10_universalSize 1 = .ok (.invokevirtual 201, 3) := by decide +kernel
theorem dX10_universalSize_4 : decode cX10_universalSize 4 = .ok (.iconst 0, 1) := by decide +kernel
theorem dX10_universalSize_5 : decode cX10_universalSize 5 = .ok (.istore_n 1, 1) := by decide +kernel
theorem dX10_universalSize_6 : decode cX10_universalSize 6 = .ok (.iconst 0, 1) := by decide +kernel
theorem dX10_universalSize_7 : decode cX10_universalSize 7 = .ok (.istore_n 2, 1) := by decide +kernel
theorem dX10_universalSize_8 : decode cX10_universalSize 8 = .ok (.iload_n 2, 1) := by decide +kernel
theorem dX10_universalSize_9 : decode cX10_universalSize 9 = .ok (.aload_n 0, 1) := by decide +kernel
theorem dX10_universalSize_10 : decode cX10_universalSize 10 = .ok (.getfield 195, 3) := by decide +kernel
theorem dX10_universalSize_13 : decode cX10_universalSize 13 = .ok (.if_icmp .ge 44, 3) := by decide +kernel
theorem dX10_universalSize_16 : decode cX10_universalSize 16 = .ok (.iconst 0, 1) := by decide +kernel
theorem dX10_universalSize_17 : decode cX10_universalSize 17 = .ok (.istore_n 3, 1) := by decide +kernel
theorem dX10_universalSize_18 : decode cX10_universalSize 18 = .ok (.iload_n 3, 1) := by decide +kernel
theorem dX10_universalSize_19 : decode cX10_universalSize 19 = .ok (.aload_n 0, 1) := by decide +kernel
theorem dX10_universalSize_20 : decode cX10_universalSize 20 = .ok (.getfield 63, 3) := by decide +kernel
theorem dX10_universalSize_23 : decode cX10_universalSize 23 = .ok (.iload_n 2, 1) := by decide +kernel
theorem dX10_universalSize_24 : decode cX10_universalSize 24 = .ok (.iaload, 1) := by decide +kernel
theorem dX10_universalSize_25 : decode cX10_universalSize 25 = .ok (.if_icmp .ge 26, 3) := by decide +kernel
theorem dX10_universalSize_28 : decode cX10_universalSize 28 = .ok (.iload_n 1, 1) := by decide +kernel
theorem dX10_universalSize_29 : decode cX10_universalSize 29 = .ok (.aload_n 0, 1) := by decide +kernel
theorem dX10_universalSize_30 : decode cX10_universalSize 30 = .ok (.iload_n 2, 1) := by decide +kernel
theorem dX10_universalSize_31 : decode cX10_universalSize 31 = .ok (.iload_n 3, 1) := by decide +kernel
theorem dX10_universalSize_32 : decode cX10_universalSize 32 = .ok (.invokevirtual 221, 3) := by decide +kernel
theorem dX10_universalSize_35 : decode cX10_universalSize 35 = .ok (.ifCond .eq 7, 3) := by decide +kernel
theorem dX10_universalSize_38 : decode cX10_universalSize 38 = .ok (.iconst 1, 1) := by decide +kernel
theorem dX10_universalSize_39 : decode cX10_universalSize 39 = .ok (.goto 4, 3) := by decide +kernel
theorem dX10_universalSize_42 : decode cX10_universalSize 42 = .ok (.iconst 0, 1) := by decide +kernel
theorem dX10_universalSize_43 : decode cX10_universalSize 43 = .ok (.iadd, 1) := by decide +kernel
theorem dX10_universalSize_44 : decode cX10_universalSize 44 = .ok (.istore_n 1, 1) := by decide +kernel
theorem dX10_universalSize_45 : decode cX10_universalSize 45 = .ok (.iinc 3 1, 3) := by decide +kernel
theorem dX10_universalSize_48 : decode cX10_universalSize 48 = .ok (.goto (-30), 3) := by decide +kernel
theorem dX10_universalSize_51 : decode cX10_universalSize 51 = .ok (.iinc 2 1, 3) := by decide +kernel
theorem dX10_universalSize_54 : decode cX10_universalSize 54 = .ok (.goto (-46), 3) := by decide +kernel
theorem dX10_universalSize_57 : decode cX10_universalSize 57 = .ok (.iload_n 1, 1) := by decide +kernel
theorem dX10_universalSize_58 : decode cX10_universalSize 58 = .ok (.ireturn, 1) := by decide +kernel
theorem dX10_universalDegree_0 : decode cX10_universalDegree 0 = .ok (.aload_n 0, 1) := by decide +kernel
theorem dX10_universalDegree_1 : decode cX10_universalDegree 1 = .ok (.invokevirtual 201, 3) := by decide +kernel
theorem dX10_universalDegree_4 : decode cX10_universalDegree 4 = .ok (.iconst 0, 1) := by decide +kernel
theorem dX10_universalDegree_5 : decode cX10_universalDegree 5 = .ok (.istore_n 1, 1) := by decide +kernel
theorem dX10_universalDegree_6 : decode cX10_universalDegree 6 = .ok (.iconst 0, 1) := by decide +kernel
theorem dX10_universalDegree_7 : decode cX10_universalDegree 7 = .ok (.istore_n 2, 1) := by decide +kernel
theorem dX10_universalDegree_8 : decode cX10_universalDegree 8 = .ok (.iload_n 2, 1) := by decide +kernel
theorem dX10_universalDegree_9 : decode cX10_universalDegree 9 = .ok (.aload_n 0, 1) := by decide +kernel
theorem dX10_universalDegree_10 : decode cX10_universalDegree 10 = .ok (.getfield 195, 3) := by decide +kernel
theorem dX10_universalDegree_13 : decode cX10_universalDegree 13 = .ok (.if_icmp .ge 74, 3) := by decide +kernel
theorem dX10_universalDegree_16 : decode cX10_universalDegree 16 = .ok (.iconst 0, 1) := by decide +kernel
theorem dX10_universalDegree_17 : decode cX10_universalDegree 17 = .ok (.istore_n 3, 1) := by decide +kernel
theorem dX10_universalDegree_18 : decode cX10_universalDegree 18 = .ok (.iload_n 3, 1) := by decide +kernel
theorem dX10_universalDegree_19 : decode cX10_universalDegree 19 = .ok (.aload_n 0, 1) := by decide +kernel
theorem dX10_universalDegree_20 : decode cX10_universalDegree 20 = .ok (.getfield 63, 3) := by decide +kernel
theorem dX10_universalDegree_23 : decode cX10_universalDegree 23 = .ok (.iload_n 2, 1) := by decide +kernel
theorem dX10_universalDegree_24 : decode cX10_universalDegree 24 = .ok (.iaload, 1) := by decide +kernel
theorem dX10_universalDegree_25 : decode cX10_universalDegree 25 = .ok (.if_icmp .ge 56, 3) := by decide +kernel
theorem dX10_universalDegree_28 : decode cX10_universalDegree 28 = .ok (.iconst 0, 1) := by decide +kernel
theorem dX10_universalDegree_29 : decode cX10_universalDegree 29 = .ok (.istore 4, 2) := by decide +kernel
theorem dX10_universalDegree_31 : decode cX10_universalDegree 31 = .ok (.iload 4, 2) := by decide +kernel
theorem dX10_universalDegree_33 : decode cX10_universalDegree 33 = .ok (.bipush 81, 2) := by decide +kernel
theorem dX10_universalDegree_35 : decode cX10_universalDegree 35 = .ok (.if_icmp .ge 40, 3) := by decide +kernel
theorem dX10_universalDegree_38 : decode cX10_universalDegree 38 = .ok (.aload_n 0, 1) := by decide +kernel
theorem dX10_universalDegree_39 : decode cX10_universalDegree 39 = .ok (.iload_n 2, 1) := by decide +kernel
theorem dX10_universalDegree_40 : decode cX10_universalDegree 40 = .ok (.iload_n 3, 1) := by decide +kernel
theorem dX10_universalDegree_41 : decode cX10_universalDegree 41 = .ok (.iload 4, 2) := by decide +kernel
theorem dX10_universalDegree_43 : decode cX10_universalDegree 43 = .ok (.invokevirtual 213, 3) := by decide +kernel
theorem dX10_universalDegree_46 : decode cX10_universalDegree 46 = .ok (.ifCond .eq 21, 3) := by decide +kernel
theorem dX10_universalDegree_49 : decode cX10_universalDegree 49 = .ok (.iload_n 1, 1) := by decide +kernel
theorem dX10_universalDegree_50 : decode cX10_universalDegree 50 = .ok (.iload 4, 2) := by decide +kernel
theorem dX10_universalDegree_52 : decode cX10_universalDegree 52 = .ok (.bipush 9, 2) := by decide +kernel
theorem dX10_universalDegree_54 : decode cX10_universalDegree 54 = .ok (.idiv, 1) := by decide +kernel
theorem dX10_universalDegree_55 : decode cX10_universalDegree 55 = .ok (.iload 4, 2) := by decide +kernel
theorem dX10_universalDegree_57 : decode cX10_universalDegree 57 = .ok (.bipush 9, 2) := by decide +kernel
theorem dX10_universalDegree_59 : decode cX10_universalDegree 59 = .ok (.irem, 1) := by decide +kernel
theorem dX10_universalDegree_60 : decode cX10_universalDegree 60 = .ok (.iadd, 1) := by decide +kernel
theorem dX10_universalDegree_61 : decode cX10_universalDegree 61 = .ok (.invokestatic 224, 3) := by decide +kernel
theorem dX10_universalDegree_64 : decode cX10_universalDegree 64 = .ok (.goto 4, 3) := by decide +kernel
theorem dX10_universalDegree_67 : decode cX10_universalDegree 67 = .ok (.iload_n 1, 1) := by decide +kernel
theorem dX10_universalDegree_68 : decode cX10_universalDegree 68 = .ok (.istore_n 1, 1) := by decide +kernel
theorem dX10_universalDegree_69 : decode cX10_universalDegree 69 = .ok (.iinc 4 1, 3) := by decide +kernel
theorem dX10_universalDegree_72 : decode cX10_universalDegree 72 = .ok (.goto (-41), 3) := by decide +kernel
theorem dX10_universalDegree_75 : decode cX10_universalDegree 75 = .ok (.iinc 3 1, 3) := by decide +kernel
theorem dX10_universalDegree_78 : decode cX10_universalDegree 78 = .ok (.goto (-60), 3) := by decide +kernel
theorem dX10_universalDegree_81 : decode cX10_universalDegree 81 = .ok (.iinc 2 1, 3) := by decide +kernel
theorem dX10_universalDegree_84 : decode cX10_universalDegree 84 = .ok (.goto (-76), 3) := by decide +kernel
theorem dX10_universalDegree_87 : decode cX10_universalDegree 87 = .ok (.iload_n 1, 1) := by decide +kernel
theorem dX10_universalDegree_88 : decode cX10_universalDegree 88 = .ok (.ireturn, 1) := by decide +kernel
theorem dX10_isMirrored_0 : decode cX10_isMirrored 0 = .ok (.iconst 1, 1) := by decide +kernel
theorem dX10_isMirrored_1 : decode cX10_isMirrored 1 = .ok (.istore_n 3, 1) := by decide +kernel
theorem dX10_isMirrored_2 : decode cX10_isMirrored 2 = .ok (.iconst 0, 1) := by decide +kernel
theorem dX10_isMirrored_3 : decode cX10_isMirrored 3 = .ok (.istore 4, 2) := by decide +kernel
theorem dX10_isMirrored_5 : decode cX10_isMirrored 5 = .ok (.iload 4, 2) := by decide +kernel
theorem dX10_isMirrored_7 : decode cX10_isMirrored 7 = .ok (.bipush 9, 2) := by decide +kernel
theorem dX10_isMirrored_9 : decode cX10_isMirrored 9 = .ok (.if_icmp .ge 82, 3) := by decide +kernel
theorem dX10_isMirrored_12 : decode cX10_isMirrored 12 = .ok (.iconst 0, 1) := by decide +kernel
theorem dX10_isMirrored_13 : decode cX10_isMirrored 13 = .ok (.istore 5, 2) := by decide +kernel
theorem dX10_isMirrored_15 : decode cX10_isMirrored 15 = .ok (.iload 5, 2) := by decide +kernel
theorem dX10_isMirrored_17 : decode cX10_isMirrored 17 = .ok (.bipush 9, 2) := by decide +kernel
theorem dX10_isMirrored_19 : decode cX10_isMirrored 19 = .ok (.if_icmp .ge 66, 3) := by decide +kernel
theorem dX10_isMirrored_22 : decode cX10_isMirrored 22 = .ok (.iload_n 3, 1) := by decide +kernel
theorem dX10_isMirrored_23 : decode cX10_isMirrored 23 = .ok (.ifCond .eq 54, 3) := by decide +kernel
theorem dX10_isMirrored_26 : decode cX10_isMirrored 26 = .ok (.iload 5, 2) := by decide +kernel
theorem dX10_isMirrored_28 : decode cX10_isMirrored 28 = .ok (.aload_n 0, 1) := by decide +kernel
theorem dX10_isMirrored_29 : decode cX10_isMirrored 29 = .ok (.getfield 66, 3) := by decide +kernel
theorem dX10_isMirrored_32 : decode cX10_isMirrored 32 = .ok (.bipush 9, 2) := by decide +kernel
theorem dX10_isMirrored_34 : decode cX10_isMirrored 34 = .ok (.iload_n 1, 1) := by decide +kernel
theorem dX10_isMirrored_35 : decode cX10_isMirrored 35 = .ok (.imul, 1) := by decide +kernel
theorem dX10_isMirrored_36 : decode cX10_isMirrored 36 = .ok (.iload 4, 2) := by decide +kernel
theorem dX10_isMirrored_38 : decode cX10_isMirrored 38 = .ok (.iadd, 1) := by decide +kernel
theorem dX10_isMirrored_39 : decode cX10_isMirrored 39 = .ok (.iaload, 1) := by decide +kernel
theorem dX10_isMirrored_40 : decode cX10_isMirrored 40 = .ok (.if_icmp .ge 7, 3) := by decide +kernel
theorem dX10_isMirrored_43 : decode cX10_isMirrored 43 = .ok (.iconst 1, 1) := by decide +kernel
theorem dX10_isMirrored_44 : decode cX10_isMirrored 44 = .ok (.goto 4, 3) := by decide +kernel
theorem dX10_isMirrored_47 : decode cX10_isMirrored 47 = .ok (.iconst 0, 1) := by decide +kernel
theorem dX10_isMirrored_48 : decode cX10_isMirrored 48 = .ok (.iload 4, 2) := by decide +kernel
theorem dX10_isMirrored_50 : decode cX10_isMirrored 50 = .ok (.aload_n 0, 1) := by decide +kernel
theorem dX10_isMirrored_51 : decode cX10_isMirrored 51 = .ok (.getfield 66, 3) := by decide +kernel
theorem dX10_isMirrored_54 : decode cX10_isMirrored 54 = .ok (.bipush 9, 2) := by decide +kernel
theorem dX10_isMirrored_56 : decode cX10_isMirrored 56 = .ok (.iload_n 2, 1) := by decide +kernel
theorem dX10_isMirrored_57 : decode cX10_isMirrored 57 = .ok (.imul, 1) := by decide +kernel
theorem dX10_isMirrored_58 : decode cX10_isMirrored 58 = .ok (.iload 5, 2) := by decide +kernel
theorem dX10_isMirrored_60 : decode cX10_isMirrored 60 = .ok (.iadd, 1) := by decide +kernel
theorem dX10_isMirrored_61 : decode cX10_isMirrored 61 = .ok (.iaload, 1) := by decide +kernel
theorem dX10_isMirrored_62 : decode cX10_isMirrored 62 = .ok (.if_icmp .ge 7, 3) := by decide +kernel
theorem dX10_isMirrored_65 : decode cX10_isMirrored 65 = .ok (.iconst 1, 1) := by decide +kernel
theorem dX10_isMirrored_66 : decode cX10_isMirrored 66 = .ok (.goto 4, 3) := by decide +kernel
theorem dX10_isMirrored_69 : decode cX10_isMirrored 69 = .ok (.iconst 0, 1) := by decide +kernel
theorem dX10_isMirrored_70 : decode cX10_isMirrored 70 = .ok (.if_icmp .ne 7, 3) := by decide +kernel
theorem dX10_isMirrored_73 : decode cX10_isMirrored 73 = .ok (.iconst 1, 1) := by decide +kernel
theorem dX10_isMirrored_74 : decode cX10_isMirrored 74 = .ok (.goto 4, 3) := by decide +kernel
theorem dX10_isMirrored_77 : decode cX10_isMirrored 77 = .ok (.iconst 0, 1) := by decide +kernel
theorem dX10_isMirrored_78 : decode cX10_isMirrored 78 = .ok (.istore_n 3, 1) := by decide +kernel
theorem dX10_isMirrored_79 : decode cX10_isMirrored 79 = .ok (.iinc 5 1, 3) := by decide +kernel
theorem dX10_isMirrored_82 : decode cX10_isMirrored 82 = .ok (.goto (-67), 3) := by decide +kernel
theorem dX10_isMirrored_85 : decode cX10_isMirrored 85 = .ok (.iinc 4 1, 3) := by decide +kernel
theorem dX10_isMirrored_88 : decode cX10_isMirrored 88 = .ok (.goto (-83), 3) := by decide +kernel
theorem dX10_isMirrored_91 : decode cX10_isMirrored 91 = .ok (.iload_n 3, 1) := by decide +kernel
theorem dX10_isMirrored_92 : decode cX10_isMirrored 92 = .ok (.ireturn, 1) := by decide +kernel
theorem dX10_mirroredCone_0 : decode cX10_mirroredCone 0 = .ok (.aload_n 0, 1) := by decide +kernel
theorem dX10_mirroredCone_1 : decode cX10_mirroredCone 1 = .ok (.iload_n 1, 1) := by decide +kernel
theorem dX10_mirroredCone_2 : decode cX10_mirroredCone 2 = .ok (.invokevirtual 204, 3) := by decide +kernel
theorem dX10_mirroredCone_5 : decode cX10_mirroredCone 5 = .ok (.ifCond .ne 5, 3) := by decide +kernel
theorem dX10_mirroredCone_8 : decode cX10_mirroredCone 8 = .ok (.iconst (-1), 1) := by decide +kernel
theorem dX10_mirroredCone_9 : decode cX10_mirroredCone 9 = .ok (.ireturn, 1) := by decide +kernel
theorem dX10_mirroredCone_10 : decode cX10_mirroredCone 10 = .ok (.iconst 0, 1) := by decide +kernel
theorem dX10_mirroredCone_11 : decode cX10_mirroredCone 11 = .ok (.istore_n 2, 1) := by decide +kernel
theorem dX10_mirroredCone_12 : decode cX10_mirroredCone 12 = .ok (.iload_n 2, 1) := by decide +kernel
theorem dX10_mirroredCone_13 : decode cX10_mirroredCone 13 = .ok (.aload_n 0, 1) := by decide +kernel
theorem dX10_mirroredCone_14 : decode cX10_mirroredCone 14 = .ok (.getfield 195, 3) := by decide +kernel
theorem dX10_mirroredCone_17 : decode cX10_mirroredCone 17 = .ok (.if_icmp .ge 20, 3) := by decide +kernel
theorem dX10_mirroredCone_20 : decode cX10_mirroredCone 20 = .ok (.aload_n 0, 1) := by decide +kernel
theorem dX10_mirroredCone_21 : decode cX10_mirroredCone 21 = .ok (.iload_n 1, 1) := by decide +kernel
theorem dX10_mirroredCone_22 : decode cX10_mirroredCone 22 = .ok (.iload_n 2, 1) := by decide +kernel
theorem dX10_mirroredCone_23 : decode cX10_mirroredCone 23 = .ok (.invokevirtual 227, 3) := by decide +kernel
theorem dX10_mirroredCone_26 : decode cX10_mirroredCone 26 = .ok (.ifCond .eq 5, 3) := by decide +kernel
theorem dX10_mirroredCone_29 : decode cX10_mirroredCone 29 = .ok (.iload_n 2, 1) := by decide +kernel
theorem dX10_mirroredCone_30 : decode cX10_mirroredCone 30 = .ok (.ireturn, 1) := by decide +kernel
theorem dX10_mirroredCone_31 : decode cX10_mirroredCone 31 = .ok (.iinc 2 1, 3) := by decide +kernel
theorem dX10_mirroredCone_34 : decode cX10_mirroredCone 34 = .ok (.goto (-22), 3) := by decide +kernel
theorem dX10_mirroredCone_37 : decode cX10_mirroredCone 37 = .ok (.bipush (-5), 2) := by decide +kernel
theorem dX10_mirroredCone_39 : decode cX10_mirroredCone 39 = .ok (.ireturn, 1) := by decide +kernel
theorem dX10_steepness_0 : decode cX10_steepness 0 = .ok (.iconst 0, 1) := by decide +kernel
theorem dX10_steepness_1 : decode cX10_steepness 1 = .ok (.istore_n 2, 1) := by decide +kernel
theorem dX10_steepness_2 : decode cX10_steepness 2 = .ok (.iconst 0, 1) := by decide +kernel
theorem dX10_steepness_3 : decode cX10_steepness 3 = .ok (.istore_n 3, 1) := by decide +kernel
theorem dX10_steepness_4 : decode cX10_steepness 4 = .ok (.iload_n 3, 1) := by decide +kernel
theorem dX10_steepness_5 : decode cX10_steepness 5 = .ok (.bipush 9, 2) := by decide +kernel
theorem dX10_steepness_7 : decode cX10_steepness 7 = .ok (.if_icmp .ge 42, 3) := by decide +kernel
theorem dX10_steepness_10 : decode cX10_steepness 10 = .ok (.aload_n 0, 1) := by decide +kernel
theorem dX10_steepness_11 : decode cX10_steepness 11 = .ok (.getfield 66, 3) := by decide +kernel
theorem dX10_steepness_14 : decode cX10_steepness 14 = .ok (.bipush 9, 2) := by decide +kernel
theorem dX10_steepness_16 : decode cX10_steepness 16 = .ok (.iload_n 1, 1) := by decide +kernel
theorem dX10_steepness_17 : decode cX10_steepness 17 = .ok (.imul, 1) := by decide +kernel
theorem dX10_steepness_18 : decode cX10_steepness 18 = .ok (.iload_n 3, 1) := by decide +kernel
theorem dX10_steepness_19 : decode cX10_steepness 19 = .ok (.iadd, 1) := by decide +kernel
theorem dX10_steepness_20 : decode cX10_steepness 20 = .ok (.iaload, 1) := by decide +kernel
theorem dX10_steepness_21 : decode cX10_steepness 21 = .ok (.istore 4, 2) := by decide +kernel
theorem dX10_steepness_23 : decode cX10_steepness 23 = .ok (.iload 4, 2) := by decide +kernel
theorem dX10_steepness_25 : decode cX10_steepness 25 = .ok (.ifCond .le 16, 3) := by decide +kernel
theorem dX10_steepness_28 : decode cX10_steepness 28 = .ok (.iload_n 2, 1) := by decide +kernel
theorem dX10_steepness_29 : decode cX10_steepness 29 = .ok (.iload_n 3, 1) := by decide +kernel
theorem dX10_steepness_30 : decode cX10_steepness 30 = .ok (.iload 4, 2) := by decide +kernel
theorem dX10_steepness_32 : decode cX10_steepness 32 = .ok (.iadd, 1) := by decide +kernel
theorem dX10_steepness_33 : decode cX10_steepness 33 = .ok (.iconst 1, 1) := by decide +kernel
theorem dX10_steepness_34 : decode cX10_steepness 34 = .ok (.isub, 1) := by decide +kernel
theorem dX10_steepness_35 : decode cX10_steepness 35 = .ok (.invokestatic 224, 3) := by decide +kernel
theorem dX10_steepness_38 : decode cX10_steepness 38 = .ok (.goto 4, 3) := by decide +kernel
theorem dX10_steepness_41 : decode cX10_steepness 41 = .ok (.iload_n 2, 1) := by decide +kernel
theorem dX10_steepness_42 : decode cX10_steepness 42 = .ok (.istore_n 2, 1) := by decide +kernel
theorem dX10_steepness_43 : decode cX10_steepness 43 = .ok (.iinc 3 1, 3) := by decide +kernel
theorem dX10_steepness_46 : decode cX10_steepness 46 = .ok (.goto (-42), 3) := by decide +kernel
theorem dX10_steepness_49 : decode cX10_steepness 49 = .ok (.iload_n 2, 1) := by decide +kernel
theorem dX10_steepness_50 : decode cX10_steepness 50 = .ok (.ireturn, 1) := by decide +kernel
theorem dX10_flattestCone_0 : decode cX10_flattestCone 0 = .ok (.aload_n 0, 1) := by decide +kernel
theorem dX10_flattestCone_1 : decode cX10_flattestCone 1 = .ok (.invokevirtual 201, 3) := by decide +kernel
theorem dX10_flattestCone_4 : decode cX10_flattestCone 4 = .ok (.iconst 0, 1) := by decide +kernel
theorem dX10_flattestCone_5 : decode cX10_flattestCone 5 = .ok (.istore_n 1, 1) := by decide +kernel
theorem dX10_flattestCone_6 : decode cX10_flattestCone 6 = .ok (.iconst 1, 1) := by decide +kernel
theorem dX10_flattestCone_7 : decode cX10_flattestCone 7 = .ok (.istore_n 2, 1) := by decide +kernel
theorem dX10_flattestCone_8 : decode cX10_flattestCone 8 = .ok (.iload_n 2, 1) := by decide +kernel
theorem dX10_flattestCone_9 : decode cX10_flattestCone 9 = .ok (.aload_n 0, 1) := by decide +kernel
theorem dX10_flattestCone_10 : decode cX10_flattestCone 10 = .ok (.getfield 195, 3) := by decide +kernel
theorem dX10_flattestCone_13 : decode cX10_flattestCone 13 = .ok (.if_icmp .ge 28, 3) := by decide +kernel
theorem dX10_flattestCone_16 : decode cX10_flattestCone 16 = .ok (.aload_n 0, 1) := by decide +kernel
theorem dX10_flattestCone_17 : decode cX10_flattestCone 17 = .ok (.iload_n 2, 1) := by decide +kernel
theorem dX10_flattestCone_18 : decode cX10_flattestCone 18 = .ok (.invokevirtual 230, 3) := by decide +kernel
theorem dX10_flattestCone_21 : decode cX10_flattestCone 21 = .ok (.aload_n 0, 1) := by decide +kernel
theorem dX10_flattestCone_22 : decode cX10_flattestCone 22 = .ok (.iload_n 1, 1) := by decide +kernel
theorem dX10_flattestCone_23 : decode cX10_flattestCone 23 = .ok (.invokevirtual 230, 3) := by decide +kernel
theorem dX10_flattestCone_26 : decode cX10_flattestCone 26 = .ok (.if_icmp .ge 7, 3) := by decide +kernel
theorem dX10_flattestCone_29 : decode cX10_flattestCone 29 = .ok (.iload_n 2, 1) := by decide +kernel
theorem dX10_flattestCone_30 : decode cX10_flattestCone 30 = .ok (.goto 4, 3) := by decide +kernel
theorem dX10_flattestCone_33 : decode cX10_flattestCone 33 = .ok (.iload_n 1, 1) := by decide +kernel
theorem dX10_flattestCone_34 : decode cX10_flattestCone 34 = .ok (.istore_n 1, 1) := by decide +kernel
theorem dX10_flattestCone_35 : decode cX10_flattestCone 35 = .ok (.iinc 2 1, 3) := by decide +kernel
theorem dX10_flattestCone_38 : decode cX10_flattestCone 38 = .ok (.goto (-30), 3) := by decide +kernel
theorem dX10_flattestCone_41 : decode cX10_flattestCone 41 = .ok (.iload_n 1, 1) := by decide +kernel
theorem dX10_flattestCone_42 : decode cX10_flattestCone 42 = .ok (.ireturn, 1) := by decide +kernel
theorem dX10_setCoefficient_0 : decode cX10_setCoefficient 0 = .ok (.iload_n 1, 1) := by decide +kernel
theorem dX10_setCoefficient_1 : decode cX10_setCoefficient 1 = .ok (.invokestatic 176, 3) := by decide +kernel
theorem dX10_setCoefficient_4 : decode cX10_setCoefficient 4 = .ok (.ifCond .eq 10, 3) := by decide +kernel
theorem dX10_setCoefficient_7 : decode cX10_setCoefficient 7 = .ok (.iload_n 2, 1) := by decide +kernel
theorem dX10_setCoefficient_8 : decode cX10_setCoefficient 8 = .ok (.invokestatic 176, 3) := by decide +kernel
theorem dX10_setCoefficient_11 : decode cX10_setCoefficient 11 = .ok (.ifCond .ne 5, 3) := by decide +kernel
theorem dX10_setCoefficient_14 : decode cX10_setCoefficient 14 = .ok (.iconst (-1), 1) := by decide +kernel
theorem dX10_setCoefficient_15 : decode cX10_setCoefficient 15 = .ok (.ireturn, 1) := by decide +kernel
theorem dX10_setCoefficient_16 : decode cX10_setCoefficient 16 = .ok (.aload_n 0, 1) := by decide +kernel
theorem dX10_setCoefficient_17 : decode cX10_setCoefficient 17 = .ok (.getfield 20, 3) := by decide +kernel
theorem dX10_setCoefficient_20 : decode cX10_setCoefficient 20 = .ok (.bipush 9, 2) := by decide +kernel
theorem dX10_setCoefficient_22 : decode cX10_setCoefficient 22 = .ok (.iload_n 1, 1) := by decide +kernel
theorem dX10_setCoefficient_23 : decode cX10_setCoefficient 23 = .ok (.imul, 1) := by decide +kernel
theorem dX10_setCoefficient_24 : decode cX10_setCoefficient 24 = .ok (.iload_n 2, 1) := by decide +kernel
theorem dX10_setCoefficient_25 : decode cX10_setCoefficient 25 = .ok (.iadd, 1) := by decide +kernel
theorem dX10_setCoefficient_26 : decode cX10_setCoefficient 26 = .ok (.iaload, 1) := by decide +kernel
theorem dX10_setCoefficient_27 : decode cX10_setCoefficient 27 = .ok (.istore 4, 2) := by decide +kernel
theorem dX10_setCoefficient_29 : decode cX10_setCoefficient 29 = .ok (.aload_n 0, 1) := by decide +kernel
theorem dX10_setCoefficient_30 : decode cX10_setCoefficient 30 = .ok (.getfield 20, 3) := by decide +kernel
theorem dX10_setCoefficient_33 : decode cX10_setCoefficient 33 = .ok (.bipush 9, 2) := by decide +kernel
theorem dX10_setCoefficient_35 : decode cX10_setCoefficient 35 = .ok (.iload_n 1, 1) := by decide +kernel
theorem dX10_setCoefficient_36 : decode cX10_setCoefficient 36 = .ok (.imul, 1) := by decide +kernel
theorem dX10_setCoefficient_37 : decode cX10_setCoefficient 37 = .ok (.iload_n 2, 1) := by decide +kernel
theorem dX10_setCoefficient_38 : decode cX10_setCoefficient 38 = .ok (.iadd, 1) := by decide +kernel
theorem dX10_setCoefficient_39 : decode cX10_setCoefficient 39 = .ok (.iload_n 3, 1) := by decide +kernel
theorem dX10_setCoefficient_40 : decode cX10_setCoefficient 40 = .ok (.aload_n 0, 1) := by decide +kernel
theorem dX10_setCoefficient_41 : decode cX10_setCoefficient 41 = .ok (.getfield 7, 3) := by decide +kernel
theorem dX10_setCoefficient_44 : decode cX10_setCoefficient 44 = .ok (.invokestatic 143, 3) := by decide +kernel
theorem dX10_setCoefficient_47 : decode cX10_setCoefficient 47 = .ok (.iastore, 1) := by decide +kernel
theorem dX10_setCoefficient_48 : decode cX10_setCoefficient 48 = .ok (.iload 4, 2) := by decide +kernel
theorem dX10_setCoefficient_50 : decode cX10_setCoefficient 50 = .ok (.ireturn, 1) := by decide +kernel
theorem dX10_coefficient_0 : decode cX10_coefficient 0 = .ok (.iload_n 1, 1) := by decide +kernel
theorem dX10_coefficient_1 : decode cX10_coefficient 1 = .ok (.invokestatic 176, 3) := by decide +kernel
theorem dX10_coefficient_4 : decode cX10_coefficient 4 = .ok (.ifCond .eq 24, 3) := by decide +kernel
theorem dX10_coefficient_7 : decode cX10_coefficient 7 = .ok (.iload_n 2, 1) := by decide +kernel
theorem dX10_coefficient_8 : decode cX10_coefficient 8 = .ok (.invokestatic 176, 3) := by decide +kernel
theorem dX10_coefficient_11 : decode cX10_coefficient 11 = .ok (.ifCond .eq 17, 3) := by decide +kernel
theorem dX10_coefficient_14 : decode cX10_coefficient 14 = .ok (.aload_n 0, 1) := by decide +kernel
theorem dX10_coefficient_15 : decode cX10_coefficient 15 = .ok (.getfield 20, 3) := by decide +kernel
theorem dX10_coefficient_18 : decode cX10_coefficient 18 = .ok (.bipush 9, 2) := by decide +kernel
theorem dX10_coefficient_20 : decode cX10_coefficient 20 = .ok (.iload_n 1, 1) := by decide +kernel
theorem dX10_coefficient_21 : decode cX10_coefficient 21 = .ok (.imul, 1) := by decide +kernel
theorem dX10_coefficient_22 : decode cX10_coefficient 22 = .ok (.iload_n 2, 1) := by decide +kernel
theorem dX10_coefficient_23 : decode cX10_coefficient 23 = .ok (.iadd, 1) := by decide +kernel
theorem dX10_coefficient_24 : decode cX10_coefficient 24 = .ok (.iaload, 1) := by decide +kernel
theorem dX10_coefficient_25 : decode cX10_coefficient 25 = .ok (.goto 4, 3) := by decide +kernel
theorem dX10_coefficient_28 : decode cX10_coefficient 28 = .ok (.iconst (-1), 1) := by decide +kernel
theorem dX10_coefficient_29 : decode cX10_coefficient 29 = .ok (.ireturn, 1) := by decide +kernel
theorem dX10_termCount_0 : decode cX10_termCount 0 = .ok (.iconst 0, 1) := by decide +kernel
theorem dX10_termCount_1 : decode cX10_termCount 1 = .ok (.istore_n 1, 1) := by decide +kernel
theorem dX10_termCount_2 : decode cX10_termCount 2 = .ok (.iconst 0, 1) := by decide +kernel
theorem dX10_termCount_3 : decode cX10_termCount 3 = .ok (.istore_n 2, 1) := by decide +kernel
theorem dX10_termCount_4 : decode cX10_termCount 4 = .ok (.iload_n 2, 1) := by decide +kernel
theorem dX10_termCount_5 : decode cX10_termCount 5 = .ok (.bipush 81, 2) := by decide +kernel
theorem dX10_termCount_7 : decode cX10_termCount 7 = .ok (.if_icmp .ge 26, 3) := by decide +kernel
theorem dX10_termCount_10 : decode cX10_termCount 10 = .ok (.iload_n 1, 1) := by decide +kernel
theorem dX10_termCount_11 : decode cX10_termCount 11 = .ok (.aload_n 0, 1) := by decide +kernel
theorem dX10_termCount_12 : decode cX10_termCount 12 = .ok (.getfield 20, 3) := by decide +kernel
theorem dX10_termCount_15 : decode cX10_termCount 15 = .ok (.iload_n 2, 1) := by decide +kernel
theorem dX10_termCount_16 : decode cX10_termCount 16 = .ok (.iaload, 1) := by decide +kernel
theorem dX10_termCount_17 : decode cX10_termCount 17 = .ok (.ifCond .ne 7, 3) := by decide +kernel
theorem dX10_termCount_20 : decode cX10_termCount 20 = .ok (.iconst 0, 1) := by decide +kernel
theorem dX10_termCount_21 : decode cX10_termCount 21 = .ok (.goto 4, 3) := by decide +kernel
theorem dX10_termCount_24 : decode cX10_termCount 24 = .ok (.iconst 1, 1) := by decide +kernel
theorem dX10_termCount_25 : decode cX10_termCount 25 = .ok (.iadd, 1) := by decide +kernel
theorem dX10_termCount_26 : decode cX10_termCount 26 = .ok (.istore_n 1, 1) := by decide +kernel
theorem dX10_termCount_27 : decode cX10_termCount 27 = .ok (.iinc 2 1, 3) := by decide +kernel
theorem dX10_termCount_30 : decode cX10_termCount 30 = .ok (.goto (-26), 3) := by decide +kernel
theorem dX10_termCount_33 : decode cX10_termCount 33 = .ok (.iload_n 1, 1) := by decide +kernel
theorem dX10_termCount_34 : decode cX10_termCount 34 = .ok (.ireturn, 1) := by decide +kernel
theorem dX10_valueAt_0 : decode cX10_valueAt 0 = .ok (.iconst 0, 1) := by decide +kernel
theorem dX10_valueAt_1 : decode cX10_valueAt 1 = .ok (.istore_n 2, 1) := by decide +kernel
theorem dX10_valueAt_2 : decode cX10_valueAt 2 = .ok (.iconst 0, 1) := by decide +kernel
theorem dX10_valueAt_3 : decode cX10_valueAt 3 = .ok (.istore_n 3, 1) := by decide +kernel
theorem dX10_valueAt_4 : decode cX10_valueAt 4 = .ok (.iload_n 3, 1) := by decide +kernel
theorem dX10_valueAt_5 : decode cX10_valueAt 5 = .ok (.bipush 81, 2) := by decide +kernel
theorem dX10_valueAt_7 : decode cX10_valueAt 7 = .ok (.if_icmp .ge 58, 3) := by decide +kernel
theorem dX10_valueAt_10 : decode cX10_valueAt 10 = .ok (.iload_n 2, 1) := by decide +kernel
theorem dX10_valueAt_11 : decode cX10_valueAt 11 = .ok (.aload_n 0, 1) := by decide +kernel
theorem dX10_valueAt_12 : decode cX10_valueAt 12 = .ok (.getfield 20, 3) := by decide +kernel
theorem dX10_valueAt_15 : decode cX10_valueAt 15 = .ok (.iload_n 3, 1) := by decide +kernel
theorem dX10_valueAt_16 : decode cX10_valueAt 16 = .ok (.iaload, 1) := by decide +kernel
theorem dX10_valueAt_17 : decode cX10_valueAt 17 = .ok (.aload_n 0, 1) := by decide +kernel
theorem dX10_valueAt_18 : decode cX10_valueAt 18 = .ok (.aload_n 0, 1) := by decide +kernel
theorem dX10_valueAt_19 : decode cX10_valueAt 19 = .ok (.getfield 13, 3) := by decide +kernel
theorem dX10_valueAt_22 : decode cX10_valueAt 22 = .ok (.iload_n 1, 1) := by decide +kernel
theorem dX10_valueAt_23 : decode cX10_valueAt 23 = .ok (.iaload, 1) := by decide +kernel
theorem dX10_valueAt_24 : decode cX10_valueAt 24 = .ok (.iload_n 3, 1) := by decide +kernel
theorem dX10_valueAt_25 : decode cX10_valueAt 25 = .ok (.bipush 9, 2) := by decide +kernel
theorem dX10_valueAt_27 : decode cX10_valueAt 27 = .ok (.idiv, 1) := by decide +kernel
theorem dX10_valueAt_28 : decode cX10_valueAt 28 = .ok (.invokevirtual 136, 3) := by decide +kernel
theorem dX10_valueAt_31 : decode cX10_valueAt 31 = .ok (.imul, 1) := by decide +kernel
theorem dX10_valueAt_32 : decode cX10_valueAt 32 = .ok (.aload_n 0, 1) := by decide +kernel
theorem dX10_valueAt_33 : decode cX10_valueAt 33 = .ok (.getfield 7, 3) := by decide +kernel
theorem dX10_valueAt_36 : decode cX10_valueAt 36 = .ok (.irem, 1) := by decide +kernel
theorem dX10_valueAt_37 : decode cX10_valueAt 37 = .ok (.aload_n 0, 1) := by decide +kernel
theorem dX10_valueAt_38 : decode cX10_valueAt 38 = .ok (.aload_n 0, 1) := by decide +kernel
theorem dX10_valueAt_39 : decode cX10_valueAt 39 = .ok (.getfield 17, 3) := by decide +kernel
theorem dX10_valueAt_42 : decode cX10_valueAt 42 = .ok (.iload_n 1, 1) := by decide +kernel
theorem dX10_valueAt_43 : decode cX10_valueAt 43 = .ok (.iaload, 1) := by decide +kernel
theorem dX10_valueAt_44 : decode cX10_valueAt 44 = .ok (.iload_n 3, 1) := by decide +kernel
theorem dX10_valueAt_45 : decode cX10_valueAt 45 = .ok (.bipush 9, 2) := by decide +kernel
theorem dX10_valueAt_47 : decode cX10_valueAt 47 = .ok (.irem, 1) := by decide +kernel
theorem dX10_valueAt_48 : decode cX10_valueAt 48 = .ok (.invokevirtual 136, 3) := by decide +kernel
theorem dX10_valueAt_51 : decode cX10_valueAt 51 = .ok (.imul, 1) := by decide +kernel
theorem dX10_valueAt_52 : decode cX10_valueAt 52 = .ok (.iadd, 1) := by decide +kernel
theorem dX10_valueAt_53 : decode cX10_valueAt 53 = .ok (.aload_n 0, 1) := by decide +kernel
theorem dX10_valueAt_54 : decode cX10_valueAt 54 = .ok (.getfield 7, 3) := by decide +kernel
theorem dX10_valueAt_57 : decode cX10_valueAt 57 = .ok (.irem, 1) := by decide +kernel
theorem dX10_valueAt_58 : decode cX10_valueAt 58 = .ok (.istore_n 2, 1) := by decide +kernel
theorem dX10_valueAt_59 : decode cX10_valueAt 59 = .ok (.iinc 3 1, 3) := by decide +kernel
theorem dX10_valueAt_62 : decode cX10_valueAt 62 = .ok (.goto (-58), 3) := by decide +kernel
theorem dX10_valueAt_65 : decode cX10_valueAt 65 = .ok (.iload_n 2, 1) := by decide +kernel
theorem dX10_valueAt_66 : decode cX10_valueAt 66 = .ok (.ireturn, 1) := by decide +kernel
theorem dX10_evaluate_0 : decode cX10_evaluate 0 = .ok (.aload_n 0, 1) := by decide +kernel
theorem dX10_evaluate_1 : decode cX10_evaluate 1 = .ok (.iload_n 1, 1) := by decide +kernel
theorem dX10_evaluate_2 : decode cX10_evaluate 2 = .ok (.invokevirtual 129, 3) := by decide +kernel
theorem dX10_evaluate_5 : decode cX10_evaluate 5 = .ok (.ifCond .eq 11, 3) := by decide +kernel
theorem dX10_evaluate_8 : decode cX10_evaluate 8 = .ok (.aload_n 0, 1) := by decide +kernel
theorem dX10_evaluate_9 : decode cX10_evaluate 9 = .ok (.iload_n 1, 1) := by decide +kernel
theorem dX10_evaluate_10 : decode cX10_evaluate 10 = .ok (.invokevirtual 233, 3) := by decide +kernel
theorem dX10_evaluate_13 : decode cX10_evaluate 13 = .ok (.goto 4, 3) := by decide +kernel
theorem dX10_evaluate_16 : decode cX10_evaluate 16 = .ok (.iconst (-1), 1) := by decide +kernel
theorem dX10_evaluate_17 : decode cX10_evaluate 17 = .ok (.ireturn, 1) := by decide +kernel
theorem dX10_isVanishing_0 : decode cX10_isVanishing 0 = .ok (.iconst 1, 1) := by decide +kernel
theorem dX10_isVanishing_1 : decode cX10_isVanishing 1 = .ok (.istore_n 1, 1) := by decide +kernel
theorem dX10_isVanishing_2 : decode cX10_isVanishing 2 = .ok (.iconst 0, 1) := by decide +kernel
theorem dX10_isVanishing_3 : decode cX10_isVanishing 3 = .ok (.istore_n 2, 1) := by decide +kernel
theorem dX10_isVanishing_4 : decode cX10_isVanishing 4 = .ok (.iload_n 2, 1) := by decide +kernel
theorem dX10_isVanishing_5 : decode cX10_isVanishing 5 = .ok (.aload_n 0, 1) := by decide +kernel
theorem dX10_isVanishing_6 : decode cX10_isVanishing 6 = .ok (.getfield 111, 3) := by decide +kernel
theorem dX10_isVanishing_9 : decode cX10_isVanishing 9 = .ok (.if_icmp .ge 27, 3) := by decide +kernel
theorem dX10_isVanishing_12 : decode cX10_isVanishing 12 = .ok (.iload_n 1, 1) := by decide +kernel
theorem dX10_isVanishing_13 : decode cX10_isVanishing 13 = .ok (.ifCond .eq 15, 3) := by decide +kernel
theorem dX10_isVanishing_16 : decode cX10_isVanishing 16 = .ok (.aload_n 0, 1) := by decide +kernel
theorem dX10_isVanishing_17 : decode cX10_isVanishing 17 = .ok (.iload_n 2, 1) := by decide +kernel
theorem dX10_isVanishing_18 : decode cX10_isVanishing 18 = .ok (.invokevirtual 233, 3) := by decide +kernel
theorem dX10_isVanishing_21 : decode cX10_isVanishing 21 = .ok (.ifCond .ne 7, 3) := by decide +kernel
theorem dX10_isVanishing_24 : decode cX10_isVanishing 24 = .ok (.iconst 1, 1) := by decide +kernel
theorem dX10_isVanishing_25 : decode cX10_isVanishing 25 = .ok (.goto 4, 3) := by decide +kernel
theorem dX10_isVanishing_28 : decode cX10_isVanishing 28 = .ok (.iconst 0, 1) := by decide +kernel
theorem dX10_isVanishing_29 : decode cX10_isVanishing 29 = .ok (.istore_n 1, 1) := by decide +kernel
theorem dX10_isVanishing_30 : decode cX10_isVanishing 30 = .ok (.iinc 2 1, 3) := by decide +kernel
theorem dX10_isVanishing_33 : decode cX10_isVanishing 33 = .ok (.goto (-29), 3) := by decide +kernel
theorem dX10_isVanishing_36 : decode cX10_isVanishing 36 = .ok (.iload_n 1, 1) := by decide +kernel
theorem dX10_isVanishing_37 : decode cX10_isVanishing 37 = .ok (.ifCond .eq 7, 3) := by decide +kernel
theorem dX10_isVanishing_40 : decode cX10_isVanishing 40 = .ok (.iconst 1, 1) := by decide +kernel
theorem dX10_isVanishing_41 : decode cX10_isVanishing 41 = .ok (.goto 4, 3) := by decide +kernel
theorem dX10_isVanishing_44 : decode cX10_isVanishing 44 = .ok (.iconst 0, 1) := by decide +kernel
theorem dX10_isVanishing_45 : decode cX10_isVanishing 45 = .ok (.ireturn, 1) := by decide +kernel
theorem dX10_setUp_0 : decode cX10_setUp 0 = .ok (.iconst 0, 1) := by decide +kernel
theorem dX10_setUp_1 : decode cX10_setUp 1 = .ok (.istore_n 2, 1) := by decide +kernel
theorem dX10_setUp_2 : decode cX10_setUp 2 = .ok (.iconst 0, 1) := by decide +kernel
theorem dX10_setUp_3 : decode cX10_setUp 3 = .ok (.istore_n 3, 1) := by decide +kernel
theorem dX10_setUp_4 : decode cX10_setUp 4 = .ok (.iload_n 3, 1) := by decide +kernel
theorem dX10_setUp_5 : decode cX10_setUp 5 = .ok (.bipush 81, 2) := by decide +kernel
theorem dX10_setUp_7 : decode cX10_setUp 7 = .ok (.if_icmp .ge 40, 3) := by decide +kernel
theorem dX10_setUp_10 : decode cX10_setUp 10 = .ok (.iload_n 3, 1) := by decide +kernel
theorem dX10_setUp_11 : decode cX10_setUp 11 = .ok (.bipush 9, 2) := by decide +kernel
theorem dX10_setUp_13 : decode cX10_setUp 13 = .ok (.irem, 1) := by decide +kernel
theorem dX10_setUp_14 : decode cX10_setUp 14 = .ok (.aload_n 0, 1) := by decide +kernel
theorem dX10_setUp_15 : decode cX10_setUp 15 = .ok (.getfield 66, 3) := by decide +kernel
theorem dX10_setUp_18 : decode cX10_setUp 18 = .ok (.bipush 9, 2) := by decide +kernel
theorem dX10_setUp_20 : decode cX10_setUp 20 = .ok (.iload_n 1, 1) := by decide +kernel
theorem dX10_setUp_21 : decode cX10_setUp 21 = .ok (.imul, 1) := by decide +kernel
theorem dX10_setUp_22 : decode cX10_setUp 22 = .ok (.iload_n 3, 1) := by decide +kernel
theorem dX10_setUp_23 : decode cX10_setUp 23 = .ok (.bipush 9, 2) := by decide +kernel
theorem dX10_setUp_25 : decode cX10_setUp 25 = .ok (.idiv, 1) := by decide +kernel
theorem dX10_setUp_26 : decode cX10_setUp 26 = .ok (.iadd, 1) := by decide +kernel
theorem dX10_setUp_27 : decode cX10_setUp 27 = .ok (.iaload, 1) := by decide +kernel
theorem dX10_setUp_28 : decode cX10_setUp 28 = .ok (.if_icmp .ge 13, 3) := by decide +kernel
theorem dX10_setUp_31 : decode cX10_setUp 31 = .ok (.aload_n 0, 1) := by decide +kernel
theorem dX10_setUp_32 : decode cX10_setUp 32 = .ok (.getfield 81, 3) := by decide +kernel
theorem dX10_setUp_35 : decode cX10_setUp 35 = .ok (.iload_n 2, 1) := by decide +kernel
theorem dX10_setUp_36 : decode cX10_setUp 36 = .ok (.iload_n 3, 1) := by decide +kernel
theorem dX10_setUp_37 : decode cX10_setUp 37 = .ok (.iastore, 1) := by decide +kernel
theorem dX10_setUp_38 : decode cX10_setUp 38 = .ok (.iinc 2 1, 3) := by decide +kernel
theorem dX10_setUp_41 : decode cX10_setUp 41 = .ok (.iinc 3 1, 3) := by decide +kernel
theorem dX10_setUp_44 : decode cX10_setUp 44 = .ok (.goto (-40), 3) := by decide +kernel
theorem dX10_setUp_47 : decode cX10_setUp 47 = .ok (.iconst 0, 1) := by decide +kernel
theorem dX10_setUp_48 : decode cX10_setUp 48 = .ok (.istore_n 3, 1) := by decide +kernel
theorem dX10_setUp_49 : decode cX10_setUp 49 = .ok (.iload_n 3, 1) := by decide +kernel
theorem dX10_setUp_50 : decode cX10_setUp 50 = .ok (.aload_n 0, 1) := by decide +kernel
theorem dX10_setUp_51 : decode cX10_setUp 51 = .ok (.getfield 111, 3) := by decide +kernel
theorem dX10_setUp_54 : decode cX10_setUp 54 = .ok (.if_icmp .ge 105, 3) := by decide +kernel
theorem dX10_setUp_57 : decode cX10_setUp 57 = .ok (.iconst 0, 1) := by decide +kernel
theorem dX10_setUp_58 : decode cX10_setUp 58 = .ok (.istore 4, 2) := by decide +kernel
theorem dX10_setUp_60 : decode cX10_setUp 60 = .ok (.iload 4, 2) := by decide +kernel
theorem dX10_setUp_62 : decode cX10_setUp 62 = .ok (.aload_n 0, 1) := by decide +kernel
theorem dX10_setUp_63 : decode cX10_setUp 63 = .ok (.getfield 111, 3) := by decide +kernel
theorem dX10_setUp_66 : decode cX10_setUp 66 = .ok (.if_icmp .ge 67, 3) := by decide +kernel
theorem dX10_setUp_69 : decode cX10_setUp 69 = .ok (.aload_n 0, 1) := by decide +kernel
theorem dX10_setUp_70 : decode cX10_setUp 70 = .ok (.getfield 78, 3) := by decide +kernel
theorem dX10_setUp_73 : decode cX10_setUp 73 = .ok (.bipush 9, 2) := by decide +kernel
theorem dX10_setUp_75 : decode cX10_setUp 75 = .ok (.iload_n 3, 1) := by decide +kernel
theorem dX10_setUp_76 : decode cX10_setUp 76 = .ok (.imul, 1) := by decide +kernel
theorem dX10_setUp_77 : decode cX10_setUp 77 = .ok (.iload 4, 2) := by decide +kernel
theorem dX10_setUp_79 : decode cX10_setUp 79 = .ok (.iadd, 1) := by decide +kernel
theorem dX10_setUp_80 : decode cX10_setUp 80 = .ok (.aload_n 0, 1) := by decide +kernel
theorem dX10_setUp_81 : decode cX10_setUp 81 = .ok (.aload_n 0, 1) := by decide +kernel
theorem dX10_setUp_82 : decode cX10_setUp 82 = .ok (.getfield 13, 3) := by decide +kernel
theorem dX10_setUp_85 : decode cX10_setUp 85 = .ok (.iload_n 3, 1) := by decide +kernel
theorem dX10_setUp_86 : decode cX10_setUp 86 = .ok (.iaload, 1) := by decide +kernel
theorem dX10_setUp_87 : decode cX10_setUp 87 = .ok (.aload_n 0, 1) := by decide +kernel
theorem dX10_setUp_88 : decode cX10_setUp 88 = .ok (.getfield 81, 3) := by decide +kernel
theorem dX10_setUp_91 : decode cX10_setUp 91 = .ok (.iload 4, 2) := by decide +kernel
theorem dX10_setUp_93 : decode cX10_setUp 93 = .ok (.iaload, 1) := by decide +kernel
theorem dX10_setUp_94 : decode cX10_setUp 94 = .ok (.bipush 9, 2) := by decide +kernel
theorem dX10_setUp_96 : decode cX10_setUp 96 = .ok (.idiv, 1) := by decide +kernel
theorem dX10_setUp_97 : decode cX10_setUp 97 = .ok (.invokevirtual 136, 3) := by decide +kernel
theorem dX10_setUp_100 : decode cX10_setUp 100 = .ok (.aload_n 0, 1) := by decide +kernel
theorem dX10_setUp_101 : decode cX10_setUp 101 = .ok (.aload_n 0, 1) := by decide +kernel
theorem dX10_setUp_102 : decode cX10_setUp 102 = .ok (.getfield 17, 3) := by decide +kernel
theorem dX10_setUp_105 : decode cX10_setUp 105 = .ok (.iload_n 3, 1) := by decide +kernel
theorem dX10_setUp_106 : decode cX10_setUp 106 = .ok (.iaload, 1) := by decide +kernel
theorem dX10_setUp_107 : decode cX10_setUp 107 = .ok (.aload_n 0, 1) := by decide +kernel
theorem dX10_setUp_108 : decode cX10_setUp 108 = .ok (.getfield 81, 3) := by decide +kernel
theorem dX10_setUp_111 : decode cX10_setUp 111 = .ok (.iload 4, 2) := by decide +kernel
theorem dX10_setUp_113 : decode cX10_setUp 113 = .ok (.iaload, 1) := by decide +kernel
theorem dX10_setUp_114 : decode cX10_setUp 114 = .ok (.bipush 9, 2) := by decide +kernel
theorem dX10_setUp_116 : decode cX10_setUp 116 = .ok (.irem, 1) := by decide +kernel
theorem dX10_setUp_117 : decode cX10_setUp 117 = .ok (.invokevirtual 136, 3) := by decide +kernel
theorem dX10_setUp_120 : decode cX10_setUp 120 = .ok (.imul, 1) := by decide +kernel
theorem dX10_setUp_121 : decode cX10_setUp 121 = .ok (.aload_n 0, 1) := by decide +kernel
theorem dX10_setUp_122 : decode cX10_setUp 122 = .ok (.getfield 7, 3) := by decide +kernel
theorem dX10_setUp_125 : decode cX10_setUp 125 = .ok (.irem, 1) := by decide +kernel
theorem dX10_setUp_126 : decode cX10_setUp 126 = .ok (.iastore, 1) := by decide +kernel
theorem dX10_setUp_127 : decode cX10_setUp 127 = .ok (.iinc 4 1, 3) := by decide +kernel
theorem dX10_setUp_130 : decode cX10_setUp 130 = .ok (.goto (-70), 3) := by decide +kernel
theorem dX10_setUp_133 : decode cX10_setUp 133 = .ok (.aload_n 0, 1) := by decide +kernel
theorem dX10_setUp_134 : decode cX10_setUp 134 = .ok (.getfield 78, 3) := by decide +kernel
theorem dX10_setUp_137 : decode cX10_setUp 137 = .ok (.bipush 9, 2) := by decide +kernel
theorem dX10_setUp_139 : decode cX10_setUp 139 = .ok (.iload_n 3, 1) := by decide +kernel
theorem dX10_setUp_140 : decode cX10_setUp 140 = .ok (.imul, 1) := by decide +kernel
theorem dX10_setUp_141 : decode cX10_setUp 141 = .ok (.aload_n 0, 1) := by decide +kernel
theorem dX10_setUp_142 : decode cX10_setUp 142 = .ok (.getfield 111, 3) := by decide +kernel
theorem dX10_setUp_145 : decode cX10_setUp 145 = .ok (.iadd, 1) := by decide +kernel
theorem dX10_setUp_146 : decode cX10_setUp 146 = .ok (.aload_n 0, 1) := by decide +kernel
theorem dX10_setUp_147 : decode cX10_setUp 147 = .ok (.getfield 75, 3) := by decide +kernel
theorem dX10_setUp_150 : decode cX10_setUp 150 = .ok (.iload_n 3, 1) := by decide +kernel
theorem dX10_setUp_151 : decode cX10_setUp 151 = .ok (.iaload, 1) := by decide +kernel
theorem dX10_setUp_152 : decode cX10_setUp 152 = .ok (.iastore, 1) := by decide +kernel
theorem dX10_setUp_153 : decode cX10_setUp 153 = .ok (.iinc 3 1, 3) := by decide +kernel
theorem dX10_setUp_156 : decode cX10_setUp 156 = .ok (.goto (-107), 3) := by decide +kernel
theorem dX10_setUp_159 : decode cX10_setUp 159 = .ok (.return_, 1) := by decide +kernel
theorem dX10_exchange_0 : decode cX10_exchange 0 = .ok (.iconst 0, 1) := by decide +kernel
theorem dX10_exchange_1 : decode cX10_exchange 1 = .ok (.istore_n 3, 1) := by decide +kernel
theorem dX10_exchange_2 : decode cX10_exchange 2 = .ok (.iload_n 3, 1) := by decide +kernel
theorem dX10_exchange_3 : decode cX10_exchange 3 = .ok (.aload_n 0, 1) := by decide +kernel
theorem dX10_exchange_4 : decode cX10_exchange 4 = .ok (.getfield 111, 3) := by decide +kernel
theorem dX10_exchange_7 : decode cX10_exchange 7 = .ok (.if_icmp .gt 57, 3) := by decide +kernel
theorem dX10_exchange_10 : decode cX10_exchange 10 = .ok (.aload_n 0, 1) := by decide +kernel
theorem dX10_exchange_11 : decode cX10_exchange 11 = .ok (.getfield 78, 3) := by decide +kernel
theorem dX10_exchange_14 : decode cX10_exchange 14 = .ok (.bipush 9, 2) := by decide +kernel
theorem dX10_exchange_16 : decode cX10_exchange 16 = .ok (.iload_n 1, 1) := by decide +kernel
theorem dX10_exchange_17 : decode cX10_exchange 17 = .ok (.imul, 1) := by decide +kernel
theorem dX10_exchange_18 : decode cX10_exchange 18 = .ok (.iload_n 3, 1) := by decide +kernel
theorem dX10_exchange_19 : decode cX10_exchange 19 = .ok (.iadd, 1) := by decide +kernel
theorem dX10_exchange_20 : decode cX10_exchange 20 = .ok (.iaload, 1) := by decide +kernel
theorem dX10_exchange_21 : decode cX10_exchange 21 = .ok (.istore 4, 2) := by decide +kernel
theorem dX10_exchange_23 : decode cX10_exchange 23 = .ok (.aload_n 0, 1) := by decide +kernel
theorem dX10_exchange_24 : decode cX10_exchange 24 = .ok (.getfield 78, 3) := by decide +kernel
theorem dX10_exchange_27 : decode cX10_exchange 27 = .ok (.bipush 9, 2) := by decide +kernel
theorem dX10_exchange_29 : decode cX10_exchange 29 = .ok (.iload_n 1, 1) := by decide +kernel
theorem dX10_exchange_30 : decode cX10_exchange 30 = .ok (.imul, 1) := by decide +kernel
theorem dX10_exchange_31 : decode cX10_exchange 31 = .ok (.iload_n 3, 1) := by decide +kernel
theorem dX10_exchange_32 : decode cX10_exchange 32 = .ok (.iadd, 1) := by decide +kernel
theorem dX10_exchange_33 : decode cX10_exchange 33 = .ok (.aload_n 0, 1) := by decide +kernel
theorem dX10_exchange_34 : decode cX10_exchange 34 = .ok (.getfield 78, 3) := by decide +kernel
theorem dX10_exchange_37 : decode cX10_exchange 37 = .ok (.bipush 9, 2) := by decide +kernel
theorem dX10_exchange_39 : decode cX10_exchange 39 = .ok (.iload_n 2, 1) := by decide +kernel
theorem dX10_exchange_40 : decode cX10_exchange 40 = .ok (.imul, 1) := by decide +kernel
theorem dX10_exchange_41 : decode cX10_exchange 41 = .ok (.iload_n 3, 1) := by decide +kernel
theorem dX10_exchange_42 : decode cX10_exchange 42 = .ok (.iadd, 1) := by decide +kernel
theorem dX10_exchange_43 : decode cX10_exchange 43 = .ok (.iaload, 1) := by decide +kernel
theorem dX10_exchange_44 : decode cX10_exchange 44 = .ok (.iastore, 1) := by decide +kernel
theorem dX10_exchange_45 : decode cX10_exchange 45 = .ok (.aload_n 0, 1) := by decide +kernel
theorem dX10_exchange_46 : decode cX10_exchange 46 = .ok (.getfield 78, 3) := by decide +kernel
theorem dX10_exchange_49 : decode cX10_exchange 49 = .ok (.bipush 9, 2) := by decide +kernel
theorem dX10_exchange_51 : decode cX10_exchange 51 = .ok (.iload_n 2, 1) := by decide +kernel
theorem dX10_exchange_52 : decode cX10_exchange 52 = .ok (.imul, 1) := by decide +kernel
theorem dX10_exchange_53 : decode cX10_exchange 53 = .ok (.iload_n 3, 1) := by decide +kernel
theorem dX10_exchange_54 : decode cX10_exchange 54 = .ok (.iadd, 1) := by decide +kernel
theorem dX10_exchange_55 : decode cX10_exchange 55 = .ok (.iload 4, 2) := by decide +kernel
theorem dX10_exchange_57 : decode cX10_exchange 57 = .ok (.iastore, 1) := by decide +kernel
theorem dX10_exchange_58 : decode cX10_exchange 58 = .ok (.iinc 3 1, 3) := by decide +kernel
theorem dX10_exchange_61 : decode cX10_exchange 61 = .ok (.goto (-59), 3) := by decide +kernel
theorem dX10_exchange_64 : decode cX10_exchange 64 = .ok (.return_, 1) := by decide +kernel
theorem dX10_solve_0 : decode cX10_solve 0 = .ok (.aload_n 0, 1) := by decide +kernel
theorem dX10_solve_1 : decode cX10_solve 1 = .ok (.iload_n 1, 1) := by decide +kernel
theorem dX10_solve_2 : decode cX10_solve 2 = .ok (.invokevirtual 236, 3) := by decide +kernel
theorem dX10_solve_5 : decode cX10_solve 5 = .ok (.iconst 0, 1) := by decide +kernel
theorem dX10_solve_6 : decode cX10_solve 6 = .ok (.istore_n 2, 1) := by decide +kernel
theorem dX10_solve_7 : decode cX10_solve 7 = .ok (.iload_n 2, 1) := by decide +kernel
theorem dX10_solve_8 : decode cX10_solve 8 = .ok (.aload_n 0, 1) := by decide +kernel
theorem dX10_solve_9 : decode cX10_solve 9 = .ok (.getfield 111, 3) := by decide +kernel
theorem dX10_solve_12 : decode cX10_solve 12 = .ok (.if_icmp .ge 213, 3) := by decide +kernel
theorem dX10_solve_15 : decode cX10_solve 15 = .ok (.iload_n 2, 1) := by decide +kernel
theorem dX10_solve_16 : decode cX10_solve 16 = .ok (.istore_n 3, 1) := by decide +kernel
theorem dX10_solve_17 : decode cX10_solve 17 = .ok (.aload_n 0, 1) := by decide +kernel
theorem dX10_solve_18 : decode cX10_solve 18 = .ok (.getfield 78, 3) := by decide +kernel
theorem dX10_solve_21 : decode cX10_solve 21 = .ok (.bipush 9, 2) := by decide +kernel
theorem dX10_solve_23 : decode cX10_solve 23 = .ok (.iload_n 3, 1) := by decide +kernel
theorem dX10_solve_24 : decode cX10_solve 24 = .ok (.imul, 1) := by decide +kernel
theorem dX10_solve_25 : decode cX10_solve 25 = .ok (.iload_n 2, 1) := by decide +kernel
theorem dX10_solve_26 : decode cX10_solve 26 = .ok (.iadd, 1) := by decide +kernel
theorem dX10_solve_27 : decode cX10_solve 27 = .ok (.iaload, 1) := by decide +kernel
theorem dX10_solve_28 : decode cX10_solve 28 = .ok (.ifCond .ne 9, 3) := by decide +kernel
theorem dX10_solve_31 : decode cX10_solve 31 = .ok (.iinc 3 1, 3) := by decide +kernel
theorem dX10_solve_34 : decode cX10_solve 34 = .ok (.goto (-17), 3) := by decide +kernel
theorem dX10_solve_37 : decode cX10_solve 37 = .ok (.aload_n 0, 1) := by decide +kernel
theorem dX10_solve_38 : decode cX10_solve 38 = .ok (.iload_n 3, 1) := by decide +kernel
theorem dX10_solve_39 : decode cX10_solve 39 = .ok (.iload_n 2, 1) := by decide +kernel
theorem dX10_solve_40 : decode cX10_solve 40 = .ok (.invokevirtual 239, 3) := by decide +kernel
theorem dX10_solve_43 : decode cX10_solve 43 = .ok (.aload_n 0, 1) := by decide +kernel
theorem dX10_solve_44 : decode cX10_solve 44 = .ok (.aload_n 0, 1) := by decide +kernel
theorem dX10_solve_45 : decode cX10_solve 45 = .ok (.getfield 78, 3) := by decide +kernel
theorem dX10_solve_48 : decode cX10_solve 48 = .ok (.bipush 9, 2) := by decide +kernel
theorem dX10_solve_50 : decode cX10_solve 50 = .ok (.iload_n 2, 1) := by decide +kernel
theorem dX10_solve_51 : decode cX10_solve 51 = .ok (.imul, 1) := by decide +kernel
theorem dX10_solve_52 : decode cX10_solve 52 = .ok (.iload_n 2, 1) := by decide +kernel
theorem dX10_solve_53 : decode cX10_solve 53 = .ok (.iadd, 1) := by decide +kernel
theorem dX10_solve_54 : decode cX10_solve 54 = .ok (.iaload, 1) := by decide +kernel
theorem dX10_solve_55 : decode cX10_solve 55 = .ok (.invokevirtual 148, 3) := by decide +kernel
theorem dX10_solve_58 : decode cX10_solve 58 = .ok (.istore 4, 2) := by decide +kernel
theorem dX10_solve_60 : decode cX10_solve 60 = .ok (.iconst 0, 1) := by decide +kernel
theorem dX10_solve_61 : decode cX10_solve 61 = .ok (.istore 5, 2) := by decide +kernel
theorem dX10_solve_63 : decode cX10_solve 63 = .ok (.iload 5, 2) := by decide +kernel
theorem dX10_solve_65 : decode cX10_solve 65 = .ok (.aload_n 0, 1) := by decide +kernel
theorem dX10_solve_66 : decode cX10_solve 66 = .ok (.getfield 111, 3) := by decide +kernel
theorem dX10_solve_69 : decode cX10_solve 69 = .ok (.if_icmp .gt 41, 3) := by decide +kernel
theorem dX10_solve_72 : decode cX10_solve 72 = .ok (.aload_n 0, 1) := by decide +kernel
theorem dX10_solve_73 : decode cX10_solve 73 = .ok (.getfield 78, 3) := by decide +kernel
theorem dX10_solve_76 : decode cX10_solve 76 = .ok (.bipush 9, 2) := by decide +kernel
theorem dX10_solve_78 : decode cX10_solve 78 = .ok (.iload_n 2, 1) := by decide +kernel
theorem dX10_solve_79 : decode cX10_solve 79 = .ok (.imul, 1) := by decide +kernel
theorem dX10_solve_80 : decode cX10_solve 80 = .ok (.iload 5, 2) := by decide +kernel
theorem dX10_solve_82 : decode cX10_solve 82 = .ok (.iadd, 1) := by decide +kernel
theorem dX10_solve_83 : decode cX10_solve 83 = .ok (.aload_n 0, 1) := by decide +kernel
theorem dX10_solve_84 : decode cX10_solve 84 = .ok (.getfield 78, 3) := by decide +kernel
theorem dX10_solve_87 : decode cX10_solve 87 = .ok (.bipush 9, 2) := by decide +kernel
theorem dX10_solve_89 : decode cX10_solve 89 = .ok (.iload_n 2, 1) := by decide +kernel
theorem dX10_solve_90 : decode cX10_solve 90 = .ok (.imul, 1) := by decide +kernel
theorem dX10_solve_91 : decode cX10_solve 91 = .ok (.iload 5, 2) := by decide +kernel
theorem dX10_solve_93 : decode cX10_solve 93 = .ok (.iadd, 1) := by decide +kernel
theorem dX10_solve_94 : decode cX10_solve 94 = .ok (.iaload, 1) := by decide +kernel
theorem dX10_solve_95 : decode cX10_solve 95 = .ok (.iload 4, 2) := by decide +kernel
theorem dX10_solve_97 : decode cX10_solve 97 = .ok (.imul, 1) := by decide +kernel
theorem dX10_solve_98 : decode cX10_solve 98 = .ok (.aload_n 0, 1) := by decide +kernel
theorem dX10_solve_99 : decode cX10_solve 99 = .ok (.getfield 7, 3) := by decide +kernel
theorem dX10_solve_102 : decode cX10_solve 102 = .ok (.irem, 1) := by decide +kernel
theorem dX10_solve_103 : decode cX10_solve 103 = .ok (.iastore, 1) := by decide +kernel
theorem dX10_solve_104 : decode cX10_solve 104 = .ok (.iinc 5 1, 3) := by decide +kernel
theorem dX10_solve_107 : decode cX10_solve 107 = .ok (.goto (-44), 3) := by decide +kernel
theorem dX10_solve_110 : decode cX10_solve 110 = .ok (.iconst 0, 1) := by decide +kernel
theorem dX10_solve_111 : decode cX10_solve 111 = .ok (.istore 5, 2) := by decide +kernel
theorem dX10_solve_113 : decode cX10_solve 113 = .ok (.iload 5, 2) := by decide +kernel
theorem dX10_solve_115 : decode cX10_solve 115 = .ok (.aload_n 0, 1) := by decide +kernel
theorem dX10_solve_116 : decode cX10_solve 116 = .ok (.getfield 111, 3) := by decide +kernel
theorem dX10_solve_119 : decode cX10_solve 119 = .ok (.if_icmp .ge 100, 3) := by decide +kernel
theorem dX10_solve_122 : decode cX10_solve 122 = .ok (.iload 5, 2) := by decide +kernel
theorem dX10_solve_124 : decode cX10_solve 124 = .ok (.iload_n 2, 1) := by decide +kernel
theorem dX10_solve_125 : decode cX10_solve 125 = .ok (.if_icmp .ne 7, 3) := by decide +kernel
theorem dX10_solve_128 : decode cX10_solve 128 = .ok (.iconst 0, 1) := by decide +kernel
theorem dX10_solve_129 : decode cX10_solve 129 = .ok (.goto 15, 3) := by decide +kernel
theorem dX10_solve_132 : decode cX10_solve 132 = .ok (.aload_n 0, 1) := by decide +kernel
theorem dX10_solve_133 : decode cX10_solve 133 = .ok (.getfield 78, 3) := by decide +kernel
theorem dX10_solve_136 : decode cX10_solve 136 = .ok (.bipush 9, 2) := by decide +kernel
theorem dX10_solve_138 : decode cX10_solve 138 = .ok (.iload 5, 2) := by decide +kernel
theorem dX10_solve_140 : decode cX10_solve 140 = .ok (.imul, 1) := by decide +kernel
theorem dX10_solve_141 : decode cX10_solve 141 = .ok (.iload_n 2, 1) := by decide +kernel
theorem dX10_solve_142 : decode cX10_solve 142 = .ok (.iadd, 1) := by decide +kernel
theorem dX10_solve_143 : decode cX10_solve 143 = .ok (.iaload, 1) := by decide +kernel
theorem dX10_solve_144 : decode cX10_solve 144 = .ok (.istore 6, 2) := by decide +kernel
theorem dX10_solve_146 : decode cX10_solve 146 = .ok (.iconst 0, 1) := by decide +kernel
theorem dX10_solve_147 : decode cX10_solve 147 = .ok (.istore 7, 2) := by decide +kernel
theorem dX10_solve_149 : decode cX10_solve 149 = .ok (.iload 7, 2) := by decide +kernel
theorem dX10_solve_151 : decode cX10_solve 151 = .ok (.aload_n 0, 1) := by decide +kernel
theorem dX10_solve_152 : decode cX10_solve 152 = .ok (.getfield 111, 3) := by decide +kernel
theorem dX10_solve_155 : decode cX10_solve 155 = .ok (.if_icmp .gt 58, 3) := by decide +kernel
theorem dX10_solve_158 : decode cX10_solve 158 = .ok (.aload_n 0, 1) := by decide +kernel
theorem dX10_solve_159 : decode cX10_solve 159 = .ok (.getfield 78, 3) := by decide +kernel
theorem dX10_solve_162 : decode cX10_solve 162 = .ok (.bipush 9, 2) := by decide +kernel
theorem dX10_solve_164 : decode cX10_solve 164 = .ok (.iload 5, 2) := by decide +kernel
theorem dX10_solve_166 : decode cX10_solve 166 = .ok (.imul, 1) := by decide +kernel
theorem dX10_solve_167 : decode cX10_solve 167 = .ok (.iload 7, 2) := by decide +kernel
theorem dX10_solve_169 : decode cX10_solve 169 = .ok (.iadd, 1) := by decide +kernel
theorem dX10_solve_170 : decode cX10_solve 170 = .ok (.aload_n 0, 1) := by decide +kernel
theorem dX10_solve_171 : decode cX10_solve 171 = .ok (.getfield 78, 3) := by decide +kernel
theorem dX10_solve_174 : decode cX10_solve 174 = .ok (.bipush 9, 2) := by decide +kernel
theorem dX10_solve_176 : decode cX10_solve 176 = .ok (.iload 5, 2) := by decide +kernel
theorem dX10_solve_178 : decode cX10_solve 178 = .ok (.imul, 1) := by decide +kernel
theorem dX10_solve_179 : decode cX10_solve 179 = .ok (.iload 7, 2) := by decide +kernel
theorem dX10_solve_181 : decode cX10_solve 181 = .ok (.iadd, 1) := by decide +kernel
theorem dX10_solve_182 : decode cX10_solve 182 = .ok (.iaload, 1) := by decide +kernel
theorem dX10_solve_183 : decode cX10_solve 183 = .ok (.iload 6, 2) := by decide +kernel
theorem dX10_solve_185 : decode cX10_solve 185 = .ok (.aload_n 0, 1) := by decide +kernel
theorem dX10_solve_186 : decode cX10_solve 186 = .ok (.getfield 78, 3) := by decide +kernel
theorem dX10_solve_189 : decode cX10_solve 189 = .ok (.bipush 9, 2) := by decide +kernel
theorem dX10_solve_191 : decode cX10_solve 191 = .ok (.iload_n 2, 1) := by decide +kernel
theorem dX10_solve_192 : decode cX10_solve 192 = .ok (.imul, 1) := by decide +kernel
theorem dX10_solve_193 : decode cX10_solve 193 = .ok (.iload 7, 2) := by decide +kernel
theorem dX10_solve_195 : decode cX10_solve 195 = .ok (.iadd, 1) := by decide +kernel
theorem dX10_solve_196 : decode cX10_solve 196 = .ok (.iaload, 1) := by decide +kernel
theorem dX10_solve_197 : decode cX10_solve 197 = .ok (.imul, 1) := by decide +kernel
theorem dX10_solve_198 : decode cX10_solve 198 = .ok (.isub, 1) := by decide +kernel
theorem dX10_solve_199 : decode cX10_solve 199 = .ok (.aload_n 0, 1) := by decide +kernel
theorem dX10_solve_200 : decode cX10_solve 200 = .ok (.getfield 7, 3) := by decide +kernel
theorem dX10_solve_203 : decode cX10_solve 203 = .ok (.invokestatic 143, 3) := by decide +kernel
theorem dX10_solve_206 : decode cX10_solve 206 = .ok (.iastore, 1) := by decide +kernel
theorem dX10_solve_207 : decode cX10_solve 207 = .ok (.iinc 7 1, 3) := by decide +kernel
theorem dX10_solve_210 : decode cX10_solve 210 = .ok (.goto (-61), 3) := by decide +kernel
theorem dX10_solve_213 : decode cX10_solve 213 = .ok (.iinc 5 1, 3) := by decide +kernel
theorem dX10_solve_216 : decode cX10_solve 216 = .ok (.goto (-103), 3) := by decide +kernel
theorem dX10_solve_219 : decode cX10_solve 219 = .ok (.iinc 2 1, 3) := by decide +kernel
theorem dX10_solve_222 : decode cX10_solve 222 = .ok (.goto (-215), 3) := by decide +kernel
theorem dX10_solve_225 : decode cX10_solve 225 = .ok (.aload_n 0, 1) := by decide +kernel
theorem dX10_solve_226 : decode cX10_solve 226 = .ok (.invokevirtual 126, 3) := by decide +kernel
theorem dX10_solve_229 : decode cX10_solve 229 = .ok (.iconst 0, 1) := by decide +kernel
theorem dX10_solve_230 : decode cX10_solve 230 = .ok (.istore_n 2, 1) := by decide +kernel
theorem dX10_solve_231 : decode cX10_solve 231 = .ok (.iload_n 2, 1) := by decide +kernel
theorem dX10_solve_232 : decode cX10_solve 232 = .ok (.aload_n 0, 1) := by decide +kernel
theorem dX10_solve_233 : decode cX10_solve 233 = .ok (.getfield 111, 3) := by decide +kernel
theorem dX10_solve_236 : decode cX10_solve 236 = .ok (.if_icmp .ge 34, 3) := by decide +kernel
theorem dX10_solve_239 : decode cX10_solve 239 = .ok (.aload_n 0, 1) := by decide +kernel
theorem dX10_solve_240 : decode cX10_solve 240 = .ok (.getfield 20, 3) := by decide +kernel
theorem dX10_solve_243 : decode cX10_solve 243 = .ok (.aload_n 0, 1) := by decide +kernel
theorem dX10_solve_244 : decode cX10_solve 244 = .ok (.getfield 81, 3) := by decide +kernel
theorem dX10_solve_247 : decode cX10_solve 247 = .ok (.iload_n 2, 1) := by decide +kernel
theorem dX10_solve_248 : decode cX10_solve 248 = .ok (.iaload, 1) := by decide +kernel
theorem dX10_solve_249 : decode cX10_solve 249 = .ok (.aload_n 0, 1) := by decide +kernel
theorem dX10_solve_250 : decode cX10_solve 250 = .ok (.getfield 78, 3) := by decide +kernel
theorem dX10_solve_253 : decode cX10_solve 253 = .ok (.bipush 9, 2) := by decide +kernel
theorem dX10_solve_255 : decode cX10_solve 255 = .ok (.iload_n 2, 1) := by decide +kernel
theorem dX10_solve_256 : decode cX10_solve 256 = .ok (.imul, 1) := by decide +kernel
theorem dX10_solve_257 : decode cX10_solve 257 = .ok (.aload_n 0, 1) := by decide +kernel
theorem dX10_solve_258 : decode cX10_solve 258 = .ok (.getfield 111, 3) := by decide +kernel
theorem dX10_solve_261 : decode cX10_solve 261 = .ok (.iadd, 1) := by decide +kernel
theorem dX10_solve_262 : decode cX10_solve 262 = .ok (.iaload, 1) := by decide +kernel
theorem dX10_solve_263 : decode cX10_solve 263 = .ok (.iastore, 1) := by decide +kernel
theorem dX10_solve_264 : decode cX10_solve 264 = .ok (.iinc 2 1, 3) := by decide +kernel
theorem dX10_solve_267 : decode cX10_solve 267 = .ok (.goto (-36), 3) := by decide +kernel
theorem dX10_solve_270 : decode cX10_solve 270 = .ok (.aload_n 0, 1) := by decide +kernel
theorem dX10_solve_271 : decode cX10_solve 271 = .ok (.invokevirtual 242, 3) := by decide +kernel
theorem dX10_solve_274 : decode cX10_solve 274 = .ok (.ireturn, 1) := by decide +kernel
theorem dX10_reduceToNormalForm_0 : decode cX10_reduceToNormalForm 0 = .ok (.aload_n 0, 1) := by decide +kernel
theorem dX10_reduceToNormalForm_1 : decode cX10_reduceToNormalForm 1 = .ok (.iload_n 1, 1) := by decide +kernel
theorem dX10_reduceToNormalForm_2 : decode cX10_reduceToNormalForm 2 = .ok (.invokevirtual 204, 3) := by decide +kernel
theorem dX10_reduceToNormalForm_5 : decode cX10_reduceToNormalForm 5 = .ok (.ifCond .ne 5, 3) := by decide +kernel
theorem dX10_reduceToNormalForm_8 : decode cX10_reduceToNormalForm 8 = .ok (.iconst (-1), 1) := by decide +kernel
theorem dX10_reduceToNormalForm_9 : decode cX10_reduceToNormalForm 9 = .ok (.ireturn, 1) := by decide +kernel
theorem dX10_reduceToNormalForm_10 : decode cX10_reduceToNormalForm 10 = .ok (.iconst 0, 1) := by decide +kernel
theorem dX10_reduceToNormalForm_11 : decode cX10_reduceToNormalForm 11 = .ok (.istore_n 2, 1) := by decide +kernel
theorem dX10_reduceToNormalForm_12 : decode cX10_reduceToNormalForm 12 = .ok (.iload_n 2, 1) := by decide +kernel
theorem dX10_reduceToNormalForm_13 : decode cX10_reduceToNormalForm 13 = .ok (.aload_n 0, 1) := by decide +kernel
theorem dX10_reduceToNormalForm_14 : decode cX10_reduceToNormalForm 14 = .ok (.getfield 111, 3) := by decide +kernel
theorem dX10_reduceToNormalForm_17 : decode cX10_reduceToNormalForm 17 = .ok (.if_icmp .ge 20, 3) := by decide +kernel
theorem dX10_reduceToNormalForm_20 : decode cX10_reduceToNormalForm 20 = .ok (.aload_n 0, 1) := by decide +kernel
theorem dX10_reduceToNormalForm_21 : decode cX10_reduceToNormalForm 21 = .ok (.getfield 75, 3) := by decide +kernel
theorem dX10_reduceToNormalForm_24 : decode cX10_reduceToNormalForm 24 = .ok (.iload_n 2, 1) := by decide +kernel
theorem dX10_reduceToNormalForm_25 : decode cX10_reduceToNormalForm 25 = .ok (.aload_n 0, 1) := by decide +kernel
theorem dX10_reduceToNormalForm_26 : decode cX10_reduceToNormalForm 26 = .ok (.iload_n 2, 1) := by decide +kernel
theorem dX10_reduceToNormalForm_27 : decode cX10_reduceToNormalForm 27 = .ok (.invokevirtual 233, 3) := by decide +kernel
theorem dX10_reduceToNormalForm_30 : decode cX10_reduceToNormalForm 30 = .ok (.iastore, 1) := by decide +kernel
theorem dX10_reduceToNormalForm_31 : decode cX10_reduceToNormalForm 31 = .ok (.iinc 2 1, 3) := by decide +kernel
theorem dX10_reduceToNormalForm_34 : decode cX10_reduceToNormalForm 34 = .ok (.goto (-22), 3) := by decide +kernel
theorem dX10_reduceToNormalForm_37 : decode cX10_reduceToNormalForm 37 = .ok (.aload_n 0, 1) := by decide +kernel
theorem dX10_reduceToNormalForm_38 : decode cX10_reduceToNormalForm 38 = .ok (.iload_n 1, 1) := by decide +kernel
theorem dX10_reduceToNormalForm_39 : decode cX10_reduceToNormalForm 39 = .ok (.invokevirtual 246, 3) := by decide +kernel
theorem dX10_reduceToNormalForm_42 : decode cX10_reduceToNormalForm 42 = .ok (.ireturn, 1) := by decide +kernel
theorem dX10_interpolate_0 : decode cX10_interpolate 0 = .ok (.aload_n 0, 1) := by decide +kernel
theorem dX10_interpolate_1 : decode cX10_interpolate 1 = .ok (.iload_n 1, 1) := by decide +kernel
theorem dX10_interpolate_2 : decode cX10_interpolate 2 = .ok (.invokevirtual 204, 3) := by decide +kernel
theorem dX10_interpolate_5 : decode cX10_interpolate 5 = .ok (.ifCond .eq 10, 3) := by decide +kernel
theorem dX10_interpolate_8 : decode cX10_interpolate 8 = .ok (.iload_n 2, 1) := by decide +kernel
theorem dX10_interpolate_9 : decode cX10_interpolate 9 = .ok (.invokestatic 249, 3) := by decide +kernel
theorem dX10_interpolate_12 : decode cX10_interpolate 12 = .ok (.ifCond .ne 5, 3) := by decide +kernel
theorem dX10_interpolate_15 : decode cX10_interpolate 15 = .ok (.iconst (-1), 1) := by decide +kernel
theorem dX10_interpolate_16 : decode cX10_interpolate 16 = .ok (.ireturn, 1) := by decide +kernel
theorem dX10_interpolate_17 : decode cX10_interpolate 17 = .ok (.aload_n 0, 1) := by decide +kernel
theorem dX10_interpolate_18 : decode cX10_interpolate 18 = .ok (.getfield 90, 3) := by decide +kernel
theorem dX10_interpolate_21 : decode cX10_interpolate 21 = .ok (.iload_n 2, 1) := by decide +kernel
theorem dX10_interpolate_22 : decode cX10_interpolate 22 = .ok (.iaload, 1) := by decide +kernel
theorem dX10_interpolate_23 : decode cX10_interpolate 23 = .ok (.iconst 1, 1) := by decide +kernel
theorem dX10_interpolate_24 : decode cX10_interpolate 24 = .ok (.if_icmp .eq 20, 3) := by decide +kernel
theorem dX10_interpolate_27 : decode cX10_interpolate 27 = .ok (.aload_n 0, 1) := by decide +kernel
theorem dX10_interpolate_28 : decode cX10_interpolate 28 = .ok (.getfield 90, 3) := by decide +kernel
theorem dX10_interpolate_31 : decode cX10_interpolate 31 = .ok (.iload_n 2, 1) := by decide +kernel
theorem dX10_interpolate_32 : decode cX10_interpolate 32 = .ok (.iaload, 1) := by decide +kernel
theorem dX10_interpolate_33 : decode cX10_interpolate 33 = .ok (.ifCond .ne 8, 3) := by decide +kernel
theorem dX10_interpolate_36 : decode cX10_interpolate 36 = .ok (.bipush (-6), 2) := by decide +kernel
theorem dX10_interpolate_38 : decode cX10_interpolate 38 = .ok (.goto 5, 3) := by decide +kernel
theorem dX10_interpolate_41 : decode cX10_interpolate 41 = .ok (.bipush (-7), 2) := by decide +kernel
theorem dX10_interpolate_43 : decode cX10_interpolate 43 = .ok (.ireturn, 1) := by decide +kernel
theorem dX10_interpolate_44 : decode cX10_interpolate 44 = .ok (.aload_n 0, 1) := by decide +kernel
theorem dX10_interpolate_45 : decode cX10_interpolate 45 = .ok (.getfield 93, 3) := by decide +kernel
theorem dX10_interpolate_48 : decode cX10_interpolate 48 = .ok (.iload_n 2, 1) := by decide +kernel
theorem dX10_interpolate_49 : decode cX10_interpolate 49 = .ok (.iaload, 1) := by decide +kernel
theorem dX10_interpolate_50 : decode cX10_interpolate 50 = .ok (.aload_n 0, 1) := by decide +kernel
theorem dX10_interpolate_51 : decode cX10_interpolate 51 = .ok (.getfield 111, 3) := by decide +kernel
theorem dX10_interpolate_54 : decode cX10_interpolate 54 = .ok (.if_icmp .eq 6, 3) := by decide +kernel
theorem dX10_interpolate_57 : decode cX10_interpolate 57 = .ok (.bipush (-9), 2) := by decide +kernel
theorem dX10_interpolate_59 : decode cX10_interpolate 59 = .ok (.ireturn, 1) := by decide +kernel
theorem dX10_interpolate_60 : decode cX10_interpolate 60 = .ok (.iconst 0, 1) := by decide +kernel
theorem dX10_interpolate_61 : decode cX10_interpolate 61 = .ok (.istore_n 3, 1) := by decide +kernel
theorem dX10_interpolate_62 : decode cX10_interpolate 62 = .ok (.iload_n 3, 1) := by decide +kernel
theorem dX10_interpolate_63 : decode cX10_interpolate 63 = .ok (.aload_n 0, 1) := by decide +kernel
theorem dX10_interpolate_64 : decode cX10_interpolate 64 = .ok (.getfield 111, 3) := by decide +kernel
theorem dX10_interpolate_67 : decode cX10_interpolate 67 = .ok (.if_icmp .ge 31, 3) := by decide +kernel
theorem dX10_interpolate_70 : decode cX10_interpolate 70 = .ok (.aload_n 0, 1) := by decide +kernel
theorem dX10_interpolate_71 : decode cX10_interpolate 71 = .ok (.getfield 75, 3) := by decide +kernel
theorem dX10_interpolate_74 : decode cX10_interpolate 74 = .ok (.iload_n 3, 1) := by decide +kernel
theorem dX10_interpolate_75 : decode cX10_interpolate 75 = .ok (.aload_n 0, 1) := by decide +kernel
theorem dX10_interpolate_76 : decode cX10_interpolate 76 = .ok (.getfield 96, 3) := by decide +kernel
theorem dX10_interpolate_79 : decode cX10_interpolate 79 = .ok (.bipush 20, 2) := by decide +kernel
theorem dX10_interpolate_81 : decode cX10_interpolate 81 = .ok (.iload_n 2, 1) := by decide +kernel
theorem dX10_interpolate_82 : decode cX10_interpolate 82 = .ok (.imul, 1) := by decide +kernel
theorem dX10_interpolate_83 : decode cX10_interpolate 83 = .ok (.iload_n 3, 1) := by decide +kernel
theorem dX10_interpolate_84 : decode cX10_interpolate 84 = .ok (.iadd, 1) := by decide +kernel
theorem dX10_interpolate_85 : decode cX10_interpolate 85 = .ok (.iaload, 1) := by decide +kernel
theorem dX10_interpolate_86 : decode cX10_interpolate 86 = .ok (.aload_n 0, 1) := by decide +kernel
theorem dX10_interpolate_87 : decode cX10_interpolate 87 = .ok (.getfield 7, 3) := by decide +kernel
theorem dX10_interpolate_90 : decode cX10_interpolate 90 = .ok (.irem, 1) := by decide +kernel
theorem dX10_interpolate_91 : decode cX10_interpolate 91 = .ok (.iastore, 1) := by decide +kernel
theorem dX10_interpolate_92 : decode cX10_interpolate 92 = .ok (.iinc 3 1, 3) := by decide +kernel
theorem dX10_interpolate_95 : decode cX10_interpolate 95 = .ok (.goto (-33), 3) := by decide +kernel
theorem dX10_interpolate_98 : decode cX10_interpolate 98 = .ok (.aload_n 0, 1) := by decide +kernel
theorem dX10_interpolate_99 : decode cX10_interpolate 99 = .ok (.iload_n 1, 1) := by decide +kernel
theorem dX10_interpolate_100 : decode cX10_interpolate 100 = .ok (.invokevirtual 246, 3) := by decide +kernel
theorem dX10_interpolate_103 : decode cX10_interpolate 103 = .ok (.ireturn, 1) := by decide +kernel
theorem dX10_loadBasisPolynomial_0 : decode cX10_loadBasisPolynomial 0 = .ok (.aload_n 0, 1) := by decide +kernel
theorem dX10_loadBasisPolynomial_1 : decode cX10_loadBasisPolynomial 1 = .ok (.iload_n 1, 1) := by decide +kernel
theorem dX10_loadBasisPolynomial_2 : decode cX10_loadBasisPolynomial 2 = .ok (.iload_n 2, 1) := by decide +kernel
theorem dX10_loadBasisPolynomial_3 : decode cX10_loadBasisPolynomial 3 = .ok (.invokevirtual 210, 3) := by decide +kernel
theorem dX10_loadBasisPolynomial_6 : decode cX10_loadBasisPolynomial 6 = .ok (.ifCond .ne 5, 3) := by decide +kernel
theorem dX10_loadBasisPolynomial_9 : decode cX10_loadBasisPolynomial 9 = .ok (.iconst (-1), 1) := by decide +kernel
theorem dX10_loadBasisPolynomial_10 : decode cX10_loadBasisPolynomial 10 = .ok (.ireturn, 1) := by decide +kernel
theorem dX10_loadBasisPolynomial_11 : decode cX10_loadBasisPolynomial 11 = .ok (.iconst 0, 1) := by decide +kernel
theorem dX10_loadBasisPolynomial_12 : decode cX10_loadBasisPolynomial 12 = .ok (.istore_n 3, 1) := by decide +kernel
theorem dX10_loadBasisPolynomial_13 : decode cX10_loadBasisPolynomial 13 = .ok (.iload_n 3, 1) := by decide +kernel
theorem dX10_loadBasisPolynomial_14 : decode cX10_loadBasisPolynomial 14 = .ok (.bipush 81, 2) := by decide +kernel
theorem dX10_loadBasisPolynomial_16 : decode cX10_loadBasisPolynomial 16 = .ok (.if_icmp .ge 22, 3) := by decide +kernel
theorem dX10_loadBasisPolynomial_19 : decode cX10_loadBasisPolynomial 19 = .ok (.aload_n 0, 1) := by decide +kernel
theorem dX10_loadBasisPolynomial_20 : decode cX10_loadBasisPolynomial 20 = .ok (.getfield 20, 3) := by decide +kernel
theorem dX10_loadBasisPolynomial_23 : decode cX10_loadBasisPolynomial 23 = .ok (.iload_n 3, 1) := by decide +kernel
theorem dX10_loadBasisPolynomial_24 : decode cX10_loadBasisPolynomial 24 = .ok (.aload_n 0, 1) := by decide +kernel
theorem dX10_loadBasisPolynomial_25 : decode cX10_loadBasisPolynomial 25 = .ok (.iload_n 1, 1) := by decide +kernel
theorem dX10_loadBasisPolynomial_26 : decode cX10_loadBasisPolynomial 26 = .ok (.iload_n 2, 1) := by decide +kernel
theorem dX10_loadBasisPolynomial_27 : decode cX10_loadBasisPolynomial 27 = .ok (.iload_n 3, 1) := by decide +kernel
theorem dX10_loadBasisPolynomial_28 : decode cX10_loadBasisPolynomial 28 = .ok (.invokevirtual 213, 3) := by decide +kernel
theorem dX10_loadBasisPolynomial_31 : decode cX10_loadBasisPolynomial 31 = .ok (.iastore, 1) := by decide +kernel
theorem dX10_loadBasisPolynomial_32 : decode cX10_loadBasisPolynomial 32 = .ok (.iinc 3 1, 3) := by decide +kernel
theorem dX10_loadBasisPolynomial_35 : decode cX10_loadBasisPolynomial 35 = .ok (.goto (-22), 3) := by decide +kernel
theorem dX10_loadBasisPolynomial_38 : decode cX10_loadBasisPolynomial 38 = .ok (.aload_n 0, 1) := by decide +kernel
theorem dX10_loadBasisPolynomial_39 : decode cX10_loadBasisPolynomial 39 = .ok (.invokevirtual 242, 3) := by decide +kernel
theorem dX10_loadBasisPolynomial_42 : decode cX10_loadBasisPolynomial 42 = .ok (.ireturn, 1) := by decide +kernel
theorem dX10_appendInput_0 : decode cX10_appendInput 0 = .ok (.iload_n 1, 1) := by decide +kernel
theorem dX10_appendInput_1 : decode cX10_appendInput 1 = .ok (.iconst 1, 1) := by decide +kernel
theorem dX10_appendInput_2 : decode cX10_appendInput 2 = .ok (.bipush 127, 2) := by decide +kernel
theorem dX10_appendInput_4 : decode cX10_appendInput 4 = .ok (.invokestatic 114, 3) := by decide +kernel
theorem dX10_appendInput_7 : decode cX10_appendInput 7 = .ok (.ifCond .ne 6, 3) := by decide +kernel
theorem dX10_appendInput_10 : decode cX10_appendInput 10 = .ok (.bipush (-2), 2) := by decide +kernel
theorem dX10_appendInput_12 : decode cX10_appendInput 12 = .ok (.ireturn, 1) := by decide +kernel
theorem dX10_appendInput_13 : decode cX10_appendInput 13 = .ok (.aload_n 0, 1) := by decide +kernel
theorem dX10_appendInput_14 : decode cX10_appendInput 14 = .ok (.getfield 252, 3) := by decide +kernel
theorem dX10_appendInput_17 : decode cX10_appendInput 17 = .ok (.bipush 60, 2) := by decide +kernel
theorem dX10_appendInput_19 : decode cX10_appendInput 19 = .ok (.if_icmp .ne 6, 3) := by decide +kernel
theorem dX10_appendInput_22 : decode cX10_appendInput 22 = .ok (.bipush (-4), 2) := by decide +kernel
theorem dX10_appendInput_24 : decode cX10_appendInput 24 = .ok (.ireturn, 1) := by decide +kernel
theorem dX10_appendInput_25 : decode cX10_appendInput 25 = .ok (.aload_n 0, 1) := by decide +kernel
theorem dX10_appendInput_26 : decode cX10_appendInput 26 = .ok (.getfield 84, 3) := by decide +kernel
theorem dX10_appendInput_29 : decode cX10_appendInput 29 = .ok (.aload_n 0, 1) := by decide +kernel
theorem dX10_appendInput_30 : decode cX10_appendInput 30 = .ok (.getfield 252, 3) := by decide +kernel
theorem dX10_appendInput_33 : decode cX10_appendInput 33 = .ok (.iload_n 1, 1) := by decide +kernel
theorem dX10_appendInput_34 : decode cX10_appendInput 34 = .ok (.iastore, 1) := by decide +kernel
theorem dX10_appendInput_35 : decode cX10_appendInput 35 = .ok (.aload_n 0, 1) := by decide +kernel
theorem dX10_appendInput_36 : decode cX10_appendInput 36 = .ok (.dup, 1) := by decide +kernel
theorem dX10_appendInput_37 : decode cX10_appendInput 37 = .ok (.getfield 252, 3) := by decide +kernel
theorem dX10_appendInput_40 : decode cX10_appendInput 40 = .ok (.iconst 1, 1) := by decide +kernel
theorem dX10_appendInput_41 : decode cX10_appendInput 41 = .ok (.iadd, 1) := by decide +kernel
theorem dX10_appendInput_42 : decode cX10_appendInput 42 = .ok (.putfield 252, 3) := by decide +kernel
theorem dX10_appendInput_45 : decode cX10_appendInput 45 = .ok (.aload_n 0, 1) := by decide +kernel
theorem dX10_appendInput_46 : decode cX10_appendInput 46 = .ok (.getfield 252, 3) := by decide +kernel
theorem dX10_appendInput_49 : decode cX10_appendInput 49 = .ok (.ireturn, 1) := by decide +kernel
theorem dX10_inputLength_0 : decode cX10_inputLength 0 = .ok (.aload_n 0, 1) := by decide +kernel
theorem dX10_inputLength_1 : decode cX10_inputLength 1 = .ok (.getfield 252, 3) := by decide +kernel
theorem dX10_inputLength_4 : decode cX10_inputLength 4 = .ok (.ireturn, 1) := by decide +kernel
theorem dX10_isAt_0 : decode cX10_isAt 0 = .ok (.aload_n 0, 1) := by decide +kernel
theorem dX10_isAt_1 : decode cX10_isAt 1 = .ok (.getfield 255, 3) := by decide +kernel
theorem dX10_isAt_4 : decode cX10_isAt 4 = .ok (.aload_n 0, 1) := by decide +kernel
theorem dX10_isAt_5 : decode cX10_isAt 5 = .ok (.getfield 258, 3) := by decide +kernel
theorem dX10_isAt_8 : decode cX10_isAt 8 = .ok (.if_icmp .ge 24, 3) := by decide +kernel
theorem dX10_isAt_11 : decode cX10_isAt 11 = .ok (.aload_n 0, 1) := by decide +kernel
theorem dX10_isAt_12 : decode cX10_isAt 12 = .ok (.getfield 84, 3) := by decide +kernel
theorem dX10_isAt_15 : decode cX10_isAt 15 = .ok (.aload_n 0, 1) := by decide +kernel
theorem dX10_isAt_16 : decode cX10_isAt 16 = .ok (.getfield 255, 3) := by decide +kernel
theorem dX10_isAt_19 : decode cX10_isAt 19 = .ok (.iaload, 1) := by decide +kernel
theorem dX10_isAt_20 : decode cX10_isAt 20 = .ok (.iload_n 1, 1) := by decide +kernel
theorem dX10_isAt_21 : decode cX10_isAt 21 = .ok (.iload_n 2, 1) := by decide +kernel
theorem dX10_isAt_22 : decode cX10_isAt 22 = .ok (.invokestatic 114, 3) := by decide +kernel
theorem dX10_isAt_25 : decode cX10_isAt 25 = .ok (.ifCond .eq 7, 3) := by decide +kernel
theorem dX10_isAt_28 : decode cX10_isAt 28 = .ok (.iconst 1, 1) := by decide +kernel
theorem dX10_isAt_29 : decode cX10_isAt 29 = .ok (.goto 4, 3) := by decide +kernel
theorem dX10_isAt_32 : decode cX10_isAt 32 = .ok (.iconst 0, 1) := by decide +kernel
theorem dX10_isAt_33 : decode cX10_isAt 33 = .ok (.ireturn, 1) := by decide +kernel
theorem dX10_takesNumber_0 : decode cX10_takesNumber 0 = .ok (.aload_n 0, 1) := by decide +kernel
theorem dX10_takesNumber_1 : decode cX10_takesNumber 1 = .ok (.bipush 48, 2) := by decide +kernel
theorem dX10_takesNumber_3 : decode cX10_takesNumber 3 = .ok (.bipush 57, 2) := by decide +kernel
theorem dX10_takesNumber_5 : decode cX10_takesNumber 5 = .ok (.invokevirtual 261, 3) := by decide +kernel
theorem dX10_takesNumber_8 : decode cX10_takesNumber 8 = .ok (.ifCond .ne 5, 3) := by decide +kernel
theorem dX10_takesNumber_11 : decode cX10_takesNumber 11 = .ok (.iconst 0, 1) := by decide +kernel
theorem dX10_takesNumber_12 : decode cX10_takesNumber 12 = .ok (.ireturn, 1) := by decide +kernel
theorem dX10_takesNumber_13 : decode cX10_takesNumber 13 = .ok (.aload_n 0, 1) := by decide +kernel
theorem dX10_takesNumber_14 : decode cX10_takesNumber 14 = .ok (.aload_n 0, 1) := by decide +kernel
theorem dX10_takesNumber_15 : decode cX10_takesNumber 15 = .ok (.getfield 84, 3) := by decide +kernel
theorem dX10_takesNumber_18 : decode cX10_takesNumber 18 = .ok (.aload_n 0, 1) := by decide +kernel
theorem dX10_takesNumber_19 : decode cX10_takesNumber 19 = .ok (.getfield 255, 3) := by decide +kernel
theorem dX10_takesNumber_22 : decode cX10_takesNumber 22 = .ok (.iaload, 1) := by decide +kernel
theorem dX10_takesNumber_23 : decode cX10_takesNumber 23 = .ok (.bipush 48, 2) := by decide +kernel
theorem dX10_takesNumber_25 : decode cX10_takesNumber 25 = .ok (.isub, 1) := by decide +kernel
theorem dX10_takesNumber_26 : decode cX10_takesNumber 26 = .ok (.putfield 264, 3) := by decide +kernel
theorem dX10_takesNumber_29 : decode cX10_takesNumber 29 = .ok (.aload_n 0, 1) := by decide +kernel
theorem dX10_takesNumber_30 : decode cX10_takesNumber 30 = .ok (.dup, 1) := by decide +kernel
theorem dX10_takesNumber_31 : decode cX10_takesNumber 31 = .ok (.getfield 255, 3) := by decide +kernel
theorem dX10_takesNumber_34 : decode cX10_takesNumber 34 = .ok (.iconst 1, 1) := by decide +kernel
theorem dX10_takesNumber_35 : decode cX10_takesNumber 35 = .ok (.iadd, 1) := by decide +kernel
theorem dX10_takesNumber_36 : decode cX10_takesNumber 36 = .ok (.putfield 255, 3) := by decide +kernel
theorem dX10_takesNumber_39 : decode cX10_takesNumber 39 = .ok (.aload_n 0, 1) := by decide +kernel
theorem dX10_takesNumber_40 : decode cX10_takesNumber 40 = .ok (.bipush 48, 2) := by decide +kernel
theorem dX10_takesNumber_42 : decode cX10_takesNumber 42 = .ok (.bipush 57, 2) := by decide +kernel
theorem dX10_takesNumber_44 : decode cX10_takesNumber 44 = .ok (.invokevirtual 261, 3) := by decide +kernel
theorem dX10_takesNumber_47 : decode cX10_takesNumber 47 = .ok (.ifCond .eq 37, 3) := by decide +kernel
theorem dX10_takesNumber_50 : decode cX10_takesNumber 50 = .ok (.aload_n 0, 1) := by decide +kernel
theorem dX10_takesNumber_51 : decode cX10_takesNumber 51 = .ok (.bipush 10, 2) := by decide +kernel
theorem dX10_takesNumber_53 : decode cX10_takesNumber 53 = .ok (.aload_n 0, 1) := by decide +kernel
theorem dX10_takesNumber_54 : decode cX10_takesNumber 54 = .ok (.getfield 264, 3) := by decide +kernel
theorem dX10_takesNumber_57 : decode cX10_takesNumber 57 = .ok (.imul, 1) := by decide +kernel
theorem dX10_takesNumber_58 : decode cX10_takesNumber 58 = .ok (.aload_n 0, 1) := by decide +kernel
theorem dX10_takesNumber_59 : decode cX10_takesNumber 59 = .ok (.getfield 84, 3) := by decide +kernel
theorem dX10_takesNumber_62 : decode cX10_takesNumber 62 = .ok (.aload_n 0, 1) := by decide +kernel
theorem dX10_takesNumber_63 : decode cX10_takesNumber 63 = .ok (.getfield 255, 3) := by decide +kernel
theorem dX10_takesNumber_66 : decode cX10_takesNumber 66 = .ok (.iaload, 1) := by decide +kernel
theorem dX10_takesNumber_67 : decode cX10_takesNumber 67 = .ok (.iadd, 1) := by decide +kernel
theorem dX10_takesNumber_68 : decode cX10_takesNumber 68 = .ok (.bipush 48, 2) := by decide +kernel
theorem dX10_takesNumber_70 : decode cX10_takesNumber 70 = .ok (.isub, 1) := by decide +kernel
theorem dX10_takesNumber_71 : decode cX10_takesNumber 71 = .ok (.putfield 264, 3) := by decide +kernel
theorem dX10_takesNumber_74 : decode cX10_takesNumber 74 = .ok (.aload_n 0, 1) := by decide +kernel
theorem dX10_takesNumber_75 : decode cX10_takesNumber 75 = .ok (.dup, 1) := by decide +kernel
theorem dX10_takesNumber_76 : decode cX10_takesNumber 76 = .ok (.getfield 255, 3) := by decide +kernel
theorem dX10_takesNumber_79 : decode cX10_takesNumber 79 = .ok (.iconst 1, 1) := by decide +kernel
theorem dX10_takesNumber_80 : decode cX10_takesNumber 80 = .ok (.iadd, 1) := by decide +kernel
theorem dX10_takesNumber_81 : decode cX10_takesNumber 81 = .ok (.putfield 255, 3) := by decide +kernel
theorem dX10_takesNumber_84 : decode cX10_takesNumber 84 = .ok (.iconst 1, 1) := by decide +kernel
theorem dX10_takesNumber_85 : decode cX10_takesNumber 85 = .ok (.ireturn, 1) := by decide +kernel
theorem dX10_takesPoint_0 : decode cX10_takesPoint 0 = .ok (.aload_n 0, 1) := by decide +kernel
theorem dX10_takesPoint_1 : decode cX10_takesPoint 1 = .ok (.invokevirtual 267, 3) := by decide +kernel
theorem dX10_takesPoint_4 : decode cX10_takesPoint 4 = .ok (.ifCond .ne 5, 3) := by decide +kernel
theorem dX10_takesPoint_7 : decode cX10_takesPoint 7 = .ok (.iconst (-1), 1) := by decide +kernel
theorem dX10_takesPoint_8 : decode cX10_takesPoint 8 = .ok (.ireturn, 1) := by decide +kernel
theorem dX10_takesPoint_9 : decode cX10_takesPoint 9 = .ok (.aload_n 0, 1) := by decide +kernel
theorem dX10_takesPoint_10 : decode cX10_takesPoint 10 = .ok (.getfield 264, 3) := by decide +kernel
theorem dX10_takesPoint_13 : decode cX10_takesPoint 13 = .ok (.istore_n 2, 1) := by decide +kernel
theorem dX10_takesPoint_14 : decode cX10_takesPoint 14 = .ok (.aload_n 0, 1) := by decide +kernel
theorem dX10_takesPoint_15 : decode cX10_takesPoint 15 = .ok (.bipush 44, 2) := by decide +kernel
theorem dX10_takesPoint_17 : decode cX10_takesPoint 17 = .ok (.bipush 44, 2) := by decide +kernel
theorem dX10_takesPoint_19 : decode cX10_takesPoint 19 = .ok (.invokevirtual 261, 3) := by decide +kernel
theorem dX10_takesPoint_22 : decode cX10_takesPoint 22 = .ok (.ifCond .ne 5, 3) := by decide +kernel
theorem dX10_takesPoint_25 : decode cX10_takesPoint 25 = .ok (.iconst (-1), 1) := by decide +kernel
theorem dX10_takesPoint_26 : decode cX10_takesPoint 26 = .ok (.ireturn, 1) := by decide +kernel
theorem dX10_takesPoint_27 : decode cX10_takesPoint 27 = .ok (.aload_n 0, 1) := by decide +kernel
theorem dX10_takesPoint_28 : decode cX10_takesPoint 28 = .ok (.dup, 1) := by decide +kernel
theorem dX10_takesPoint_29 : decode cX10_takesPoint 29 = .ok (.getfield 255, 3) := by decide +kernel
theorem dX10_takesPoint_32 : decode cX10_takesPoint 32 = .ok (.iconst 1, 1) := by decide +kernel
theorem dX10_takesPoint_33 : decode cX10_takesPoint 33 = .ok (.iadd, 1) := by decide +kernel
theorem dX10_takesPoint_34 : decode cX10_takesPoint 34 = .ok (.putfield 255, 3) := by decide +kernel
theorem dX10_takesPoint_37 : decode cX10_takesPoint 37 = .ok (.aload_n 0, 1) := by decide +kernel
theorem dX10_takesPoint_38 : decode cX10_takesPoint 38 = .ok (.invokevirtual 267, 3) := by decide +kernel
theorem dX10_takesPoint_41 : decode cX10_takesPoint 41 = .ok (.ifCond .ne 5, 3) := by decide +kernel
theorem dX10_takesPoint_44 : decode cX10_takesPoint 44 = .ok (.iconst (-1), 1) := by decide +kernel
theorem dX10_takesPoint_45 : decode cX10_takesPoint 45 = .ok (.ireturn, 1) := by decide +kernel
theorem dX10_takesPoint_46 : decode cX10_takesPoint 46 = .ok (.iload_n 1, 1) := by decide +kernel
theorem dX10_takesPoint_47 : decode cX10_takesPoint 47 = .ok (.ifCond .eq 19, 3) := by decide +kernel
theorem dX10_takesPoint_50 : decode cX10_takesPoint 50 = .ok (.aload_n 0, 1) := by decide +kernel
theorem dX10_takesPoint_51 : decode cX10_takesPoint 51 = .ok (.iload_n 2, 1) := by decide +kernel
theorem dX10_takesPoint_52 : decode cX10_takesPoint 52 = .ok (.aload_n 0, 1) := by decide +kernel
theorem dX10_takesPoint_53 : decode cX10_takesPoint 53 = .ok (.getfield 264, 3) := by decide +kernel
theorem dX10_takesPoint_56 : decode cX10_takesPoint 56 = .ok (.invokevirtual 271, 3) := by decide +kernel
theorem dX10_takesPoint_59 : decode cX10_takesPoint 59 = .ok (.ifCond .le 7, 3) := by decide +kernel
theorem dX10_takesPoint_62 : decode cX10_takesPoint 62 = .ok (.iconst 1, 1) := by decide +kernel
theorem dX10_takesPoint_63 : decode cX10_takesPoint 63 = .ok (.goto 4, 3) := by decide +kernel
theorem dX10_takesPoint_66 : decode cX10_takesPoint 66 = .ok (.iconst 0, 1) := by decide +kernel
theorem dX10_takesPoint_67 : decode cX10_takesPoint 67 = .ok (.ireturn, 1) := by decide +kernel
theorem dX10_takesList_0 : decode cX10_takesList 0 = .ok (.aload_n 0, 1) := by decide +kernel
theorem dX10_takesList_1 : decode cX10_takesList 1 = .ok (.iconst 0, 1) := by decide +kernel
theorem dX10_takesList_2 : decode cX10_takesList 2 = .ok (.putfield 255, 3) := by decide +kernel
theorem dX10_takesList_5 : decode cX10_takesList 5 = .ok (.iconst 0, 1) := by decide +kernel
theorem dX10_takesList_6 : decode cX10_takesList 6 = .ok (.istore_n 2, 1) := by decide +kernel
theorem dX10_takesList_7 : decode cX10_takesList 7 = .ok (.iconst 1, 1) := by decide +kernel
theorem dX10_takesList_8 : decode cX10_takesList 8 = .ok (.istore_n 3, 1) := by decide +kernel
theorem dX10_takesList_9 : decode cX10_takesList 9 = .ok (.iload_n 3, 1) := by decide +kernel
theorem dX10_takesList_10 : decode cX10_takesList 10 = .ok (.ifCond .eq 52, 3) := by decide +kernel
theorem dX10_takesList_13 : decode cX10_takesList 13 = .ok (.aload_n 0, 1) := by decide +kernel
theorem dX10_takesList_14 : decode cX10_takesList 14 = .ok (.iload_n 1, 1) := by decide +kernel
theorem dX10_takesList_15 : decode cX10_takesList 15 = .ok (.invokevirtual 274, 3) := by decide +kernel
theorem dX10_takesList_18 : decode cX10_takesList 18 = .ok (.istore 4, 2) := by decide +kernel
theorem dX10_takesList_20 : decode cX10_takesList 20 = .ok (.iload 4, 2) := by decide +kernel
theorem dX10_takesList_22 : decode cX10_takesList 22 = .ok (.ifCond .ge 5, 3) := by decide +kernel
theorem dX10_takesList_25 : decode cX10_takesList 25 = .ok (.iconst (-1), 1) := by decide +kernel
theorem dX10_takesList_26 : decode cX10_takesList 26 = .ok (.ireturn, 1) := by decide +kernel
theorem dX10_takesList_27 : decode cX10_takesList 27 = .ok (.iload_n 2, 1) := by decide +kernel
theorem dX10_takesList_28 : decode cX10_takesList 28 = .ok (.iload 4, 2) := by decide +kernel
theorem dX10_takesList_30 : decode cX10_takesList 30 = .ok (.iadd, 1) := by decide +kernel
theorem dX10_takesList_31 : decode cX10_takesList 31 = .ok (.istore_n 2, 1) := by decide +kernel
theorem dX10_takesList_32 : decode cX10_takesList 32 = .ok (.aload_n 0, 1) := by decide +kernel
theorem dX10_takesList_33 : decode cX10_takesList 33 = .ok (.bipush 59, 2) := by decide +kernel
theorem dX10_takesList_35 : decode cX10_takesList 35 = .ok (.bipush 59, 2) := by decide +kernel
theorem dX10_takesList_37 : decode cX10_takesList 37 = .ok (.invokevirtual 261, 3) := by decide +kernel
theorem dX10_takesList_40 : decode cX10_takesList 40 = .ok (.istore_n 3, 1) := by decide +kernel
theorem dX10_takesList_41 : decode cX10_takesList 41 = .ok (.aload_n 0, 1) := by decide +kernel
theorem dX10_takesList_42 : decode cX10_takesList 42 = .ok (.dup, 1) := by decide +kernel
theorem dX10_takesList_43 : decode cX10_takesList 43 = .ok (.getfield 255, 3) := by decide +kernel
theorem dX10_takesList_46 : decode cX10_takesList 46 = .ok (.iload_n 3, 1) := by decide +kernel
theorem dX10_takesList_47 : decode cX10_takesList 47 = .ok (.ifCond .eq 7, 3) := by decide +kernel
theorem dX10_takesList_50 : decode cX10_takesList 50 = .ok (.iconst 1, 1) := by decide +kernel
theorem dX10_takesList_51 : decode cX10_takesList 51 = .ok (.goto 4, 3) := by decide +kernel
theorem dX10_takesList_54 : decode cX10_takesList 54 = .ok (.iconst 0, 1) := by decide +kernel
theorem dX10_takesList_55 : decode cX10_takesList 55 = .ok (.iadd, 1) := by decide +kernel
theorem dX10_takesList_56 : decode cX10_takesList 56 = .ok (.putfield 255, 3) := by decide +kernel
theorem dX10_takesList_59 : decode cX10_takesList 59 = .ok (.goto (-50), 3) := by decide +kernel
theorem dX10_takesList_62 : decode cX10_takesList 62 = .ok (.aload_n 0, 1) := by decide +kernel
theorem dX10_takesList_63 : decode cX10_takesList 63 = .ok (.getfield 255, 3) := by decide +kernel
theorem dX10_takesList_66 : decode cX10_takesList 66 = .ok (.aload_n 0, 1) := by decide +kernel
theorem dX10_takesList_67 : decode cX10_takesList 67 = .ok (.getfield 258, 3) := by decide +kernel
theorem dX10_takesList_70 : decode cX10_takesList 70 = .ok (.if_icmp .ne 7, 3) := by decide +kernel
theorem dX10_takesList_73 : decode cX10_takesList 73 = .ok (.iload_n 2, 1) := by decide +kernel
theorem dX10_takesList_74 : decode cX10_takesList 74 = .ok (.goto 4, 3) := by decide +kernel
theorem dX10_takesList_77 : decode cX10_takesList 77 = .ok (.iconst (-1), 1) := by decide +kernel
theorem dX10_takesList_78 : decode cX10_takesList 78 = .ok (.ireturn, 1) := by decide +kernel
theorem dX10_parsePoints_0 : decode cX10_parsePoints 0 = .ok (.aload_n 0, 1) := by decide +kernel
theorem dX10_parsePoints_1 : decode cX10_parsePoints 1 = .ok (.aload_n 0, 1) := by decide +kernel
theorem dX10_parsePoints_2 : decode cX10_parsePoints 2 = .ok (.getfield 252, 3) := by decide +kernel
theorem dX10_parsePoints_5 : decode cX10_parsePoints 5 = .ok (.putfield 258, 3) := by decide +kernel
theorem dX10_parsePoints_8 : decode cX10_parsePoints 8 = .ok (.aload_n 0, 1) := by decide +kernel
theorem dX10_parsePoints_9 : decode cX10_parsePoints 9 = .ok (.iconst 0, 1) := by decide +kernel
theorem dX10_parsePoints_10 : decode cX10_parsePoints 10 = .ok (.putfield 252, 3) := by decide +kernel
theorem dX10_parsePoints_13 : decode cX10_parsePoints 13 = .ok (.aload_n 0, 1) := by decide +kernel
theorem dX10_parsePoints_14 : decode cX10_parsePoints 14 = .ok (.iconst 0, 1) := by decide +kernel
theorem dX10_parsePoints_15 : decode cX10_parsePoints 15 = .ok (.invokevirtual 278, 3) := by decide +kernel
theorem dX10_parsePoints_18 : decode cX10_parsePoints 18 = .ok (.ifCond .ge 13, 3) := by decide +kernel
theorem dX10_parsePoints_21 : decode cX10_parsePoints 21 = .ok (.bipush (-100), 2) := by decide +kernel
theorem dX10_parsePoints_23 : decode cX10_parsePoints 23 = .ok (.aload_n 0, 1) := by decide +kernel
theorem dX10_parsePoints_24 : decode cX10_parsePoints 24 = .ok (.getfield 255, 3) := by decide +kernel
theorem dX10_parsePoints_27 : decode cX10_parsePoints 27 = .ok (.isub, 1) := by decide +kernel
theorem dX10_parsePoints_28 : decode cX10_parsePoints 28 = .ok (.goto 8, 3) := by decide +kernel
theorem dX10_parsePoints_31 : decode cX10_parsePoints 31 = .ok (.aload_n 0, 1) := by decide +kernel
theorem dX10_parsePoints_32 : decode cX10_parsePoints 32 = .ok (.iconst 1, 1) := by decide +kernel
theorem dX10_parsePoints_33 : decode cX10_parsePoints 33 = .ok (.invokevirtual 278, 3) := by decide +kernel
theorem dX10_parsePoints_36 : decode cX10_parsePoints 36 = .ok (.ireturn, 1) := by decide +kernel
theorem dX10_write_0 : decode cX10_write 0 = .ok (.aload_n 0, 1) := by decide +kernel
theorem dX10_write_1 : decode cX10_write 1 = .ok (.getfield 87, 3) := by decide +kernel
theorem dX10_write_4 : decode cX10_write 4 = .ok (.aload_n 0, 1) := by decide +kernel
theorem dX10_write_5 : decode cX10_write 5 = .ok (.getfield 281, 3) := by decide +kernel
theorem dX10_write_8 : decode cX10_write 8 = .ok (.iload_n 1, 1) := by decide +kernel
theorem dX10_write_9 : decode cX10_write 9 = .ok (.iastore, 1) := by decide +kernel
theorem dX10_write_10 : decode cX10_write 10 = .ok (.aload_n 0, 1) := by decide +kernel
theorem dX10_write_11 : decode cX10_write 11 = .ok (.dup, 1) := by decide +kernel
theorem dX10_write_12 : decode cX10_write 12 = .ok (.getfield 281, 3) := by decide +kernel
theorem dX10_write_15 : decode cX10_write 15 = .ok (.iconst 1, 1) := by decide +kernel
theorem dX10_write_16 : decode cX10_write 16 = .ok (.iadd, 1) := by decide +kernel
theorem dX10_write_17 : decode cX10_write 17 = .ok (.putfield 281, 3) := by decide +kernel
theorem dX10_write_20 : decode cX10_write 20 = .ok (.return_, 1) := by decide +kernel
theorem dX10_writeTerm_0 : decode cX10_writeTerm 0 = .ok (.aload_n 0, 1) := by decide +kernel
theorem dX10_writeTerm_1 : decode cX10_writeTerm 1 = .ok (.getfield 281, 3) := by decide +kernel
theorem dX10_writeTerm_4 : decode cX10_writeTerm 4 = .ok (.ifCond .le 9, 3) := by decide +kernel
theorem dX10_writeTerm_7 : decode cX10_writeTerm 7 = .ok (.aload_n 0, 1) := by decide +kernel
theorem dX10_writeTerm_8 : decode cX10_writeTerm 8 = .ok (.bipush 43, 2) := by decide +kernel
theorem dX10_writeTerm_10 : decode cX10_writeTerm 10 = .ok (.invokevirtual 284, 3) := by decide +kernel
theorem dX10_writeTerm_13 : decode cX10_writeTerm 13 = .ok (.iload_n 1, 1) := by decide +kernel
theorem dX10_writeTerm_14 : decode cX10_writeTerm 14 = .ok (.bipush 9, 2) := by decide +kernel
theorem dX10_writeTerm_16 : decode cX10_writeTerm 16 = .ok (.if_icmp .le 14, 3) := by decide +kernel
theorem dX10_writeTerm_19 : decode cX10_writeTerm 19 = .ok (.aload_n 0, 1) := by decide +kernel
theorem dX10_writeTerm_20 : decode cX10_writeTerm 20 = .ok (.bipush 48, 2) := by decide +kernel
theorem dX10_writeTerm_22 : decode cX10_writeTerm 22 = .ok (.iload_n 1, 1) := by decide +kernel
theorem dX10_writeTerm_23 : decode cX10_writeTerm 23 = .ok (.bipush 10, 2) := by decide +kernel
theorem dX10_writeTerm_25 : decode cX10_writeTerm 25 = .ok (.idiv, 1) := by decide +kernel
theorem dX10_writeTerm_26 : decode cX10_writeTerm 26 = .ok (.iadd, 1) := by decide +kernel
theorem dX10_writeTerm_27 : decode cX10_writeTerm 27 = .ok (.invokevirtual 284, 3) := by decide +kernel
theorem dX10_writeTerm_30 : decode cX10_writeTerm 30 = .ok (.aload_n 0, 1) := by decide +kernel
theorem dX10_writeTerm_31 : decode cX10_writeTerm 31 = .ok (.bipush 48, 2) := by decide +kernel
theorem dX10_writeTerm_33 : decode cX10_writeTerm 33 = .ok (.iload_n 1, 1) := by decide +kernel
theorem dX10_writeTerm_34 : decode cX10_writeTerm 34 = .ok (.bipush 10, 2) := by decide +kernel
theorem dX10_writeTerm_36 : decode cX10_writeTerm 36 = .ok (.irem, 1) := by decide +kernel
theorem dX10_writeTerm_37 : decode cX10_writeTerm 37 = .ok (.iadd, 1) := by decide +kernel
theorem dX10_writeTerm_38 : decode cX10_writeTerm 38 = .ok (.invokevirtual 284, 3) := by decide +kernel
theorem dX10_writeTerm_41 : decode cX10_writeTerm 41 = .ok (.iload_n 2, 1) := by decide +kernel
theorem dX10_writeTerm_42 : decode cX10_writeTerm 42 = .ok (.bipush 9, 2) := by decide +kernel
theorem dX10_writeTerm_44 : decode cX10_writeTerm 44 = .ok (.idiv, 1) := by decide +kernel
theorem dX10_writeTerm_45 : decode cX10_writeTerm 45 = .ok (.ifCond .le 20, 3) := by decide +kernel
theorem dX10_writeTerm_48 : decode cX10_writeTerm 48 = .ok (.aload_n 0, 1) := by decide +kernel
theorem dX10_writeTerm_49 : decode cX10_writeTerm 49 = .ok (.bipush 120, 2) := by decide +kernel
theorem dX10_writeTerm_51 : decode cX10_writeTerm 51 = .ok (.invokevirtual 284, 3) := by decide +kernel
theorem dX10_writeTerm_54 : decode cX10_writeTerm 54 = .ok (.aload_n 0, 1) := by decide +kernel
theorem dX10_writeTerm_55 : decode cX10_writeTerm 55 = .ok (.bipush 48, 2) := by decide +kernel
theorem dX10_writeTerm_57 : decode cX10_writeTerm 57 = .ok (.iload_n 2, 1) := by decide +kernel
theorem dX10_writeTerm_58 : decode cX10_writeTerm 58 = .ok (.bipush 9, 2) := by decide +kernel
theorem dX10_writeTerm_60 : decode cX10_writeTerm 60 = .ok (.idiv, 1) := by decide +kernel
theorem dX10_writeTerm_61 : decode cX10_writeTerm 61 = .ok (.iadd, 1) := by decide +kernel
theorem dX10_writeTerm_62 : decode cX10_writeTerm 62 = .ok (.invokevirtual 284, 3) := by decide +kernel
theorem dX10_writeTerm_65 : decode cX10_writeTerm 65 = .ok (.iload_n 2, 1) := by decide +kernel
theorem dX10_writeTerm_66 : decode cX10_writeTerm 66 = .ok (.bipush 9, 2) := by decide +kernel
theorem dX10_writeTerm_68 : decode cX10_writeTerm 68 = .ok (.irem, 1) := by decide +kernel
theorem dX10_writeTerm_69 : decode cX10_writeTerm 69 = .ok (.ifCond .le 20, 3) := by decide +kernel
theorem dX10_writeTerm_72 : decode cX10_writeTerm 72 = .ok (.aload_n 0, 1) := by decide +kernel
theorem dX10_writeTerm_73 : decode cX10_writeTerm 73 = .ok (.bipush 121, 2) := by decide +kernel
theorem dX10_writeTerm_75 : decode cX10_writeTerm 75 = .ok (.invokevirtual 284, 3) := by decide +kernel
theorem dX10_writeTerm_78 : decode cX10_writeTerm 78 = .ok (.aload_n 0, 1) := by decide +kernel
theorem dX10_writeTerm_79 : decode cX10_writeTerm 79 = .ok (.bipush 48, 2) := by decide +kernel
theorem dX10_writeTerm_81 : decode cX10_writeTerm 81 = .ok (.iload_n 2, 1) := by decide +kernel
theorem dX10_writeTerm_82 : decode cX10_writeTerm 82 = .ok (.bipush 9, 2) := by decide +kernel
theorem dX10_writeTerm_84 : decode cX10_writeTerm 84 = .ok (.irem, 1) := by decide +kernel
theorem dX10_writeTerm_85 : decode cX10_writeTerm 85 = .ok (.iadd, 1) := by decide +kernel
theorem dX10_writeTerm_86 : decode cX10_writeTerm 86 = .ok (.invokevirtual 284, 3) := by decide +kernel
theorem dX10_writeTerm_89 : decode cX10_writeTerm 89 = .ok (.return_, 1) := by decide +kernel
theorem dX10_format_0 : decode cX10_format 0 = .ok (.aload_n 0, 1) := by decide +kernel
theorem dX10_format_1 : decode cX10_format 1 = .ok (.iload_n 1, 1) := by decide +kernel
theorem dX10_format_2 : decode cX10_format 2 = .ok (.iload_n 2, 1) := by decide +kernel
theorem dX10_format_3 : decode cX10_format 3 = .ok (.invokevirtual 210, 3) := by decide +kernel
theorem dX10_format_6 : decode cX10_format 6 = .ok (.ifCond .ne 5, 3) := by decide +kernel
theorem dX10_format_9 : decode cX10_format 9 = .ok (.iconst (-1), 1) := by decide +kernel
theorem dX10_format_10 : decode cX10_format 10 = .ok (.ireturn, 1) := by decide +kernel
theorem dX10_format_11 : decode cX10_format 11 = .ok (.aload_n 0, 1) := by decide +kernel
theorem dX10_format_12 : decode cX10_format 12 = .ok (.getfield 69, 3) := by decide +kernel
theorem dX10_format_15 : decode cX10_format 15 = .ok (.bipush 9, 2) := by decide +kernel
theorem dX10_format_17 : decode cX10_format 17 = .ok (.iload_n 1, 1) := by decide +kernel
theorem dX10_format_18 : decode cX10_format 18 = .ok (.imul, 1) := by decide +kernel
theorem dX10_format_19 : decode cX10_format 19 = .ok (.iload_n 2, 1) := by decide +kernel
theorem dX10_format_20 : decode cX10_format 20 = .ok (.iadd, 1) := by decide +kernel
theorem dX10_format_21 : decode cX10_format 21 = .ok (.iaload, 1) := by decide +kernel
theorem dX10_format_22 : decode cX10_format 22 = .ok (.istore_n 3, 1) := by decide +kernel
theorem dX10_format_23 : decode cX10_format 23 = .ok (.aload_n 0, 1) := by decide +kernel
theorem dX10_format_24 : decode cX10_format 24 = .ok (.iconst 0, 1) := by decide +kernel
theorem dX10_format_25 : decode cX10_format 25 = .ok (.putfield 281, 3) := by decide +kernel
theorem dX10_format_28 : decode cX10_format 28 = .ok (.aload_n 0, 1) := by decide +kernel
theorem dX10_format_29 : decode cX10_format 29 = .ok (.aload_n 0, 1) := by decide +kernel
theorem dX10_format_30 : decode cX10_format 30 = .ok (.iload_n 1, 1) := by decide +kernel
theorem dX10_format_31 : decode cX10_format 31 = .ok (.iload_n 2, 1) := by decide +kernel
theorem dX10_format_32 : decode cX10_format 32 = .ok (.iload_n 3, 1) := by decide +kernel
theorem dX10_format_33 : decode cX10_format 33 = .ok (.invokevirtual 213, 3) := by decide +kernel
theorem dX10_format_36 : decode cX10_format 36 = .ok (.iload_n 3, 1) := by decide +kernel
theorem dX10_format_37 : decode cX10_format 37 = .ok (.invokevirtual 287, 3) := by decide +kernel
theorem dX10_format_40 : decode cX10_format 40 = .ok (.bipush 80, 2) := by decide +kernel
theorem dX10_format_42 : decode cX10_format 42 = .ok (.istore 4, 2) := by decide +kernel
theorem dX10_format_44 : decode cX10_format 44 = .ok (.iload 4, 2) := by decide +kernel
theorem dX10_format_46 : decode cX10_format 46 = .ok (.ifCond .lt 40, 3) := by decide +kernel
theorem dX10_format_49 : decode cX10_format 49 = .ok (.iload 4, 2) := by decide +kernel
theorem dX10_format_51 : decode cX10_format 51 = .ok (.iload_n 3, 1) := by decide +kernel
theorem dX10_format_52 : decode cX10_format 52 = .ok (.if_icmp .eq 28, 3) := by decide +kernel
theorem dX10_format_55 : decode cX10_format 55 = .ok (.aload_n 0, 1) := by decide +kernel
theorem dX10_format_56 : decode cX10_format 56 = .ok (.iload_n 1, 1) := by decide +kernel
theorem dX10_format_57 : decode cX10_format 57 = .ok (.iload_n 2, 1) := by decide +kernel
theorem dX10_format_58 : decode cX10_format 58 = .ok (.iload 4, 2) := by decide +kernel
theorem dX10_format_60 : decode cX10_format 60 = .ok (.invokevirtual 213, 3) := by decide +kernel
theorem dX10_format_63 : decode cX10_format 63 = .ok (.ifCond .eq 17, 3) := by decide +kernel
theorem dX10_format_66 : decode cX10_format 66 = .ok (.aload_n 0, 1) := by decide +kernel
theorem dX10_format_67 : decode cX10_format 67 = .ok (.aload_n 0, 1) := by decide +kernel
theorem dX10_format_68 : decode cX10_format 68 = .ok (.iload_n 1, 1) := by decide +kernel
theorem dX10_format_69 : decode cX10_format 69 = .ok (.iload_n 2, 1) := by decide +kernel
theorem dX10_format_70 : decode cX10_format 70 = .ok (.iload 4, 2) := by decide +kernel
theorem dX10_format_72 : decode cX10_format 72 = .ok (.invokevirtual 213, 3) := by decide +kernel
theorem dX10_format_75 : decode cX10_format 75 = .ok (.iload 4, 2) := by decide +kernel
theorem dX10_format_77 : decode cX10_format 77 = .ok (.invokevirtual 287, 3) := by decide +kernel
theorem dX10_format_80 : decode cX10_format 80 = .ok (.iinc 4 (-1), 3) := by decide +kernel
theorem dX10_format_83 : decode cX10_format 83 = .ok (.goto (-39), 3) := by decide +kernel
theorem dX10_format_86 : decode cX10_format 86 = .ok (.aload_n 0, 1) := by decide +kernel
theorem dX10_format_87 : decode cX10_format 87 = .ok (.getfield 281, 3) := by decide +kernel
theorem dX10_format_90 : decode cX10_format 90 = .ok (.ireturn, 1) := by decide +kernel
theorem dX10_outputByte_0 : decode cX10_outputByte 0 = .ok (.iload_n 1, 1) := by decide +kernel
theorem dX10_outputByte_1 : decode cX10_outputByte 1 = .ok (.iconst 0, 1) := by decide +kernel
theorem dX10_outputByte_2 : decode cX10_outputByte 2 = .ok (.aload_n 0, 1) := by decide +kernel
theorem dX10_outputByte_3 : decode cX10_outputByte 3 = .ok (.getfield 281, 3) := by decide +kernel
theorem dX10_outputByte_6 : decode cX10_outputByte 6 = .ok (.iconst 1, 1) := by decide +kernel
theorem dX10_outputByte_7 : decode cX10_outputByte 7 = .ok (.isub, 1) := by decide +kernel
theorem dX10_outputByte_8 : decode cX10_outputByte 8 = .ok (.invokestatic 114, 3) := by decide +kernel
theorem dX10_outputByte_11 : decode cX10_outputByte 11 = .ok (.ifCond .eq 12, 3) := by decide +kernel
theorem dX10_outputByte_14 : decode cX10_outputByte 14 = .ok (.aload_n 0, 1) := by decide +kernel
theorem dX10_outputByte_15 : decode cX10_outputByte 15 = .ok (.getfield 87, 3) := by decide +kernel
theorem dX10_outputByte_18 : decode cX10_outputByte 18 = .ok (.iload_n 1, 1) := by decide +kernel
theorem dX10_outputByte_19 : decode cX10_outputByte 19 = .ok (.iaload, 1) := by decide +kernel
theorem dX10_outputByte_20 : decode cX10_outputByte 20 = .ok (.goto 4, 3) := by decide +kernel
theorem dX10_outputByte_23 : decode cX10_outputByte 23 = .ok (.iconst (-1), 1) := by decide +kernel
theorem dX10_outputByte_24 : decode cX10_outputByte 24 = .ok (.ireturn, 1) := by decide +kernel
theorem dX10_isSlot_0 : decode cX10_isSlot 0 = .ok (.iload_n 0, 1) := by decide +kernel
theorem dX10_isSlot_1 : decode cX10_isSlot 1 = .ok (.iconst 0, 1) := by decide +kernel
theorem dX10_isSlot_2 : decode cX10_isSlot 2 = .ok (.iconst 3, 1) := by decide +kernel
theorem dX10_isSlot_3 : decode cX10_isSlot 3 = .ok (.invokestatic 114, 3) := by decide +kernel
theorem dX10_isSlot_6 : decode cX10_isSlot 6 = .ok (.ireturn, 1) := by decide +kernel
theorem dX10_newArray_0 : decode cX10_newArray 0 = .ok (.iload_n 1, 1) := by decide +kernel
theorem dX10_newArray_1 : decode cX10_newArray 1 = .ok (.invokestatic 249, 3) := by decide +kernel
theorem dX10_newArray_4 : decode cX10_newArray 4 = .ok (.ifCond .ne 5, 3) := by decide +kernel
theorem dX10_newArray_7 : decode cX10_newArray 7 = .ok (.iconst (-1), 1) := by decide +kernel
theorem dX10_newArray_8 : decode cX10_newArray 8 = .ok (.ireturn, 1) := by decide +kernel
theorem dX10_newArray_9 : decode cX10_newArray 9 = .ok (.iload_n 2, 1) := by decide +kernel
theorem dX10_newArray_10 : decode cX10_newArray 10 = .ok (.bipush 20, 2) := by decide +kernel
theorem dX10_newArray_12 : decode cX10_newArray 12 = .ok (.if_icmp .le 6, 3) := by decide +kernel
theorem dX10_newArray_15 : decode cX10_newArray 15 = .ok (.bipush (-2), 2) := by decide +kernel
theorem dX10_newArray_17 : decode cX10_newArray 17 = .ok (.ireturn, 1) := by decide +kernel
theorem dX10_newArray_18 : decode cX10_newArray 18 = .ok (.iload_n 2, 1) := by decide +kernel
theorem dX10_newArray_19 : decode cX10_newArray 19 = .ok (.ifCond .ge 6, 3) := by decide +kernel
theorem dX10_newArray_22 : decode cX10_newArray 22 = .ok (.bipush (-8), 2) := by decide +kernel
theorem dX10_newArray_24 : decode cX10_newArray 24 = .ok (.ireturn, 1) := by decide +kernel
theorem dX10_newArray_25 : decode cX10_newArray 25 = .ok (.aload_n 0, 1) := by decide +kernel
theorem dX10_newArray_26 : decode cX10_newArray 26 = .ok (.getfield 90, 3) := by decide +kernel
theorem dX10_newArray_29 : decode cX10_newArray 29 = .ok (.iload_n 1, 1) := by decide +kernel
theorem dX10_newArray_30 : decode cX10_newArray 30 = .ok (.iconst 1, 1) := by decide +kernel
theorem dX10_newArray_31 : decode cX10_newArray 31 = .ok (.iastore, 1) := by decide +kernel
theorem dX10_newArray_32 : decode cX10_newArray 32 = .ok (.aload_n 0, 1) := by decide +kernel
theorem dX10_newArray_33 : decode cX10_newArray 33 = .ok (.getfield 93, 3) := by decide +kernel
theorem dX10_newArray_36 : decode cX10_newArray 36 = .ok (.iload_n 1, 1) := by decide +kernel
theorem dX10_newArray_37 : decode cX10_newArray 37 = .ok (.iload_n 2, 1) := by decide +kernel
theorem dX10_newArray_38 : decode cX10_newArray 38 = .ok (.iastore, 1) := by decide +kernel
theorem dX10_newArray_39 : decode cX10_newArray 39 = .ok (.iconst 0, 1) := by decide +kernel
theorem dX10_newArray_40 : decode cX10_newArray 40 = .ok (.istore_n 3, 1) := by decide +kernel
theorem dX10_newArray_41 : decode cX10_newArray 41 = .ok (.iload_n 3, 1) := by decide +kernel
theorem dX10_newArray_42 : decode cX10_newArray 42 = .ok (.bipush 20, 2) := by decide +kernel
theorem dX10_newArray_44 : decode cX10_newArray 44 = .ok (.if_icmp .ge 21, 3) := by decide +kernel
theorem dX10_newArray_47 : decode cX10_newArray 47 = .ok (.aload_n 0, 1) := by decide +kernel
theorem dX10_newArray_48 : decode cX10_newArray 48 = .ok (.getfield 96, 3) := by decide +kernel
theorem dX10_newArray_51 : decode cX10_newArray 51 = .ok (.bipush 20, 2) := by decide +kernel
theorem dX10_newArray_53 : decode cX10_newArray 53 = .ok (.iload_n 1, 1) := by decide +kernel
theorem dX10_newArray_54 : decode cX10_newArray 54 = .ok (.imul, 1) := by decide +kernel
theorem dX10_newArray_55 : decode cX10_newArray 55 = .ok (.iload_n 3, 1) := by decide +kernel
theorem dX10_newArray_56 : decode cX10_newArray 56 = .ok (.iadd, 1) := by decide +kernel
theorem dX10_newArray_57 : decode cX10_newArray 57 = .ok (.iconst 0, 1) := by decide +kernel
theorem dX10_newArray_58 : decode cX10_newArray 58 = .ok (.iastore, 1) := by decide +kernel
theorem dX10_newArray_59 : decode cX10_newArray 59 = .ok (.iinc 3 1, 3) := by decide +kernel
theorem dX10_newArray_62 : decode cX10_newArray 62 = .ok (.goto (-21), 3) := by decide +kernel
theorem dX10_newArray_65 : decode cX10_newArray 65 = .ok (.iconst 1, 1) := by decide +kernel
theorem dX10_newArray_66 : decode cX10_newArray 66 = .ok (.ireturn, 1) := by decide +kernel
theorem dX10_amiss_0 : decode cX10_amiss 0 = .ok (.aload_n 0, 1) := by decide +kernel
theorem dX10_amiss_1 : decode cX10_amiss 1 = .ok (.getfield 90, 3) := by decide +kernel
theorem dX10_amiss_4 : decode cX10_amiss 4 = .ok (.iload_n 1, 1) := by decide +kernel
theorem dX10_amiss_5 : decode cX10_amiss 5 = .ok (.iaload, 1) := by decide +kernel
theorem dX10_amiss_6 : decode cX10_amiss 6 = .ok (.ifCond .ne 8, 3) := by decide +kernel
theorem dX10_amiss_9 : decode cX10_amiss 9 = .ok (.bipush (-6), 2) := by decide +kernel
theorem dX10_amiss_11 : decode cX10_amiss 11 = .ok (.goto 19, 3) := by decide +kernel
theorem dX10_amiss_14 : decode cX10_amiss 14 = .ok (.aload_n 0, 1) := by decide +kernel
theorem dX10_amiss_15 : decode cX10_amiss 15 = .ok (.getfield 90, 3) := by decide +kernel
theorem dX10_amiss_18 : decode cX10_amiss 18 = .ok (.iload_n 1, 1) := by decide +kernel
theorem dX10_amiss_19 : decode cX10_amiss 19 = .ok (.iaload, 1) := by decide +kernel
theorem dX10_amiss_20 : decode cX10_amiss 20 = .ok (.iload_n 2, 1) := by decide +kernel
theorem dX10_amiss_21 : decode cX10_amiss 21 = .ok (.if_icmp .ne 7, 3) := by decide +kernel
theorem dX10_amiss_24 : decode cX10_amiss 24 = .ok (.iconst 0, 1) := by decide +kernel
theorem dX10_amiss_25 : decode cX10_amiss 25 = .ok (.goto 5, 3) := by decide +kernel
theorem dX10_amiss_28 : decode cX10_amiss 28 = .ok (.bipush (-7), 2) := by decide +kernel
theorem dX10_amiss_30 : decode cX10_amiss 30 = .ok (.ireturn, 1) := by decide +kernel
theorem dX10_setElement_0 : decode cX10_setElement 0 = .ok (.iload_n 1, 1) := by decide +kernel
theorem dX10_setElement_1 : decode cX10_setElement 1 = .ok (.invokestatic 249, 3) := by decide +kernel
theorem dX10_setElement_4 : decode cX10_setElement 4 = .ok (.ifCond .ne 5, 3) := by decide +kernel
theorem dX10_setElement_7 : decode cX10_setElement 7 = .ok (.iconst (-1), 1) := by decide +kernel
theorem dX10_setElement_8 : decode cX10_setElement 8 = .ok (.ireturn, 1) := by decide +kernel
theorem dX10_setElement_9 : decode cX10_setElement 9 = .ok (.iload_n 3, 1) := by decide +kernel
theorem dX10_setElement_10 : decode cX10_setElement 10 = .ok (.iconst 0, 1) := by decide +kernel
theorem dX10_setElement_11 : decode cX10_setElement 11 = .ok (.sipush 9999, 3) := by decide +kernel
theorem dX10_setElement_14 : decode cX10_setElement 14 = .ok (.invokestatic 114, 3) := by decide +kernel
theorem dX10_setElement_17 : decode cX10_setElement 17 = .ok (.ifCond .ne 6, 3) := by decide +kernel
theorem dX10_setElement_20 : decode cX10_setElement 20 = .ok (.bipush (-2), 2) := by decide +kernel
theorem dX10_setElement_22 : decode cX10_setElement 22 = .ok (.ireturn, 1) := by decide +kernel
theorem dX10_setElement_23 : decode cX10_setElement 23 = .ok (.aload_n 0, 1) := by decide +kernel
theorem dX10_setElement_24 : decode cX10_setElement 24 = .ok (.iload_n 1, 1) := by decide +kernel
theorem dX10_setElement_25 : decode cX10_setElement 25 = .ok (.iload_n 2, 1) := by decide +kernel
theorem dX10_setElement_26 : decode cX10_setElement 26 = .ok (.invokevirtual 290, 3) := by decide +kernel
theorem dX10_setElement_29 : decode cX10_setElement 29 = .ok (.istore 4, 2) := by decide +kernel
theorem dX10_setElement_31 : decode cX10_setElement 31 = .ok (.iload 4, 2) := by decide +kernel
theorem dX10_setElement_33 : decode cX10_setElement 33 = .ok (.ifCond .lt 15, 3) := by decide +kernel
theorem dX10_setElement_36 : decode cX10_setElement 36 = .ok (.aload_n 0, 1) := by decide +kernel
theorem dX10_setElement_37 : decode cX10_setElement 37 = .ok (.getfield 96, 3) := by decide +kernel
theorem dX10_setElement_40 : decode cX10_setElement 40 = .ok (.bipush 20, 2) := by decide +kernel
theorem dX10_setElement_42 : decode cX10_setElement 42 = .ok (.iload_n 1, 1) := by decide +kernel
theorem dX10_setElement_43 : decode cX10_setElement 43 = .ok (.imul, 1) := by decide +kernel
theorem dX10_setElement_44 : decode cX10_setElement 44 = .ok (.iload_n 2, 1) := by decide +kernel
theorem dX10_setElement_45 : decode cX10_setElement 45 = .ok (.iadd, 1) := by decide +kernel
theorem dX10_setElement_46 : decode cX10_setElement 46 = .ok (.iload_n 3, 1) := by decide +kernel
theorem dX10_setElement_47 : decode cX10_setElement 47 = .ok (.iastore, 1) := by decide +kernel
theorem dX10_setElement_48 : decode cX10_setElement 48 = .ok (.iload 4, 2) := by decide +kernel
theorem dX10_setElement_50 : decode cX10_setElement 50 = .ok (.ireturn, 1) := by decide +kernel
theorem dX10_element_0 : decode cX10_element 0 = .ok (.iload_n 1, 1) := by decide +kernel
theorem dX10_element_1 : decode cX10_element 1 = .ok (.invokestatic 249, 3) := by decide +kernel
theorem dX10_element_4 : decode cX10_element 4 = .ok (.ifCond .ne 5, 3) := by decide +kernel
theorem dX10_element_7 : decode cX10_element 7 = .ok (.iconst (-1), 1) := by decide +kernel
theorem dX10_element_8 : decode cX10_element 8 = .ok (.ireturn, 1) := by decide +kernel
theorem dX10_element_9 : decode cX10_element 9 = .ok (.aload_n 0, 1) := by decide +kernel
theorem dX10_element_10 : decode cX10_element 10 = .ok (.iload_n 1, 1) := by decide +kernel
theorem dX10_element_11 : decode cX10_element 11 = .ok (.iconst 1, 1) := by decide +kernel
theorem dX10_element_12 : decode cX10_element 12 = .ok (.invokevirtual 293, 3) := by decide +kernel
theorem dX10_element_15 : decode cX10_element 15 = .ok (.istore_n 3, 1) := by decide +kernel
theorem dX10_element_16 : decode cX10_element 16 = .ok (.iload_n 3, 1) := by decide +kernel
theorem dX10_element_17 : decode cX10_element 17 = .ok (.ifCond .eq 5, 3) := by decide +kernel
theorem dX10_element_20 : decode cX10_element 20 = .ok (.iload_n 3, 1) := by decide +kernel
theorem dX10_element_21 : decode cX10_element 21 = .ok (.ireturn, 1) := by decide +kernel
theorem dX10_element_22 : decode cX10_element 22 = .ok (.iload_n 2, 1) := by decide +kernel
theorem dX10_element_23 : decode cX10_element 23 = .ok (.iconst 0, 1) := by decide +kernel
theorem dX10_element_24 : decode cX10_element 24 = .ok (.aload_n 0, 1) := by decide +kernel
theorem dX10_element_25 : decode cX10_element 25 = .ok (.getfield 93, 3) := by decide +kernel
theorem dX10_element_28 : decode cX10_element 28 = .ok (.iload_n 1, 1) := by decide +kernel
theorem dX10_element_29 : decode cX10_element 29 = .ok (.iaload, 1) := by decide +kernel
theorem dX10_element_30 : decode cX10_element 30 = .ok (.iconst 1, 1) := by decide +kernel
theorem dX10_element_31 : decode cX10_element 31 = .ok (.isub, 1) := by decide +kernel
theorem dX10_element_32 : decode cX10_element 32 = .ok (.invokestatic 114, 3) := by decide +kernel
theorem dX10_element_35 : decode cX10_element 35 = .ok (.ifCond .eq 17, 3) := by decide +kernel
theorem dX10_element_38 : decode cX10_element 38 = .ok (.aload_n 0, 1) := by decide +kernel
theorem dX10_element_39 : decode cX10_element 39 = .ok (.getfield 96, 3) := by decide +kernel
theorem dX10_element_42 : decode cX10_element 42 = .ok (.bipush 20, 2) := by decide +kernel
theorem dX10_element_44 : decode cX10_element 44 = .ok (.iload_n 1, 1) := by decide +kernel
theorem dX10_element_45 : decode cX10_element 45 = .ok (.imul, 1) := by decide +kernel
theorem dX10_element_46 : decode cX10_element 46 = .ok (.iload_n 2, 1) := by decide +kernel
theorem dX10_element_47 : decode cX10_element 47 = .ok (.iadd, 1) := by decide +kernel
theorem dX10_element_48 : decode cX10_element 48 = .ok (.iaload, 1) := by decide +kernel
theorem dX10_element_49 : decode cX10_element 49 = .ok (.goto 4, 3) := by decide +kernel
theorem dX10_element_52 : decode cX10_element 52 = .ok (.iconst (-1), 1) := by decide +kernel
theorem dX10_element_53 : decode cX10_element 53 = .ok (.ireturn, 1) := by decide +kernel
theorem dX10_storePolynomial_0 : decode cX10_storePolynomial 0 = .ok (.iload_n 1, 1) := by decide +kernel
theorem dX10_storePolynomial_1 : decode cX10_storePolynomial 1 = .ok (.invokestatic 249, 3) := by decide +kernel
theorem dX10_storePolynomial_4 : decode cX10_storePolynomial 4 = .ok (.ifCond .ne 5, 3) := by decide +kernel
theorem dX10_storePolynomial_7 : decode cX10_storePolynomial 7 = .ok (.iconst (-1), 1) := by decide +kernel
theorem dX10_storePolynomial_8 : decode cX10_storePolynomial 8 = .ok (.ireturn, 1) := by decide +kernel
theorem dX10_storePolynomial_9 : decode cX10_storePolynomial 9 = .ok (.aload_n 0, 1) := by decide +kernel
theorem dX10_storePolynomial_10 : decode cX10_storePolynomial 10 = .ok (.getfield 90, 3) := by decide +kernel
theorem dX10_storePolynomial_13 : decode cX10_storePolynomial 13 = .ok (.iload_n 1, 1) := by decide +kernel
theorem dX10_storePolynomial_14 : decode cX10_storePolynomial 14 = .ok (.iconst 2, 1) := by decide +kernel
theorem dX10_storePolynomial_15 : decode cX10_storePolynomial 15 = .ok (.iastore, 1) := by decide +kernel
theorem dX10_storePolynomial_16 : decode cX10_storePolynomial 16 = .ok (.iconst 0, 1) := by decide +kernel
theorem dX10_storePolynomial_17 : decode cX10_storePolynomial 17 = .ok (.istore_n 2, 1) := by decide +kernel
theorem dX10_storePolynomial_18 : decode cX10_storePolynomial 18 = .ok (.iload_n 2, 1) := by decide +kernel
theorem dX10_storePolynomial_19 : decode cX10_storePolynomial 19 = .ok (.bipush 81, 2) := by decide +kernel
theorem dX10_storePolynomial_21 : decode cX10_storePolynomial 21 = .ok (.if_icmp .ge 26, 3) := by decide +kernel
theorem dX10_storePolynomial_24 : decode cX10_storePolynomial 24 = .ok (.aload_n 0, 1) := by decide +kernel
theorem dX10_storePolynomial_25 : decode cX10_storePolynomial 25 = .ok (.getfield 99, 3) := by decide +kernel
theorem dX10_storePolynomial_28 : decode cX10_storePolynomial 28 = .ok (.bipush 81, 2) := by decide +kernel
theorem dX10_storePolynomial_30 : decode cX10_storePolynomial 30 = .ok (.iload_n 1, 1) := by decide +kernel
theorem dX10_storePolynomial_31 : decode cX10_storePolynomial 31 = .ok (.imul, 1) := by decide +kernel
theorem dX10_storePolynomial_32 : decode cX10_storePolynomial 32 = .ok (.iload_n 2, 1) := by decide +kernel
theorem dX10_storePolynomial_33 : decode cX10_storePolynomial 33 = .ok (.iadd, 1) := by decide +kernel
theorem dX10_storePolynomial_34 : decode cX10_storePolynomial 34 = .ok (.aload_n 0, 1) := by decide +kernel
theorem dX10_storePolynomial_35 : decode cX10_storePolynomial 35 = .ok (.getfield 20, 3) := by decide +kernel
theorem dX10_storePolynomial_38 : decode cX10_storePolynomial 38 = .ok (.iload_n 2, 1) := by decide +kernel
theorem dX10_storePolynomial_39 : decode cX10_storePolynomial 39 = .ok (.iaload, 1) := by decide +kernel
theorem dX10_storePolynomial_40 : decode cX10_storePolynomial 40 = .ok (.iastore, 1) := by decide +kernel
theorem dX10_storePolynomial_41 : decode cX10_storePolynomial 41 = .ok (.iinc 2 1, 3) := by decide +kernel
theorem dX10_storePolynomial_44 : decode cX10_storePolynomial 44 = .ok (.goto (-26), 3) := by decide +kernel
theorem dX10_storePolynomial_47 : decode cX10_storePolynomial 47 = .ok (.aload_n 0, 1) := by decide +kernel
theorem dX10_storePolynomial_48 : decode cX10_storePolynomial 48 = .ok (.invokevirtual 242, 3) := by decide +kernel
theorem dX10_storePolynomial_51 : decode cX10_storePolynomial 51 = .ok (.ireturn, 1) := by decide +kernel
theorem dX10_loadPolynomial_0 : decode cX10_loadPolynomial 0 = .ok (.iload_n 1, 1) := by decide +kernel
theorem dX10_loadPolynomial_1 : decode cX10_loadPolynomial 1 = .ok (.invokestatic 249, 3) := by decide +kernel
theorem dX10_loadPolynomial_4 : decode cX10_loadPolynomial 4 = .ok (.ifCond .ne 5, 3) := by decide +kernel
theorem dX10_loadPolynomial_7 : decode cX10_loadPolynomial 7 = .ok (.iconst (-1), 1) := by decide +kernel
theorem dX10_loadPolynomial_8 : decode cX10_loadPolynomial 8 = .ok (.ireturn, 1) := by decide +kernel
theorem dX10_loadPolynomial_9 : decode cX10_loadPolynomial 9 = .ok (.aload_n 0, 1) := by decide +kernel
theorem dX10_loadPolynomial_10 : decode cX10_loadPolynomial 10 = .ok (.iload_n 1, 1) := by decide +kernel
theorem dX10_loadPolynomial_11 : decode cX10_loadPolynomial 11 = .ok (.iconst 2, 1) := by decide +kernel
theorem dX10_loadPolynomial_12 : decode cX10_loadPolynomial 12 = .ok (.invokevirtual 293, 3) := by decide +kernel
theorem dX10_loadPolynomial_15 : decode cX10_loadPolynomial 15 = .ok (.istore_n 2, 1) := by decide +kernel
theorem dX10_loadPolynomial_16 : decode cX10_loadPolynomial 16 = .ok (.iload_n 2, 1) := by decide +kernel
theorem dX10_loadPolynomial_17 : decode cX10_loadPolynomial 17 = .ok (.ifCond .eq 5, 3) := by decide +kernel
theorem dX10_loadPolynomial_20 : decode cX10_loadPolynomial 20 = .ok (.iload_n 2, 1) := by decide +kernel
theorem dX10_loadPolynomial_21 : decode cX10_loadPolynomial 21 = .ok (.ireturn, 1) := by decide +kernel
theorem dX10_loadPolynomial_22 : decode cX10_loadPolynomial 22 = .ok (.iconst 0, 1) := by decide +kernel
theorem dX10_loadPolynomial_23 : decode cX10_loadPolynomial 23 = .ok (.istore_n 3, 1) := by decide +kernel
theorem dX10_loadPolynomial_24 : decode cX10_loadPolynomial 24 = .ok (.iload_n 3, 1) := by decide +kernel
theorem dX10_loadPolynomial_25 : decode cX10_loadPolynomial 25 = .ok (.bipush 81, 2) := by decide +kernel
theorem dX10_loadPolynomial_27 : decode cX10_loadPolynomial 27 = .ok (.if_icmp .ge 31, 3) := by decide +kernel
theorem dX10_loadPolynomial_30 : decode cX10_loadPolynomial 30 = .ok (.aload_n 0, 1) := by decide +kernel
theorem dX10_loadPolynomial_31 : decode cX10_loadPolynomial 31 = .ok (.getfield 20, 3) := by decide +kernel
theorem dX10_loadPolynomial_34 : decode cX10_loadPolynomial 34 = .ok (.iload_n 3, 1) := by decide +kernel
theorem dX10_loadPolynomial_35 : decode cX10_loadPolynomial 35 = .ok (.aload_n 0, 1) := by decide +kernel
theorem dX10_loadPolynomial_36 : decode cX10_loadPolynomial 36 = .ok (.getfield 99, 3) := by decide +kernel
theorem dX10_loadPolynomial_39 : decode cX10_loadPolynomial 39 = .ok (.bipush 81, 2) := by decide +kernel
theorem dX10_loadPolynomial_41 : decode cX10_loadPolynomial 41 = .ok (.iload_n 1, 1) := by decide +kernel
theorem dX10_loadPolynomial_42 : decode cX10_loadPolynomial 42 = .ok (.imul, 1) := by decide +kernel
theorem dX10_loadPolynomial_43 : decode cX10_loadPolynomial 43 = .ok (.iload_n 3, 1) := by decide +kernel
theorem dX10_loadPolynomial_44 : decode cX10_loadPolynomial 44 = .ok (.iadd, 1) := by decide +kernel
theorem dX10_loadPolynomial_45 : decode cX10_loadPolynomial 45 = .ok (.iaload, 1) := by decide +kernel
theorem dX10_loadPolynomial_46 : decode cX10_loadPolynomial 46 = .ok (.aload_n 0, 1) := by decide +kernel
theorem dX10_loadPolynomial_47 : decode cX10_loadPolynomial 47 = .ok (.getfield 7, 3) := by decide +kernel
theorem dX10_loadPolynomial_50 : decode cX10_loadPolynomial 50 = .ok (.irem, 1) := by decide +kernel
theorem dX10_loadPolynomial_51 : decode cX10_loadPolynomial 51 = .ok (.iastore, 1) := by decide +kernel
theorem dX10_loadPolynomial_52 : decode cX10_loadPolynomial 52 = .ok (.iinc 3 1, 3) := by decide +kernel
theorem dX10_loadPolynomial_55 : decode cX10_loadPolynomial 55 = .ok (.goto (-31), 3) := by decide +kernel
theorem dX10_loadPolynomial_58 : decode cX10_loadPolynomial 58 = .ok (.aload_n 0, 1) := by decide +kernel
theorem dX10_loadPolynomial_59 : decode cX10_loadPolynomial 59 = .ok (.invokevirtual 242, 3) := by decide +kernel
theorem dX10_loadPolynomial_62 : decode cX10_loadPolynomial 62 = .ok (.ireturn, 1) := by decide +kernel
theorem dX10_clearSlot_0 : decode cX10_clearSlot 0 = .ok (.iload_n 1, 1) := by decide +kernel
theorem dX10_clearSlot_1 : decode cX10_clearSlot 1 = .ok (.invokestatic 249, 3) := by decide +kernel
theorem dX10_clearSlot_4 : decode cX10_clearSlot 4 = .ok (.ifCond .ne 5, 3) := by decide +kernel
theorem dX10_clearSlot_7 : decode cX10_clearSlot 7 = .ok (.iconst (-1), 1) := by decide +kernel
theorem dX10_clearSlot_8 : decode cX10_clearSlot 8 = .ok (.ireturn, 1) := by decide +kernel
theorem dX10_clearSlot_9 : decode cX10_clearSlot 9 = .ok (.aload_n 0, 1) := by decide +kernel
theorem dX10_clearSlot_10 : decode cX10_clearSlot 10 = .ok (.getfield 90, 3) := by decide +kernel
theorem dX10_clearSlot_13 : decode cX10_clearSlot 13 = .ok (.iload_n 1, 1) := by decide +kernel
theorem dX10_clearSlot_14 : decode cX10_clearSlot 14 = .ok (.iaload, 1) := by decide +kernel
theorem dX10_clearSlot_15 : decode cX10_clearSlot 15 = .ok (.istore_n 2, 1) := by decide +kernel
theorem dX10_clearSlot_16 : decode cX10_clearSlot 16 = .ok (.aload_n 0, 1) := by decide +kernel
theorem dX10_clearSlot_17 : decode cX10_clearSlot 17 = .ok (.getfield 90, 3) := by decide +kernel
theorem dX10_clearSlot_20 : decode cX10_clearSlot 20 = .ok (.iload_n 1, 1) := by decide +kernel
theorem dX10_clearSlot_21 : decode cX10_clearSlot 21 = .ok (.iconst 0, 1) := by decide +kernel
theorem dX10_clearSlot_22 : decode cX10_clearSlot 22 = .ok (.iastore, 1) := by decide +kernel
theorem dX10_clearSlot_23 : decode cX10_clearSlot 23 = .ok (.iload_n 2, 1) := by decide +kernel
theorem dX10_clearSlot_24 : decode cX10_clearSlot 24 = .ok (.ireturn, 1) := by decide +kernel
theorem dX10_firstDifference_0 : decode cX10_firstDifference 0 = .ok (.iload_n 1, 1) := by decide +kernel
theorem dX10_firstDifference_1 : decode cX10_firstDifference 1 = .ok (.invokestatic 249, 3) := by decide +kernel
theorem dX10_firstDifference_4 : decode cX10_firstDifference 4 = .ok (.ifCond .eq 11, 3) := by decide +kernel
theorem dX10_firstDifference_7 : decode cX10_firstDifference 7 = .ok (.aload_n 0, 1) := by decide +kernel
theorem dX10_firstDifference_8 : decode cX10_firstDifference 8 = .ok (.iload_n 2, 1) := by decide +kernel
theorem dX10_firstDifference_9 : decode cX10_firstDifference 9 = .ok (.invokevirtual 204, 3) := by decide +kernel
theorem dX10_firstDifference_12 : decode cX10_firstDifference 12 = .ok (.ifCond .ne 5, 3) := by decide +kernel
theorem dX10_firstDifference_15 : decode cX10_firstDifference 15 = .ok (.iconst (-1), 1) := by decide +kernel
theorem dX10_firstDifference_16 : decode cX10_firstDifference 16 = .ok (.ireturn, 1) := by decide +kernel
theorem dX10_firstDifference_17 : decode cX10_firstDifference 17 = .ok (.aload_n 0, 1) := by decide +kernel
theorem dX10_firstDifference_18 : decode cX10_firstDifference 18 = .ok (.iload_n 1, 1) := by decide +kernel
theorem dX10_firstDifference_19 : decode cX10_firstDifference 19 = .ok (.iconst 1, 1) := by decide +kernel
theorem dX10_firstDifference_20 : decode cX10_firstDifference 20 = .ok (.invokevirtual 293, 3) := by decide +kernel
theorem dX10_firstDifference_23 : decode cX10_firstDifference 23 = .ok (.istore_n 3, 1) := by decide +kernel
theorem dX10_firstDifference_24 : decode cX10_firstDifference 24 = .ok (.iload_n 3, 1) := by decide +kernel
theorem dX10_firstDifference_25 : decode cX10_firstDifference 25 = .ok (.ifCond .eq 5, 3) := by decide +kernel
theorem dX10_firstDifference_28 : decode cX10_firstDifference 28 = .ok (.iload_n 3, 1) := by decide +kernel
theorem dX10_firstDifference_29 : decode cX10_firstDifference 29 = .ok (.ireturn, 1) := by decide +kernel
theorem dX10_firstDifference_30 : decode cX10_firstDifference 30 = .ok (.iconst 0, 1) := by decide +kernel
theorem dX10_firstDifference_31 : decode cX10_firstDifference 31 = .ok (.istore 4, 2) := by decide +kernel
theorem dX10_firstDifference_33 : decode cX10_firstDifference 33 = .ok (.iload 4, 2) := by decide +kernel
theorem dX10_firstDifference_35 : decode cX10_firstDifference 35 = .ok (.aload_n 0, 1) := by decide +kernel
theorem dX10_firstDifference_36 : decode cX10_firstDifference 36 = .ok (.getfield 93, 3) := by decide +kernel
theorem dX10_firstDifference_39 : decode cX10_firstDifference 39 = .ok (.iload_n 1, 1) := by decide +kernel
theorem dX10_firstDifference_40 : decode cX10_firstDifference 40 = .ok (.iaload, 1) := by decide +kernel
theorem dX10_firstDifference_41 : decode cX10_firstDifference 41 = .ok (.if_icmp .ge 46, 3) := by decide +kernel
theorem dX10_firstDifference_44 : decode cX10_firstDifference 44 = .ok (.iload 4, 2) := by decide +kernel
theorem dX10_firstDifference_46 : decode cX10_firstDifference 46 = .ok (.bipush 9, 2) := by decide +kernel
theorem dX10_firstDifference_48 : decode cX10_firstDifference 48 = .ok (.if_icmp .ge 30, 3) := by decide +kernel
theorem dX10_firstDifference_51 : decode cX10_firstDifference 51 = .ok (.aload_n 0, 1) := by decide +kernel
theorem dX10_firstDifference_52 : decode cX10_firstDifference 52 = .ok (.getfield 96, 3) := by decide +kernel
theorem dX10_firstDifference_55 : decode cX10_firstDifference 55 = .ok (.bipush 20, 2) := by decide +kernel
theorem dX10_firstDifference_57 : decode cX10_firstDifference 57 = .ok (.iload_n 1, 1) := by decide +kernel
theorem dX10_firstDifference_58 : decode cX10_firstDifference 58 = .ok (.imul, 1) := by decide +kernel
theorem dX10_firstDifference_59 : decode cX10_firstDifference 59 = .ok (.iload 4, 2) := by decide +kernel
theorem dX10_firstDifference_61 : decode cX10_firstDifference 61 = .ok (.iadd, 1) := by decide +kernel
theorem dX10_firstDifference_62 : decode cX10_firstDifference 62 = .ok (.iaload, 1) := by decide +kernel
theorem dX10_firstDifference_63 : decode cX10_firstDifference 63 = .ok (.aload_n 0, 1) := by decide +kernel
theorem dX10_firstDifference_64 : decode cX10_firstDifference 64 = .ok (.getfield 66, 3) := by decide +kernel
theorem dX10_firstDifference_67 : decode cX10_firstDifference 67 = .ok (.bipush 9, 2) := by decide +kernel
theorem dX10_firstDifference_69 : decode cX10_firstDifference 69 = .ok (.iload_n 2, 1) := by decide +kernel
theorem dX10_firstDifference_70 : decode cX10_firstDifference 70 = .ok (.imul, 1) := by decide +kernel
theorem dX10_firstDifference_71 : decode cX10_firstDifference 71 = .ok (.iload 4, 2) := by decide +kernel
theorem dX10_firstDifference_73 : decode cX10_firstDifference 73 = .ok (.iadd, 1) := by decide +kernel
theorem dX10_firstDifference_74 : decode cX10_firstDifference 74 = .ok (.iaload, 1) := by decide +kernel
theorem dX10_firstDifference_75 : decode cX10_firstDifference 75 = .ok (.if_icmp .eq 6, 3) := by decide +kernel
theorem dX10_firstDifference_78 : decode cX10_firstDifference 78 = .ok (.iload 4, 2) := by decide +kernel
theorem dX10_firstDifference_80 : decode cX10_firstDifference 80 = .ok (.ireturn, 1) := by decide +kernel
theorem dX10_firstDifference_81 : decode cX10_firstDifference 81 = .ok (.iinc 4 1, 3) := by decide +kernel
theorem dX10_firstDifference_84 : decode cX10_firstDifference 84 = .ok (.goto (-51), 3) := by decide +kernel
theorem dX10_firstDifference_87 : decode cX10_firstDifference 87 = .ok (.bipush (-5), 2) := by decide +kernel
theorem dX10_firstDifference_89 : decode cX10_firstDifference 89 = .ok (.ireturn, 1) := by decide +kernel
theorem dX10_saveSnapshot_0 : decode cX10_saveSnapshot 0 = .ok (.aload_n 0, 1) := by decide +kernel
theorem dX10_saveSnapshot_1 : decode cX10_saveSnapshot 1 = .ok (.iconst 1, 1) := by decide +kernel
theorem dX10_saveSnapshot_2 : decode cX10_saveSnapshot 2 = .ok (.putfield 296, 3) := by decide +kernel
theorem dX10_saveSnapshot_5 : decode cX10_saveSnapshot 5 = .ok (.aload_n 0, 1) := by decide +kernel
theorem dX10_saveSnapshot_6 : decode cX10_saveSnapshot 6 = .ok (.aload_n 0, 1) := by decide +kernel
theorem dX10_saveSnapshot_7 : decode cX10_saveSnapshot 7 = .ok (.getfield 7, 3) := by decide +kernel
theorem dX10_saveSnapshot_10 : decode cX10_saveSnapshot 10 = .ok (.putfield 299, 3) := by decide +kernel
theorem dX10_saveSnapshot_13 : decode cX10_saveSnapshot 13 = .ok (.aload_n 0, 1) := by decide +kernel
theorem dX10_saveSnapshot_14 : decode cX10_saveSnapshot 14 = .ok (.aload_n 0, 1) := by decide +kernel
theorem dX10_saveSnapshot_15 : decode cX10_saveSnapshot 15 = .ok (.getfield 111, 3) := by decide +kernel
theorem dX10_saveSnapshot_18 : decode cX10_saveSnapshot 18 = .ok (.putfield 302, 3) := by decide +kernel
theorem dX10_saveSnapshot_21 : decode cX10_saveSnapshot 21 = .ok (.iconst 0, 1) := by decide +kernel
theorem dX10_saveSnapshot_22 : decode cX10_saveSnapshot 22 = .ok (.istore_n 1, 1) := by decide +kernel
theorem dX10_saveSnapshot_23 : decode cX10_saveSnapshot 23 = .ok (.iload_n 1, 1) := by decide +kernel
theorem dX10_saveSnapshot_24 : decode cX10_saveSnapshot 24 = .ok (.bipush 8, 2) := by decide +kernel
theorem dX10_saveSnapshot_26 : decode cX10_saveSnapshot 26 = .ok (.if_icmp .ge 33, 3) := by decide +kernel
theorem dX10_saveSnapshot_29 : decode cX10_saveSnapshot 29 = .ok (.aload_n 0, 1) := by decide +kernel
theorem dX10_saveSnapshot_30 : decode cX10_saveSnapshot 30 = .ok (.getfield 102, 3) := by decide +kernel
theorem dX10_saveSnapshot_33 : decode cX10_saveSnapshot 33 = .ok (.iload_n 1, 1) := by decide +kernel
theorem dX10_saveSnapshot_34 : decode cX10_saveSnapshot 34 = .ok (.aload_n 0, 1) := by decide +kernel
theorem dX10_saveSnapshot_35 : decode cX10_saveSnapshot 35 = .ok (.getfield 13, 3) := by decide +kernel
theorem dX10_saveSnapshot_38 : decode cX10_saveSnapshot 38 = .ok (.iload_n 1, 1) := by decide +kernel
theorem dX10_saveSnapshot_39 : decode cX10_saveSnapshot 39 = .ok (.iaload, 1) := by decide +kernel
theorem dX10_saveSnapshot_40 : decode cX10_saveSnapshot 40 = .ok (.iastore, 1) := by decide +kernel
theorem dX10_saveSnapshot_41 : decode cX10_saveSnapshot 41 = .ok (.aload_n 0, 1) := by decide +kernel
theorem dX10_saveSnapshot_42 : decode cX10_saveSnapshot 42 = .ok (.getfield 105, 3) := by decide +kernel
theorem dX10_saveSnapshot_45 : decode cX10_saveSnapshot 45 = .ok (.iload_n 1, 1) := by decide +kernel
theorem dX10_saveSnapshot_46 : decode cX10_saveSnapshot 46 = .ok (.aload_n 0, 1) := by decide +kernel
theorem dX10_saveSnapshot_47 : decode cX10_saveSnapshot 47 = .ok (.getfield 17, 3) := by decide +kernel
theorem dX10_saveSnapshot_50 : decode cX10_saveSnapshot 50 = .ok (.iload_n 1, 1) := by decide +kernel
theorem dX10_saveSnapshot_51 : decode cX10_saveSnapshot 51 = .ok (.iaload, 1) := by decide +kernel
theorem dX10_saveSnapshot_52 : decode cX10_saveSnapshot 52 = .ok (.iastore, 1) := by decide +kernel
theorem dX10_saveSnapshot_53 : decode cX10_saveSnapshot 53 = .ok (.iinc 1 1, 3) := by decide +kernel
theorem dX10_saveSnapshot_56 : decode cX10_saveSnapshot 56 = .ok (.goto (-33), 3) := by decide +kernel
theorem dX10_saveSnapshot_59 : decode cX10_saveSnapshot 59 = .ok (.iconst 0, 1) := by decide +kernel
theorem dX10_saveSnapshot_60 : decode cX10_saveSnapshot 60 = .ok (.istore_n 1, 1) := by decide +kernel
theorem dX10_saveSnapshot_61 : decode cX10_saveSnapshot 61 = .ok (.iload_n 1, 1) := by decide +kernel
theorem dX10_saveSnapshot_62 : decode cX10_saveSnapshot 62 = .ok (.bipush 81, 2) := by decide +kernel
theorem dX10_saveSnapshot_64 : decode cX10_saveSnapshot 64 = .ok (.if_icmp .ge 21, 3) := by decide +kernel
theorem dX10_saveSnapshot_67 : decode cX10_saveSnapshot 67 = .ok (.aload_n 0, 1) := by decide +kernel
theorem dX10_saveSnapshot_68 : decode cX10_saveSnapshot 68 = .ok (.getfield 108, 3) := by decide +kernel
theorem dX10_saveSnapshot_71 : decode cX10_saveSnapshot 71 = .ok (.iload_n 1, 1) := by decide +kernel
theorem dX10_saveSnapshot_72 : decode cX10_saveSnapshot 72 = .ok (.aload_n 0, 1) := by decide +kernel
theorem dX10_saveSnapshot_73 : decode cX10_saveSnapshot 73 = .ok (.getfield 20, 3) := by decide +kernel
theorem dX10_saveSnapshot_76 : decode cX10_saveSnapshot 76 = .ok (.iload_n 1, 1) := by decide +kernel
theorem dX10_saveSnapshot_77 : decode cX10_saveSnapshot 77 = .ok (.iaload, 1) := by decide +kernel
theorem dX10_saveSnapshot_78 : decode cX10_saveSnapshot 78 = .ok (.iastore, 1) := by decide +kernel
theorem dX10_saveSnapshot_79 : decode cX10_saveSnapshot 79 = .ok (.iinc 1 1, 3) := by decide +kernel
theorem dX10_saveSnapshot_82 : decode cX10_saveSnapshot 82 = .ok (.goto (-21), 3) := by decide +kernel
theorem dX10_saveSnapshot_85 : decode cX10_saveSnapshot 85 = .ok (.aload_n 0, 1) := by decide +kernel
theorem dX10_saveSnapshot_86 : decode cX10_saveSnapshot 86 = .ok (.getfield 111, 3) := by decide +kernel
theorem dX10_saveSnapshot_89 : decode cX10_saveSnapshot 89 = .ok (.ireturn, 1) := by decide +kernel
theorem dX10_restoreSnapshot_0 : decode cX10_restoreSnapshot 0 = .ok (.aload_n 0, 1) := by decide +kernel
theorem dX10_restoreSnapshot_1 : decode cX10_restoreSnapshot 1 = .ok (.getfield 296, 3) := by decide +kernel
theorem dX10_restoreSnapshot_4 : decode cX10_restoreSnapshot 4 = .ok (.ifCond .ne 6, 3) := by decide +kernel
theorem dX10_restoreSnapshot_7 : decode cX10_restoreSnapshot 7 = .ok (.bipush (-5), 2) := by decide +kernel
theorem dX10_restoreSnapshot_9 : decode cX10_restoreSnapshot 9 = .ok (.ireturn, 1) := by decide +kernel
theorem dX10_restoreSnapshot_10 : decode cX10_restoreSnapshot 10 = .ok (.aload_n 0, 1) := by decide +kernel
theorem dX10_restoreSnapshot_11 : decode cX10_restoreSnapshot 11 = .ok (.aload_n 0, 1) := by decide +kernel
theorem dX10_restoreSnapshot_12 : decode cX10_restoreSnapshot 12 = .ok (.getfield 299, 3) := by decide +kernel
theorem dX10_restoreSnapshot_15 : decode cX10_restoreSnapshot 15 = .ok (.putfield 7, 3) := by decide +kernel
theorem dX10_restoreSnapshot_18 : decode cX10_restoreSnapshot 18 = .ok (.aload_n 0, 1) := by decide +kernel
theorem dX10_restoreSnapshot_19 : decode cX10_restoreSnapshot 19 = .ok (.aload_n 0, 1) := by decide +kernel
theorem dX10_restoreSnapshot_20 : decode cX10_restoreSnapshot 20 = .ok (.getfield 302, 3) := by decide +kernel
theorem dX10_restoreSnapshot_23 : decode cX10_restoreSnapshot 23 = .ok (.putfield 111, 3) := by decide +kernel
theorem dX10_restoreSnapshot_26 : decode cX10_restoreSnapshot 26 = .ok (.iconst 0, 1) := by decide +kernel
theorem dX10_restoreSnapshot_27 : decode cX10_restoreSnapshot 27 = .ok (.istore_n 1, 1) := by decide +kernel
theorem dX10_restoreSnapshot_28 : decode cX10_restoreSnapshot 28 = .ok (.iload_n 1, 1) := by decide +kernel
theorem dX10_restoreSnapshot_29 : decode cX10_restoreSnapshot 29 = .ok (.bipush 8, 2) := by decide +kernel
theorem dX10_restoreSnapshot_31 : decode cX10_restoreSnapshot 31 = .ok (.if_icmp .ge 33, 3) := by decide +kernel
theorem dX10_restoreSnapshot_34 : decode cX10_restoreSnapshot 34 = .ok (.aload_n 0, 1) := by decide +kernel
theorem dX10_restoreSnapshot_35 : decode cX10_restoreSnapshot 35 = .ok (.getfield 13, 3) := by decide +kernel
theorem dX10_restoreSnapshot_38 : decode cX10_restoreSnapshot 38 = .ok (.iload_n 1, 1) := by decide +kernel
theorem dX10_restoreSnapshot_39 : decode cX10_restoreSnapshot 39 = .ok (.aload_n 0, 1) := by decide +kernel
theorem dX10_restoreSnapshot_40 : decode cX10_restoreSnapshot 40 = .ok (.getfield 102, 3) := by decide +kernel
theorem dX10_restoreSnapshot_43 : decode cX10_restoreSnapshot 43 = .ok (.iload_n 1, 1) := by decide +kernel
theorem dX10_restoreSnapshot_44 : decode cX10_restoreSnapshot 44 = .ok (.iaload, 1) := by decide +kernel
theorem dX10_restoreSnapshot_45 : decode cX10_restoreSnapshot 45 = .ok (.iastore, 1) := by decide +kernel
theorem dX10_restoreSnapshot_46 : decode cX10_restoreSnapshot 46 = .ok (.aload_n 0, 1) := by decide +kernel
theorem dX10_restoreSnapshot_47 : decode cX10_restoreSnapshot 47 = .ok (.getfield 17, 3) := by decide +kernel
theorem dX10_restoreSnapshot_50 : decode cX10_restoreSnapshot 50 = .ok (.iload_n 1, 1) := by decide +kernel
theorem dX10_restoreSnapshot_51 : decode cX10_restoreSnapshot 51 = .ok (.aload_n 0, 1) := by decide +kernel
theorem dX10_restoreSnapshot_52 : decode cX10_restoreSnapshot 52 = .ok (.getfield 105, 3) := by decide +kernel
theorem dX10_restoreSnapshot_55 : decode cX10_restoreSnapshot 55 = .ok (.iload_n 1, 1) := by decide +kernel
theorem dX10_restoreSnapshot_56 : decode cX10_restoreSnapshot 56 = .ok (.iaload, 1) := by decide +kernel
theorem dX10_restoreSnapshot_57 : decode cX10_restoreSnapshot 57 = .ok (.iastore, 1) := by decide +kernel
theorem dX10_restoreSnapshot_58 : decode cX10_restoreSnapshot 58 = .ok (.iinc 1 1, 3) := by decide +kernel
theorem dX10_restoreSnapshot_61 : decode cX10_restoreSnapshot 61 = .ok (.goto (-33), 3) := by decide +kernel
theorem dX10_restoreSnapshot_64 : decode cX10_restoreSnapshot 64 = .ok (.iconst 0, 1) := by decide +kernel
theorem dX10_restoreSnapshot_65 : decode cX10_restoreSnapshot 65 = .ok (.istore_n 1, 1) := by decide +kernel
theorem dX10_restoreSnapshot_66 : decode cX10_restoreSnapshot 66 = .ok (.iload_n 1, 1) := by decide +kernel
theorem dX10_restoreSnapshot_67 : decode cX10_restoreSnapshot 67 = .ok (.bipush 81, 2) := by decide +kernel
theorem dX10_restoreSnapshot_69 : decode cX10_restoreSnapshot 69 = .ok (.if_icmp .ge 21, 3) := by decide +kernel
theorem dX10_restoreSnapshot_72 : decode cX10_restoreSnapshot 72 = .ok (.aload_n 0, 1) := by decide +kernel
theorem dX10_restoreSnapshot_73 : decode cX10_restoreSnapshot 73 = .ok (.getfield 20, 3) := by decide +kernel
theorem dX10_restoreSnapshot_76 : decode cX10_restoreSnapshot 76 = .ok (.iload_n 1, 1) := by decide +kernel
theorem dX10_restoreSnapshot_77 : decode cX10_restoreSnapshot 77 = .ok (.aload_n 0, 1) := by decide +kernel
theorem dX10_restoreSnapshot_78 : decode cX10_restoreSnapshot 78 = .ok (.getfield 108, 3) := by decide +kernel
theorem dX10_restoreSnapshot_81 : decode cX10_restoreSnapshot 81 = .ok (.iload_n 1, 1) := by decide +kernel
theorem dX10_restoreSnapshot_82 : decode cX10_restoreSnapshot 82 = .ok (.iaload, 1) := by decide +kernel
theorem dX10_restoreSnapshot_83 : decode cX10_restoreSnapshot 83 = .ok (.iastore, 1) := by decide +kernel
theorem dX10_restoreSnapshot_84 : decode cX10_restoreSnapshot 84 = .ok (.iinc 1 1, 3) := by decide +kernel
theorem dX10_restoreSnapshot_87 : decode cX10_restoreSnapshot 87 = .ok (.goto (-21), 3) := by decide +kernel
theorem dX10_restoreSnapshot_90 : decode cX10_restoreSnapshot 90 = .ok (.aload_n 0, 1) := by decide +kernel
theorem dX10_restoreSnapshot_91 : decode cX10_restoreSnapshot 91 = .ok (.iconst 0, 1) := by decide +kernel
theorem dX10_restoreSnapshot_92 : decode cX10_restoreSnapshot 92 = .ok (.putfield 122, 3) := by decide +kernel
theorem dX10_restoreSnapshot_95 : decode cX10_restoreSnapshot 95 = .ok (.aload_n 0, 1) := by decide +kernel
theorem dX10_restoreSnapshot_96 : decode cX10_restoreSnapshot 96 = .ok (.getfield 111, 3) := by decide +kernel
theorem dX10_restoreSnapshot_99 : decode cX10_restoreSnapshot 99 = .ok (.ireturn, 1) := by decide +kernel
theorem dJ5_init_d00df_0 : decode cJ5_init_d00df 0 = .ok (.aload_n 0, 1) := by decide +kernel
theorem dJ5_init_d00df_1 : decode cJ5_init_d00df 1 = .ok (.invokespecial 3, 3) := by decide +kernel
theorem dJ5_init_d00df_4 : decode cJ5_init_d00df 4 = .ok (.getstatic 18, 3) := by decide +kernel
theorem dJ5_init_d00df_7 : decode cJ5_init_d00df 7 = .ok (.ifCond .eq 18, 3) := by decide +kernel
theorem dJ5_init_d00df_10 : decode cJ5_init_d00df 10 = .ok (.aload_n 0, 1) := by decide +kernel
theorem dJ5_init_d00df_11 : decode cJ5_init_d00df 11 = .ok (.iload_n 1, 1) := by decide +kernel
theorem dJ5_init_d00df_12 : decode cJ5_init_d00df 12 = .ok (.newarray .byte, 2) := by decide +kernel
theorem dJ5_init_d00df_14 : decode cJ5_init_d00df 14 = .ok (.putfield 15, 3) := by decide +kernel
theorem dJ5_init_d00df_17 : decode cJ5_init_d00df 17 = .ok (.aload_n 0, 1) := by decide +kernel
theorem dJ5_init_d00df_18 : decode cJ5_init_d00df 18 = .ok (.iconst 0, 1) := by decide +kernel
theorem dJ5_init_d00df_19 : decode cJ5_init_d00df 19 = .ok (.putfield 22, 3) := by decide +kernel
theorem dJ5_init_d00df_22 : decode cJ5_init_d00df 22 = .ok (.goto 16, 3) := by decide +kernel
theorem dJ5_init_d00df_25 : decode cJ5_init_d00df 25 = .ok (.aload_n 0, 1) := by decide +kernel
theorem dJ5_init_d00df_26 : decode cJ5_init_d00df 26 = .ok (.iload_n 1, 1) := by decide +kernel
theorem dJ5_init_d00df_27 : decode cJ5_init_d00df 27 = .ok (.invokestatic 26, 3) := by decide +kernel
theorem dJ5_init_d00df_30 : decode cJ5_init_d00df 30 = .ok (.putfield 15, 3) := by decide +kernel
theorem dJ5_init_d00df_33 : decode cJ5_init_d00df 33 = .ok (.aload_n 0, 1) := by decide +kernel
theorem dJ5_init_d00df_34 : decode cJ5_init_d00df 34 = .ok (.iconst 1, 1) := by decide +kernel
theorem dJ5_init_d00df_35 : decode cJ5_init_d00df 35 = .ok (.putfield 22, 3) := by decide +kernel
theorem dJ5_init_d00df_38 : decode cJ5_init_d00df 38 = .ok (.return_, 1) := by decide +kernel
theorem dJ5_length_8abf5_0 : decode cJ5_length_8abf5 0 = .ok (.aload_n 0, 1) := by decide +kernel
theorem dJ5_length_8abf5_1 : decode cJ5_length_8abf5 1 = .ok (.getfield 79, 3) := by decide +kernel
theorem dJ5_length_8abf5_4 : decode cJ5_length_8abf5 4 = .ok (.ireturn, 1) := by decide +kernel
theorem dJ5_ensureCapacityInternal_d00df_0 : decode cJ5_ensureCapacityInternal_d00df 0 = .ok (.aload_n 0, 1) := by decide +kernel
theorem dJ5_ensureCapacityInternal_d00df_1 : decode cJ5_ensureCapacityInternal_d00df 1 = .ok (.getfield 15, 3) := by decide +kernel
theorem dJ5_ensureCapacityInternal_d00df_4 : decode cJ5_ensureCapacityInternal_d00df 4 = .ok (.arraylength, 1) := by decide +kernel
theorem dJ5_ensureCapacityInternal_d00df_5 : decode cJ5_ensureCapacityInternal_d00df 5 = .ok (.aload_n 0, 1) := by decide +kernel
theorem dJ5_ensureCapacityInternal_d00df_6 : decode cJ5_ensureCapacityInternal_d00df 6 = .ok (.getfield 22, 3) := by decide +kernel
theorem dJ5_ensureCapacityInternal_d00df_9 : decode cJ5_ensureCapacityInternal_d00df 9 = .ok (.ishr, 1) := by decide +kernel
theorem dJ5_ensureCapacityInternal_d00df_10 : decode cJ5_ensureCapacityInternal_d00df 10 = .ok (.istore_n 2, 1) := by decide +kernel
theorem dJ5_ensureCapacityInternal_d00df_11 : decode cJ5_ensureCapacityInternal_d00df 11 = .ok (.iload_n 1, 1) := by decide +kernel
theorem dJ5_ensureCapacityInternal_d00df_12 : decode cJ5_ensureCapacityInternal_d00df 12 = .ok (.iload_n 2, 1) := by decide +kernel
theorem dJ5_ensureCapacityInternal_d00df_13 : decode cJ5_ensureCapacityInternal_d00df 13 = .ok (.isub, 1) := by decide +kernel
theorem dJ5_ensureCapacityInternal_d00df_14 : decode cJ5_ensureCapacityInternal_d00df 14 = .ok (.ifCond .le 24, 3) := by decide +kernel
theorem dJ5_ensureCapacityInternal_d00df_17 : decode cJ5_ensureCapacityInternal_d00df 17 = .ok (.aload_n 0, 1) := by decide +kernel
theorem dJ5_ensureCapacityInternal_d00df_18 : decode cJ5_ensureCapacityInternal_d00df 18 = .ok (.aload_n 0, 1) := by decide +kernel
theorem dJ5_ensureCapacityInternal_d00df_19 : decode cJ5_ensureCapacityInternal_d00df 19 = .ok (.getfield 15, 3) := by decide +kernel
theorem dJ5_ensureCapacityInternal_d00df_22 : decode cJ5_ensureCapacityInternal_d00df 22 = .ok (.aload_n 0, 1) := by decide +kernel
theorem dJ5_ensureCapacityInternal_d00df_23 : decode cJ5_ensureCapacityInternal_d00df 23 = .ok (.iload_n 1, 1) := by decide +kernel
theorem dJ5_ensureCapacityInternal_d00df_24 : decode cJ5_ensureCapacityInternal_d00df 24 = .ok (.invokevirtual 104, 3) := by decide +kernel
theorem dJ5_ensureCapacityInternal_d00df_27 : decode cJ5_ensureCapacityInternal_d00df 27 = .ok (.aload_n 0, 1) := by decide +kernel
theorem dJ5_ensureCapacityInternal_d00df_28 : decode cJ5_ensureCapacityInternal_d00df 28 = .ok (.getfield 22, 3) := by decide +kernel
theorem dJ5_ensureCapacityInternal_d00df_31 : decode cJ5_ensureCapacityInternal_d00df 31 = .ok (.ishl, 1) := by decide +kernel
theorem dJ5_ensureCapacityInternal_d00df_32 : decode cJ5_ensureCapacityInternal_d00df 32 = .ok (.invokestatic 108, 3) := by decide +kernel
theorem dJ5_ensureCapacityInternal_d00df_35 : decode cJ5_ensureCapacityInternal_d00df 35 = .ok (.putfield 15, 3) := by decide +kernel
theorem dJ5_ensureCapacityInternal_d00df_38 : decode cJ5_ensureCapacityInternal_d00df 38 = .ok (.return_, 1) := by decide +kernel
theorem dJ5_newCapacity_0f7a4_0 : decode cJ5_newCapacity_0f7a4 0 = .ok (.aload_n 0, 1) := by decide +kernel
theorem dJ5_newCapacity_0f7a4_1 : decode cJ5_newCapacity_0f7a4 1 = .ok (.getfield 15, 3) := by decide +kernel
theorem dJ5_newCapacity_0f7a4_4 : decode cJ5_newCapacity_0f7a4 4 = .ok (.arraylength, 1) := by decide +kernel
theorem dJ5_newCapacity_0f7a4_5 : decode cJ5_newCapacity_0f7a4 5 = .ok (.istore_n 2, 1) := by decide +kernel
theorem dJ5_newCapacity_0f7a4_6 : decode cJ5_newCapacity_0f7a4 6 = .ok (.iload_n 1, 1) := by decide +kernel
theorem dJ5_newCapacity_0f7a4_7 : decode cJ5_newCapacity_0f7a4 7 = .ok (.aload_n 0, 1) := by decide +kernel
theorem dJ5_newCapacity_0f7a4_8 : decode cJ5_newCapacity_0f7a4 8 = .ok (.getfield 22, 3) := by decide +kernel
theorem dJ5_newCapacity_0f7a4_11 : decode cJ5_newCapacity_0f7a4 11 = .ok (.ishl, 1) := by decide +kernel
theorem dJ5_newCapacity_0f7a4_12 : decode cJ5_newCapacity_0f7a4 12 = .ok (.istore_n 3, 1) := by decide +kernel
theorem dJ5_newCapacity_0f7a4_13 : decode cJ5_newCapacity_0f7a4 13 = .ok (.iload_n 3, 1) := by decide +kernel
theorem dJ5_newCapacity_0f7a4_14 : decode cJ5_newCapacity_0f7a4 14 = .ok (.iload_n 2, 1) := by decide +kernel
theorem dJ5_newCapacity_0f7a4_15 : decode cJ5_newCapacity_0f7a4 15 = .ok (.isub, 1) := by decide +kernel
theorem dJ5_newCapacity_0f7a4_16 : decode cJ5_newCapacity_0f7a4 16 = .ok (.istore 4, 2) := by decide +kernel
theorem dJ5_newCapacity_0f7a4_18 : decode cJ5_newCapacity_0f7a4 18 = .ok (.iload_n 2, 1) := by decide +kernel
theorem dJ5_newCapacity_0f7a4_19 : decode cJ5_newCapacity_0f7a4 19 = .ok (.iload 4, 2) := by decide +kernel
theorem dJ5_newCapacity_0f7a4_21 : decode cJ5_newCapacity_0f7a4 21 = .ok (.iload_n 2, 1) := by decide +kernel
theorem dJ5_newCapacity_0f7a4_22 : decode cJ5_newCapacity_0f7a4 22 = .ok (.iconst 2, 1) := by decide +kernel
theorem dJ5_newCapacity_0f7a4_23 : decode cJ5_newCapacity_0f7a4 23 = .ok (.aload_n 0, 1) := by decide +kernel
theorem dJ5_newCapacity_0f7a4_24 : decode cJ5_newCapacity_0f7a4 24 = .ok (.getfield 22, 3) := by decide +kernel
theorem dJ5_newCapacity_0f7a4_27 : decode cJ5_newCapacity_0f7a4 27 = .ok (.ishl, 1) := by decide +kernel
theorem dJ5_newCapacity_0f7a4_28 : decode cJ5_newCapacity_0f7a4 28 = .ok (.iadd, 1) := by decide +kernel
theorem dJ5_newCapacity_0f7a4_29 : decode cJ5_newCapacity_0f7a4 29 = .ok (.invokestatic 114, 3) := by decide +kernel
theorem dJ5_newCapacity_0f7a4_32 : decode cJ5_newCapacity_0f7a4 32 = .ok (.istore 5, 2) := by decide +kernel
theorem dJ5_newCapacity_0f7a4_34 : decode cJ5_newCapacity_0f7a4 34 = .ok (.iload 5, 2) := by decide +kernel
theorem dJ5_newCapacity_0f7a4_36 : decode cJ5_newCapacity_0f7a4 36 = .ok (.ldc 39, 2) := by decide +kernel
theorem dJ5_newCapacity_0f7a4_38 : decode cJ5_newCapacity_0f7a4 38 = .ok (.if_icmp .ne 13, 3) := by decide +kernel
theorem dJ5_newCapacity_0f7a4_41 : decode cJ5_newCapacity_0f7a4 41 = .ok (.new 120, 3) := by decide +kernel
theorem dJ5_newCapacity_0f7a4_44 : decode cJ5_newCapacity_0f7a4 44 = .ok (.dup, 1) := by decide +kernel
theorem dJ5_newCapacity_0f7a4_45 : decode cJ5_newCapacity_0f7a4 45 = .ok (.ldc 122, 2) := by decide +kernel
theorem dJ5_newCapacity_0f7a4_47 : decode cJ5_newCapacity_0f7a4 47 = .ok (.invokespecial 124, 3) := by decide +kernel
theorem dJ5_newCapacity_0f7a4_50 : decode cJ5_newCapacity_0f7a4 50 = .ok (.athrow, 1) := by decide +kernel
theorem dJ5_newCapacity_0f7a4_51 : decode cJ5_newCapacity_0f7a4 51 = .ok (.iload 5, 2) := by decide +kernel
theorem dJ5_newCapacity_0f7a4_53 : decode cJ5_newCapacity_0f7a4 53 = .ok (.aload_n 0, 1) := by decide +kernel
theorem dJ5_newCapacity_0f7a4_54 : decode cJ5_newCapacity_0f7a4 54 = .ok (.getfield 22, 3) := by decide +kernel
theorem dJ5_newCapacity_0f7a4_57 : decode cJ5_newCapacity_0f7a4 57 = .ok (.ishr, 1) := by decide +kernel
theorem dJ5_newCapacity_0f7a4_58 : decode cJ5_newCapacity_0f7a4 58 = .ok (.ireturn, 1) := by decide +kernel
theorem dJ5_inflate_da8c8_0 : decode cJ5_inflate_da8c8 0 = .ok (.aload_n 0, 1) := by decide +kernel
theorem dJ5_inflate_da8c8_1 : decode cJ5_inflate_da8c8 1 = .ok (.invokevirtual 83, 3) := by decide +kernel
theorem dJ5_inflate_da8c8_4 : decode cJ5_inflate_da8c8 4 = .ok (.ifCond .ne 4, 3) := by decide +kernel
theorem dJ5_inflate_da8c8_7 : decode cJ5_inflate_da8c8 7 = .ok (.return_, 1) := by decide +kernel
theorem dJ5_inflate_da8c8_8 : decode cJ5_inflate_da8c8 8 = .ok (.aload_n 0, 1) := by decide +kernel
theorem dJ5_inflate_da8c8_9 : decode cJ5_inflate_da8c8 9 = .ok (.getfield 15, 3) := by decide +kernel
theorem dJ5_inflate_da8c8_12 : decode cJ5_inflate_da8c8 12 = .ok (.arraylength, 1) := by decide +kernel
theorem dJ5_inflate_da8c8_13 : decode cJ5_inflate_da8c8 13 = .ok (.invokestatic 26, 3) := by decide +kernel
theorem dJ5_inflate_da8c8_16 : decode cJ5_inflate_da8c8 16 = .ok (.astore_n 1, 1) := by decide +kernel
theorem dJ5_inflate_da8c8_17 : decode cJ5_inflate_da8c8 17 = .ok (.aload_n 0, 1) := by decide +kernel
theorem dJ5_inflate_da8c8_18 : decode cJ5_inflate_da8c8 18 = .ok (.getfield 15, 3) := by decide +kernel
theorem dJ5_inflate_da8c8_21 : decode cJ5_inflate_da8c8 21 = .ok (.iconst 0, 1) := by decide +kernel
theorem dJ5_inflate_da8c8_22 : decode cJ5_inflate_da8c8 22 = .ok (.aload_n 1, 1) := by decide +kernel
theorem dJ5_inflate_da8c8_23 : decode cJ5_inflate_da8c8 23 = .ok (.iconst 0, 1) := by decide +kernel
theorem dJ5_inflate_da8c8_24 : decode cJ5_inflate_da8c8 24 = .ok (.aload_n 0, 1) := by decide +kernel
theorem dJ5_inflate_da8c8_25 : decode cJ5_inflate_da8c8 25 = .ok (.getfield 79, 3) := by decide +kernel
theorem dJ5_inflate_da8c8_28 : decode cJ5_inflate_da8c8 28 = .ok (.invokestatic 125, 3) := by decide +kernel
theorem dJ5_inflate_da8c8_31 : decode cJ5_inflate_da8c8 31 = .ok (.aload_n 0, 1) := by decide +kernel
theorem dJ5_inflate_da8c8_32 : decode cJ5_inflate_da8c8 32 = .ok (.aload_n 1, 1) := by decide +kernel
theorem dJ5_inflate_da8c8_33 : decode cJ5_inflate_da8c8 33 = .ok (.putfield 15, 3) := by decide +kernel
theorem dJ5_inflate_da8c8_36 : decode cJ5_inflate_da8c8 36 = .ok (.aload_n 0, 1) := by decide +kernel
theorem dJ5_inflate_da8c8_37 : decode cJ5_inflate_da8c8 37 = .ok (.iconst 1, 1) := by decide +kernel
theorem dJ5_inflate_da8c8_38 : decode cJ5_inflate_da8c8 38 = .ok (.putfield 22, 3) := by decide +kernel
theorem dJ5_inflate_da8c8_41 : decode cJ5_inflate_da8c8 41 = .ok (.return_, 1) := by decide +kernel
theorem dJ5_setLength_d00df_0 : decode cJ5_setLength_d00df 0 = .ok (.iload_n 1, 1) := by decide +kernel
theorem dJ5_setLength_d00df_1 : decode cJ5_setLength_d00df 1 = .ok (.ifCond .ge 12, 3) := by decide +kernel
theorem dJ5_setLength_d00df_4 : decode cJ5_setLength_d00df 4 = .ok (.new 129, 3) := by decide +kernel
theorem dJ5_setLength_d00df_7 : decode cJ5_setLength_d00df 7 = .ok (.dup, 1) := by decide +kernel
theorem dJ5_setLength_d00df_8 : decode cJ5_setLength_d00df 8 = .ok (.iload_n 1, 1) := by decide +kernel
theorem dJ5_setLength_d00df_9 : decode cJ5_setLength_d00df 9 = .ok (.invokespecial 131, 3) := by decide +kernel
theorem dJ5_setLength_d00df_12 : decode cJ5_setLength_d00df 12 = .ok (.athrow, 1) := by decide +kernel
theorem dJ5_setLength_d00df_13 : decode cJ5_setLength_d00df 13 = .ok (.aload_n 0, 1) := by decide +kernel
theorem dJ5_setLength_d00df_14 : decode cJ5_setLength_d00df 14 = .ok (.iload_n 1, 1) := by decide +kernel
theorem dJ5_setLength_d00df_15 : decode cJ5_setLength_d00df 15 = .ok (.invokevirtual 100, 3) := by decide +kernel
theorem dJ5_setLength_d00df_18 : decode cJ5_setLength_d00df 18 = .ok (.aload_n 0, 1) := by decide +kernel
theorem dJ5_setLength_d00df_19 : decode cJ5_setLength_d00df 19 = .ok (.getfield 79, 3) := by decide +kernel
theorem dJ5_setLength_d00df_22 : decode cJ5_setLength_d00df 22 = .ok (.iload_n 1, 1) := by decide +kernel
theorem dJ5_setLength_d00df_23 : decode cJ5_setLength_d00df 23 = .ok (.if_icmp .ge 40, 3) := by decide +kernel
theorem dJ5_setLength_d00df_26 : decode cJ5_setLength_d00df 26 = .ok (.aload_n 0, 1) := by decide +kernel
theorem dJ5_setLength_d00df_27 : decode cJ5_setLength_d00df 27 = .ok (.invokevirtual 83, 3) := by decide +kernel
theorem dJ5_setLength_d00df_30 : decode cJ5_setLength_d00df 30 = .ok (.ifCond .eq 18, 3) := by decide +kernel
theorem dJ5_setLength_d00df_33 : decode cJ5_setLength_d00df 33 = .ok (.aload_n 0, 1) := by decide +kernel
theorem dJ5_setLength_d00df_34 : decode cJ5_setLength_d00df 34 = .ok (.getfield 15, 3) := by decide +kernel
theorem dJ5_setLength_d00df_37 : decode cJ5_setLength_d00df 37 = .ok (.aload_n 0, 1) := by decide +kernel
theorem dJ5_setLength_d00df_38 : decode cJ5_setLength_d00df 38 = .ok (.getfield 79, 3) := by decide +kernel
theorem dJ5_setLength_d00df_41 : decode cJ5_setLength_d00df 41 = .ok (.iload_n 1, 1) := by decide +kernel
theorem dJ5_setLength_d00df_42 : decode cJ5_setLength_d00df 42 = .ok (.invokestatic 133, 3) := by decide +kernel
theorem dJ5_setLength_d00df_45 : decode cJ5_setLength_d00df 45 = .ok (.goto 31, 3) := by decide +kernel
theorem dJ5_setLength_d00df_48 : decode cJ5_setLength_d00df 48 = .ok (.aload_n 0, 1) := by decide +kernel
theorem dJ5_setLength_d00df_49 : decode cJ5_setLength_d00df 49 = .ok (.getfield 15, 3) := by decide +kernel
theorem dJ5_setLength_d00df_52 : decode cJ5_setLength_d00df 52 = .ok (.aload_n 0, 1) := by decide +kernel
theorem dJ5_setLength_d00df_53 : decode cJ5_setLength_d00df 53 = .ok (.getfield 79, 3) := by decide +kernel
theorem dJ5_setLength_d00df_56 : decode cJ5_setLength_d00df 56 = .ok (.iload_n 1, 1) := by decide +kernel
theorem dJ5_setLength_d00df_57 : decode cJ5_setLength_d00df 57 = .ok (.invokestatic 137, 3) := by decide +kernel
theorem dJ5_setLength_d00df_60 : decode cJ5_setLength_d00df 60 = .ok (.goto 16, 3) := by decide +kernel
theorem dJ5_setLength_d00df_63 : decode cJ5_setLength_d00df 63 = .ok (.aload_n 0, 1) := by decide +kernel
theorem dJ5_setLength_d00df_64 : decode cJ5_setLength_d00df 64 = .ok (.getfield 79, 3) := by decide +kernel
theorem dJ5_setLength_d00df_67 : decode cJ5_setLength_d00df 67 = .ok (.iload_n 1, 1) := by decide +kernel
theorem dJ5_setLength_d00df_68 : decode cJ5_setLength_d00df 68 = .ok (.if_icmp .le 8, 3) := by decide +kernel
theorem dJ5_setLength_d00df_71 : decode cJ5_setLength_d00df 71 = .ok (.aload_n 0, 1) := by decide +kernel
theorem dJ5_setLength_d00df_72 : decode cJ5_setLength_d00df 72 = .ok (.iconst 1, 1) := by decide +kernel
theorem dJ5_setLength_d00df_73 : decode cJ5_setLength_d00df 73 = .ok (.putfield 73, 3) := by decide +kernel
theorem dJ5_setLength_d00df_76 : decode cJ5_setLength_d00df 76 = .ok (.aload_n 0, 1) := by decide +kernel
theorem dJ5_setLength_d00df_77 : decode cJ5_setLength_d00df 77 = .ok (.iload_n 1, 1) := by decide +kernel
theorem dJ5_setLength_d00df_78 : decode cJ5_setLength_d00df 78 = .ok (.putfield 79, 3) := by decide +kernel
theorem dJ5_setLength_d00df_81 : decode cJ5_setLength_d00df 81 = .ok (.return_, 1) := by decide +kernel
theorem dJ5_charAt_5068e_0 : decode cJ5_charAt_5068e 0 = .ok (.aload_n 0, 1) := by decide +kernel
theorem dJ5_charAt_5068e_1 : decode cJ5_charAt_5068e 1 = .ok (.getfield 22, 3) := by decide +kernel
theorem dJ5_charAt_5068e_4 : decode cJ5_charAt_5068e 4 = .ok (.istore_n 2, 1) := by decide +kernel
theorem dJ5_charAt_5068e_5 : decode cJ5_charAt_5068e 5 = .ok (.aload_n 0, 1) := by decide +kernel
theorem dJ5_charAt_5068e_6 : decode cJ5_charAt_5068e 6 = .ok (.getfield 15, 3) := by decide +kernel
theorem dJ5_charAt_5068e_9 : decode cJ5_charAt_5068e 9 = .ok (.astore_n 3, 1) := by decide +kernel
theorem dJ5_charAt_5068e_10 : decode cJ5_charAt_5068e 10 = .ok (.aload_n 0, 1) := by decide +kernel
theorem dJ5_charAt_5068e_11 : decode cJ5_charAt_5068e 11 = .ok (.getfield 79, 3) := by decide +kernel
theorem dJ5_charAt_5068e_14 : decode cJ5_charAt_5068e 14 = .ok (.aload_n 3, 1) := by decide +kernel
theorem dJ5_charAt_5068e_15 : decode cJ5_charAt_5068e 15 = .ok (.arraylength, 1) := by decide +kernel
theorem dJ5_charAt_5068e_16 : decode cJ5_charAt_5068e 16 = .ok (.iload_n 2, 1) := by decide +kernel
theorem dJ5_charAt_5068e_17 : decode cJ5_charAt_5068e 17 = .ok (.ishr, 1) := by decide +kernel
theorem dJ5_charAt_5068e_18 : decode cJ5_charAt_5068e 18 = .ok (.invokestatic 138, 3) := by decide +kernel
theorem dJ5_charAt_5068e_21 : decode cJ5_charAt_5068e 21 = .ok (.istore 4, 2) := by decide +kernel
theorem dJ5_charAt_5068e_23 : decode cJ5_charAt_5068e 23 = .ok (.iload_n 1, 1) := by decide +kernel
theorem dJ5_charAt_5068e_24 : decode cJ5_charAt_5068e 24 = .ok (.iload 4, 2) := by decide +kernel
theorem dJ5_charAt_5068e_26 : decode cJ5_charAt_5068e 26 = .ok (.invokestatic 144, 3) := by decide +kernel
theorem dJ5_charAt_5068e_29 : decode cJ5_charAt_5068e 29 = .ok (.iload_n 2, 1) := by decide +kernel
theorem dJ5_charAt_5068e_30 : decode cJ5_charAt_5068e 30 = .ok (.ifCond .ne 12, 3) := by decide +kernel
theorem dJ5_charAt_5068e_33 : decode cJ5_charAt_5068e 33 = .ok (.aload_n 3, 1) := by decide +kernel
theorem dJ5_charAt_5068e_34 : decode cJ5_charAt_5068e 34 = .ok (.iload_n 1, 1) := by decide +kernel
theorem dJ5_charAt_5068e_35 : decode cJ5_charAt_5068e 35 = .ok (.baload, 1) := by decide +kernel
theorem dJ5_charAt_5068e_36 : decode cJ5_charAt_5068e 36 = .ok (.sipush 255, 3) := by decide +kernel
theorem dJ5_charAt_5068e_39 : decode cJ5_charAt_5068e 39 = .ok (.iand, 1) := by decide +kernel
theorem dJ5_charAt_5068e_40 : decode cJ5_charAt_5068e 40 = .ok (.i2c, 1) := by decide +kernel
theorem dJ5_charAt_5068e_41 : decode cJ5_charAt_5068e 41 = .ok (.ireturn, 1) := by decide +kernel
theorem dJ5_charAt_5068e_42 : decode cJ5_charAt_5068e 42 = .ok (.aload_n 3, 1) := by decide +kernel
theorem dJ5_charAt_5068e_43 : decode cJ5_charAt_5068e 43 = .ok (.iload_n 1, 1) := by decide +kernel
theorem dJ5_charAt_5068e_44 : decode cJ5_charAt_5068e 44 = .ok (.invokestatic 148, 3) := by decide +kernel
theorem dJ5_charAt_5068e_47 : decode cJ5_charAt_5068e 47 = .ok (.ireturn, 1) := by decide +kernel
theorem dJ5_append_3fe6f_0 : decode cJ5_append_3fe6f 0 = .ok (.aload_n 0, 1) := by decide +kernel
theorem dJ5_append_3fe6f_1 : decode cJ5_append_3fe6f 1 = .ok (.aload_n 0, 1) := by decide +kernel
theorem dJ5_append_3fe6f_2 : decode cJ5_append_3fe6f 2 = .ok (.getfield 79, 3) := by decide +kernel
theorem dJ5_append_3fe6f_5 : decode cJ5_append_3fe6f 5 = .ok (.iconst 1, 1) := by decide +kernel
theorem dJ5_append_3fe6f_6 : decode cJ5_append_3fe6f 6 = .ok (.iadd, 1) := by decide +kernel
theorem dJ5_append_3fe6f_7 : decode cJ5_append_3fe6f 7 = .ok (.invokevirtual 100, 3) := by decide +kernel
theorem dJ5_append_3fe6f_10 : decode cJ5_append_3fe6f 10 = .ok (.aload_n 0, 1) := by decide +kernel
theorem dJ5_append_3fe6f_11 : decode cJ5_append_3fe6f 11 = .ok (.invokevirtual 83, 3) := by decide +kernel
theorem dJ5_append_3fe6f_14 : decode cJ5_append_3fe6f 14 = .ok (.ifCond .eq 31, 3) := by decide +kernel
theorem dJ5_append_3fe6f_17 : decode cJ5_append_3fe6f 17 = .ok (.iload_n 1, 1) := by decide +kernel
theorem dJ5_append_3fe6f_18 : decode cJ5_append_3fe6f 18 = .ok (.invokestatic 191, 3) := by decide +kernel
theorem dJ5_append_3fe6f_21 : decode cJ5_append_3fe6f 21 = .ok (.ifCond .eq 24, 3) := by decide +kernel
theorem dJ5_append_3fe6f_24 : decode cJ5_append_3fe6f 24 = .ok (.aload_n 0, 1) := by decide +kernel
theorem dJ5_append_3fe6f_25 : decode cJ5_append_3fe6f 25 = .ok (.getfield 15, 3) := by decide +kernel
theorem dJ5_append_3fe6f_28 : decode cJ5_append_3fe6f 28 = .ok (.aload_n 0, 1) := by decide +kernel
theorem dJ5_append_3fe6f_29 : decode cJ5_append_3fe6f 29 = .ok (.dup, 1) := by decide +kernel
theorem dJ5_append_3fe6f_30 : decode cJ5_append_3fe6f 30 = .ok (.getfield 79, 3) := by decide +kernel
theorem dJ5_append_3fe6f_33 : decode cJ5_append_3fe6f 33 = .ok (.dup_x1, 1) := by decide +kernel
theorem dJ5_append_3fe6f_34 : decode cJ5_append_3fe6f 34 = .ok (.iconst 1, 1) := by decide +kernel
theorem dJ5_append_3fe6f_35 : decode cJ5_append_3fe6f 35 = .ok (.iadd, 1) := by decide +kernel
theorem dJ5_append_3fe6f_36 : decode cJ5_append_3fe6f 36 = .ok (.putfield 79, 3) := by decide +kernel
theorem dJ5_append_3fe6f_39 : decode cJ5_append_3fe6f 39 = .ok (.iload_n 1, 1) := by decide +kernel
theorem dJ5_append_3fe6f_40 : decode cJ5_append_3fe6f 40 = .ok (.i2b, 1) := by decide +kernel
theorem dJ5_append_3fe6f_41 : decode cJ5_append_3fe6f 41 = .ok (.bastore, 1) := by decide +kernel
theorem dJ5_append_3fe6f_42 : decode cJ5_append_3fe6f 42 = .ok (.goto 33, 3) := by decide +kernel
theorem dJ5_append_3fe6f_45 : decode cJ5_append_3fe6f 45 = .ok (.aload_n 0, 1) := by decide +kernel
theorem dJ5_append_3fe6f_46 : decode cJ5_append_3fe6f 46 = .ok (.invokevirtual 83, 3) := by decide +kernel
theorem dJ5_append_3fe6f_49 : decode cJ5_append_3fe6f 49 = .ok (.ifCond .eq 7, 3) := by decide +kernel
theorem dJ5_append_3fe6f_52 : decode cJ5_append_3fe6f 52 = .ok (.aload_n 0, 1) := by decide +kernel
theorem dJ5_append_3fe6f_53 : decode cJ5_append_3fe6f 53 = .ok (.invokevirtual 195, 3) := by decide +kernel
theorem dJ5_append_3fe6f_56 : decode cJ5_append_3fe6f 56 = .ok (.aload_n 0, 1) := by decide +kernel
theorem dJ5_append_3fe6f_57 : decode cJ5_append_3fe6f 57 = .ok (.getfield 15, 3) := by decide +kernel
theorem dJ5_append_3fe6f_60 : decode cJ5_append_3fe6f 60 = .ok (.aload_n 0, 1) := by decide +kernel
theorem dJ5_append_3fe6f_61 : decode cJ5_append_3fe6f 61 = .ok (.dup, 1) := by decide +kernel
theorem dJ5_append_3fe6f_62 : decode cJ5_append_3fe6f 62 = .ok (.getfield 79, 3) := by decide +kernel
theorem dJ5_append_3fe6f_65 : decode cJ5_append_3fe6f 65 = .ok (.dup_x1, 1) := by decide +kernel
theorem dJ5_append_3fe6f_66 : decode cJ5_append_3fe6f 66 = .ok (.iconst 1, 1) := by decide +kernel
theorem dJ5_append_3fe6f_67 : decode cJ5_append_3fe6f 67 = .ok (.iadd, 1) := by decide +kernel
theorem dJ5_append_3fe6f_68 : decode cJ5_append_3fe6f 68 = .ok (.putfield 79, 3) := by decide +kernel
theorem dJ5_append_3fe6f_71 : decode cJ5_append_3fe6f 71 = .ok (.iload_n 1, 1) := by decide +kernel
theorem dJ5_append_3fe6f_72 : decode cJ5_append_3fe6f 72 = .ok (.invokestatic 197, 3) := by decide +kernel
theorem dJ5_append_3fe6f_75 : decode cJ5_append_3fe6f 75 = .ok (.aload_n 0, 1) := by decide +kernel
theorem dJ5_append_3fe6f_76 : decode cJ5_append_3fe6f 76 = .ok (.areturn, 1) := by decide +kernel
theorem dJ5_append_c97b9_0 : decode cJ5_append_c97b9 0 = .ok (.aload_n 0, 1) := by decide +kernel
theorem dJ5_append_c97b9_1 : decode cJ5_append_c97b9 1 = .ok (.getfield 79, 3) := by decide +kernel
theorem dJ5_append_c97b9_4 : decode cJ5_append_c97b9 4 = .ok (.istore_n 2, 1) := by decide +kernel
theorem dJ5_append_c97b9_5 : decode cJ5_append_c97b9 5 = .ok (.iload_n 2, 1) := by decide +kernel
theorem dJ5_append_c97b9_6 : decode cJ5_append_c97b9 6 = .ok (.iload_n 1, 1) := by decide +kernel
theorem dJ5_append_c97b9_7 : decode cJ5_append_c97b9 7 = .ok (.invokestatic 245, 3) := by decide +kernel
theorem dJ5_append_c97b9_10 : decode cJ5_append_c97b9 10 = .ok (.iadd, 1) := by decide +kernel
theorem dJ5_append_c97b9_11 : decode cJ5_append_c97b9 11 = .ok (.istore_n 3, 1) := by decide +kernel
theorem dJ5_append_c97b9_12 : decode cJ5_append_c97b9 12 = .ok (.aload_n 0, 1) := by decide +kernel
theorem dJ5_append_c97b9_13 : decode cJ5_append_c97b9 13 = .ok (.iload_n 3, 1) := by decide +kernel
theorem dJ5_append_c97b9_14 : decode cJ5_append_c97b9 14 = .ok (.invokevirtual 100, 3) := by decide +kernel
theorem dJ5_append_c97b9_17 : decode cJ5_append_c97b9 17 = .ok (.aload_n 0, 1) := by decide +kernel
theorem dJ5_append_c97b9_18 : decode cJ5_append_c97b9 18 = .ok (.invokevirtual 83, 3) := by decide +kernel
theorem dJ5_append_c97b9_21 : decode cJ5_append_c97b9 21 = .ok (.ifCond .eq 16, 3) := by decide +kernel
theorem dJ5_append_c97b9_24 : decode cJ5_append_c97b9 24 = .ok (.iload_n 1, 1) := by decide +kernel
theorem dJ5_append_c97b9_25 : decode cJ5_append_c97b9 25 = .ok (.iload_n 3, 1) := by decide +kernel
theorem dJ5_append_c97b9_26 : decode cJ5_append_c97b9 26 = .ok (.aload_n 0, 1) := by decide +kernel
theorem dJ5_append_c97b9_27 : decode cJ5_append_c97b9 27 = .ok (.getfield 15, 3) := by decide +kernel
theorem dJ5_append_c97b9_30 : decode cJ5_append_c97b9 30 = .ok (.invokestatic 248, 3) := by decide +kernel
theorem dJ5_append_c97b9_33 : decode cJ5_append_c97b9 33 = .ok (.pop, 1) := by decide +kernel
theorem dJ5_append_c97b9_34 : decode cJ5_append_c97b9 34 = .ok (.goto 14, 3) := by decide +kernel
theorem dJ5_append_c97b9_37 : decode cJ5_append_c97b9 37 = .ok (.iload_n 1, 1) := by decide +kernel
theorem dJ5_append_c97b9_38 : decode cJ5_append_c97b9 38 = .ok (.iload_n 2, 1) := by decide +kernel
theorem dJ5_append_c97b9_39 : decode cJ5_append_c97b9 39 = .ok (.iload_n 3, 1) := by decide +kernel
theorem dJ5_append_c97b9_40 : decode cJ5_append_c97b9 40 = .ok (.aload_n 0, 1) := by decide +kernel
theorem dJ5_append_c97b9_41 : decode cJ5_append_c97b9 41 = .ok (.getfield 15, 3) := by decide +kernel
theorem dJ5_append_c97b9_44 : decode cJ5_append_c97b9 44 = .ok (.invokestatic 251, 3) := by decide +kernel
theorem dJ5_append_c97b9_47 : decode cJ5_append_c97b9 47 = .ok (.pop, 1) := by decide +kernel
theorem dJ5_append_c97b9_48 : decode cJ5_append_c97b9 48 = .ok (.aload_n 0, 1) := by decide +kernel
theorem dJ5_append_c97b9_49 : decode cJ5_append_c97b9 49 = .ok (.iload_n 3, 1) := by decide +kernel
theorem dJ5_append_c97b9_50 : decode cJ5_append_c97b9 50 = .ok (.putfield 79, 3) := by decide +kernel
theorem dJ5_append_c97b9_53 : decode cJ5_append_c97b9 53 = .ok (.aload_n 0, 1) := by decide +kernel
theorem dJ5_append_c97b9_54 : decode cJ5_append_c97b9 54 = .ok (.areturn, 1) := by decide +kernel
theorem dJ5_isLatin1_aae02_0 : decode cJ5_isLatin1_aae02 0 = .ok (.getstatic 18, 3) := by decide +kernel
theorem dJ5_isLatin1_aae02_3 : decode cJ5_isLatin1_aae02 3 = .ok (.ifCond .eq 14, 3) := by decide +kernel
theorem dJ5_isLatin1_aae02_6 : decode cJ5_isLatin1_aae02 6 = .ok (.aload_n 0, 1) := by decide +kernel
theorem dJ5_isLatin1_aae02_7 : decode cJ5_isLatin1_aae02 7 = .ok (.getfield 22, 3) := by decide +kernel
theorem dJ5_isLatin1_aae02_10 : decode cJ5_isLatin1_aae02 10 = .ok (.ifCond .ne 7, 3) := by decide +kernel
theorem dJ5_isLatin1_aae02_13 : decode cJ5_isLatin1_aae02 13 = .ok (.iconst 1, 1) := by decide +kernel
theorem dJ5_isLatin1_aae02_14 : decode cJ5_isLatin1_aae02 14 = .ok (.goto 4, 3) := by decide +kernel
theorem dJ5_isLatin1_aae02_17 : decode cJ5_isLatin1_aae02 17 = .ok (.iconst 0, 1) := by decide +kernel
theorem dJ5_isLatin1_aae02_18 : decode cJ5_isLatin1_aae02 18 = .ok (.ireturn, 1) := by decide +kernel
theorem dJ6_getChars_ba4f3_0 : decode cJ6_getChars_ba4f3 0 = .ok (.iload_n 1, 1) := by decide +kernel
theorem dJ6_getChars_ba4f3_1 : decode cJ6_getChars_ba4f3 1 = .ok (.istore 5, 2) := by decide +kernel
theorem dJ6_getChars_ba4f3_3 : decode cJ6_getChars_ba4f3 3 = .ok (.iload_n 0, 1) := by decide +kernel
theorem dJ6_getChars_ba4f3_4 : decode cJ6_getChars_ba4f3 4 = .ok (.ifCond .ge 7, 3) := by decide +kernel
theorem dJ6_getChars_ba4f3_7 : decode cJ6_getChars_ba4f3 7 = .ok (.iconst 1, 1) := by decide +kernel
theorem dJ6_getChars_ba4f3_8 : decode cJ6_getChars_ba4f3 8 = .ok (.goto 4, 3) := by decide +kernel
theorem dJ6_getChars_ba4f3_11 : decode cJ6_getChars_ba4f3 11 = .ok (.iconst 0, 1) := by decide +kernel
theorem dJ6_getChars_ba4f3_12 : decode cJ6_getChars_ba4f3 12 = .ok (.istore 6, 2) := by decide +kernel
theorem dJ6_getChars_ba4f3_14 : decode cJ6_getChars_ba4f3 14 = .ok (.iload 6, 2) := by decide +kernel
theorem dJ6_getChars_ba4f3_16 : decode cJ6_getChars_ba4f3 16 = .ok (.ifCond .ne 6, 3) := by decide +kernel
theorem dJ6_getChars_ba4f3_19 : decode cJ6_getChars_ba4f3 19 = .ok (.iload_n 0, 1) := by decide +kernel
theorem dJ6_getChars_ba4f3_20 : decode cJ6_getChars_ba4f3 20 = .ok (.ineg, 1) := by decide +kernel
theorem dJ6_getChars_ba4f3_21 : decode cJ6_getChars_ba4f3 21 = .ok (.istore_n 0, 1) := by decide +kernel
theorem dJ6_getChars_ba4f3_22 : decode cJ6_getChars_ba4f3 22 = .ok (.iload_n 0, 1) := by decide +kernel
theorem dJ6_getChars_ba4f3_23 : decode cJ6_getChars_ba4f3 23 = .ok (.bipush (-100), 2) := by decide +kernel
theorem dJ6_getChars_ba4f3_25 : decode cJ6_getChars_ba4f3 25 = .ok (.if_icmp .gt 47, 3) := by decide +kernel
theorem dJ6_getChars_ba4f3_28 : decode cJ6_getChars_ba4f3 28 = .ok (.iload_n 0, 1) := by decide +kernel
theorem dJ6_getChars_ba4f3_29 : decode cJ6_getChars_ba4f3 29 = .ok (.bipush 100, 2) := by decide +kernel
theorem dJ6_getChars_ba4f3_31 : decode cJ6_getChars_ba4f3 31 = .ok (.idiv, 1) := by decide +kernel
theorem dJ6_getChars_ba4f3_32 : decode cJ6_getChars_ba4f3 32 = .ok (.istore_n 3, 1) := by decide +kernel
theorem dJ6_getChars_ba4f3_33 : decode cJ6_getChars_ba4f3 33 = .ok (.iload_n 3, 1) := by decide +kernel
theorem dJ6_getChars_ba4f3_34 : decode cJ6_getChars_ba4f3 34 = .ok (.bipush 100, 2) := by decide +kernel
theorem dJ6_getChars_ba4f3_36 : decode cJ6_getChars_ba4f3 36 = .ok (.imul, 1) := by decide +kernel
theorem dJ6_getChars_ba4f3_37 : decode cJ6_getChars_ba4f3 37 = .ok (.iload_n 0, 1) := by decide +kernel
theorem dJ6_getChars_ba4f3_38 : decode cJ6_getChars_ba4f3 38 = .ok (.isub, 1) := by decide +kernel
theorem dJ6_getChars_ba4f3_39 : decode cJ6_getChars_ba4f3 39 = .ok (.istore 4, 2) := by decide +kernel
theorem dJ6_getChars_ba4f3_41 : decode cJ6_getChars_ba4f3 41 = .ok (.iload_n 3, 1) := by decide +kernel
theorem dJ6_getChars_ba4f3_42 : decode cJ6_getChars_ba4f3 42 = .ok (.istore_n 0, 1) := by decide +kernel
theorem dJ6_getChars_ba4f3_43 : decode cJ6_getChars_ba4f3 43 = .ok (.aload_n 2, 1) := by decide +kernel
theorem dJ6_getChars_ba4f3_44 : decode cJ6_getChars_ba4f3 44 = .ok (.iinc 5 (-1), 3) := by decide +kernel
theorem dJ6_getChars_ba4f3_47 : decode cJ6_getChars_ba4f3 47 = .ok (.iload 5, 2) := by decide +kernel
theorem dJ6_getChars_ba4f3_49 : decode cJ6_getChars_ba4f3 49 = .ok (.getstatic 83, 3) := by decide +kernel
theorem dJ6_getChars_ba4f3_52 : decode cJ6_getChars_ba4f3 52 = .ok (.iload 4, 2) := by decide +kernel
theorem dJ6_getChars_ba4f3_54 : decode cJ6_getChars_ba4f3 54 = .ok (.baload, 1) := by decide +kernel
theorem dJ6_getChars_ba4f3_55 : decode cJ6_getChars_ba4f3 55 = .ok (.bastore, 1) := by decide +kernel
theorem dJ6_getChars_ba4f3_56 : decode cJ6_getChars_ba4f3 56 = .ok (.aload_n 2, 1) := by decide +kernel
theorem dJ6_getChars_ba4f3_57 : decode cJ6_getChars_ba4f3 57 = .ok (.iinc 5 (-1), 3) := by decide +kernel
theorem dJ6_getChars_ba4f3_60 : decode cJ6_getChars_ba4f3 60 = .ok (.iload 5, 2) := by decide +kernel
theorem dJ6_getChars_ba4f3_62 : decode cJ6_getChars_ba4f3 62 = .ok (.getstatic 87, 3) := by decide +kernel
theorem dJ6_getChars_ba4f3_65 : decode cJ6_getChars_ba4f3 65 = .ok (.iload 4, 2) := by decide +kernel
theorem dJ6_getChars_ba4f3_67 : decode cJ6_getChars_ba4f3 67 = .ok (.baload, 1) := by decide +kernel
theorem dJ6_getChars_ba4f3_68 : decode cJ6_getChars_ba4f3 68 = .ok (.bastore, 1) := by decide +kernel
theorem dJ6_getChars_ba4f3_69 : decode cJ6_getChars_ba4f3 69 = .ok (.goto (-47), 3) := by decide +kernel
theorem dJ6_getChars_ba4f3_72 : decode cJ6_getChars_ba4f3 72 = .ok (.aload_n 2, 1) := by decide +kernel
theorem dJ6_getChars_ba4f3_73 : decode cJ6_getChars_ba4f3 73 = .ok (.iinc 5 (-1), 3) := by decide +kernel
theorem dJ6_getChars_ba4f3_76 : decode cJ6_getChars_ba4f3 76 = .ok (.iload 5, 2) := by decide +kernel
theorem dJ6_getChars_ba4f3_78 : decode cJ6_getChars_ba4f3 78 = .ok (.getstatic 83, 3) := by decide +kernel
theorem dJ6_getChars_ba4f3_81 : decode cJ6_getChars_ba4f3 81 = .ok (.iload_n 0, 1) := by decide +kernel
theorem dJ6_getChars_ba4f3_82 : decode cJ6_getChars_ba4f3 82 = .ok (.ineg, 1) := by decide +kernel
theorem dJ6_getChars_ba4f3_83 : decode cJ6_getChars_ba4f3 83 = .ok (.baload, 1) := by decide +kernel
theorem dJ6_getChars_ba4f3_84 : decode cJ6_getChars_ba4f3 84 = .ok (.bastore, 1) := by decide +kernel
theorem dJ6_getChars_ba4f3_85 : decode cJ6_getChars_ba4f3 85 = .ok (.iload_n 0, 1) := by decide +kernel
theorem dJ6_getChars_ba4f3_86 : decode cJ6_getChars_ba4f3 86 = .ok (.bipush (-9), 2) := by decide +kernel
theorem dJ6_getChars_ba4f3_88 : decode cJ6_getChars_ba4f3 88 = .ok (.if_icmp .ge 16, 3) := by decide +kernel
theorem dJ6_getChars_ba4f3_91 : decode cJ6_getChars_ba4f3 91 = .ok (.aload_n 2, 1) := by decide +kernel
theorem dJ6_getChars_ba4f3_92 : decode cJ6_getChars_ba4f3 92 = .ok (.iinc 5 (-1), 3) := by decide +kernel
theorem dJ6_getChars_ba4f3_95 : decode cJ6_getChars_ba4f3 95 = .ok (.iload 5, 2) := by decide +kernel
theorem dJ6_getChars_ba4f3_97 : decode cJ6_getChars_ba4f3 97 = .ok (.getstatic 87, 3) := by decide +kernel
theorem dJ6_getChars_ba4f3_100 : decode cJ6_getChars_ba4f3 100 = .ok (.iload_n 0, 1) := by decide +kernel
theorem dJ6_getChars_ba4f3_101 : decode cJ6_getChars_ba4f3 101 = .ok (.ineg, 1) := by decide +kernel
theorem dJ6_getChars_ba4f3_102 : decode cJ6_getChars_ba4f3 102 = .ok (.baload, 1) := by decide +kernel
theorem dJ6_getChars_ba4f3_103 : decode cJ6_getChars_ba4f3 103 = .ok (.bastore, 1) := by decide +kernel
theorem dJ6_getChars_ba4f3_104 : decode cJ6_getChars_ba4f3 104 = .ok (.iload 6, 2) := by decide +kernel
theorem dJ6_getChars_ba4f3_106 : decode cJ6_getChars_ba4f3 106 = .ok (.ifCond .eq 12, 3) := by decide +kernel
theorem dJ6_getChars_ba4f3_109 : decode cJ6_getChars_ba4f3 109 = .ok (.aload_n 2, 1) := by decide +kernel
theorem dJ6_getChars_ba4f3_110 : decode cJ6_getChars_ba4f3 110 = .ok (.iinc 5 (-1), 3) := by decide +kernel
theorem dJ6_getChars_ba4f3_113 : decode cJ6_getChars_ba4f3 113 = .ok (.iload 5, 2) := by decide +kernel
theorem dJ6_getChars_ba4f3_115 : decode cJ6_getChars_ba4f3 115 = .ok (.bipush 45, 2) := by decide +kernel
theorem dJ6_getChars_ba4f3_117 : decode cJ6_getChars_ba4f3 117 = .ok (.bastore, 1) := by decide +kernel
theorem dJ6_getChars_ba4f3_118 : decode cJ6_getChars_ba4f3 118 = .ok (.iload 5, 2) := by decide +kernel
theorem dJ6_getChars_ba4f3_120 : decode cJ6_getChars_ba4f3 120 = .ok (.ireturn, 1) := by decide +kernel
theorem dJ6_stringSize_0f7a4_0 : decode cJ6_stringSize_0f7a4 0 = .ok (.iconst 1, 1) := by decide +kernel
theorem dJ6_stringSize_0f7a4_1 : decode cJ6_stringSize_0f7a4 1 = .ok (.istore_n 1, 1) := by decide +kernel
theorem dJ6_stringSize_0f7a4_2 : decode cJ6_stringSize_0f7a4 2 = .ok (.iload_n 0, 1) := by decide +kernel
theorem dJ6_stringSize_0f7a4_3 : decode cJ6_stringSize_0f7a4 3 = .ok (.ifCond .lt 8, 3) := by decide +kernel
theorem dJ6_stringSize_0f7a4_6 : decode cJ6_stringSize_0f7a4 6 = .ok (.iconst 0, 1) := by decide +kernel
theorem dJ6_stringSize_0f7a4_7 : decode cJ6_stringSize_0f7a4 7 = .ok (.istore_n 1, 1) := by decide +kernel
theorem dJ6_stringSize_0f7a4_8 : decode cJ6_stringSize_0f7a4 8 = .ok (.iload_n 0, 1) := by decide +kernel
theorem dJ6_stringSize_0f7a4_9 : decode cJ6_stringSize_0f7a4 9 = .ok (.ineg, 1) := by decide +kernel
theorem dJ6_stringSize_0f7a4_10 : decode cJ6_stringSize_0f7a4 10 = .ok (.istore_n 0, 1) := by decide +kernel
theorem dJ6_stringSize_0f7a4_11 : decode cJ6_stringSize_0f7a4 11 = .ok (.bipush (-10), 2) := by decide +kernel
theorem dJ6_stringSize_0f7a4_13 : decode cJ6_stringSize_0f7a4 13 = .ok (.istore_n 2, 1) := by decide +kernel
theorem dJ6_stringSize_0f7a4_14 : decode cJ6_stringSize_0f7a4 14 = .ok (.iconst 1, 1) := by decide +kernel
theorem dJ6_stringSize_0f7a4_15 : decode cJ6_stringSize_0f7a4 15 = .ok (.istore_n 3, 1) := by decide +kernel
theorem dJ6_stringSize_0f7a4_16 : decode cJ6_stringSize_0f7a4 16 = .ok (.iload_n 3, 1) := by decide +kernel
theorem dJ6_stringSize_0f7a4_17 : decode cJ6_stringSize_0f7a4 17 = .ok (.bipush 10, 2) := by decide +kernel
theorem dJ6_stringSize_0f7a4_19 : decode cJ6_stringSize_0f7a4 19 = .ok (.if_icmp .ge 23, 3) := by decide +kernel
theorem dJ6_stringSize_0f7a4_22 : decode cJ6_stringSize_0f7a4 22 = .ok (.iload_n 0, 1) := by decide +kernel
theorem dJ6_stringSize_0f7a4_23 : decode cJ6_stringSize_0f7a4 23 = .ok (.iload_n 2, 1) := by decide +kernel
theorem dJ6_stringSize_0f7a4_24 : decode cJ6_stringSize_0f7a4 24 = .ok (.if_icmp .le 7, 3) := by decide +kernel
theorem dJ6_stringSize_0f7a4_27 : decode cJ6_stringSize_0f7a4 27 = .ok (.iload_n 3, 1) := by decide +kernel
theorem dJ6_stringSize_0f7a4_28 : decode cJ6_stringSize_0f7a4 28 = .ok (.iload_n 1, 1) := by decide +kernel
theorem dJ6_stringSize_0f7a4_29 : decode cJ6_stringSize_0f7a4 29 = .ok (.iadd, 1) := by decide +kernel
theorem dJ6_stringSize_0f7a4_30 : decode cJ6_stringSize_0f7a4 30 = .ok (.ireturn, 1) := by decide +kernel
theorem dJ6_stringSize_0f7a4_31 : decode cJ6_stringSize_0f7a4 31 = .ok (.bipush 10, 2) := by decide +kernel
theorem dJ6_stringSize_0f7a4_33 : decode cJ6_stringSize_0f7a4 33 = .ok (.iload_n 2, 1) := by decide +kernel
theorem dJ6_stringSize_0f7a4_34 : decode cJ6_stringSize_0f7a4 34 = .ok (.imul, 1) := by decide +kernel
theorem dJ6_stringSize_0f7a4_35 : decode cJ6_stringSize_0f7a4 35 = .ok (.istore_n 2, 1) := by decide +kernel
theorem dJ6_stringSize_0f7a4_36 : decode cJ6_stringSize_0f7a4 36 = .ok (.iinc 3 1, 3) := by decide +kernel
theorem dJ6_stringSize_0f7a4_39 : decode cJ6_stringSize_0f7a4 39 = .ok (.goto (-23), 3) := by decide +kernel
theorem dJ6_stringSize_0f7a4_42 : decode cJ6_stringSize_0f7a4 42 = .ok (.bipush 10, 2) := by decide +kernel
theorem dJ6_stringSize_0f7a4_44 : decode cJ6_stringSize_0f7a4 44 = .ok (.iload_n 1, 1) := by decide +kernel
theorem dJ6_stringSize_0f7a4_45 : decode cJ6_stringSize_0f7a4 45 = .ok (.iadd, 1) := by decide +kernel
theorem dJ6_stringSize_0f7a4_46 : decode cJ6_stringSize_0f7a4 46 = .ok (.ireturn, 1) := by decide +kernel
theorem dJ9_floorMod_7cf53_0 : decode cJ9_floorMod_7cf53 0 = .ok (.iload_n 0, 1) := by decide +kernel
theorem dJ9_floorMod_7cf53_1 : decode cJ9_floorMod_7cf53 1 = .ok (.iload_n 1, 1) := by decide +kernel
theorem dJ9_floorMod_7cf53_2 : decode cJ9_floorMod_7cf53 2 = .ok (.irem, 1) := by decide +kernel
theorem dJ9_floorMod_7cf53_3 : decode cJ9_floorMod_7cf53 3 = .ok (.istore_n 2, 1) := by decide +kernel
theorem dJ9_floorMod_7cf53_4 : decode cJ9_floorMod_7cf53 4 = .ok (.iload_n 0, 1) := by decide +kernel
theorem dJ9_floorMod_7cf53_5 : decode cJ9_floorMod_7cf53 5 = .ok (.iload_n 1, 1) := by decide +kernel
theorem dJ9_floorMod_7cf53_6 : decode cJ9_floorMod_7cf53 6 = .ok (.ixor, 1) := by decide +kernel
theorem dJ9_floorMod_7cf53_7 : decode cJ9_floorMod_7cf53 7 = .ok (.ifCond .ge 11, 3) := by decide +kernel
theorem dJ9_floorMod_7cf53_10 : decode cJ9_floorMod_7cf53 10 = .ok (.iload_n 2, 1) := by decide +kernel
theorem dJ9_floorMod_7cf53_11 : decode cJ9_floorMod_7cf53 11 = .ok (.ifCond .eq 7, 3) := by decide +kernel
theorem dJ9_floorMod_7cf53_14 : decode cJ9_floorMod_7cf53 14 = .ok (.iload_n 2, 1) := by decide +kernel
theorem dJ9_floorMod_7cf53_15 : decode cJ9_floorMod_7cf53 15 = .ok (.iload_n 1, 1) := by decide +kernel
theorem dJ9_floorMod_7cf53_16 : decode cJ9_floorMod_7cf53 16 = .ok (.iadd, 1) := by decide +kernel
theorem dJ9_floorMod_7cf53_17 : decode cJ9_floorMod_7cf53 17 = .ok (.ireturn, 1) := by decide +kernel
theorem dJ9_floorMod_7cf53_18 : decode cJ9_floorMod_7cf53 18 = .ok (.iload_n 2, 1) := by decide +kernel
theorem dJ9_floorMod_7cf53_19 : decode cJ9_floorMod_7cf53 19 = .ok (.ireturn, 1) := by decide +kernel
theorem dJ9_max_7cf53_0 : decode cJ9_max_7cf53 0 = .ok (.iload_n 0, 1) := by decide +kernel
theorem dJ9_max_7cf53_1 : decode cJ9_max_7cf53 1 = .ok (.iload_n 1, 1) := by decide +kernel
theorem dJ9_max_7cf53_2 : decode cJ9_max_7cf53 2 = .ok (.if_icmp .lt 7, 3) := by decide +kernel
theorem dJ9_max_7cf53_5 : decode cJ9_max_7cf53 5 = .ok (.iload_n 0, 1) := by decide +kernel
theorem dJ9_max_7cf53_6 : decode cJ9_max_7cf53 6 = .ok (.goto 4, 3) := by decide +kernel
theorem dJ9_max_7cf53_9 : decode cJ9_max_7cf53 9 = .ok (.iload_n 1, 1) := by decide +kernel
theorem dJ9_max_7cf53_10 : decode cJ9_max_7cf53 10 = .ok (.ireturn, 1) := by decide +kernel
theorem dJ9_min_7cf53_0 : decode cJ9_min_7cf53 0 = .ok (.iload_n 0, 1) := by decide +kernel
theorem dJ9_min_7cf53_1 : decode cJ9_min_7cf53 1 = .ok (.iload_n 1, 1) := by decide +kernel
theorem dJ9_min_7cf53_2 : decode cJ9_min_7cf53 2 = .ok (.if_icmp .gt 7, 3) := by decide +kernel
theorem dJ9_min_7cf53_5 : decode cJ9_min_7cf53 5 = .ok (.iload_n 0, 1) := by decide +kernel
theorem dJ9_min_7cf53_6 : decode cJ9_min_7cf53 6 = .ok (.goto 4, 3) := by decide +kernel
theorem dJ9_min_7cf53_9 : decode cJ9_min_7cf53 9 = .ok (.iload_n 1, 1) := by decide +kernel
theorem dJ9_min_7cf53_10 : decode cJ9_min_7cf53 10 = .ok (.ireturn, 1) := by decide +kernel
theorem dJ0_checkIndex_df160_0 : decode cJ0_checkIndex_df160 0 = .ok (.iload_n 0, 1) := by decide +kernel
theorem dJ0_checkIndex_df160_1 : decode cJ0_checkIndex_df160 1 = .ok (.iload_n 1, 1) := by decide +kernel
theorem dJ0_checkIndex_df160_2 : decode cJ0_checkIndex_df160 2 = .ok (.getstatic 1053, 3) := by decide +kernel
theorem dJ0_checkIndex_df160_5 : decode cJ0_checkIndex_df160 5 = .ok (.invokestatic 1059, 3) := by decide +kernel
theorem dJ0_checkIndex_df160_8 : decode cJ0_checkIndex_df160 8 = .ok (.pop, 1) := by decide +kernel
theorem dJ0_checkIndex_df160_9 : decode cJ0_checkIndex_df160 9 = .ok (.return_, 1) := by decide +kernel
theorem dJ0_checkBoundsOffCount_cabcc_0 : decode cJ0_checkBoundsOffCount_cabcc 0 = .ok (.iload_n 0, 1) := by decide +kernel
theorem dJ0_checkBoundsOffCount_cabcc_1 : decode cJ0_checkBoundsOffCount_cabcc 1 = .ok (.iload_n 1, 1) := by decide +kernel
theorem dJ0_checkBoundsOffCount_cabcc_2 : decode cJ0_checkBoundsOffCount_cabcc 2 = .ok (.iload_n 2, 1) := by decide +kernel
theorem dJ0_checkBoundsOffCount_cabcc_3 : decode cJ0_checkBoundsOffCount_cabcc 3 = .ok (.getstatic 1053, 3) := by decide +kernel
theorem dJ0_checkBoundsOffCount_cabcc_6 : decode cJ0_checkBoundsOffCount_cabcc 6 = .ok (.invokestatic 1065, 3) := by decide +kernel
theorem dJ0_checkBoundsOffCount_cabcc_9 : decode cJ0_checkBoundsOffCount_cabcc 9 = .ok (.ireturn, 1) := by decide +kernel
theorem dJ0_checkBoundsBeginEnd_23922_0 : decode cJ0_checkBoundsBeginEnd_23922 0 = .ok (.iload_n 0, 1) := by decide +kernel
theorem dJ0_checkBoundsBeginEnd_23922_1 : decode cJ0_checkBoundsBeginEnd_23922 1 = .ok (.iload_n 1, 1) := by decide +kernel
theorem dJ0_checkBoundsBeginEnd_23922_2 : decode cJ0_checkBoundsBeginEnd_23922 2 = .ok (.iload_n 2, 1) := by decide +kernel
theorem dJ0_checkBoundsBeginEnd_23922_3 : decode cJ0_checkBoundsBeginEnd_23922 3 = .ok (.getstatic 1053, 3) := by decide +kernel
theorem dJ0_checkBoundsBeginEnd_23922_6 : decode cJ0_checkBoundsBeginEnd_23922 6 = .ok (.invokestatic 1062, 3) := by decide +kernel
theorem dJ0_checkBoundsBeginEnd_23922_9 : decode cJ0_checkBoundsBeginEnd_23922 9 = .ok (.pop, 1) := by decide +kernel
theorem dJ0_checkBoundsBeginEnd_23922_10 : decode cJ0_checkBoundsBeginEnd_23922 10 = .ok (.return_, 1) := by decide +kernel
theorem dJ4_init_da8c8_0 : decode cJ4_init_da8c8 0 = .ok (.aload_n 0, 1) := by decide +kernel
theorem dJ4_init_da8c8_1 : decode cJ4_init_da8c8 1 = .ok (.bipush 16, 2) := by decide +kernel
theorem dJ4_init_da8c8_3 : decode cJ4_init_da8c8 3 = .ok (.invokespecial 1, 3) := by decide +kernel
theorem dJ4_init_da8c8_6 : decode cJ4_init_da8c8 6 = .ok (.return_, 1) := by decide +kernel
theorem dJ4_append_cf468_0 : decode cJ4_append_cf468 0 = .ok (.aload_n 0, 1) := by decide +kernel
theorem dJ4_append_cf468_1 : decode cJ4_append_cf468 1 = .ok (.iload_n 1, 1) := by decide +kernel
theorem dJ4_append_cf468_2 : decode cJ4_append_cf468 2 = .ok (.invokespecial 50, 3) := by decide +kernel
theorem dJ4_append_cf468_5 : decode cJ4_append_cf468 5 = .ok (.pop, 1) := by decide +kernel
theorem dJ4_append_cf468_6 : decode cJ4_append_cf468 6 = .ok (.aload_n 0, 1) := by decide +kernel
theorem dJ4_append_cf468_7 : decode cJ4_append_cf468 7 = .ok (.areturn, 1) := by decide +kernel
theorem dJ4_append_bf812_0 : decode cJ4_append_bf812 0 = .ok (.aload_n 0, 1) := by decide +kernel
theorem dJ4_append_bf812_1 : decode cJ4_append_bf812 1 = .ok (.iload_n 1, 1) := by decide +kernel
theorem dJ4_append_bf812_2 : decode cJ4_append_bf812 2 = .ok (.invokespecial 53, 3) := by decide +kernel
theorem dJ4_append_bf812_5 : decode cJ4_append_bf812 5 = .ok (.pop, 1) := by decide +kernel
theorem dJ4_append_bf812_6 : decode cJ4_append_bf812 6 = .ok (.aload_n 0, 1) := by decide +kernel
theorem dJ4_append_bf812_7 : decode cJ4_append_bf812 7 = .ok (.areturn, 1) := by decide +kernel
theorem dJ4_charAt_5068e_0 : decode cJ4_charAt_5068e 0 = .ok (.aload_n 0, 1) := by decide +kernel
theorem dJ4_charAt_5068e_1 : decode cJ4_charAt_5068e 1 = .ok (.iload_n 1, 1) := by decide +kernel
theorem dJ4_charAt_5068e_2 : decode cJ4_charAt_5068e 2 = .ok (.invokespecial 329, 3) := by decide +kernel
theorem dJ4_charAt_5068e_5 : decode cJ4_charAt_5068e 5 = .ok (.ireturn, 1) := by decide +kernel
theorem dJ4_setLength_d00df_0 : decode cJ4_setLength_d00df 0 = .ok (.aload_n 0, 1) := by decide +kernel
theorem dJ4_setLength_d00df_1 : decode cJ4_setLength_d00df 1 = .ok (.iload_n 1, 1) := by decide +kernel
theorem dJ4_setLength_d00df_2 : decode cJ4_setLength_d00df 2 = .ok (.invokespecial 333, 3) := by decide +kernel
theorem dJ4_setLength_d00df_5 : decode cJ4_setLength_d00df 5 = .ok (.return_, 1) := by decide +kernel
theorem dJ4_length_8abf5_0 : decode cJ4_length_8abf5 0 = .ok (.aload_n 0, 1) := by decide +kernel
theorem dJ4_length_8abf5_1 : decode cJ4_length_8abf5 1 = .ok (.invokespecial 343, 3) := by decide +kernel
theorem dJ4_length_8abf5_4 : decode cJ4_length_8abf5 4 = .ok (.ireturn, 1) := by decide +kernel
theorem dJ1_canEncode_fc78d_0 : decode cJ1_canEncode_fc78d 0 = .ok (.iload_n 0, 1) := by decide +kernel
theorem dJ1_canEncode_fc78d_1 : decode cJ1_canEncode_fc78d 1 = .ok (.sipush 255, 3) := by decide +kernel
theorem dJ1_canEncode_fc78d_4 : decode cJ1_canEncode_fc78d 4 = .ok (.if_icmp .gt 7, 3) := by decide +kernel
theorem dJ1_canEncode_fc78d_7 : decode cJ1_canEncode_fc78d 7 = .ok (.iconst 1, 1) := by decide +kernel
theorem dJ1_canEncode_fc78d_8 : decode cJ1_canEncode_fc78d 8 = .ok (.goto 4, 3) := by decide +kernel
theorem dJ1_canEncode_fc78d_11 : decode cJ1_canEncode_fc78d 11 = .ok (.iconst 0, 1) := by decide +kernel
theorem dJ1_canEncode_fc78d_12 : decode cJ1_canEncode_fc78d 12 = .ok (.ireturn, 1) := by decide +kernel
theorem dJ1_fillNull_b72d1_0 : decode cJ1_fillNull_b72d1 0 = .ok (.aload_n 0, 1) := by decide +kernel
theorem dJ1_fillNull_b72d1_1 : decode cJ1_fillNull_b72d1 1 = .ok (.iload_n 1, 1) := by decide +kernel
theorem dJ1_fillNull_b72d1_2 : decode cJ1_fillNull_b72d1 2 = .ok (.iload_n 2, 1) := by decide +kernel
theorem dJ1_fillNull_b72d1_3 : decode cJ1_fillNull_b72d1 3 = .ok (.iconst 0, 1) := by decide +kernel
theorem dJ1_fillNull_b72d1_4 : decode cJ1_fillNull_b72d1 4 = .ok (.invokestatic 236, 3) := by decide +kernel
theorem dJ1_fillNull_b72d1_7 : decode cJ1_fillNull_b72d1 7 = .ok (.return_, 1) := by decide +kernel
theorem dJ1_inflate_0e8fd_0 : decode cJ1_inflate_0e8fd 0 = .ok (.aload_n 0, 1) := by decide +kernel
theorem dJ1_inflate_0e8fd_1 : decode cJ1_inflate_0e8fd 1 = .ok (.iload_n 1, 1) := by decide +kernel
theorem dJ1_inflate_0e8fd_2 : decode cJ1_inflate_0e8fd 2 = .ok (.aload_n 2, 1) := by decide +kernel
theorem dJ1_inflate_0e8fd_3 : decode cJ1_inflate_0e8fd 3 = .ok (.iload_n 3, 1) := by decide +kernel
theorem dJ1_inflate_0e8fd_4 : decode cJ1_inflate_0e8fd 4 = .ok (.iload 4, 2) := by decide +kernel
theorem dJ1_inflate_0e8fd_6 : decode cJ1_inflate_0e8fd 6 = .ok (.invokestatic 240, 3) := by decide +kernel
theorem dJ1_inflate_0e8fd_9 : decode cJ1_inflate_0e8fd 9 = .ok (.return_, 1) := by decide +kernel
theorem dJ2_newBytesFor_77867_0 : decode cJ2_newBytesFor_77867 0 = .ok (.iload_n 0, 1) := by decide +kernel
theorem dJ2_newBytesFor_77867_1 : decode cJ2_newBytesFor_77867 1 = .ok (.invokestatic 11, 3) := by decide +kernel
theorem dJ2_newBytesFor_77867_4 : decode cJ2_newBytesFor_77867 4 = .ok (.newarray .byte, 2) := by decide +kernel
theorem dJ2_newBytesFor_77867_6 : decode cJ2_newBytesFor_77867 6 = .ok (.areturn, 1) := by decide +kernel
theorem dJ2_newBytesLength_0f7a4_0 : decode cJ2_newBytesLength_0f7a4 0 = .ok (.iload_n 0, 1) := by decide +kernel
theorem dJ2_newBytesLength_0f7a4_1 : decode cJ2_newBytesLength_0f7a4 1 = .ok (.ifCond .ge 11, 3) := by decide +kernel
theorem dJ2_newBytesLength_0f7a4_4 : decode cJ2_newBytesLength_0f7a4 4 = .ok (.new 17, 3) := by decide +kernel
theorem dJ2_newBytesLength_0f7a4_7 : decode cJ2_newBytesLength_0f7a4 7 = .ok (.dup, 1) := by decide +kernel
theorem dJ2_newBytesLength_0f7a4_8 : decode cJ2_newBytesLength_0f7a4 8 = .ok (.invokespecial 19, 3) := by decide +kernel
theorem dJ2_newBytesLength_0f7a4_11 : decode cJ2_newBytesLength_0f7a4 11 = .ok (.athrow, 1) := by decide +kernel
theorem dJ2_newBytesLength_0f7a4_12 : decode cJ2_newBytesLength_0f7a4 12 = .ok (.iload_n 0, 1) := by decide +kernel
theorem dJ2_newBytesLength_0f7a4_13 : decode cJ2_newBytesLength_0f7a4 13 = .ok (.ldc 20, 2) := by decide +kernel
theorem dJ2_newBytesLength_0f7a4_15 : decode cJ2_newBytesLength_0f7a4 15 = .ok (.if_icmp .lt 40, 3) := by decide +kernel
theorem dJ2_newBytesLength_0f7a4_18 : decode cJ2_newBytesLength_0f7a4 18 = .ok (.new 21, 3) := by decide +kernel
theorem dJ2_newBytesLength_0f7a4_21 : decode cJ2_newBytesLength_0f7a4 21 = .ok (.dup, 1) := by decide +kernel
theorem dJ2_newBytesLength_0f7a4_22 : decode cJ2_newBytesLength_0f7a4 22 = .ok (.new 23, 3) := by decide +kernel
theorem dJ2_newBytesLength_0f7a4_25 : decode cJ2_newBytesLength_0f7a4 25 = .ok (.dup, 1) := by decide +kernel
theorem dJ2_newBytesLength_0f7a4_26 : decode cJ2_newBytesLength_0f7a4 26 = .ok (.invokespecial 25, 3) := by decide +kernel
theorem dJ2_newBytesLength_0f7a4_29 : decode cJ2_newBytesLength_0f7a4 29 = .ok (.ldc 26, 2) := by decide +kernel
theorem dJ2_newBytesLength_0f7a4_31 : decode cJ2_newBytesLength_0f7a4 31 = .ok (.invokevirtual 28, 3) := by decide +kernel
theorem dJ2_newBytesLength_0f7a4_34 : decode cJ2_newBytesLength_0f7a4 34 = .ok (.iload_n 0, 1) := by decide +kernel
theorem dJ2_newBytesLength_0f7a4_35 : decode cJ2_newBytesLength_0f7a4 35 = .ok (.invokevirtual 32, 3) := by decide +kernel
theorem dJ2_newBytesLength_0f7a4_38 : decode cJ2_newBytesLength_0f7a4 38 = .ok (.ldc 35, 2) := by decide +kernel
theorem dJ2_newBytesLength_0f7a4_40 : decode cJ2_newBytesLength_0f7a4 40 = .ok (.invokevirtual 28, 3) := by decide +kernel
theorem dJ2_newBytesLength_0f7a4_43 : decode cJ2_newBytesLength_0f7a4 43 = .ok (.ldc 20, 2) := by decide +kernel
theorem dJ2_newBytesLength_0f7a4_45 : decode cJ2_newBytesLength_0f7a4 45 = .ok (.invokevirtual 32, 3) := by decide +kernel
theorem dJ2_newBytesLength_0f7a4_48 : decode cJ2_newBytesLength_0f7a4 48 = .ok (.invokevirtual 37, 3) := by decide +kernel
theorem dJ2_newBytesLength_0f7a4_51 : decode cJ2_newBytesLength_0f7a4 51 = .ok (.invokespecial 41, 3) := by decide +kernel
theorem dJ2_newBytesLength_0f7a4_54 : decode cJ2_newBytesLength_0f7a4 54 = .ok (.athrow, 1) := by decide +kernel
theorem dJ2_newBytesLength_0f7a4_55 : decode cJ2_newBytesLength_0f7a4 55 = .ok (.iload_n 0, 1) := by decide +kernel
theorem dJ2_newBytesLength_0f7a4_56 : decode cJ2_newBytesLength_0f7a4 56 = .ok (.iconst 1, 1) := by decide +kernel
theorem dJ2_newBytesLength_0f7a4_57 : decode cJ2_newBytesLength_0f7a4 57 = .ok (.ishl, 1) := by decide +kernel
theorem dJ2_newBytesLength_0f7a4_58 : decode cJ2_newBytesLength_0f7a4 58 = .ok (.ireturn, 1) := by decide +kernel
theorem dJ2_putChar_b72d1_0 : decode cJ2_putChar_b72d1 0 = .ok (.getstatic 44, 3) := by decide +kernel
theorem dJ2_putChar_b72d1_3 : decode cJ2_putChar_b72d1 3 = .ok (.ifCond .ne 25, 3) := by decide +kernel
theorem dJ2_putChar_b72d1_6 : decode cJ2_putChar_b72d1 6 = .ok (.iload_n 1, 1) := by decide +kernel
theorem dJ2_putChar_b72d1_7 : decode cJ2_putChar_b72d1 7 = .ok (.ifCond .lt 11, 3) := by decide +kernel
theorem dJ2_putChar_b72d1_10 : decode cJ2_putChar_b72d1 10 = .ok (.iload_n 1, 1) := by decide +kernel
theorem dJ2_putChar_b72d1_11 : decode cJ2_putChar_b72d1 11 = .ok (.aload_n 0, 1) := by decide +kernel
theorem dJ2_putChar_b72d1_12 : decode cJ2_putChar_b72d1 12 = .ok (.invokestatic 48, 3) := by decide +kernel
theorem dJ2_putChar_b72d1_15 : decode cJ2_putChar_b72d1 15 = .ok (.if_icmp .lt 13, 3) := by decide +kernel
theorem dJ2_putChar_b72d1_18 : decode cJ2_putChar_b72d1 18 = .ok (.new 52, 3) := by decide +kernel
theorem dJ2_putChar_b72d1_21 : decode cJ2_putChar_b72d1 21 = .ok (.dup, 1) := by decide +kernel
theorem dJ2_putChar_b72d1_22 : decode cJ2_putChar_b72d1 22 = .ok (.ldc 54, 2) := by decide +kernel
theorem dJ2_putChar_b72d1_24 : decode cJ2_putChar_b72d1 24 = .ok (.invokespecial 56, 3) := by decide +kernel
theorem dJ2_putChar_b72d1_27 : decode cJ2_putChar_b72d1 27 = .ok (.athrow, 1) := by decide +kernel
theorem dJ2_putChar_b72d1_28 : decode cJ2_putChar_b72d1 28 = .ok (.iload_n 1, 1) := by decide +kernel
theorem dJ2_putChar_b72d1_29 : decode cJ2_putChar_b72d1 29 = .ok (.iconst 1, 1) := by decide +kernel
theorem dJ2_putChar_b72d1_30 : decode cJ2_putChar_b72d1 30 = .ok (.ishl, 1) := by decide +kernel
theorem dJ2_putChar_b72d1_31 : decode cJ2_putChar_b72d1 31 = .ok (.istore_n 1, 1) := by decide +kernel
theorem dJ2_putChar_b72d1_32 : decode cJ2_putChar_b72d1 32 = .ok (.aload_n 0, 1) := by decide +kernel
theorem dJ2_putChar_b72d1_33 : decode cJ2_putChar_b72d1 33 = .ok (.iload_n 1, 1) := by decide +kernel
