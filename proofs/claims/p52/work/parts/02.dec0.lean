theorem dX0_init_0 : decode cX0_init 0 = .ok (.aload_n 0, 1) := by decide +kernel
theorem dX0_init_1 : decode cX0_init 1 = .ok (.invokespecial 3, 3) := by decide +kernel
theorem dX0_init_4 : decode cX0_init 4 = .ok (.aload_n 0, 1) := by decide +kernel
theorem dX0_init_5 : decode cX0_init 5 = .ok (.iconst 0, 1) := by decide +kernel
theorem dX0_init_6 : decode cX0_init 6 = .ok (.putfield 9, 3) := by decide +kernel
theorem dX0_init_9 : decode cX0_init 9 = .ok (.aload_n 0, 1) := by decide +kernel
theorem dX0_init_10 : decode cX0_init 10 = .ok (.iconst 0, 1) := by decide +kernel
theorem dX0_init_11 : decode cX0_init 11 = .ok (.putfield 15, 3) := by decide +kernel
theorem dX0_init_14 : decode cX0_init 14 = .ok (.aload_n 0, 1) := by decide +kernel
theorem dX0_init_15 : decode cX0_init 15 = .ok (.bipush 9, 2) := by decide +kernel
theorem dX0_init_17 : decode cX0_init 17 = .ok (.newarray .int, 2) := by decide +kernel
theorem dX0_init_19 : decode cX0_init 19 = .ok (.putfield 18, 3) := by decide +kernel
theorem dX0_init_22 : decode cX0_init 22 = .ok (.aload_n 0, 1) := by decide +kernel
theorem dX0_init_23 : decode cX0_init 23 = .ok (.bipush 9, 2) := by decide +kernel
theorem dX0_init_25 : decode cX0_init 25 = .ok (.newarray .int, 2) := by decide +kernel
theorem dX0_init_27 : decode cX0_init 27 = .ok (.putfield 22, 3) := by decide +kernel
theorem dX0_init_30 : decode cX0_init 30 = .ok (.return_, 1) := by decide +kernel
theorem dX0_take_0 : decode cX0_take 0 = .ok (.aload_n 0, 1) := by decide +kernel
theorem dX0_take_1 : decode cX0_take 1 = .ok (.iload_n 1, 1) := by decide +kernel
theorem dX0_take_2 : decode cX0_take 2 = .ok (.putfield 9, 3) := by decide +kernel
theorem dX0_take_5 : decode cX0_take 5 = .ok (.aload_n 0, 1) := by decide +kernel
theorem dX0_take_6 : decode cX0_take 6 = .ok (.iconst 0, 1) := by decide +kernel
theorem dX0_take_7 : decode cX0_take 7 = .ok (.putfield 15, 3) := by decide +kernel
theorem dX0_take_10 : decode cX0_take 10 = .ok (.aload_n 0, 1) := by decide +kernel
theorem dX0_take_11 : decode cX0_take 11 = .ok (.iload_n 1, 1) := by decide +kernel
theorem dX0_take_12 : decode cX0_take 12 = .ok (.iconst 1, 1) := by decide +kernel
theorem dX0_take_13 : decode cX0_take 13 = .ok (.invokevirtual 25, 3) := by decide +kernel
theorem dX0_take_16 : decode cX0_take 16 = .ok (.iconst 0, 1) := by decide +kernel
theorem dX0_take_17 : decode cX0_take 17 = .ok (.istore_n 3, 1) := by decide +kernel
theorem dX0_take_18 : decode cX0_take 18 = .ok (.iload_n 3, 1) := by decide +kernel
theorem dX0_take_19 : decode cX0_take 19 = .ok (.aload_n 2, 1) := by decide +kernel
theorem dX0_take_20 : decode cX0_take 20 = .ok (.getfield 29, 3) := by decide +kernel
theorem dX0_take_23 : decode cX0_take 23 = .ok (.if_icmp .ge 42, 3) := by decide +kernel
theorem dX0_take_26 : decode cX0_take 26 = .ok (.aload_n 2, 1) := by decide +kernel
theorem dX0_take_27 : decode cX0_take 27 = .ok (.getfield 32, 3) := by decide +kernel
theorem dX0_take_30 : decode cX0_take 30 = .ok (.iload_n 3, 1) := by decide +kernel
theorem dX0_take_31 : decode cX0_take 31 = .ok (.iaload, 1) := by decide +kernel
theorem dX0_take_32 : decode cX0_take 32 = .ok (.istore 4, 2) := by decide +kernel
theorem dX0_take_34 : decode cX0_take 34 = .ok (.iload 4, 2) := by decide +kernel
theorem dX0_take_36 : decode cX0_take 36 = .ok (.ifCond .eq 23, 3) := by decide +kernel
theorem dX0_take_39 : decode cX0_take 39 = .ok (.aload_n 0, 1) := by decide +kernel
theorem dX0_take_40 : decode cX0_take 40 = .ok (.aload_n 2, 1) := by decide +kernel
theorem dX0_take_41 : decode cX0_take 41 = .ok (.getfield 35, 3) := by decide +kernel
theorem dX0_take_44 : decode cX0_take 44 = .ok (.iload_n 3, 1) := by decide +kernel
theorem dX0_take_45 : decode cX0_take 45 = .ok (.iaload, 1) := by decide +kernel
theorem dX0_take_46 : decode cX0_take 46 = .ok (.aload_n 2, 1) := by decide +kernel
theorem dX0_take_47 : decode cX0_take 47 = .ok (.getfield 36, 3) := by decide +kernel
theorem dX0_take_50 : decode cX0_take 50 = .ok (.getfield 40, 3) := by decide +kernel
theorem dX0_take_53 : decode cX0_take 53 = .ok (.iload 4, 2) := by decide +kernel
theorem dX0_take_55 : decode cX0_take 55 = .ok (.isub, 1) := by decide +kernel
theorem dX0_take_56 : decode cX0_take 56 = .ok (.invokevirtual 25, 3) := by decide +kernel
theorem dX0_take_59 : decode cX0_take 59 = .ok (.iinc 3 1, 3) := by decide +kernel
theorem dX0_take_62 : decode cX0_take 62 = .ok (.goto (-44), 3) := by decide +kernel
theorem dX0_take_65 : decode cX0_take 65 = .ok (.return_, 1) := by decide +kernel
theorem dX0_insertTerm_0 : decode cX0_insertTerm 0 = .ok (.aload_n 0, 1) := by decide +kernel
theorem dX0_insertTerm_1 : decode cX0_insertTerm 1 = .ok (.getfield 15, 3) := by decide +kernel
theorem dX0_insertTerm_4 : decode cX0_insertTerm 4 = .ok (.bipush 9, 2) := by decide +kernel
theorem dX0_insertTerm_6 : decode cX0_insertTerm 6 = .ok (.if_icmp .lt 4, 3) := by decide +kernel
theorem dX0_insertTerm_9 : decode cX0_insertTerm 9 = .ok (.return_, 1) := by decide +kernel
theorem dX0_insertTerm_10 : decode cX0_insertTerm 10 = .ok (.aload_n 0, 1) := by decide +kernel
theorem dX0_insertTerm_11 : decode cX0_insertTerm 11 = .ok (.getfield 15, 3) := by decide +kernel
theorem dX0_insertTerm_14 : decode cX0_insertTerm 14 = .ok (.istore_n 3, 1) := by decide +kernel
theorem dX0_insertTerm_15 : decode cX0_insertTerm 15 = .ok (.aload_n 0, 1) := by decide +kernel
theorem dX0_insertTerm_16 : decode cX0_insertTerm 16 = .ok (.getfield 15, 3) := by decide +kernel
theorem dX0_insertTerm_19 : decode cX0_insertTerm 19 = .ok (.iconst 1, 1) := by decide +kernel
theorem dX0_insertTerm_20 : decode cX0_insertTerm 20 = .ok (.isub, 1) := by decide +kernel
theorem dX0_insertTerm_21 : decode cX0_insertTerm 21 = .ok (.istore 4, 2) := by decide +kernel
theorem dX0_insertTerm_23 : decode cX0_insertTerm 23 = .ok (.iload 4, 2) := by decide +kernel
theorem dX0_insertTerm_25 : decode cX0_insertTerm 25 = .ok (.ifCond .lt 55, 3) := by decide +kernel
theorem dX0_insertTerm_28 : decode cX0_insertTerm 28 = .ok (.aload_n 0, 1) := by decide +kernel
theorem dX0_insertTerm_29 : decode cX0_insertTerm 29 = .ok (.getfield 18, 3) := by decide +kernel
theorem dX0_insertTerm_32 : decode cX0_insertTerm 32 = .ok (.iload 4, 2) := by decide +kernel
theorem dX0_insertTerm_34 : decode cX0_insertTerm 34 = .ok (.iaload, 1) := by decide +kernel
theorem dX0_insertTerm_35 : decode cX0_insertTerm 35 = .ok (.iload_n 1, 1) := by decide +kernel
theorem dX0_insertTerm_36 : decode cX0_insertTerm 36 = .ok (.if_icmp .ge 44, 3) := by decide +kernel
theorem dX0_insertTerm_39 : decode cX0_insertTerm 39 = .ok (.aload_n 0, 1) := by decide +kernel
theorem dX0_insertTerm_40 : decode cX0_insertTerm 40 = .ok (.getfield 18, 3) := by decide +kernel
theorem dX0_insertTerm_43 : decode cX0_insertTerm 43 = .ok (.iload 4, 2) := by decide +kernel
theorem dX0_insertTerm_45 : decode cX0_insertTerm 45 = .ok (.iconst 1, 1) := by decide +kernel
theorem dX0_insertTerm_46 : decode cX0_insertTerm 46 = .ok (.iadd, 1) := by decide +kernel
theorem dX0_insertTerm_47 : decode cX0_insertTerm 47 = .ok (.aload_n 0, 1) := by decide +kernel
theorem dX0_insertTerm_48 : decode cX0_insertTerm 48 = .ok (.getfield 18, 3) := by decide +kernel
theorem dX0_insertTerm_51 : decode cX0_insertTerm 51 = .ok (.iload 4, 2) := by decide +kernel
theorem dX0_insertTerm_53 : decode cX0_insertTerm 53 = .ok (.iaload, 1) := by decide +kernel
theorem dX0_insertTerm_54 : decode cX0_insertTerm 54 = .ok (.iastore, 1) := by decide +kernel
theorem dX0_insertTerm_55 : decode cX0_insertTerm 55 = .ok (.aload_n 0, 1) := by decide +kernel
theorem dX0_insertTerm_56 : decode cX0_insertTerm 56 = .ok (.getfield 22, 3) := by decide +kernel
theorem dX0_insertTerm_59 : decode cX0_insertTerm 59 = .ok (.iload 4, 2) := by decide +kernel
theorem dX0_insertTerm_61 : decode cX0_insertTerm 61 = .ok (.iconst 1, 1) := by decide +kernel
theorem dX0_insertTerm_62 : decode cX0_insertTerm 62 = .ok (.iadd, 1) := by decide +kernel
theorem dX0_insertTerm_63 : decode cX0_insertTerm 63 = .ok (.aload_n 0, 1) := by decide +kernel
theorem dX0_insertTerm_64 : decode cX0_insertTerm 64 = .ok (.getfield 22, 3) := by decide +kernel
theorem dX0_insertTerm_67 : decode cX0_insertTerm 67 = .ok (.iload 4, 2) := by decide +kernel
theorem dX0_insertTerm_69 : decode cX0_insertTerm 69 = .ok (.iaload, 1) := by decide +kernel
theorem dX0_insertTerm_70 : decode cX0_insertTerm 70 = .ok (.iastore, 1) := by decide +kernel
theorem dX0_insertTerm_71 : decode cX0_insertTerm 71 = .ok (.iload 4, 2) := by decide +kernel
theorem dX0_insertTerm_73 : decode cX0_insertTerm 73 = .ok (.istore_n 3, 1) := by decide +kernel
theorem dX0_insertTerm_74 : decode cX0_insertTerm 74 = .ok (.iinc 4 (-1), 3) := by decide +kernel
theorem dX0_insertTerm_77 : decode cX0_insertTerm 77 = .ok (.goto (-54), 3) := by decide +kernel
theorem dX0_insertTerm_80 : decode cX0_insertTerm 80 = .ok (.aload_n 0, 1) := by decide +kernel
theorem dX0_insertTerm_81 : decode cX0_insertTerm 81 = .ok (.getfield 18, 3) := by decide +kernel
theorem dX0_insertTerm_84 : decode cX0_insertTerm 84 = .ok (.iload_n 3, 1) := by decide +kernel
theorem dX0_insertTerm_85 : decode cX0_insertTerm 85 = .ok (.iload_n 1, 1) := by decide +kernel
theorem dX0_insertTerm_86 : decode cX0_insertTerm 86 = .ok (.iastore, 1) := by decide +kernel
theorem dX0_insertTerm_87 : decode cX0_insertTerm 87 = .ok (.aload_n 0, 1) := by decide +kernel
theorem dX0_insertTerm_88 : decode cX0_insertTerm 88 = .ok (.getfield 22, 3) := by decide +kernel
theorem dX0_insertTerm_91 : decode cX0_insertTerm 91 = .ok (.iload_n 3, 1) := by decide +kernel
theorem dX0_insertTerm_92 : decode cX0_insertTerm 92 = .ok (.iload_n 2, 1) := by decide +kernel
theorem dX0_insertTerm_93 : decode cX0_insertTerm 93 = .ok (.iastore, 1) := by decide +kernel
theorem dX0_insertTerm_94 : decode cX0_insertTerm 94 = .ok (.aload_n 0, 1) := by decide +kernel
theorem dX0_insertTerm_95 : decode cX0_insertTerm 95 = .ok (.dup, 1) := by decide +kernel
theorem dX0_insertTerm_96 : decode cX0_insertTerm 96 = .ok (.getfield 15, 3) := by decide +kernel
theorem dX0_insertTerm_99 : decode cX0_insertTerm 99 = .ok (.iconst 1, 1) := by decide +kernel
theorem dX0_insertTerm_100 : decode cX0_insertTerm 100 = .ok (.iadd, 1) := by decide +kernel
theorem dX0_insertTerm_101 : decode cX0_insertTerm 101 = .ok (.putfield 15, 3) := by decide +kernel
theorem dX0_insertTerm_104 : decode cX0_insertTerm 104 = .ok (.return_, 1) := by decide +kernel
theorem dX0_factorOf_0 : decode cX0_factorOf 0 = .ok (.iconst 0, 1) := by decide +kernel
theorem dX0_factorOf_1 : decode cX0_factorOf 1 = .ok (.istore_n 2, 1) := by decide +kernel
theorem dX0_factorOf_2 : decode cX0_factorOf 2 = .ok (.iload_n 2, 1) := by decide +kernel
theorem dX0_factorOf_3 : decode cX0_factorOf 3 = .ok (.aload_n 0, 1) := by decide +kernel
theorem dX0_factorOf_4 : decode cX0_factorOf 4 = .ok (.getfield 15, 3) := by decide +kernel
theorem dX0_factorOf_7 : decode cX0_factorOf 7 = .ok (.if_icmp .ge 26, 3) := by decide +kernel
theorem dX0_factorOf_10 : decode cX0_factorOf 10 = .ok (.aload_n 0, 1) := by decide +kernel
theorem dX0_factorOf_11 : decode cX0_factorOf 11 = .ok (.getfield 18, 3) := by decide +kernel
theorem dX0_factorOf_14 : decode cX0_factorOf 14 = .ok (.iload_n 2, 1) := by decide +kernel
theorem dX0_factorOf_15 : decode cX0_factorOf 15 = .ok (.iaload, 1) := by decide +kernel
theorem dX0_factorOf_16 : decode cX0_factorOf 16 = .ok (.iload_n 1, 1) := by decide +kernel
theorem dX0_factorOf_17 : decode cX0_factorOf 17 = .ok (.if_icmp .ne 10, 3) := by decide +kernel
theorem dX0_factorOf_20 : decode cX0_factorOf 20 = .ok (.aload_n 0, 1) := by decide +kernel
theorem dX0_factorOf_21 : decode cX0_factorOf 21 = .ok (.getfield 22, 3) := by decide +kernel
theorem dX0_factorOf_24 : decode cX0_factorOf 24 = .ok (.iload_n 2, 1) := by decide +kernel
theorem dX0_factorOf_25 : decode cX0_factorOf 25 = .ok (.iaload, 1) := by decide +kernel
theorem dX0_factorOf_26 : decode cX0_factorOf 26 = .ok (.ireturn, 1) := by decide +kernel
theorem dX0_factorOf_27 : decode cX0_factorOf 27 = .ok (.iinc 2 1, 3) := by decide +kernel
theorem dX0_factorOf_30 : decode cX0_factorOf 30 = .ok (.goto (-28), 3) := by decide +kernel
theorem dX0_factorOf_33 : decode cX0_factorOf 33 = .ok (.iconst 0, 1) := by decide +kernel
theorem dX0_factorOf_34 : decode cX0_factorOf 34 = .ok (.ireturn, 1) := by decide +kernel
theorem dX0_hasTermsOf_0 : decode cX0_hasTermsOf 0 = .ok (.aload_n 0, 1) := by decide +kernel
theorem dX0_hasTermsOf_1 : decode cX0_hasTermsOf 1 = .ok (.getfield 15, 3) := by decide +kernel
theorem dX0_hasTermsOf_4 : decode cX0_hasTermsOf 4 = .ok (.aload_n 1, 1) := by decide +kernel
theorem dX0_hasTermsOf_5 : decode cX0_hasTermsOf 5 = .ok (.getfield 15, 3) := by decide +kernel
theorem dX0_hasTermsOf_8 : decode cX0_hasTermsOf 8 = .ok (.if_icmp .eq 5, 3) := by decide +kernel
theorem dX0_hasTermsOf_11 : decode cX0_hasTermsOf 11 = .ok (.iconst 0, 1) := by decide +kernel
theorem dX0_hasTermsOf_12 : decode cX0_hasTermsOf 12 = .ok (.ireturn, 1) := by decide +kernel
theorem dX0_hasTermsOf_13 : decode cX0_hasTermsOf 13 = .ok (.iconst 0, 1) := by decide +kernel
theorem dX0_hasTermsOf_14 : decode cX0_hasTermsOf 14 = .ok (.istore_n 2, 1) := by decide +kernel
theorem dX0_hasTermsOf_15 : decode cX0_hasTermsOf 15 = .ok (.iload_n 2, 1) := by decide +kernel
theorem dX0_hasTermsOf_16 : decode cX0_hasTermsOf 16 = .ok (.aload_n 0, 1) := by decide +kernel
theorem dX0_hasTermsOf_17 : decode cX0_hasTermsOf 17 = .ok (.getfield 15, 3) := by decide +kernel
theorem dX0_hasTermsOf_20 : decode cX0_hasTermsOf 20 = .ok (.if_icmp .ge 41, 3) := by decide +kernel
theorem dX0_hasTermsOf_23 : decode cX0_hasTermsOf 23 = .ok (.aload_n 0, 1) := by decide +kernel
theorem dX0_hasTermsOf_24 : decode cX0_hasTermsOf 24 = .ok (.getfield 18, 3) := by decide +kernel
theorem dX0_hasTermsOf_27 : decode cX0_hasTermsOf 27 = .ok (.iload_n 2, 1) := by decide +kernel
theorem dX0_hasTermsOf_28 : decode cX0_hasTermsOf 28 = .ok (.iaload, 1) := by decide +kernel
theorem dX0_hasTermsOf_29 : decode cX0_hasTermsOf 29 = .ok (.aload_n 1, 1) := by decide +kernel
theorem dX0_hasTermsOf_30 : decode cX0_hasTermsOf 30 = .ok (.getfield 18, 3) := by decide +kernel
theorem dX0_hasTermsOf_33 : decode cX0_hasTermsOf 33 = .ok (.iload_n 2, 1) := by decide +kernel
theorem dX0_hasTermsOf_34 : decode cX0_hasTermsOf 34 = .ok (.iaload, 1) := by decide +kernel
theorem dX0_hasTermsOf_35 : decode cX0_hasTermsOf 35 = .ok (.if_icmp .ne 18, 3) := by decide +kernel
theorem dX0_hasTermsOf_38 : decode cX0_hasTermsOf 38 = .ok (.aload_n 0, 1) := by decide +kernel
theorem dX0_hasTermsOf_39 : decode cX0_hasTermsOf 39 = .ok (.getfield 22, 3) := by decide +kernel
theorem dX0_hasTermsOf_42 : decode cX0_hasTermsOf 42 = .ok (.iload_n 2, 1) := by decide +kernel
theorem dX0_hasTermsOf_43 : decode cX0_hasTermsOf 43 = .ok (.iaload, 1) := by decide +kernel
theorem dX0_hasTermsOf_44 : decode cX0_hasTermsOf 44 = .ok (.aload_n 1, 1) := by decide +kernel
theorem dX0_hasTermsOf_45 : decode cX0_hasTermsOf 45 = .ok (.getfield 22, 3) := by decide +kernel
theorem dX0_hasTermsOf_48 : decode cX0_hasTermsOf 48 = .ok (.iload_n 2, 1) := by decide +kernel
theorem dX0_hasTermsOf_49 : decode cX0_hasTermsOf 49 = .ok (.iaload, 1) := by decide +kernel
theorem dX0_hasTermsOf_50 : decode cX0_hasTermsOf 50 = .ok (.if_icmp .eq 5, 3) := by decide +kernel
theorem dX0_hasTermsOf_53 : decode cX0_hasTermsOf 53 = .ok (.iconst 0, 1) := by decide +kernel
theorem dX0_hasTermsOf_54 : decode cX0_hasTermsOf 54 = .ok (.ireturn, 1) := by decide +kernel
theorem dX0_hasTermsOf_55 : decode cX0_hasTermsOf 55 = .ok (.iinc 2 1, 3) := by decide +kernel
theorem dX0_hasTermsOf_58 : decode cX0_hasTermsOf 58 = .ok (.goto (-43), 3) := by decide +kernel
theorem dX0_hasTermsOf_61 : decode cX0_hasTermsOf 61 = .ok (.iconst 1, 1) := by decide +kernel
theorem dX0_hasTermsOf_62 : decode cX0_hasTermsOf 62 = .ok (.ireturn, 1) := by decide +kernel
theorem dX0_degree_0 : decode cX0_degree 0 = .ok (.iconst 0, 1) := by decide +kernel
theorem dX0_degree_1 : decode cX0_degree 1 = .ok (.istore_n 1, 1) := by decide +kernel
theorem dX0_degree_2 : decode cX0_degree 2 = .ok (.iconst 0, 1) := by decide +kernel
theorem dX0_degree_3 : decode cX0_degree 3 = .ok (.istore_n 2, 1) := by decide +kernel
theorem dX0_degree_4 : decode cX0_degree 4 = .ok (.iload_n 2, 1) := by decide +kernel
theorem dX0_degree_5 : decode cX0_degree 5 = .ok (.aload_n 0, 1) := by decide +kernel
theorem dX0_degree_6 : decode cX0_degree 6 = .ok (.getfield 15, 3) := by decide +kernel
theorem dX0_degree_9 : decode cX0_degree 9 = .ok (.if_icmp .ge 33, 3) := by decide +kernel
theorem dX0_degree_12 : decode cX0_degree 12 = .ok (.iload_n 1, 1) := by decide +kernel
theorem dX0_degree_13 : decode cX0_degree 13 = .ok (.aload_n 0, 1) := by decide +kernel
theorem dX0_degree_14 : decode cX0_degree 14 = .ok (.getfield 18, 3) := by decide +kernel
theorem dX0_degree_17 : decode cX0_degree 17 = .ok (.iload_n 2, 1) := by decide +kernel
theorem dX0_degree_18 : decode cX0_degree 18 = .ok (.iaload, 1) := by decide +kernel
theorem dX0_degree_19 : decode cX0_degree 19 = .ok (.bipush 9, 2) := by decide +kernel
theorem dX0_degree_21 : decode cX0_degree 21 = .ok (.idiv, 1) := by decide +kernel
theorem dX0_degree_22 : decode cX0_degree 22 = .ok (.aload_n 0, 1) := by decide +kernel
theorem dX0_degree_23 : decode cX0_degree 23 = .ok (.getfield 18, 3) := by decide +kernel
theorem dX0_degree_26 : decode cX0_degree 26 = .ok (.iload_n 2, 1) := by decide +kernel
theorem dX0_degree_27 : decode cX0_degree 27 = .ok (.iaload, 1) := by decide +kernel
theorem dX0_degree_28 : decode cX0_degree 28 = .ok (.bipush 9, 2) := by decide +kernel
theorem dX0_degree_30 : decode cX0_degree 30 = .ok (.irem, 1) := by decide +kernel
theorem dX0_degree_31 : decode cX0_degree 31 = .ok (.iadd, 1) := by decide +kernel
theorem dX0_degree_32 : decode cX0_degree 32 = .ok (.invokestatic 45, 3) := by decide +kernel
theorem dX0_degree_35 : decode cX0_degree 35 = .ok (.istore_n 1, 1) := by decide +kernel
theorem dX0_degree_36 : decode cX0_degree 36 = .ok (.iinc 2 1, 3) := by decide +kernel
theorem dX0_degree_39 : decode cX0_degree 39 = .ok (.goto (-35), 3) := by decide +kernel
theorem dX0_degree_42 : decode cX0_degree 42 = .ok (.iload_n 1, 1) := by decide +kernel
theorem dX0_degree_43 : decode cX0_degree 43 = .ok (.ireturn, 1) := by decide +kernel
theorem dX1_init_0 : decode cX1_init 0 = .ok (.aload_n 0, 1) := by decide +kernel
theorem dX1_init_1 : decode cX1_init 1 = .ok (.invokespecial 3, 3) := by decide +kernel
theorem dX1_init_4 : decode cX1_init 4 = .ok (.aload_n 0, 1) := by decide +kernel
theorem dX1_init_5 : decode cX1_init 5 = .ok (.bipush 8, 2) := by decide +kernel
theorem dX1_init_7 : decode cX1_init 7 = .ok (.bipush 8, 2) := by decide +kernel
theorem dX1_init_9 : decode cX1_init 9 = .ok (.multianewarray 9 2, 4) := by decide +kernel
theorem dX1_init_13 : decode cX1_init 13 = .ok (.putfield 11, 3) := by decide +kernel
theorem dX1_init_16 : decode cX1_init 16 = .ok (.aload_n 0, 1) := by decide +kernel
theorem dX1_init_17 : decode cX1_init 17 = .ok (.bipush 8, 2) := by decide +kernel
theorem dX1_init_19 : decode cX1_init 19 = .ok (.bipush 8, 2) := by decide +kernel
theorem dX1_init_21 : decode cX1_init 21 = .ok (.multianewarray 9 2, 4) := by decide +kernel
theorem dX1_init_25 : decode cX1_init 25 = .ok (.putfield 16, 3) := by decide +kernel
theorem dX1_init_28 : decode cX1_init 28 = .ok (.aload_n 0, 1) := by decide +kernel
theorem dX1_init_29 : decode cX1_init 29 = .ok (.bipush 8, 2) := by decide +kernel
theorem dX1_init_31 : decode cX1_init 31 = .ok (.newarray .int, 2) := by decide +kernel
theorem dX1_init_33 : decode cX1_init 33 = .ok (.putfield 19, 3) := by decide +kernel
theorem dX1_init_36 : decode cX1_init 36 = .ok (.aload_n 0, 1) := by decide +kernel
theorem dX1_init_37 : decode cX1_init 37 = .ok (.iconst 0, 1) := by decide +kernel
theorem dX1_init_38 : decode cX1_init 38 = .ok (.putfield 23, 3) := by decide +kernel
theorem dX1_init_41 : decode cX1_init 41 = .ok (.aload_n 0, 1) := by decide +kernel
theorem dX1_init_42 : decode cX1_init 42 = .ok (.bipush 8, 2) := by decide +kernel
theorem dX1_init_44 : decode cX1_init 44 = .ok (.newarray .int, 2) := by decide +kernel
theorem dX1_init_46 : decode cX1_init 46 = .ok (.putfield 27, 3) := by decide +kernel
theorem dX1_init_49 : decode cX1_init 49 = .ok (.aload_n 0, 1) := by decide +kernel
theorem dX1_init_50 : decode cX1_init 50 = .ok (.bipush 8, 2) := by decide +kernel
theorem dX1_init_52 : decode cX1_init 52 = .ok (.newarray .int, 2) := by decide +kernel
theorem dX1_init_54 : decode cX1_init 54 = .ok (.putfield 30, 3) := by decide +kernel
theorem dX1_init_57 : decode cX1_init 57 = .ok (.aload_n 0, 1) := by decide +kernel
theorem dX1_init_58 : decode cX1_init 58 = .ok (.bipush 8, 2) := by decide +kernel
theorem dX1_init_60 : decode cX1_init 60 = .ok (.newarray .int, 2) := by decide +kernel
theorem dX1_init_62 : decode cX1_init 62 = .ok (.putfield 33, 3) := by decide +kernel
theorem dX1_init_65 : decode cX1_init 65 = .ok (.aload_n 0, 1) := by decide +kernel
theorem dX1_init_66 : decode cX1_init 66 = .ok (.aload_n 1, 1) := by decide +kernel
theorem dX1_init_67 : decode cX1_init 67 = .ok (.putfield 36, 3) := by decide +kernel
theorem dX1_init_70 : decode cX1_init 70 = .ok (.return_, 1) := by decide +kernel
theorem dX1_restart_0 : decode cX1_restart 0 = .ok (.aload_n 0, 1) := by decide +kernel
theorem dX1_restart_1 : decode cX1_restart 1 = .ok (.iconst 0, 1) := by decide +kernel
theorem dX1_restart_2 : decode cX1_restart 2 = .ok (.putfield 23, 3) := by decide +kernel
theorem dX1_restart_5 : decode cX1_restart 5 = .ok (.return_, 1) := by decide +kernel
theorem dX1_keepIfIndependent_0 : decode cX1_keepIfIndependent 0 = .ok (.iconst 0, 1) := by decide +kernel
theorem dX1_keepIfIndependent_1 : decode cX1_keepIfIndependent 1 = .ok (.istore_n 2, 1) := by decide +kernel
theorem dX1_keepIfIndependent_2 : decode cX1_keepIfIndependent 2 = .ok (.iload_n 2, 1) := by decide +kernel
theorem dX1_keepIfIndependent_3 : decode cX1_keepIfIndependent 3 = .ok (.aload_n 0, 1) := by decide +kernel
theorem dX1_keepIfIndependent_4 : decode cX1_keepIfIndependent 4 = .ok (.getfield 36, 3) := by decide +kernel
theorem dX1_keepIfIndependent_7 : decode cX1_keepIfIndependent 7 = .ok (.getfield 52, 3) := by decide +kernel
theorem dX1_keepIfIndependent_10 : decode cX1_keepIfIndependent 10 = .ok (.if_icmp .ge 24, 3) := by decide +kernel
theorem dX1_keepIfIndependent_13 : decode cX1_keepIfIndependent 13 = .ok (.aload_n 0, 1) := by decide +kernel
theorem dX1_keepIfIndependent_14 : decode cX1_keepIfIndependent 14 = .ok (.getfield 30, 3) := by decide +kernel
theorem dX1_keepIfIndependent_17 : decode cX1_keepIfIndependent 17 = .ok (.iload_n 2, 1) := by decide +kernel
theorem dX1_keepIfIndependent_18 : decode cX1_keepIfIndependent 18 = .ok (.aload_n 0, 1) := by decide +kernel
theorem dX1_keepIfIndependent_19 : decode cX1_keepIfIndependent 19 = .ok (.getfield 36, 3) := by decide +kernel
theorem dX1_keepIfIndependent_22 : decode cX1_keepIfIndependent 22 = .ok (.iload_n 1, 1) := by decide +kernel
theorem dX1_keepIfIndependent_23 : decode cX1_keepIfIndependent 23 = .ok (.iload_n 2, 1) := by decide +kernel
theorem dX1_keepIfIndependent_24 : decode cX1_keepIfIndependent 24 = .ok (.invokevirtual 55, 3) := by decide +kernel
theorem dX1_keepIfIndependent_27 : decode cX1_keepIfIndependent 27 = .ok (.iastore, 1) := by decide +kernel
theorem dX1_keepIfIndependent_28 : decode cX1_keepIfIndependent 28 = .ok (.iinc 2 1, 3) := by decide +kernel
theorem dX1_keepIfIndependent_31 : decode cX1_keepIfIndependent 31 = .ok (.goto (-29), 3) := by decide +kernel
theorem dX1_keepIfIndependent_34 : decode cX1_keepIfIndependent 34 = .ok (.aload_n 0, 1) := by decide +kernel
theorem dX1_keepIfIndependent_35 : decode cX1_keepIfIndependent 35 = .ok (.invokevirtual 59, 3) := by decide +kernel
theorem dX1_keepIfIndependent_38 : decode cX1_keepIfIndependent 38 = .ok (.aload_n 0, 1) := by decide +kernel
theorem dX1_keepIfIndependent_39 : decode cX1_keepIfIndependent 39 = .ok (.invokevirtual 62, 3) := by decide +kernel
theorem dX1_keepIfIndependent_42 : decode cX1_keepIfIndependent 42 = .ok (.istore_n 2, 1) := by decide +kernel
theorem dX1_keepIfIndependent_43 : decode cX1_keepIfIndependent 43 = .ok (.iload_n 2, 1) := by decide +kernel
theorem dX1_keepIfIndependent_44 : decode cX1_keepIfIndependent 44 = .ok (.iconst (-1), 1) := by decide +kernel
theorem dX1_keepIfIndependent_45 : decode cX1_keepIfIndependent 45 = .ok (.if_icmp .eq 12, 3) := by decide +kernel
theorem dX1_keepIfIndependent_48 : decode cX1_keepIfIndependent 48 = .ok (.aload_n 0, 1) := by decide +kernel
theorem dX1_keepIfIndependent_49 : decode cX1_keepIfIndependent 49 = .ok (.getfield 23, 3) := by decide +kernel
theorem dX1_keepIfIndependent_52 : decode cX1_keepIfIndependent 52 = .ok (.bipush 8, 2) := by decide +kernel
theorem dX1_keepIfIndependent_54 : decode cX1_keepIfIndependent 54 = .ok (.if_icmp .lt 5, 3) := by decide +kernel
theorem dX1_keepIfIndependent_57 : decode cX1_keepIfIndependent 57 = .ok (.iconst 0, 1) := by decide +kernel
theorem dX1_keepIfIndependent_58 : decode cX1_keepIfIndependent 58 = .ok (.ireturn, 1) := by decide +kernel
theorem dX1_keepIfIndependent_59 : decode cX1_keepIfIndependent 59 = .ok (.aload_n 0, 1) := by decide +kernel
theorem dX1_keepIfIndependent_60 : decode cX1_keepIfIndependent 60 = .ok (.iload_n 1, 1) := by decide +kernel
theorem dX1_keepIfIndependent_61 : decode cX1_keepIfIndependent 61 = .ok (.iload_n 2, 1) := by decide +kernel
theorem dX1_keepIfIndependent_62 : decode cX1_keepIfIndependent 62 = .ok (.invokevirtual 66, 3) := by decide +kernel
theorem dX1_keepIfIndependent_65 : decode cX1_keepIfIndependent 65 = .ok (.iconst 1, 1) := by decide +kernel
theorem dX1_keepIfIndependent_66 : decode cX1_keepIfIndependent 66 = .ok (.ireturn, 1) := by decide +kernel
theorem dX1_reduceValues_0 : decode cX1_reduceValues 0 = .ok (.aload_n 0, 1) := by decide +kernel
theorem dX1_reduceValues_1 : decode cX1_reduceValues 1 = .ok (.getfield 33, 3) := by decide +kernel
theorem dX1_reduceValues_4 : decode cX1_reduceValues 4 = .ok (.iconst 0, 1) := by decide +kernel
theorem dX1_reduceValues_5 : decode cX1_reduceValues 5 = .ok (.invokestatic 70, 3) := by decide +kernel
theorem dX1_reduceValues_8 : decode cX1_reduceValues 8 = .ok (.iconst 0, 1) := by decide +kernel
theorem dX1_reduceValues_9 : decode cX1_reduceValues 9 = .ok (.istore_n 1, 1) := by decide +kernel
theorem dX1_reduceValues_10 : decode cX1_reduceValues 10 = .ok (.iload_n 1, 1) := by decide +kernel
theorem dX1_reduceValues_11 : decode cX1_reduceValues 11 = .ok (.aload_n 0, 1) := by decide +kernel
theorem dX1_reduceValues_12 : decode cX1_reduceValues 12 = .ok (.getfield 23, 3) := by decide +kernel
theorem dX1_reduceValues_15 : decode cX1_reduceValues 15 = .ok (.if_icmp .ge 59, 3) := by decide +kernel
theorem dX1_reduceValues_18 : decode cX1_reduceValues 18 = .ok (.aload_n 0, 1) := by decide +kernel
theorem dX1_reduceValues_19 : decode cX1_reduceValues 19 = .ok (.getfield 30, 3) := by decide +kernel
theorem dX1_reduceValues_22 : decode cX1_reduceValues 22 = .ok (.aload_n 0, 1) := by decide +kernel
theorem dX1_reduceValues_23 : decode cX1_reduceValues 23 = .ok (.getfield 19, 3) := by decide +kernel
theorem dX1_reduceValues_26 : decode cX1_reduceValues 26 = .ok (.iload_n 1, 1) := by decide +kernel
theorem dX1_reduceValues_27 : decode cX1_reduceValues 27 = .ok (.iaload, 1) := by decide +kernel
theorem dX1_reduceValues_28 : decode cX1_reduceValues 28 = .ok (.iaload, 1) := by decide +kernel
theorem dX1_reduceValues_29 : decode cX1_reduceValues 29 = .ok (.istore_n 2, 1) := by decide +kernel
theorem dX1_reduceValues_30 : decode cX1_reduceValues 30 = .ok (.aload_n 0, 1) := by decide +kernel
theorem dX1_reduceValues_31 : decode cX1_reduceValues 31 = .ok (.aload_n 0, 1) := by decide +kernel
theorem dX1_reduceValues_32 : decode cX1_reduceValues 32 = .ok (.getfield 30, 3) := by decide +kernel
theorem dX1_reduceValues_35 : decode cX1_reduceValues 35 = .ok (.aload_n 0, 1) := by decide +kernel
theorem dX1_reduceValues_36 : decode cX1_reduceValues 36 = .ok (.getfield 11, 3) := by decide +kernel
theorem dX1_reduceValues_39 : decode cX1_reduceValues 39 = .ok (.iload_n 1, 1) := by decide +kernel
theorem dX1_reduceValues_40 : decode cX1_reduceValues 40 = .ok (.aaload, 1) := by decide +kernel
theorem dX1_reduceValues_41 : decode cX1_reduceValues 41 = .ok (.aload_n 0, 1) := by decide +kernel
theorem dX1_reduceValues_42 : decode cX1_reduceValues 42 = .ok (.getfield 36, 3) := by decide +kernel
theorem dX1_reduceValues_45 : decode cX1_reduceValues 45 = .ok (.getfield 76, 3) := by decide +kernel
theorem dX1_reduceValues_48 : decode cX1_reduceValues 48 = .ok (.iload_n 2, 1) := by decide +kernel
theorem dX1_reduceValues_49 : decode cX1_reduceValues 49 = .ok (.isub, 1) := by decide +kernel
theorem dX1_reduceValues_50 : decode cX1_reduceValues 50 = .ok (.invokevirtual 79, 3) := by decide +kernel
theorem dX1_reduceValues_53 : decode cX1_reduceValues 53 = .ok (.aload_n 0, 1) := by decide +kernel
theorem dX1_reduceValues_54 : decode cX1_reduceValues 54 = .ok (.aload_n 0, 1) := by decide +kernel
theorem dX1_reduceValues_55 : decode cX1_reduceValues 55 = .ok (.getfield 33, 3) := by decide +kernel
theorem dX1_reduceValues_58 : decode cX1_reduceValues 58 = .ok (.aload_n 0, 1) := by decide +kernel
theorem dX1_reduceValues_59 : decode cX1_reduceValues 59 = .ok (.getfield 16, 3) := by decide +kernel
theorem dX1_reduceValues_62 : decode cX1_reduceValues 62 = .ok (.iload_n 1, 1) := by decide +kernel
theorem dX1_reduceValues_63 : decode cX1_reduceValues 63 = .ok (.aaload, 1) := by decide +kernel
theorem dX1_reduceValues_64 : decode cX1_reduceValues 64 = .ok (.iload_n 2, 1) := by decide +kernel
theorem dX1_reduceValues_65 : decode cX1_reduceValues 65 = .ok (.invokevirtual 79, 3) := by decide +kernel
theorem dX1_reduceValues_68 : decode cX1_reduceValues 68 = .ok (.iinc 1 1, 3) := by decide +kernel
theorem dX1_reduceValues_71 : decode cX1_reduceValues 71 = .ok (.goto (-61), 3) := by decide +kernel
theorem dX1_reduceValues_74 : decode cX1_reduceValues 74 = .ok (.return_, 1) := by decide +kernel
theorem dX1_addMultiple_0 : decode cX1_addMultiple 0 = .ok (.iconst 0, 1) := by decide +kernel
theorem dX1_addMultiple_1 : decode cX1_addMultiple 1 = .ok (.istore 4, 2) := by decide +kernel
theorem dX1_addMultiple_3 : decode cX1_addMultiple 3 = .ok (.iload 4, 2) := by decide +kernel
theorem dX1_addMultiple_5 : decode cX1_addMultiple 5 = .ok (.aload_n 0, 1) := by decide +kernel
theorem dX1_addMultiple_6 : decode cX1_addMultiple 6 = .ok (.getfield 36, 3) := by decide +kernel
theorem dX1_addMultiple_9 : decode cX1_addMultiple 9 = .ok (.getfield 52, 3) := by decide +kernel
theorem dX1_addMultiple_12 : decode cX1_addMultiple 12 = .ok (.if_icmp .ge 32, 3) := by decide +kernel
theorem dX1_addMultiple_15 : decode cX1_addMultiple 15 = .ok (.aload_n 1, 1) := by decide +kernel
theorem dX1_addMultiple_16 : decode cX1_addMultiple 16 = .ok (.iload 4, 2) := by decide +kernel
theorem dX1_addMultiple_18 : decode cX1_addMultiple 18 = .ok (.aload_n 1, 1) := by decide +kernel
theorem dX1_addMultiple_19 : decode cX1_addMultiple 19 = .ok (.iload 4, 2) := by decide +kernel
theorem dX1_addMultiple_21 : decode cX1_addMultiple 21 = .ok (.iaload, 1) := by decide +kernel
theorem dX1_addMultiple_22 : decode cX1_addMultiple 22 = .ok (.iload_n 3, 1) := by decide +kernel
theorem dX1_addMultiple_23 : decode cX1_addMultiple 23 = .ok (.aload_n 2, 1) := by decide +kernel
theorem dX1_addMultiple_24 : decode cX1_addMultiple 24 = .ok (.iload 4, 2) := by decide +kernel
theorem dX1_addMultiple_26 : decode cX1_addMultiple 26 = .ok (.iaload, 1) := by decide +kernel
theorem dX1_addMultiple_27 : decode cX1_addMultiple 27 = .ok (.imul, 1) := by decide +kernel
theorem dX1_addMultiple_28 : decode cX1_addMultiple 28 = .ok (.iadd, 1) := by decide +kernel
theorem dX1_addMultiple_29 : decode cX1_addMultiple 29 = .ok (.aload_n 0, 1) := by decide +kernel
theorem dX1_addMultiple_30 : decode cX1_addMultiple 30 = .ok (.getfield 36, 3) := by decide +kernel
theorem dX1_addMultiple_33 : decode cX1_addMultiple 33 = .ok (.getfield 76, 3) := by decide +kernel
theorem dX1_addMultiple_36 : decode cX1_addMultiple 36 = .ok (.irem, 1) := by decide +kernel
theorem dX1_addMultiple_37 : decode cX1_addMultiple 37 = .ok (.iastore, 1) := by decide +kernel
theorem dX1_addMultiple_38 : decode cX1_addMultiple 38 = .ok (.iinc 4 1, 3) := by decide +kernel
theorem dX1_addMultiple_41 : decode cX1_addMultiple 41 = .ok (.goto (-38), 3) := by decide +kernel
theorem dX1_addMultiple_44 : decode cX1_addMultiple 44 = .ok (.return_, 1) := by decide +kernel
theorem dX1_firstNonzeroValue_0 : decode cX1_firstNonzeroValue 0 = .ok (.iconst 0, 1) := by decide +kernel
theorem dX1_firstNonzeroValue_1 : decode cX1_firstNonzeroValue 1 = .ok (.istore_n 1, 1) := by decide +kernel
theorem dX1_firstNonzeroValue_2 : decode cX1_firstNonzeroValue 2 = .ok (.iload_n 1, 1) := by decide +kernel
theorem dX1_firstNonzeroValue_3 : decode cX1_firstNonzeroValue 3 = .ok (.aload_n 0, 1) := by decide +kernel
theorem dX1_firstNonzeroValue_4 : decode cX1_firstNonzeroValue 4 = .ok (.getfield 36, 3) := by decide +kernel
theorem dX1_firstNonzeroValue_7 : decode cX1_firstNonzeroValue 7 = .ok (.getfield 52, 3) := by decide +kernel
theorem dX1_firstNonzeroValue_10 : decode cX1_firstNonzeroValue 10 = .ok (.if_icmp .ge 20, 3) := by decide +kernel
theorem dX1_firstNonzeroValue_13 : decode cX1_firstNonzeroValue 13 = .ok (.aload_n 0, 1) := by decide +kernel
theorem dX1_firstNonzeroValue_14 : decode cX1_firstNonzeroValue 14 = .ok (.getfield 30, 3) := by decide +kernel
theorem dX1_firstNonzeroValue_17 : decode cX1_firstNonzeroValue 17 = .ok (.iload_n 1, 1) := by decide +kernel
theorem dX1_firstNonzeroValue_18 : decode cX1_firstNonzeroValue 18 = .ok (.iaload, 1) := by decide +kernel
theorem dX1_firstNonzeroValue_19 : decode cX1_firstNonzeroValue 19 = .ok (.ifCond .eq 5, 3) := by decide +kernel
theorem dX1_firstNonzeroValue_22 : decode cX1_firstNonzeroValue 22 = .ok (.iload_n 1, 1) := by decide +kernel
theorem dX1_firstNonzeroValue_23 : decode cX1_firstNonzeroValue 23 = .ok (.ireturn, 1) := by decide +kernel
theorem dX1_firstNonzeroValue_24 : decode cX1_firstNonzeroValue 24 = .ok (.iinc 1 1, 3) := by decide +kernel
theorem dX1_firstNonzeroValue_27 : decode cX1_firstNonzeroValue 27 = .ok (.goto (-25), 3) := by decide +kernel
theorem dX1_firstNonzeroValue_30 : decode cX1_firstNonzeroValue 30 = .ok (.iconst (-1), 1) := by decide +kernel
theorem dX1_firstNonzeroValue_31 : decode cX1_firstNonzeroValue 31 = .ok (.ireturn, 1) := by decide +kernel
theorem dX1_keepValues_0 : decode cX1_keepValues 0 = .ok (.aload_n 0, 1) := by decide +kernel
theorem dX1_keepValues_1 : decode cX1_keepValues 1 = .ok (.getfield 36, 3) := by decide +kernel
theorem dX1_keepValues_4 : decode cX1_keepValues 4 = .ok (.aload_n 0, 1) := by decide +kernel
theorem dX1_keepValues_5 : decode cX1_keepValues 5 = .ok (.getfield 30, 3) := by decide +kernel
theorem dX1_keepValues_8 : decode cX1_keepValues 8 = .ok (.iload_n 2, 1) := by decide +kernel
theorem dX1_keepValues_9 : decode cX1_keepValues 9 = .ok (.iaload, 1) := by decide +kernel
theorem dX1_keepValues_10 : decode cX1_keepValues 10 = .ok (.invokevirtual 83, 3) := by decide +kernel
theorem dX1_keepValues_13 : decode cX1_keepValues 13 = .ok (.istore_n 3, 1) := by decide +kernel
theorem dX1_keepValues_14 : decode cX1_keepValues 14 = .ok (.aload_n 0, 1) := by decide +kernel
theorem dX1_keepValues_15 : decode cX1_keepValues 15 = .ok (.getfield 36, 3) := by decide +kernel
theorem dX1_keepValues_18 : decode cX1_keepValues 18 = .ok (.getfield 76, 3) := by decide +kernel
theorem dX1_keepValues_21 : decode cX1_keepValues 21 = .ok (.iload_n 3, 1) := by decide +kernel
theorem dX1_keepValues_22 : decode cX1_keepValues 22 = .ok (.isub, 1) := by decide +kernel
theorem dX1_keepValues_23 : decode cX1_keepValues 23 = .ok (.istore 4, 2) := by decide +kernel
theorem dX1_keepValues_25 : decode cX1_keepValues 25 = .ok (.iconst 0, 1) := by decide +kernel
theorem dX1_keepValues_26 : decode cX1_keepValues 26 = .ok (.istore 5, 2) := by decide +kernel
theorem dX1_keepValues_28 : decode cX1_keepValues 28 = .ok (.iload 5, 2) := by decide +kernel
theorem dX1_keepValues_30 : decode cX1_keepValues 30 = .ok (.aload_n 0, 1) := by decide +kernel
theorem dX1_keepValues_31 : decode cX1_keepValues 31 = .ok (.getfield 36, 3) := by decide +kernel
theorem dX1_keepValues_34 : decode cX1_keepValues 34 = .ok (.getfield 52, 3) := by decide +kernel
theorem dX1_keepValues_37 : decode cX1_keepValues 37 = .ok (.if_icmp .ge 68, 3) := by decide +kernel
theorem dX1_keepValues_40 : decode cX1_keepValues 40 = .ok (.aload_n 0, 1) := by decide +kernel
theorem dX1_keepValues_41 : decode cX1_keepValues 41 = .ok (.getfield 11, 3) := by decide +kernel
theorem dX1_keepValues_44 : decode cX1_keepValues 44 = .ok (.aload_n 0, 1) := by decide +kernel
theorem dX1_keepValues_45 : decode cX1_keepValues 45 = .ok (.getfield 23, 3) := by decide +kernel
theorem dX1_keepValues_48 : decode cX1_keepValues 48 = .ok (.aaload, 1) := by decide +kernel
theorem dX1_keepValues_49 : decode cX1_keepValues 49 = .ok (.iload 5, 2) := by decide +kernel
theorem dX1_keepValues_51 : decode cX1_keepValues 51 = .ok (.iload_n 3, 1) := by decide +kernel
theorem dX1_keepValues_52 : decode cX1_keepValues 52 = .ok (.aload_n 0, 1) := by decide +kernel
theorem dX1_keepValues_53 : decode cX1_keepValues 53 = .ok (.getfield 30, 3) := by decide +kernel
theorem dX1_keepValues_56 : decode cX1_keepValues 56 = .ok (.iload 5, 2) := by decide +kernel
theorem dX1_keepValues_58 : decode cX1_keepValues 58 = .ok (.iaload, 1) := by decide +kernel
theorem dX1_keepValues_59 : decode cX1_keepValues 59 = .ok (.imul, 1) := by decide +kernel
theorem dX1_keepValues_60 : decode cX1_keepValues 60 = .ok (.aload_n 0, 1) := by decide +kernel
theorem dX1_keepValues_61 : decode cX1_keepValues 61 = .ok (.getfield 36, 3) := by decide +kernel
theorem dX1_keepValues_64 : decode cX1_keepValues 64 = .ok (.getfield 76, 3) := by decide +kernel
theorem dX1_keepValues_67 : decode cX1_keepValues 67 = .ok (.irem, 1) := by decide +kernel
theorem dX1_keepValues_68 : decode cX1_keepValues 68 = .ok (.iastore, 1) := by decide +kernel
theorem dX1_keepValues_69 : decode cX1_keepValues 69 = .ok (.aload_n 0, 1) := by decide +kernel
theorem dX1_keepValues_70 : decode cX1_keepValues 70 = .ok (.getfield 16, 3) := by decide +kernel
theorem dX1_keepValues_73 : decode cX1_keepValues 73 = .ok (.aload_n 0, 1) := by decide +kernel
theorem dX1_keepValues_74 : decode cX1_keepValues 74 = .ok (.getfield 23, 3) := by decide +kernel
theorem dX1_keepValues_77 : decode cX1_keepValues 77 = .ok (.aaload, 1) := by decide +kernel
theorem dX1_keepValues_78 : decode cX1_keepValues 78 = .ok (.iload 5, 2) := by decide +kernel
theorem dX1_keepValues_80 : decode cX1_keepValues 80 = .ok (.iload 4, 2) := by decide +kernel
theorem dX1_keepValues_82 : decode cX1_keepValues 82 = .ok (.aload_n 0, 1) := by decide +kernel
theorem dX1_keepValues_83 : decode cX1_keepValues 83 = .ok (.getfield 33, 3) := by decide +kernel
theorem dX1_keepValues_86 : decode cX1_keepValues 86 = .ok (.iload 5, 2) := by decide +kernel
theorem dX1_keepValues_88 : decode cX1_keepValues 88 = .ok (.iaload, 1) := by decide +kernel
theorem dX1_keepValues_89 : decode cX1_keepValues 89 = .ok (.imul, 1) := by decide +kernel
theorem dX1_keepValues_90 : decode cX1_keepValues 90 = .ok (.aload_n 0, 1) := by decide +kernel
theorem dX1_keepValues_91 : decode cX1_keepValues 91 = .ok (.getfield 36, 3) := by decide +kernel
theorem dX1_keepValues_94 : decode cX1_keepValues 94 = .ok (.getfield 76, 3) := by decide +kernel
theorem dX1_keepValues_97 : decode cX1_keepValues 97 = .ok (.irem, 1) := by decide +kernel
theorem dX1_keepValues_98 : decode cX1_keepValues 98 = .ok (.iastore, 1) := by decide +kernel
theorem dX1_keepValues_99 : decode cX1_keepValues 99 = .ok (.iinc 5 1, 3) := by decide +kernel
theorem dX1_keepValues_102 : decode cX1_keepValues 102 = .ok (.goto (-74), 3) := by decide +kernel
theorem dX1_keepValues_105 : decode cX1_keepValues 105 = .ok (.aload_n 0, 1) := by decide +kernel
theorem dX1_keepValues_106 : decode cX1_keepValues 106 = .ok (.getfield 16, 3) := by decide +kernel
theorem dX1_keepValues_109 : decode cX1_keepValues 109 = .ok (.aload_n 0, 1) := by decide +kernel
theorem dX1_keepValues_110 : decode cX1_keepValues 110 = .ok (.getfield 23, 3) := by decide +kernel
theorem dX1_keepValues_113 : decode cX1_keepValues 113 = .ok (.aaload, 1) := by decide +kernel
theorem dX1_keepValues_114 : decode cX1_keepValues 114 = .ok (.aload_n 0, 1) := by decide +kernel
theorem dX1_keepValues_115 : decode cX1_keepValues 115 = .ok (.getfield 23, 3) := by decide +kernel
theorem dX1_keepValues_118 : decode cX1_keepValues 118 = .ok (.iload_n 3, 1) := by decide +kernel
theorem dX1_keepValues_119 : decode cX1_keepValues 119 = .ok (.iastore, 1) := by decide +kernel
theorem dX1_keepValues_120 : decode cX1_keepValues 120 = .ok (.aload_n 0, 1) := by decide +kernel
theorem dX1_keepValues_121 : decode cX1_keepValues 121 = .ok (.getfield 19, 3) := by decide +kernel
theorem dX1_keepValues_124 : decode cX1_keepValues 124 = .ok (.aload_n 0, 1) := by decide +kernel
theorem dX1_keepValues_125 : decode cX1_keepValues 125 = .ok (.getfield 23, 3) := by decide +kernel
theorem dX1_keepValues_128 : decode cX1_keepValues 128 = .ok (.iload_n 2, 1) := by decide +kernel
theorem dX1_keepValues_129 : decode cX1_keepValues 129 = .ok (.iastore, 1) := by decide +kernel
theorem dX1_keepValues_130 : decode cX1_keepValues 130 = .ok (.aload_n 0, 1) := by decide +kernel
theorem dX1_keepValues_131 : decode cX1_keepValues 131 = .ok (.getfield 27, 3) := by decide +kernel
theorem dX1_keepValues_134 : decode cX1_keepValues 134 = .ok (.aload_n 0, 1) := by decide +kernel
theorem dX1_keepValues_135 : decode cX1_keepValues 135 = .ok (.getfield 23, 3) := by decide +kernel
theorem dX1_keepValues_138 : decode cX1_keepValues 138 = .ok (.iload_n 1, 1) := by decide +kernel
theorem dX1_keepValues_139 : decode cX1_keepValues 139 = .ok (.iastore, 1) := by decide +kernel
theorem dX1_keepValues_140 : decode cX1_keepValues 140 = .ok (.aload_n 0, 1) := by decide +kernel
theorem dX1_keepValues_141 : decode cX1_keepValues 141 = .ok (.dup, 1) := by decide +kernel
theorem dX1_keepValues_142 : decode cX1_keepValues 142 = .ok (.getfield 23, 3) := by decide +kernel
theorem dX1_keepValues_145 : decode cX1_keepValues 145 = .ok (.iconst 1, 1) := by decide +kernel
theorem dX1_keepValues_146 : decode cX1_keepValues 146 = .ok (.iadd, 1) := by decide +kernel
theorem dX1_keepValues_147 : decode cX1_keepValues 147 = .ok (.putfield 23, 3) := by decide +kernel
theorem dX1_keepValues_150 : decode cX1_keepValues 150 = .ok (.return_, 1) := by decide +kernel
theorem dX2_init_0 : decode cX2_init 0 = .ok (.aload_n 0, 1) := by decide +kernel
theorem dX2_init_1 : decode cX2_init 1 = .ok (.invokespecial 3, 3) := by decide +kernel
theorem dX2_init_4 : decode cX2_init 4 = .ok (.aload_n 0, 1) := by decide +kernel
theorem dX2_init_5 : decode cX2_init 5 = .ok (.iconst 0, 1) := by decide +kernel
theorem dX2_init_6 : decode cX2_init 6 = .ok (.putfield 9, 3) := by decide +kernel
theorem dX2_init_9 : decode cX2_init 9 = .ok (.aload_n 0, 1) := by decide +kernel
theorem dX2_init_10 : decode cX2_init 10 = .ok (.bipush 22, 2) := by decide +kernel
theorem dX2_init_12 : decode cX2_init 12 = .ok (.anewarray 15, 3) := by decide +kernel
theorem dX2_init_15 : decode cX2_init 15 = .ok (.putfield 17, 3) := by decide +kernel
theorem dX2_init_18 : decode cX2_init 18 = .ok (.iconst 0, 1) := by decide +kernel
theorem dX2_init_19 : decode cX2_init 19 = .ok (.istore_n 1, 1) := by decide +kernel
theorem dX2_init_20 : decode cX2_init 20 = .ok (.iload_n 1, 1) := by decide +kernel
theorem dX2_init_21 : decode cX2_init 21 = .ok (.bipush 22, 2) := by decide +kernel
theorem dX2_init_23 : decode cX2_init 23 = .ok (.if_icmp .ge 22, 3) := by decide +kernel
theorem dX2_init_26 : decode cX2_init 26 = .ok (.aload_n 0, 1) := by decide +kernel
theorem dX2_init_27 : decode cX2_init 27 = .ok (.getfield 17, 3) := by decide +kernel
theorem dX2_init_30 : decode cX2_init 30 = .ok (.iload_n 1, 1) := by decide +kernel
theorem dX2_init_31 : decode cX2_init 31 = .ok (.new 15, 3) := by decide +kernel
theorem dX2_init_34 : decode cX2_init 34 = .ok (.dup, 1) := by decide +kernel
theorem dX2_init_35 : decode cX2_init 35 = .ok (.invokespecial 21, 3) := by decide +kernel
theorem dX2_init_38 : decode cX2_init 38 = .ok (.aastore, 1) := by decide +kernel
theorem dX2_init_39 : decode cX2_init 39 = .ok (.iinc 1 1, 3) := by decide +kernel
theorem dX2_init_42 : decode cX2_init 42 = .ok (.goto (-22), 3) := by decide +kernel
theorem dX2_init_45 : decode cX2_init 45 = .ok (.return_, 1) := by decide +kernel
theorem dX2_forget_0 : decode cX2_forget 0 = .ok (.aload_n 0, 1) := by decide +kernel
theorem dX2_forget_1 : decode cX2_forget 1 = .ok (.iconst 0, 1) := by decide +kernel
theorem dX2_forget_2 : decode cX2_forget 2 = .ok (.putfield 9, 3) := by decide +kernel
theorem dX2_forget_5 : decode cX2_forget 5 = .ok (.return_, 1) := by decide +kernel
theorem dX2_find_0 : decode cX2_find 0 = .ok (.iload_n 1, 1) := by decide +kernel
theorem dX2_find_1 : decode cX2_find 1 = .ok (.ifCond .lt 20, 3) := by decide +kernel
theorem dX2_find_4 : decode cX2_find 4 = .ok (.iload_n 1, 1) := by decide +kernel
theorem dX2_find_5 : decode cX2_find 5 = .ok (.aload_n 0, 1) := by decide +kernel
theorem dX2_find_6 : decode cX2_find 6 = .ok (.getfield 9, 3) := by decide +kernel
theorem dX2_find_9 : decode cX2_find 9 = .ok (.if_icmp .ge 12, 3) := by decide +kernel
theorem dX2_find_12 : decode cX2_find 12 = .ok (.aload_n 0, 1) := by decide +kernel
theorem dX2_find_13 : decode cX2_find 13 = .ok (.getfield 17, 3) := by decide +kernel
theorem dX2_find_16 : decode cX2_find 16 = .ok (.iload_n 1, 1) := by decide +kernel
theorem dX2_find_17 : decode cX2_find 17 = .ok (.aaload, 1) := by decide +kernel
theorem dX2_find_18 : decode cX2_find 18 = .ok (.goto 4, 3) := by decide +kernel
theorem dX2_find_21 : decode cX2_find 21 = .ok (.aconst_null, 1) := by decide +kernel
theorem dX2_find_22 : decode cX2_find 22 = .ok (.areturn, 1) := by decide +kernel
theorem dX2_refresh_0 : decode cX2_refresh 0 = .ok (.aload_n 0, 1) := by decide +kernel
theorem dX2_refresh_1 : decode cX2_refresh 1 = .ok (.getfield 9, 3) := by decide +kernel
theorem dX2_refresh_4 : decode cX2_refresh 4 = .ok (.ifCond .le 4, 3) := by decide +kernel
theorem dX2_refresh_7 : decode cX2_refresh 7 = .ok (.return_, 1) := by decide +kernel
theorem dX2_refresh_8 : decode cX2_refresh 8 = .ok (.aload_n 1, 1) := by decide +kernel
theorem dX2_refresh_9 : decode cX2_refresh 9 = .ok (.iconst 1, 1) := by decide +kernel
theorem dX2_refresh_10 : decode cX2_refresh 10 = .ok (.iconst 0, 1) := by decide +kernel
theorem dX2_refresh_11 : decode cX2_refresh 11 = .ok (.iconst 1, 1) := by decide +kernel
theorem dX2_refresh_12 : decode cX2_refresh 12 = .ok (.invokevirtual 22, 3) := by decide +kernel
theorem dX2_refresh_15 : decode cX2_refresh 15 = .ok (.iconst 0, 1) := by decide +kernel
theorem dX2_refresh_16 : decode cX2_refresh 16 = .ok (.istore_n 3, 1) := by decide +kernel
theorem dX2_refresh_17 : decode cX2_refresh 17 = .ok (.iload_n 3, 1) := by decide +kernel
theorem dX2_refresh_18 : decode cX2_refresh 18 = .ok (.bipush 22, 2) := by decide +kernel
theorem dX2_refresh_20 : decode cX2_refresh 20 = .ok (.if_icmp .ge 57, 3) := by decide +kernel
theorem dX2_refresh_23 : decode cX2_refresh 23 = .ok (.aload_n 0, 1) := by decide +kernel
theorem dX2_refresh_24 : decode cX2_refresh 24 = .ok (.getfield 17, 3) := by decide +kernel
theorem dX2_refresh_27 : decode cX2_refresh 27 = .ok (.iload_n 3, 1) := by decide +kernel
theorem dX2_refresh_28 : decode cX2_refresh 28 = .ok (.aaload, 1) := by decide +kernel
theorem dX2_refresh_29 : decode cX2_refresh 29 = .ok (.astore 4, 2) := by decide +kernel
theorem dX2_refresh_31 : decode cX2_refresh 31 = .ok (.aload 4, 2) := by decide +kernel
theorem dX2_refresh_33 : decode cX2_refresh 33 = .ok (.aload_n 1, 1) := by decide +kernel
theorem dX2_refresh_34 : decode cX2_refresh 34 = .ok (.aload_n 2, 1) := by decide +kernel
theorem dX2_refresh_35 : decode cX2_refresh 35 = .ok (.invokevirtual 28, 3) := by decide +kernel
theorem dX2_refresh_38 : decode cX2_refresh 38 = .ok (.aload_n 0, 1) := by decide +kernel
theorem dX2_refresh_39 : decode cX2_refresh 39 = .ok (.iload_n 3, 1) := by decide +kernel
theorem dX2_refresh_40 : decode cX2_refresh 40 = .ok (.iconst 1, 1) := by decide +kernel
theorem dX2_refresh_41 : decode cX2_refresh 41 = .ok (.iadd, 1) := by decide +kernel
theorem dX2_refresh_42 : decode cX2_refresh 42 = .ok (.putfield 9, 3) := by decide +kernel
theorem dX2_refresh_45 : decode cX2_refresh 45 = .ok (.aload 4, 2) := by decide +kernel
theorem dX2_refresh_47 : decode cX2_refresh 47 = .ok (.invokevirtual 32, 3) := by decide +kernel
theorem dX2_refresh_50 : decode cX2_refresh 50 = .ok (.ifCond .ne 6, 3) := by decide +kernel
theorem dX2_refresh_53 : decode cX2_refresh 53 = .ok (.goto 24, 3) := by decide +kernel
theorem dX2_refresh_56 : decode cX2_refresh 56 = .ok (.aload_n 1, 1) := by decide +kernel
theorem dX2_refresh_57 : decode cX2_refresh 57 = .ok (.aload 4, 2) := by decide +kernel
theorem dX2_refresh_59 : decode cX2_refresh 59 = .ok (.getfield 36, 3) := by decide +kernel
theorem dX2_refresh_62 : decode cX2_refresh 62 = .ok (.aload 4, 2) := by decide +kernel
theorem dX2_refresh_64 : decode cX2_refresh 64 = .ok (.getfield 39, 3) := by decide +kernel
theorem dX2_refresh_67 : decode cX2_refresh 67 = .ok (.iconst 1, 1) := by decide +kernel
theorem dX2_refresh_68 : decode cX2_refresh 68 = .ok (.invokevirtual 22, 3) := by decide +kernel
theorem dX2_refresh_71 : decode cX2_refresh 71 = .ok (.iinc 3 1, 3) := by decide +kernel
theorem dX2_refresh_74 : decode cX2_refresh 74 = .ok (.goto (-57), 3) := by decide +kernel
theorem dX2_refresh_77 : decode cX2_refresh 77 = .ok (.return_, 1) := by decide +kernel
theorem dX2_firstWithin_0 : decode cX2_firstWithin 0 = .ok (.iconst 0, 1) := by decide +kernel
theorem dX2_firstWithin_1 : decode cX2_firstWithin 1 = .ok (.istore_n 3, 1) := by decide +kernel
theorem dX2_firstWithin_2 : decode cX2_firstWithin 2 = .ok (.iload_n 3, 1) := by decide +kernel
theorem dX2_firstWithin_3 : decode cX2_firstWithin 3 = .ok (.aload_n 0, 1) := by decide +kernel
theorem dX2_firstWithin_4 : decode cX2_firstWithin 4 = .ok (.getfield 9, 3) := by decide +kernel
theorem dX2_firstWithin_7 : decode cX2_firstWithin 7 = .ok (.if_icmp .ge 25, 3) := by decide +kernel
theorem dX2_firstWithin_10 : decode cX2_firstWithin 10 = .ok (.aload_n 0, 1) := by decide +kernel
theorem dX2_firstWithin_11 : decode cX2_firstWithin 11 = .ok (.getfield 17, 3) := by decide +kernel
theorem dX2_firstWithin_14 : decode cX2_firstWithin 14 = .ok (.iload_n 3, 1) := by decide +kernel
theorem dX2_firstWithin_15 : decode cX2_firstWithin 15 = .ok (.aaload, 1) := by decide +kernel
theorem dX2_firstWithin_16 : decode cX2_firstWithin 16 = .ok (.iload_n 1, 1) := by decide +kernel
theorem dX2_firstWithin_17 : decode cX2_firstWithin 17 = .ok (.iload_n 2, 1) := by decide +kernel
theorem dX2_firstWithin_18 : decode cX2_firstWithin 18 = .ok (.invokevirtual 42, 3) := by decide +kernel
theorem dX2_firstWithin_21 : decode cX2_firstWithin 21 = .ok (.ifCond .ne 5, 3) := by decide +kernel
theorem dX2_firstWithin_24 : decode cX2_firstWithin 24 = .ok (.iload_n 3, 1) := by decide +kernel
theorem dX2_firstWithin_25 : decode cX2_firstWithin 25 = .ok (.ireturn, 1) := by decide +kernel
theorem dX2_firstWithin_26 : decode cX2_firstWithin 26 = .ok (.iinc 3 1, 3) := by decide +kernel
theorem dX2_firstWithin_29 : decode cX2_firstWithin 29 = .ok (.goto (-27), 3) := by decide +kernel
theorem dX2_firstWithin_32 : decode cX2_firstWithin 32 = .ok (.iconst (-1), 1) := by decide +kernel
theorem dX2_firstWithin_33 : decode cX2_firstWithin 33 = .ok (.ireturn, 1) := by decide +kernel
theorem dX2_countDistinctPolynomials_0 : decode cX2_countDistinctPolynomials 0 = .ok (.iconst 0, 1) := by decide +kernel
theorem dX2_countDistinctPolynomials_1 : decode cX2_countDistinctPolynomials 1 = .ok (.istore_n 1, 1) := by decide +kernel
theorem dX2_countDistinctPolynomials_2 : decode cX2_countDistinctPolynomials 2 = .ok (.iconst 0, 1) := by decide +kernel
theorem dX2_countDistinctPolynomials_3 : decode cX2_countDistinctPolynomials 3 = .ok (.istore_n 2, 1) := by decide +kernel
theorem dX2_countDistinctPolynomials_4 : decode cX2_countDistinctPolynomials 4 = .ok (.iload_n 2, 1) := by decide +kernel
theorem dX2_countDistinctPolynomials_5 : decode cX2_countDistinctPolynomials 5 = .ok (.aload_n 0, 1) := by decide +kernel
theorem dX2_countDistinctPolynomials_6 : decode cX2_countDistinctPolynomials 6 = .ok (.getfield 9, 3) := by decide +kernel
theorem dX2_countDistinctPolynomials_9 : decode cX2_countDistinctPolynomials 9 = .ok (.if_icmp .ge 52, 3) := by decide +kernel
theorem dX2_countDistinctPolynomials_12 : decode cX2_countDistinctPolynomials 12 = .ok (.aload_n 0, 1) := by decide +kernel
theorem dX2_countDistinctPolynomials_13 : decode cX2_countDistinctPolynomials 13 = .ok (.getfield 17, 3) := by decide +kernel
theorem dX2_countDistinctPolynomials_16 : decode cX2_countDistinctPolynomials 16 = .ok (.iload_n 2, 1) := by decide +kernel
theorem dX2_countDistinctPolynomials_17 : decode cX2_countDistinctPolynomials 17 = .ok (.aaload, 1) := by decide +kernel
theorem dX2_countDistinctPolynomials_18 : decode cX2_countDistinctPolynomials 18 = .ok (.astore_n 3, 1) := by decide +kernel
theorem dX2_countDistinctPolynomials_19 : decode cX2_countDistinctPolynomials 19 = .ok (.iconst 0, 1) := by decide +kernel
theorem dX2_countDistinctPolynomials_20 : decode cX2_countDistinctPolynomials 20 = .ok (.istore 4, 2) := by decide +kernel
theorem dX2_countDistinctPolynomials_22 : decode cX2_countDistinctPolynomials 22 = .ok (.iload 4, 2) := by decide +kernel
theorem dX2_countDistinctPolynomials_24 : decode cX2_countDistinctPolynomials 24 = .ok (.aload_n 3, 1) := by decide +kernel
theorem dX2_countDistinctPolynomials_25 : decode cX2_countDistinctPolynomials 25 = .ok (.getfield 46, 3) := by decide +kernel
theorem dX2_countDistinctPolynomials_28 : decode cX2_countDistinctPolynomials 28 = .ok (.if_icmp .ge 27, 3) := by decide +kernel
theorem dX2_countDistinctPolynomials_31 : decode cX2_countDistinctPolynomials 31 = .ok (.aload_n 0, 1) := by decide +kernel
theorem dX2_countDistinctPolynomials_32 : decode cX2_countDistinctPolynomials 32 = .ok (.iload_n 2, 1) := by decide +kernel
theorem dX2_countDistinctPolynomials_33 : decode cX2_countDistinctPolynomials 33 = .ok (.aload_n 3, 1) := by decide +kernel
theorem dX2_countDistinctPolynomials_34 : decode cX2_countDistinctPolynomials 34 = .ok (.getfield 47, 3) := by decide +kernel
theorem dX2_countDistinctPolynomials_37 : decode cX2_countDistinctPolynomials 37 = .ok (.iload 4, 2) := by decide +kernel
theorem dX2_countDistinctPolynomials_39 : decode cX2_countDistinctPolynomials 39 = .ok (.aaload, 1) := by decide +kernel
theorem dX2_countDistinctPolynomials_40 : decode cX2_countDistinctPolynomials 40 = .ok (.invokevirtual 51, 3) := by decide +kernel
theorem dX2_countDistinctPolynomials_43 : decode cX2_countDistinctPolynomials 43 = .ok (.ifCond .ne 6, 3) := by decide +kernel
theorem dX2_countDistinctPolynomials_46 : decode cX2_countDistinctPolynomials 46 = .ok (.iinc 1 1, 3) := by decide +kernel
theorem dX2_countDistinctPolynomials_49 : decode cX2_countDistinctPolynomials 49 = .ok (.iinc 4 1, 3) := by decide +kernel
theorem dX2_countDistinctPolynomials_52 : decode cX2_countDistinctPolynomials 52 = .ok (.goto (-30), 3) := by decide +kernel
theorem dX2_countDistinctPolynomials_55 : decode cX2_countDistinctPolynomials 55 = .ok (.iinc 2 1, 3) := by decide +kernel
theorem dX2_countDistinctPolynomials_58 : decode cX2_countDistinctPolynomials 58 = .ok (.goto (-54), 3) := by decide +kernel
theorem dX2_countDistinctPolynomials_61 : decode cX2_countDistinctPolynomials 61 = .ok (.iload_n 1, 1) := by decide +kernel
theorem dX2_countDistinctPolynomials_62 : decode cX2_countDistinctPolynomials 62 = .ok (.ireturn, 1) := by decide +kernel
theorem dX2_isBefore_0 : decode cX2_isBefore 0 = .ok (.iconst 0, 1) := by decide +kernel
theorem dX2_isBefore_1 : decode cX2_isBefore 1 = .ok (.istore_n 3, 1) := by decide +kernel
theorem dX2_isBefore_2 : decode cX2_isBefore 2 = .ok (.iload_n 3, 1) := by decide +kernel
theorem dX2_isBefore_3 : decode cX2_isBefore 3 = .ok (.iload_n 1, 1) := by decide +kernel
theorem dX2_isBefore_4 : decode cX2_isBefore 4 = .ok (.if_icmp .ge 24, 3) := by decide +kernel
theorem dX2_isBefore_7 : decode cX2_isBefore 7 = .ok (.aload_n 0, 1) := by decide +kernel
theorem dX2_isBefore_8 : decode cX2_isBefore 8 = .ok (.getfield 17, 3) := by decide +kernel
theorem dX2_isBefore_11 : decode cX2_isBefore 11 = .ok (.iload_n 3, 1) := by decide +kernel
theorem dX2_isBefore_12 : decode cX2_isBefore 12 = .ok (.aaload, 1) := by decide +kernel
theorem dX2_isBefore_13 : decode cX2_isBefore 13 = .ok (.aload_n 2, 1) := by decide +kernel
theorem dX2_isBefore_14 : decode cX2_isBefore 14 = .ok (.invokevirtual 55, 3) := by decide +kernel
theorem dX2_isBefore_17 : decode cX2_isBefore 17 = .ok (.ifCond .eq 5, 3) := by decide +kernel
theorem dX2_isBefore_20 : decode cX2_isBefore 20 = .ok (.iconst 1, 1) := by decide +kernel
theorem dX2_isBefore_21 : decode cX2_isBefore 21 = .ok (.ireturn, 1) := by decide +kernel
theorem dX2_isBefore_22 : decode cX2_isBefore 22 = .ok (.iinc 3 1, 3) := by decide +kernel
theorem dX2_isBefore_25 : decode cX2_isBefore 25 = .ok (.goto (-23), 3) := by decide +kernel
theorem dX2_isBefore_28 : decode cX2_isBefore 28 = .ok (.iconst 0, 1) := by decide +kernel
theorem dX2_isBefore_29 : decode cX2_isBefore 29 = .ok (.ireturn, 1) := by decide +kernel
theorem dX2_greatestDegree_0 : decode cX2_greatestDegree 0 = .ok (.iconst 0, 1) := by decide +kernel
theorem dX2_greatestDegree_1 : decode cX2_greatestDegree 1 = .ok (.istore_n 1, 1) := by decide +kernel
theorem dX2_greatestDegree_2 : decode cX2_greatestDegree 2 = .ok (.iconst 0, 1) := by decide +kernel
theorem dX2_greatestDegree_3 : decode cX2_greatestDegree 3 = .ok (.istore_n 2, 1) := by decide +kernel
theorem dX2_greatestDegree_4 : decode cX2_greatestDegree 4 = .ok (.iload_n 2, 1) := by decide +kernel
theorem dX2_greatestDegree_5 : decode cX2_greatestDegree 5 = .ok (.aload_n 0, 1) := by decide +kernel
theorem dX2_greatestDegree_6 : decode cX2_greatestDegree 6 = .ok (.getfield 9, 3) := by decide +kernel
theorem dX2_greatestDegree_9 : decode cX2_greatestDegree 9 = .ok (.if_icmp .ge 49, 3) := by decide +kernel
theorem dX2_greatestDegree_12 : decode cX2_greatestDegree 12 = .ok (.aload_n 0, 1) := by decide +kernel
theorem dX2_greatestDegree_13 : decode cX2_greatestDegree 13 = .ok (.getfield 17, 3) := by decide +kernel
theorem dX2_greatestDegree_16 : decode cX2_greatestDegree 16 = .ok (.iload_n 2, 1) := by decide +kernel
theorem dX2_greatestDegree_17 : decode cX2_greatestDegree 17 = .ok (.aaload, 1) := by decide +kernel
theorem dX2_greatestDegree_18 : decode cX2_greatestDegree 18 = .ok (.astore_n 3, 1) := by decide +kernel
theorem dX2_greatestDegree_19 : decode cX2_greatestDegree 19 = .ok (.iconst 0, 1) := by decide +kernel
theorem dX2_greatestDegree_20 : decode cX2_greatestDegree 20 = .ok (.istore 4, 2) := by decide +kernel
theorem dX2_greatestDegree_22 : decode cX2_greatestDegree 22 = .ok (.iload 4, 2) := by decide +kernel
theorem dX2_greatestDegree_24 : decode cX2_greatestDegree 24 = .ok (.aload_n 3, 1) := by decide +kernel
theorem dX2_greatestDegree_25 : decode cX2_greatestDegree 25 = .ok (.getfield 46, 3) := by decide +kernel
theorem dX2_greatestDegree_28 : decode cX2_greatestDegree 28 = .ok (.if_icmp .ge 24, 3) := by decide +kernel
theorem dX2_greatestDegree_31 : decode cX2_greatestDegree 31 = .ok (.iload_n 1, 1) := by decide +kernel
theorem dX2_greatestDegree_32 : decode cX2_greatestDegree 32 = .ok (.aload_n 3, 1) := by decide +kernel
theorem dX2_greatestDegree_33 : decode cX2_greatestDegree 33 = .ok (.getfield 47, 3) := by decide +kernel
theorem dX2_greatestDegree_36 : decode cX2_greatestDegree 36 = .ok (.iload 4, 2) := by decide +kernel
theorem dX2_greatestDegree_38 : decode cX2_greatestDegree 38 = .ok (.aaload, 1) := by decide +kernel
theorem dX2_greatestDegree_39 : decode cX2_greatestDegree 39 = .ok (.invokevirtual 59, 3) := by decide +kernel
theorem dX2_greatestDegree_42 : decode cX2_greatestDegree 42 = .ok (.invokestatic 65, 3) := by decide +kernel
theorem dX2_greatestDegree_45 : decode cX2_greatestDegree 45 = .ok (.istore_n 1, 1) := by decide +kernel
theorem dX2_greatestDegree_46 : decode cX2_greatestDegree 46 = .ok (.iinc 4 1, 3) := by decide +kernel
theorem dX2_greatestDegree_49 : decode cX2_greatestDegree 49 = .ok (.goto (-27), 3) := by decide +kernel
theorem dX2_greatestDegree_52 : decode cX2_greatestDegree 52 = .ok (.iinc 2 1, 3) := by decide +kernel
theorem dX2_greatestDegree_55 : decode cX2_greatestDegree 55 = .ok (.goto (-51), 3) := by decide +kernel
theorem dX2_greatestDegree_58 : decode cX2_greatestDegree 58 = .ok (.iload_n 1, 1) := by decide +kernel
theorem dX2_greatestDegree_59 : decode cX2_greatestDegree 59 = .ok (.ireturn, 1) := by decide +kernel
theorem dX3_init_0 : decode cX3_init 0 = .ok (.aload_n 0, 1) := by decide +kernel
theorem dX3_init_1 : decode cX3_init 1 = .ok (.invokespecial 3, 3) := by decide +kernel
theorem dX3_init_4 : decode cX3_init 4 = .ok (.aload_n 0, 1) := by decide +kernel
theorem dX3_init_5 : decode cX3_init 5 = .ok (.iconst 0, 1) := by decide +kernel
theorem dX3_init_6 : decode cX3_init 6 = .ok (.putfield 9, 3) := by decide +kernel
theorem dX3_init_9 : decode cX3_init 9 = .ok (.aload_n 0, 1) := by decide +kernel
theorem dX3_init_10 : decode cX3_init 10 = .ok (.bipush 60, 2) := by decide +kernel
theorem dX3_init_12 : decode cX3_init 12 = .ok (.newarray .byte, 2) := by decide +kernel
theorem dX3_init_14 : decode cX3_init 14 = .ok (.putfield 15, 3) := by decide +kernel
theorem dX3_init_17 : decode cX3_init 17 = .ok (.aload_n 0, 1) := by decide +kernel
theorem dX3_init_18 : decode cX3_init 18 = .ok (.iconst 0, 1) := by decide +kernel
theorem dX3_init_19 : decode cX3_init 19 = .ok (.putfield 19, 3) := by decide +kernel
theorem dX3_init_22 : decode cX3_init 22 = .ok (.aload_n 0, 1) := by decide +kernel
theorem dX3_init_23 : decode cX3_init 23 = .ok (.bipush 30, 2) := by decide +kernel
theorem dX3_init_25 : decode cX3_init 25 = .ok (.newarray .int, 2) := by decide +kernel
theorem dX3_init_27 : decode cX3_init 27 = .ok (.putfield 22, 3) := by decide +kernel
theorem dX3_init_30 : decode cX3_init 30 = .ok (.return_, 1) := by decide +kernel
theorem dX4_init_0 : decode cX4_init 0 = .ok (.aload_n 0, 1) := by decide +kernel
theorem dX4_init_1 : decode cX4_init 1 = .ok (.invokespecial 3, 3) := by decide +kernel
theorem dX4_init_4 : decode cX4_init 4 = .ok (.aload_n 0, 1) := by decide +kernel
theorem dX4_init_5 : decode cX4_init 5 = .ok (.iconst 1, 1) := by decide +kernel
theorem dX4_init_6 : decode cX4_init 6 = .ok (.putfield 9, 3) := by decide +kernel
theorem dX4_init_9 : decode cX4_init 9 = .ok (.aload_n 0, 1) := by decide +kernel
theorem dX4_init_10 : decode cX4_init 10 = .ok (.iconst 0, 1) := by decide +kernel
theorem dX4_init_11 : decode cX4_init 11 = .ok (.putfield 15, 3) := by decide +kernel
theorem dX4_init_14 : decode cX4_init 14 = .ok (.aload_n 0, 1) := by decide +kernel
theorem dX4_init_15 : decode cX4_init 15 = .ok (.iconst 1, 1) := by decide +kernel
theorem dX4_init_16 : decode cX4_init 16 = .ok (.putfield 18, 3) := by decide +kernel
theorem dX4_init_19 : decode cX4_init 19 = .ok (.return_, 1) := by decide +kernel
theorem dX4_choose_0 : decode cX4_choose 0 = .ok (.aload_n 0, 1) := by decide +kernel
theorem dX4_choose_1 : decode cX4_choose 1 = .ok (.iload_n 1, 1) := by decide +kernel
theorem dX4_choose_2 : decode cX4_choose 2 = .ok (.putfield 9, 3) := by decide +kernel
theorem dX4_choose_5 : decode cX4_choose 5 = .ok (.aload_n 0, 1) := by decide +kernel
theorem dX4_choose_6 : decode cX4_choose 6 = .ok (.iload_n 2, 1) := by decide +kernel
theorem dX4_choose_7 : decode cX4_choose 7 = .ok (.putfield 15, 3) := by decide +kernel
theorem dX4_choose_10 : decode cX4_choose 10 = .ok (.aload_n 0, 1) := by decide +kernel
theorem dX4_choose_11 : decode cX4_choose 11 = .ok (.iload_n 3, 1) := by decide +kernel
theorem dX4_choose_12 : decode cX4_choose 12 = .ok (.putfield 18, 3) := by decide +kernel
theorem dX4_choose_15 : decode cX4_choose 15 = .ok (.return_, 1) := by decide +kernel
theorem dX4_isSmaller_0 : decode cX4_isSmaller 0 = .ok (.aload_n 0, 1) := by decide +kernel
theorem dX4_isSmaller_1 : decode cX4_isSmaller 1 = .ok (.iload_n 1, 1) := by decide +kernel
theorem dX4_isSmaller_2 : decode cX4_isSmaller 2 = .ok (.invokevirtual 21, 3) := by decide +kernel
theorem dX4_isSmaller_5 : decode cX4_isSmaller 5 = .ok (.aload_n 0, 1) := by decide +kernel
theorem dX4_isSmaller_6 : decode cX4_isSmaller 6 = .ok (.iload_n 2, 1) := by decide +kernel
theorem dX4_isSmaller_7 : decode cX4_isSmaller 7 = .ok (.invokevirtual 21, 3) := by decide +kernel
theorem dX4_isSmaller_10 : decode cX4_isSmaller 10 = .ok (.isub, 1) := by decide +kernel
theorem dX4_isSmaller_11 : decode cX4_isSmaller 11 = .ok (.istore_n 3, 1) := by decide +kernel
theorem dX4_isSmaller_12 : decode cX4_isSmaller 12 = .ok (.iload_n 3, 1) := by decide +kernel
theorem dX4_isSmaller_13 : decode cX4_isSmaller 13 = .ok (.ifCond .eq 13, 3) := by decide +kernel
theorem dX4_isSmaller_16 : decode cX4_isSmaller 16 = .ok (.iload_n 3, 1) := by decide +kernel
theorem dX4_isSmaller_17 : decode cX4_isSmaller 17 = .ok (.ifCond .ge 7, 3) := by decide +kernel
theorem dX4_isSmaller_20 : decode cX4_isSmaller 20 = .ok (.iconst 1, 1) := by decide +kernel
theorem dX4_isSmaller_21 : decode cX4_isSmaller 21 = .ok (.goto 4, 3) := by decide +kernel
theorem dX4_isSmaller_24 : decode cX4_isSmaller 24 = .ok (.iconst 0, 1) := by decide +kernel
theorem dX4_isSmaller_25 : decode cX4_isSmaller 25 = .ok (.ireturn, 1) := by decide +kernel
theorem dX4_isSmaller_26 : decode cX4_isSmaller 26 = .ok (.iload_n 1, 1) := by decide +kernel
theorem dX4_isSmaller_27 : decode cX4_isSmaller 27 = .ok (.bipush 9, 2) := by decide +kernel
theorem dX4_isSmaller_29 : decode cX4_isSmaller 29 = .ok (.irem, 1) := by decide +kernel
theorem dX4_isSmaller_30 : decode cX4_isSmaller 30 = .ok (.iload_n 2, 1) := by decide +kernel
theorem dX4_isSmaller_31 : decode cX4_isSmaller 31 = .ok (.bipush 9, 2) := by decide +kernel
theorem dX4_isSmaller_33 : decode cX4_isSmaller 33 = .ok (.irem, 1) := by decide +kernel
theorem dX4_isSmaller_34 : decode cX4_isSmaller 34 = .ok (.isub, 1) := by decide +kernel
theorem dX4_isSmaller_35 : decode cX4_isSmaller 35 = .ok (.istore 4, 2) := by decide +kernel
theorem dX4_isSmaller_37 : decode cX4_isSmaller 37 = .ok (.aload_n 0, 1) := by decide +kernel
theorem dX4_isSmaller_38 : decode cX4_isSmaller 38 = .ok (.getfield 18, 3) := by decide +kernel
theorem dX4_isSmaller_41 : decode cX4_isSmaller 41 = .ok (.iconst 1, 1) := by decide +kernel
theorem dX4_isSmaller_42 : decode cX4_isSmaller 42 = .ok (.if_icmp .ne 19, 3) := by decide +kernel
theorem dX4_isSmaller_45 : decode cX4_isSmaller 45 = .ok (.iload 4, 2) := by decide +kernel
theorem dX4_isSmaller_47 : decode cX4_isSmaller 47 = .ok (.ifCond .eq 14, 3) := by decide +kernel
theorem dX4_isSmaller_50 : decode cX4_isSmaller 50 = .ok (.iload 4, 2) := by decide +kernel
theorem dX4_isSmaller_52 : decode cX4_isSmaller 52 = .ok (.ifCond .ge 7, 3) := by decide +kernel
theorem dX4_isSmaller_55 : decode cX4_isSmaller 55 = .ok (.iconst 1, 1) := by decide +kernel
theorem dX4_isSmaller_56 : decode cX4_isSmaller 56 = .ok (.goto 4, 3) := by decide +kernel
theorem dX4_isSmaller_59 : decode cX4_isSmaller 59 = .ok (.iconst 0, 1) := by decide +kernel
theorem dX4_isSmaller_60 : decode cX4_isSmaller 60 = .ok (.ireturn, 1) := by decide +kernel
theorem dX4_isSmaller_61 : decode cX4_isSmaller 61 = .ok (.iload_n 1, 1) := by decide +kernel
theorem dX4_isSmaller_62 : decode cX4_isSmaller 62 = .ok (.iload_n 2, 1) := by decide +kernel
theorem dX4_isSmaller_63 : decode cX4_isSmaller 63 = .ok (.if_icmp .ge 7, 3) := by decide +kernel
theorem dX4_isSmaller_66 : decode cX4_isSmaller 66 = .ok (.iconst 1, 1) := by decide +kernel
theorem dX4_isSmaller_67 : decode cX4_isSmaller 67 = .ok (.goto 4, 3) := by decide +kernel
theorem dX4_isSmaller_70 : decode cX4_isSmaller 70 = .ok (.iconst 0, 1) := by decide +kernel
theorem dX4_isSmaller_71 : decode cX4_isSmaller 71 = .ok (.ireturn, 1) := by decide +kernel
theorem dX4_weightOf_0 : decode cX4_weightOf 0 = .ok (.aload_n 0, 1) := by decide +kernel
theorem dX4_weightOf_1 : decode cX4_weightOf 1 = .ok (.getfield 9, 3) := by decide +kernel
theorem dX4_weightOf_4 : decode cX4_weightOf 4 = .ok (.iload_n 1, 1) := by decide +kernel
theorem dX4_weightOf_5 : decode cX4_weightOf 5 = .ok (.bipush 9, 2) := by decide +kernel
theorem dX4_weightOf_7 : decode cX4_weightOf 7 = .ok (.idiv, 1) := by decide +kernel
theorem dX4_weightOf_8 : decode cX4_weightOf 8 = .ok (.imul, 1) := by decide +kernel
theorem dX4_weightOf_9 : decode cX4_weightOf 9 = .ok (.aload_n 0, 1) := by decide +kernel
theorem dX4_weightOf_10 : decode cX4_weightOf 10 = .ok (.getfield 15, 3) := by decide +kernel
theorem dX4_weightOf_13 : decode cX4_weightOf 13 = .ok (.iload_n 1, 1) := by decide +kernel
theorem dX4_weightOf_14 : decode cX4_weightOf 14 = .ok (.bipush 9, 2) := by decide +kernel
theorem dX4_weightOf_16 : decode cX4_weightOf 16 = .ok (.irem, 1) := by decide +kernel
theorem dX4_weightOf_17 : decode cX4_weightOf 17 = .ok (.imul, 1) := by decide +kernel
theorem dX4_weightOf_18 : decode cX4_weightOf 18 = .ok (.iadd, 1) := by decide +kernel
theorem dX4_weightOf_19 : decode cX4_weightOf 19 = .ok (.ireturn, 1) := by decide +kernel
theorem dX5_init_0 : decode cX5_init 0 = .ok (.aload_n 0, 1) := by decide +kernel
theorem dX5_init_1 : decode cX5_init 1 = .ok (.invokespecial 3, 3) := by decide +kernel
theorem dX5_init_4 : decode cX5_init 4 = .ok (.aload_n 0, 1) := by decide +kernel
theorem dX5_init_5 : decode cX5_init 5 = .ok (.bipush 7, 2) := by decide +kernel
theorem dX5_init_7 : decode cX5_init 7 = .ok (.putfield 9, 3) := by decide +kernel
theorem dX5_init_10 : decode cX5_init 10 = .ok (.aload_n 0, 1) := by decide +kernel
theorem dX5_init_11 : decode cX5_init 11 = .ok (.iconst 0, 1) := by decide +kernel
theorem dX5_init_12 : decode cX5_init 12 = .ok (.putfield 15, 3) := by decide +kernel
theorem dX5_init_15 : decode cX5_init 15 = .ok (.aload_n 0, 1) := by decide +kernel
theorem dX5_init_16 : decode cX5_init 16 = .ok (.bipush 8, 2) := by decide +kernel
theorem dX5_init_18 : decode cX5_init 18 = .ok (.newarray .int, 2) := by decide +kernel
theorem dX5_init_20 : decode cX5_init 20 = .ok (.putfield 18, 3) := by decide +kernel
theorem dX5_init_23 : decode cX5_init 23 = .ok (.aload_n 0, 1) := by decide +kernel
theorem dX5_init_24 : decode cX5_init 24 = .ok (.bipush 8, 2) := by decide +kernel
theorem dX5_init_26 : decode cX5_init 26 = .ok (.newarray .int, 2) := by decide +kernel
theorem dX5_init_28 : decode cX5_init 28 = .ok (.putfield 22, 3) := by decide +kernel
theorem dX5_init_31 : decode cX5_init 31 = .ok (.return_, 1) := by decide +kernel
theorem dX5_restart_0 : decode cX5_restart 0 = .ok (.aload_n 0, 1) := by decide +kernel
theorem dX5_restart_1 : decode cX5_restart 1 = .ok (.iload_n 1, 1) := by decide +kernel
theorem dX5_restart_2 : decode cX5_restart 2 = .ok (.putfield 9, 3) := by decide +kernel
theorem dX5_restart_5 : decode cX5_restart 5 = .ok (.aload_n 0, 1) := by decide +kernel
theorem dX5_restart_6 : decode cX5_restart 6 = .ok (.iconst 0, 1) := by decide +kernel
theorem dX5_restart_7 : decode cX5_restart 7 = .ok (.putfield 15, 3) := by decide +kernel
theorem dX5_restart_10 : decode cX5_restart 10 = .ok (.return_, 1) := by decide +kernel
theorem dX5_isResidue_0 : decode cX5_isResidue 0 = .ok (.iload_n 1, 1) := by decide +kernel
theorem dX5_isResidue_1 : decode cX5_isResidue 1 = .ok (.ifCond .lt 15, 3) := by decide +kernel
theorem dX5_isResidue_4 : decode cX5_isResidue 4 = .ok (.iload_n 1, 1) := by decide +kernel
theorem dX5_isResidue_5 : decode cX5_isResidue 5 = .ok (.aload_n 0, 1) := by decide +kernel
theorem dX5_isResidue_6 : decode cX5_isResidue 6 = .ok (.getfield 9, 3) := by decide +kernel
theorem dX5_isResidue_9 : decode cX5_isResidue 9 = .ok (.if_icmp .ge 7, 3) := by decide +kernel
theorem dX5_isResidue_12 : decode cX5_isResidue 12 = .ok (.iconst 1, 1) := by decide +kernel
theorem dX5_isResidue_13 : decode cX5_isResidue 13 = .ok (.goto 4, 3) := by decide +kernel
theorem dX5_isResidue_16 : decode cX5_isResidue 16 = .ok (.iconst 0, 1) := by decide +kernel
theorem dX5_isResidue_17 : decode cX5_isResidue 17 = .ok (.ireturn, 1) := by decide +kernel
theorem dX5_inverse_0 : decode cX5_inverse 0 = .ok (.iconst 1, 1) := by decide +kernel
theorem dX5_inverse_1 : decode cX5_inverse 1 = .ok (.istore_n 2, 1) := by decide +kernel
theorem dX5_inverse_2 : decode cX5_inverse 2 = .ok (.iload_n 2, 1) := by decide +kernel
theorem dX5_inverse_3 : decode cX5_inverse 3 = .ok (.aload_n 0, 1) := by decide +kernel
theorem dX5_inverse_4 : decode cX5_inverse 4 = .ok (.getfield 9, 3) := by decide +kernel
theorem dX5_inverse_7 : decode cX5_inverse 7 = .ok (.if_icmp .ge 23, 3) := by decide +kernel
theorem dX5_inverse_10 : decode cX5_inverse 10 = .ok (.iload_n 2, 1) := by decide +kernel
theorem dX5_inverse_11 : decode cX5_inverse 11 = .ok (.iload_n 1, 1) := by decide +kernel
theorem dX5_inverse_12 : decode cX5_inverse 12 = .ok (.imul, 1) := by decide +kernel
theorem dX5_inverse_13 : decode cX5_inverse 13 = .ok (.aload_n 0, 1) := by decide +kernel
theorem dX5_inverse_14 : decode cX5_inverse 14 = .ok (.getfield 9, 3) := by decide +kernel
theorem dX5_inverse_17 : decode cX5_inverse 17 = .ok (.irem, 1) := by decide +kernel
theorem dX5_inverse_18 : decode cX5_inverse 18 = .ok (.iconst 1, 1) := by decide +kernel
theorem dX5_inverse_19 : decode cX5_inverse 19 = .ok (.if_icmp .ne 5, 3) := by decide +kernel
theorem dX5_inverse_22 : decode cX5_inverse 22 = .ok (.iload_n 2, 1) := by decide +kernel
theorem dX5_inverse_23 : decode cX5_inverse 23 = .ok (.ireturn, 1) := by decide +kernel
theorem dX5_inverse_24 : decode cX5_inverse 24 = .ok (.iinc 2 1, 3) := by decide +kernel
theorem dX5_inverse_27 : decode cX5_inverse 27 = .ok (.goto (-25), 3) := by decide +kernel
theorem dX5_inverse_30 : decode cX5_inverse 30 = .ok (.iconst 0, 1) := by decide +kernel
theorem dX5_inverse_31 : decode cX5_inverse 31 = .ok (.ireturn, 1) := by decide +kernel
theorem dX5_holds_0 : decode cX5_holds 0 = .ok (.iconst 0, 1) := by decide +kernel
theorem dX5_holds_1 : decode cX5_holds 1 = .ok (.istore_n 3, 1) := by decide +kernel
theorem dX5_holds_2 : decode cX5_holds 2 = .ok (.iload_n 3, 1) := by decide +kernel
theorem dX5_holds_3 : decode cX5_holds 3 = .ok (.aload_n 0, 1) := by decide +kernel
theorem dX5_holds_4 : decode cX5_holds 4 = .ok (.getfield 15, 3) := by decide +kernel
theorem dX5_holds_7 : decode cX5_holds 7 = .ok (.if_icmp .ge 31, 3) := by decide +kernel
theorem dX5_holds_10 : decode cX5_holds 10 = .ok (.aload_n 0, 1) := by decide +kernel
theorem dX5_holds_11 : decode cX5_holds 11 = .ok (.getfield 18, 3) := by decide +kernel
theorem dX5_holds_14 : decode cX5_holds 14 = .ok (.iload_n 3, 1) := by decide +kernel
theorem dX5_holds_15 : decode cX5_holds 15 = .ok (.iaload, 1) := by decide +kernel
theorem dX5_holds_16 : decode cX5_holds 16 = .ok (.iload_n 1, 1) := by decide +kernel
theorem dX5_holds_17 : decode cX5_holds 17 = .ok (.if_icmp .ne 15, 3) := by decide +kernel
theorem dX5_holds_20 : decode cX5_holds 20 = .ok (.aload_n 0, 1) := by decide +kernel
theorem dX5_holds_21 : decode cX5_holds 21 = .ok (.getfield 22, 3) := by decide +kernel
theorem dX5_holds_24 : decode cX5_holds 24 = .ok (.iload_n 3, 1) := by decide +kernel
theorem dX5_holds_25 : decode cX5_holds 25 = .ok (.iaload, 1) := by decide +kernel
theorem dX5_holds_26 : decode cX5_holds 26 = .ok (.iload_n 2, 1) := by decide +kernel
theorem dX5_holds_27 : decode cX5_holds 27 = .ok (.if_icmp .ne 5, 3) := by decide +kernel
theorem dX5_holds_30 : decode cX5_holds 30 = .ok (.iconst 1, 1) := by decide +kernel
theorem dX5_holds_31 : decode cX5_holds 31 = .ok (.ireturn, 1) := by decide +kernel
theorem dX5_holds_32 : decode cX5_holds 32 = .ok (.iinc 3 1, 3) := by decide +kernel
theorem dX5_holds_35 : decode cX5_holds 35 = .ok (.goto (-33), 3) := by decide +kernel
theorem dX5_holds_38 : decode cX5_holds 38 = .ok (.iconst 0, 1) := by decide +kernel
theorem dX5_holds_39 : decode cX5_holds 39 = .ok (.ireturn, 1) := by decide +kernel
theorem dX5_append_0 : decode cX5_append 0 = .ok (.aload_n 0, 1) := by decide +kernel
theorem dX5_append_1 : decode cX5_append 1 = .ok (.getfield 15, 3) := by decide +kernel
theorem dX5_append_4 : decode cX5_append 4 = .ok (.bipush 8, 2) := by decide +kernel
theorem dX5_append_6 : decode cX5_append 6 = .ok (.if_icmp .ge 33, 3) := by decide +kernel
theorem dX5_append_9 : decode cX5_append 9 = .ok (.aload_n 0, 1) := by decide +kernel
theorem dX5_append_10 : decode cX5_append 10 = .ok (.getfield 18, 3) := by decide +kernel
theorem dX5_append_13 : decode cX5_append 13 = .ok (.aload_n 0, 1) := by decide +kernel
theorem dX5_append_14 : decode cX5_append 14 = .ok (.getfield 15, 3) := by decide +kernel
theorem dX5_append_17 : decode cX5_append 17 = .ok (.iload_n 1, 1) := by decide +kernel
theorem dX5_append_18 : decode cX5_append 18 = .ok (.iastore, 1) := by decide +kernel
theorem dX5_append_19 : decode cX5_append 19 = .ok (.aload_n 0, 1) := by decide +kernel
theorem dX5_append_20 : decode cX5_append 20 = .ok (.getfield 22, 3) := by decide +kernel
theorem dX5_append_23 : decode cX5_append 23 = .ok (.aload_n 0, 1) := by decide +kernel
theorem dX5_append_24 : decode cX5_append 24 = .ok (.getfield 15, 3) := by decide +kernel
theorem dX5_append_27 : decode cX5_append 27 = .ok (.iload_n 2, 1) := by decide +kernel
theorem dX5_append_28 : decode cX5_append 28 = .ok (.iastore, 1) := by decide +kernel
theorem dX5_append_29 : decode cX5_append 29 = .ok (.aload_n 0, 1) := by decide +kernel
theorem dX5_append_30 : decode cX5_append 30 = .ok (.dup, 1) := by decide +kernel
theorem dX5_append_31 : decode cX5_append 31 = .ok (.getfield 15, 3) := by decide +kernel
theorem dX5_append_34 : decode cX5_append 34 = .ok (.iconst 1, 1) := by decide +kernel
theorem dX5_append_35 : decode cX5_append 35 = .ok (.iadd, 1) := by decide +kernel
theorem dX5_append_36 : decode cX5_append 36 = .ok (.putfield 15, 3) := by decide +kernel
theorem dX5_append_39 : decode cX5_append 39 = .ok (.return_, 1) := by decide +kernel
theorem dX5_monomialAt_0 : decode cX5_monomialAt 0 = .ok (.aload_n 0, 1) := by decide +kernel
theorem dX5_monomialAt_1 : decode cX5_monomialAt 1 = .ok (.aload_n 0, 1) := by decide +kernel
theorem dX5_monomialAt_2 : decode cX5_monomialAt 2 = .ok (.getfield 18, 3) := by decide +kernel
theorem dX5_monomialAt_5 : decode cX5_monomialAt 5 = .ok (.iload_n 2, 1) := by decide +kernel
theorem dX5_monomialAt_6 : decode cX5_monomialAt 6 = .ok (.iaload, 1) := by decide +kernel
theorem dX5_monomialAt_7 : decode cX5_monomialAt 7 = .ok (.iload_n 1, 1) := by decide +kernel
theorem dX5_monomialAt_8 : decode cX5_monomialAt 8 = .ok (.bipush 9, 2) := by decide +kernel
theorem dX5_monomialAt_10 : decode cX5_monomialAt 10 = .ok (.idiv, 1) := by decide +kernel
theorem dX5_monomialAt_11 : decode cX5_monomialAt 11 = .ok (.invokevirtual 41, 3) := by decide +kernel
theorem dX5_monomialAt_14 : decode cX5_monomialAt 14 = .ok (.aload_n 0, 1) := by decide +kernel
theorem dX5_monomialAt_15 : decode cX5_monomialAt 15 = .ok (.aload_n 0, 1) := by decide +kernel
theorem dX5_monomialAt_16 : decode cX5_monomialAt 16 = .ok (.getfield 22, 3) := by decide +kernel
theorem dX5_monomialAt_19 : decode cX5_monomialAt 19 = .ok (.iload_n 2, 1) := by decide +kernel
theorem dX5_monomialAt_20 : decode cX5_monomialAt 20 = .ok (.iaload, 1) := by decide +kernel
theorem dX5_monomialAt_21 : decode cX5_monomialAt 21 = .ok (.iload_n 1, 1) := by decide +kernel
theorem dX5_monomialAt_22 : decode cX5_monomialAt 22 = .ok (.bipush 9, 2) := by decide +kernel
theorem dX5_monomialAt_24 : decode cX5_monomialAt 24 = .ok (.irem, 1) := by decide +kernel
theorem dX5_monomialAt_25 : decode cX5_monomialAt 25 = .ok (.invokevirtual 41, 3) := by decide +kernel
theorem dX5_monomialAt_28 : decode cX5_monomialAt 28 = .ok (.imul, 1) := by decide +kernel
theorem dX5_monomialAt_29 : decode cX5_monomialAt 29 = .ok (.aload_n 0, 1) := by decide +kernel
theorem dX5_monomialAt_30 : decode cX5_monomialAt 30 = .ok (.getfield 9, 3) := by decide +kernel
theorem dX5_monomialAt_33 : decode cX5_monomialAt 33 = .ok (.irem, 1) := by decide +kernel
theorem dX5_monomialAt_34 : decode cX5_monomialAt 34 = .ok (.ireturn, 1) := by decide +kernel
theorem dX5_power_0 : decode cX5_power 0 = .ok (.iconst 1, 1) := by decide +kernel
theorem dX5_power_1 : decode cX5_power 1 = .ok (.istore_n 3, 1) := by decide +kernel
theorem dX5_power_2 : decode cX5_power 2 = .ok (.iconst 0, 1) := by decide +kernel
theorem dX5_power_3 : decode cX5_power 3 = .ok (.istore 4, 2) := by decide +kernel
theorem dX5_power_5 : decode cX5_power 5 = .ok (.iload 4, 2) := by decide +kernel
theorem dX5_power_7 : decode cX5_power 7 = .ok (.iload_n 2, 1) := by decide +kernel
theorem dX5_power_8 : decode cX5_power 8 = .ok (.if_icmp .ge 18, 3) := by decide +kernel
theorem dX5_power_11 : decode cX5_power 11 = .ok (.iload_n 3, 1) := by decide +kernel
theorem dX5_power_12 : decode cX5_power 12 = .ok (.iload_n 1, 1) := by decide +kernel
theorem dX5_power_13 : decode cX5_power 13 = .ok (.imul, 1) := by decide +kernel
theorem dX5_power_14 : decode cX5_power 14 = .ok (.aload_n 0, 1) := by decide +kernel
theorem dX5_power_15 : decode cX5_power 15 = .ok (.getfield 9, 3) := by decide +kernel
theorem dX5_power_18 : decode cX5_power 18 = .ok (.irem, 1) := by decide +kernel
theorem dX5_power_19 : decode cX5_power 19 = .ok (.istore_n 3, 1) := by decide +kernel
theorem dX5_power_20 : decode cX5_power 20 = .ok (.iinc 4 1, 3) := by decide +kernel
theorem dX5_power_23 : decode cX5_power 23 = .ok (.goto (-18), 3) := by decide +kernel
theorem dX5_power_26 : decode cX5_power 26 = .ok (.iload_n 3, 1) := by decide +kernel
theorem dX5_power_27 : decode cX5_power 27 = .ok (.ireturn, 1) := by decide +kernel
theorem dX6_init_0 : decode cX6_init 0 = .ok (.aload_n 0, 1) := by decide +kernel
theorem dX6_init_1 : decode cX6_init 1 = .ok (.invokespecial 3, 3) := by decide +kernel
theorem dX6_init_4 : decode cX6_init 4 = .ok (.aload_n 0, 1) := by decide +kernel
theorem dX6_init_5 : decode cX6_init 5 = .ok (.bipush 81, 2) := by decide +kernel
theorem dX6_init_7 : decode cX6_init 7 = .ok (.newarray .int, 2) := by decide +kernel
theorem dX6_init_9 : decode cX6_init 9 = .ok (.putfield 9, 3) := by decide +kernel
theorem dX6_init_12 : decode cX6_init 12 = .ok (.return_, 1) := by decide +kernel
theorem dX6_clear_0 : decode cX6_clear 0 = .ok (.aload_n 0, 1) := by decide +kernel
theorem dX6_clear_1 : decode cX6_clear 1 = .ok (.getfield 9, 3) := by decide +kernel
theorem dX6_clear_4 : decode cX6_clear 4 = .ok (.iconst 0, 1) := by decide +kernel
theorem dX6_clear_5 : decode cX6_clear 5 = .ok (.invokestatic 15, 3) := by decide +kernel
theorem dX6_clear_8 : decode cX6_clear 8 = .ok (.return_, 1) := by decide +kernel
theorem dX6_countTerms_0 : decode cX6_countTerms 0 = .ok (.iconst 0, 1) := by decide +kernel
theorem dX6_countTerms_1 : decode cX6_countTerms 1 = .ok (.istore_n 1, 1) := by decide +kernel
theorem dX6_countTerms_2 : decode cX6_countTerms 2 = .ok (.aload_n 0, 1) := by decide +kernel
theorem dX6_countTerms_3 : decode cX6_countTerms 3 = .ok (.getfield 9, 3) := by decide +kernel
theorem dX6_countTerms_6 : decode cX6_countTerms 6 = .ok (.astore_n 2, 1) := by decide +kernel
theorem dX6_countTerms_7 : decode cX6_countTerms 7 = .ok (.aload_n 2, 1) := by decide +kernel
theorem dX6_countTerms_8 : decode cX6_countTerms 8 = .ok (.arraylength, 1) := by decide +kernel
theorem dX6_countTerms_9 : decode cX6_countTerms 9 = .ok (.istore_n 3, 1) := by decide +kernel
theorem dX6_countTerms_10 : decode cX6_countTerms 10 = .ok (.iconst 0, 1) := by decide +kernel
theorem dX6_countTerms_11 : decode cX6_countTerms 11 = .ok (.istore 4, 2) := by decide +kernel
theorem dX6_countTerms_13 : decode cX6_countTerms 13 = .ok (.iload 4, 2) := by decide +kernel
theorem dX6_countTerms_15 : decode cX6_countTerms 15 = .ok (.iload_n 3, 1) := by decide +kernel
theorem dX6_countTerms_16 : decode cX6_countTerms 16 = .ok (.if_icmp .ge 23, 3) := by decide +kernel
theorem dX6_countTerms_19 : decode cX6_countTerms 19 = .ok (.aload_n 2, 1) := by decide +kernel
theorem dX6_countTerms_20 : decode cX6_countTerms 20 = .ok (.iload 4, 2) := by decide +kernel
theorem dX6_countTerms_22 : decode cX6_countTerms 22 = .ok (.iaload, 1) := by decide +kernel
theorem dX6_countTerms_23 : decode cX6_countTerms 23 = .ok (.istore 5, 2) := by decide +kernel
theorem dX6_countTerms_25 : decode cX6_countTerms 25 = .ok (.iload 5, 2) := by decide +kernel
theorem dX6_countTerms_27 : decode cX6_countTerms 27 = .ok (.ifCond .eq 6, 3) := by decide +kernel
theorem dX6_countTerms_30 : decode cX6_countTerms 30 = .ok (.iinc 1 1, 3) := by decide +kernel
theorem dX6_countTerms_33 : decode cX6_countTerms 33 = .ok (.iinc 4 1, 3) := by decide +kernel
theorem dX6_countTerms_36 : decode cX6_countTerms 36 = .ok (.goto (-23), 3) := by decide +kernel
theorem dX6_countTerms_39 : decode cX6_countTerms 39 = .ok (.iload_n 1, 1) := by decide +kernel
theorem dX6_countTerms_40 : decode cX6_countTerms 40 = .ok (.ireturn, 1) := by decide +kernel
theorem dX6_valueAt_0 : decode cX6_valueAt 0 = .ok (.iconst 0, 1) := by decide +kernel
theorem dX6_valueAt_1 : decode cX6_valueAt 1 = .ok (.istore_n 3, 1) := by decide +kernel
theorem dX6_valueAt_2 : decode cX6_valueAt 2 = .ok (.bipush 8, 2) := by decide +kernel
theorem dX6_valueAt_4 : decode cX6_valueAt 4 = .ok (.istore 4, 2) := by decide +kernel
theorem dX6_valueAt_6 : decode cX6_valueAt 6 = .ok (.iload 4, 2) := by decide +kernel
theorem dX6_valueAt_8 : decode cX6_valueAt 8 = .ok (.ifCond .lt 74, 3) := by decide +kernel
theorem dX6_valueAt_11 : decode cX6_valueAt 11 = .ok (.iconst 0, 1) := by decide +kernel
theorem dX6_valueAt_12 : decode cX6_valueAt 12 = .ok (.istore 5, 2) := by decide +kernel
theorem dX6_valueAt_14 : decode cX6_valueAt 14 = .ok (.bipush 8, 2) := by decide +kernel
theorem dX6_valueAt_16 : decode cX6_valueAt 16 = .ok (.istore 6, 2) := by decide +kernel
theorem dX6_valueAt_18 : decode cX6_valueAt 18 = .ok (.iload 6, 2) := by decide +kernel
theorem dX6_valueAt_20 : decode cX6_valueAt 20 = .ok (.ifCond .lt 39, 3) := by decide +kernel
theorem dX6_valueAt_23 : decode cX6_valueAt 23 = .ok (.iload 5, 2) := by decide +kernel
theorem dX6_valueAt_25 : decode cX6_valueAt 25 = .ok (.aload_n 1, 1) := by decide +kernel
theorem dX6_valueAt_26 : decode cX6_valueAt 26 = .ok (.getfield 27, 3) := by decide +kernel
theorem dX6_valueAt_29 : decode cX6_valueAt 29 = .ok (.iload_n 2, 1) := by decide +kernel
theorem dX6_valueAt_30 : decode cX6_valueAt 30 = .ok (.iaload, 1) := by decide +kernel
theorem dX6_valueAt_31 : decode cX6_valueAt 31 = .ok (.imul, 1) := by decide +kernel
theorem dX6_valueAt_32 : decode cX6_valueAt 32 = .ok (.aload_n 0, 1) := by decide +kernel
theorem dX6_valueAt_33 : decode cX6_valueAt 33 = .ok (.getfield 9, 3) := by decide +kernel
theorem dX6_valueAt_36 : decode cX6_valueAt 36 = .ok (.bipush 9, 2) := by decide +kernel
theorem dX6_valueAt_38 : decode cX6_valueAt 38 = .ok (.iload 4, 2) := by decide +kernel
theorem dX6_valueAt_40 : decode cX6_valueAt 40 = .ok (.imul, 1) := by decide +kernel
theorem dX6_valueAt_41 : decode cX6_valueAt 41 = .ok (.iload 6, 2) := by decide +kernel
theorem dX6_valueAt_43 : decode cX6_valueAt 43 = .ok (.iadd, 1) := by decide +kernel
theorem dX6_valueAt_44 : decode cX6_valueAt 44 = .ok (.iaload, 1) := by decide +kernel
theorem dX6_valueAt_45 : decode cX6_valueAt 45 = .ok (.iadd, 1) := by decide +kernel
theorem dX6_valueAt_46 : decode cX6_valueAt 46 = .ok (.aload_n 1, 1) := by decide +kernel
theorem dX6_valueAt_47 : decode cX6_valueAt 47 = .ok (.getfield 32, 3) := by decide +kernel
theorem dX6_valueAt_50 : decode cX6_valueAt 50 = .ok (.irem, 1) := by decide +kernel
theorem dX6_valueAt_51 : decode cX6_valueAt 51 = .ok (.istore 5, 2) := by decide +kernel
theorem dX6_valueAt_53 : decode cX6_valueAt 53 = .ok (.iinc 6 (-1), 3) := by decide +kernel
theorem dX6_valueAt_56 : decode cX6_valueAt 56 = .ok (.goto (-38), 3) := by decide +kernel
theorem dX6_valueAt_59 : decode cX6_valueAt 59 = .ok (.iload_n 3, 1) := by decide +kernel
theorem dX6_valueAt_60 : decode cX6_valueAt 60 = .ok (.aload_n 1, 1) := by decide +kernel
theorem dX6_valueAt_61 : decode cX6_valueAt 61 = .ok (.getfield 36, 3) := by decide +kernel
theorem dX6_valueAt_64 : decode cX6_valueAt 64 = .ok (.iload_n 2, 1) := by decide +kernel
theorem dX6_valueAt_65 : decode cX6_valueAt 65 = .ok (.iaload, 1) := by decide +kernel
theorem dX6_valueAt_66 : decode cX6_valueAt 66 = .ok (.imul, 1) := by decide +kernel
theorem dX6_valueAt_67 : decode cX6_valueAt 67 = .ok (.iload 5, 2) := by decide +kernel
theorem dX6_valueAt_69 : decode cX6_valueAt 69 = .ok (.iadd, 1) := by decide +kernel
theorem dX6_valueAt_70 : decode cX6_valueAt 70 = .ok (.aload_n 1, 1) := by decide +kernel
theorem dX6_valueAt_71 : decode cX6_valueAt 71 = .ok (.getfield 32, 3) := by decide +kernel
theorem dX6_valueAt_74 : decode cX6_valueAt 74 = .ok (.irem, 1) := by decide +kernel
theorem dX6_valueAt_75 : decode cX6_valueAt 75 = .ok (.istore_n 3, 1) := by decide +kernel
theorem dX6_valueAt_76 : decode cX6_valueAt 76 = .ok (.iinc 4 (-1), 3) := by decide +kernel
theorem dX6_valueAt_79 : decode cX6_valueAt 79 = .ok (.goto (-73), 3) := by decide +kernel
theorem dX6_valueAt_82 : decode cX6_valueAt 82 = .ok (.iload_n 3, 1) := by decide +kernel
theorem dX6_valueAt_83 : decode cX6_valueAt 83 = .ok (.ireturn, 1) := by decide +kernel
theorem dX7_init_0 : decode cX7_init 0 = .ok (.aload_n 0, 1) := by decide +kernel
theorem dX7_init_1 : decode cX7_init 1 = .ok (.invokespecial 3, 3) := by decide +kernel
theorem dX7_init_4 : decode cX7_init 4 = .ok (.aload_n 0, 1) := by decide +kernel
theorem dX7_init_5 : decode cX7_init 5 = .ok (.bipush 9, 2) := by decide +kernel
theorem dX7_init_7 : decode cX7_init 7 = .ok (.newarray .int, 2) := by decide +kernel
theorem dX7_init_9 : decode cX7_init 9 = .ok (.putfield 9, 3) := by decide +kernel
theorem dX7_init_12 : decode cX7_init 12 = .ok (.aload_n 0, 1) := by decide +kernel
theorem dX7_init_13 : decode cX7_init 13 = .ok (.iconst 0, 1) := by decide +kernel
theorem dX7_init_14 : decode cX7_init 14 = .ok (.putfield 15, 3) := by decide +kernel
theorem dX7_init_17 : decode cX7_init 17 = .ok (.aload_n 0, 1) := by decide +kernel
theorem dX7_init_18 : decode cX7_init 18 = .ok (.iconst 4, 1) := by decide +kernel
theorem dX7_init_19 : decode cX7_init 19 = .ok (.anewarray 19, 3) := by decide +kernel
theorem dX7_init_22 : decode cX7_init 22 = .ok (.putfield 21, 3) := by decide +kernel
theorem dX7_init_25 : decode cX7_init 25 = .ok (.aload_n 0, 1) := by decide +kernel
theorem dX7_init_26 : decode cX7_init 26 = .ok (.iconst 0, 1) := by decide +kernel
theorem dX7_init_27 : decode cX7_init 27 = .ok (.putfield 25, 3) := by decide +kernel
theorem dX7_init_30 : decode cX7_init 30 = .ok (.aload_n 0, 1) := by decide +kernel
theorem dX7_init_31 : decode cX7_init 31 = .ok (.iconst 0, 1) := by decide +kernel
theorem dX7_init_32 : decode cX7_init 32 = .ok (.putfield 28, 3) := by decide +kernel
theorem dX7_init_35 : decode cX7_init 35 = .ok (.iconst 0, 1) := by decide +kernel
theorem dX7_init_36 : decode cX7_init 36 = .ok (.istore_n 1, 1) := by decide +kernel
theorem dX7_init_37 : decode cX7_init 37 = .ok (.iload_n 1, 1) := by decide +kernel
theorem dX7_init_38 : decode cX7_init 38 = .ok (.iconst 4, 1) := by decide +kernel
theorem dX7_init_39 : decode cX7_init 39 = .ok (.if_icmp .ge 22, 3) := by decide +kernel
theorem dX7_init_42 : decode cX7_init 42 = .ok (.aload_n 0, 1) := by decide +kernel
theorem dX7_init_43 : decode cX7_init 43 = .ok (.getfield 21, 3) := by decide +kernel
theorem dX7_init_46 : decode cX7_init 46 = .ok (.iload_n 1, 1) := by decide +kernel
theorem dX7_init_47 : decode cX7_init 47 = .ok (.new 19, 3) := by decide +kernel
theorem dX7_init_50 : decode cX7_init 50 = .ok (.dup, 1) := by decide +kernel
theorem dX7_init_51 : decode cX7_init 51 = .ok (.invokespecial 31, 3) := by decide +kernel
theorem dX7_init_54 : decode cX7_init 54 = .ok (.aastore, 1) := by decide +kernel
theorem dX7_init_55 : decode cX7_init 55 = .ok (.iinc 1 1, 3) := by decide +kernel
theorem dX7_init_58 : decode cX7_init 58 = .ok (.goto (-21), 3) := by decide +kernel
theorem dX7_init_61 : decode cX7_init 61 = .ok (.return_, 1) := by decide +kernel
theorem dX7_find_0 : decode cX7_find 0 = .ok (.iload_n 1, 1) := by decide +kernel
theorem dX7_find_1 : decode cX7_find 1 = .ok (.ifCond .lt 20, 3) := by decide +kernel
theorem dX7_find_4 : decode cX7_find 4 = .ok (.iload_n 1, 1) := by decide +kernel
theorem dX7_find_5 : decode cX7_find 5 = .ok (.aload_n 0, 1) := by decide +kernel
theorem dX7_find_6 : decode cX7_find 6 = .ok (.getfield 15, 3) := by decide +kernel
theorem dX7_find_9 : decode cX7_find 9 = .ok (.if_icmp .ge 12, 3) := by decide +kernel
theorem dX7_find_12 : decode cX7_find 12 = .ok (.aload_n 0, 1) := by decide +kernel
theorem dX7_find_13 : decode cX7_find 13 = .ok (.getfield 21, 3) := by decide +kernel
theorem dX7_find_16 : decode cX7_find 16 = .ok (.iload_n 1, 1) := by decide +kernel
theorem dX7_find_17 : decode cX7_find 17 = .ok (.aaload, 1) := by decide +kernel
theorem dX7_find_18 : decode cX7_find 18 = .ok (.goto 4, 3) := by decide +kernel
theorem dX7_find_21 : decode cX7_find 21 = .ok (.aconst_null, 1) := by decide +kernel
theorem dX7_find_22 : decode cX7_find 22 = .ok (.areturn, 1) := by decide +kernel
theorem dX7_compute_0 : decode cX7_compute 0 = .ok (.aload_n 0, 1) := by decide +kernel
theorem dX7_compute_1 : decode cX7_compute 1 = .ok (.getfield 9, 3) := by decide +kernel
theorem dX7_compute_4 : decode cX7_compute 4 = .ok (.iconst 0, 1) := by decide +kernel
theorem dX7_compute_5 : decode cX7_compute 5 = .ok (.invokestatic 32, 3) := by decide +kernel
theorem dX7_compute_8 : decode cX7_compute 8 = .ok (.aload_n 0, 1) := by decide +kernel
theorem dX7_compute_9 : decode cX7_compute 9 = .ok (.iconst 0, 1) := by decide +kernel
theorem dX7_compute_10 : decode cX7_compute 10 = .ok (.putfield 15, 3) := by decide +kernel
theorem dX7_compute_13 : decode cX7_compute 13 = .ok (.aload_n 2, 1) := by decide +kernel
theorem dX7_compute_14 : decode cX7_compute 14 = .ok (.invokevirtual 38, 3) := by decide +kernel
theorem dX7_compute_17 : decode cX7_compute 17 = .ok (.iconst 0, 1) := by decide +kernel
theorem dX7_compute_18 : decode cX7_compute 18 = .ok (.istore_n 3, 1) := by decide +kernel
theorem dX7_compute_19 : decode cX7_compute 19 = .ok (.iload_n 3, 1) := by decide +kernel
theorem dX7_compute_20 : decode cX7_compute 20 = .ok (.bipush 12, 2) := by decide +kernel
theorem dX7_compute_22 : decode cX7_compute 22 = .ok (.if_icmp .ge 63, 3) := by decide +kernel
theorem dX7_compute_25 : decode cX7_compute 25 = .ok (.aload_n 0, 1) := by decide +kernel
theorem dX7_compute_26 : decode cX7_compute 26 = .ok (.aload_n 1, 1) := by decide +kernel
theorem dX7_compute_27 : decode cX7_compute 27 = .ok (.invokevirtual 43, 3) := by decide +kernel
theorem dX7_compute_30 : decode cX7_compute 30 = .ok (.istore 4, 2) := by decide +kernel
theorem dX7_compute_32 : decode cX7_compute 32 = .ok (.iload 4, 2) := by decide +kernel
theorem dX7_compute_34 : decode cX7_compute 34 = .ok (.iconst (-1), 1) := by decide +kernel
theorem dX7_compute_35 : decode cX7_compute 35 = .ok (.if_icmp .ne 6, 3) := by decide +kernel
theorem dX7_compute_38 : decode cX7_compute 38 = .ok (.goto 47, 3) := by decide +kernel
theorem dX7_compute_41 : decode cX7_compute 41 = .ok (.aload_n 0, 1) := by decide +kernel
theorem dX7_compute_42 : decode cX7_compute 42 = .ok (.iload 4, 2) := by decide +kernel
theorem dX7_compute_44 : decode cX7_compute 44 = .ok (.invokevirtual 47, 3) := by decide +kernel
theorem dX7_compute_47 : decode cX7_compute 47 = .ok (.istore 5, 2) := by decide +kernel
theorem dX7_compute_49 : decode cX7_compute 49 = .ok (.aload_n 2, 1) := by decide +kernel
theorem dX7_compute_50 : decode cX7_compute 50 = .ok (.iload 5, 2) := by decide +kernel
theorem dX7_compute_52 : decode cX7_compute 52 = .ok (.invokevirtual 51, 3) := by decide +kernel
theorem dX7_compute_55 : decode cX7_compute 55 = .ok (.ifCond .eq 17, 3) := by decide +kernel
theorem dX7_compute_58 : decode cX7_compute 58 = .ok (.aload_n 0, 1) := by decide +kernel
theorem dX7_compute_59 : decode cX7_compute 59 = .ok (.getfield 9, 3) := by decide +kernel
theorem dX7_compute_62 : decode cX7_compute 62 = .ok (.iload 4, 2) := by decide +kernel
theorem dX7_compute_64 : decode cX7_compute 64 = .ok (.dup2, 1) := by decide +kernel
theorem dX7_compute_65 : decode cX7_compute 65 = .ok (.iaload, 1) := by decide +kernel
theorem dX7_compute_66 : decode cX7_compute 66 = .ok (.iconst 1, 1) := by decide +kernel
theorem dX7_compute_67 : decode cX7_compute 67 = .ok (.iadd, 1) := by decide +kernel
theorem dX7_compute_68 : decode cX7_compute 68 = .ok (.iastore, 1) := by decide +kernel
theorem dX7_compute_69 : decode cX7_compute 69 = .ok (.goto 10, 3) := by decide +kernel
theorem dX7_compute_72 : decode cX7_compute 72 = .ok (.aload_n 0, 1) := by decide +kernel
theorem dX7_compute_73 : decode cX7_compute 73 = .ok (.iload 5, 2) := by decide +kernel
theorem dX7_compute_75 : decode cX7_compute 75 = .ok (.aload_n 2, 1) := by decide +kernel
theorem dX7_compute_76 : decode cX7_compute 76 = .ok (.invokevirtual 55, 3) := by decide +kernel
theorem dX7_compute_79 : decode cX7_compute 79 = .ok (.iinc 3 1, 3) := by decide +kernel
theorem dX7_compute_82 : decode cX7_compute 82 = .ok (.goto (-63), 3) := by decide +kernel
theorem dX7_compute_85 : decode cX7_compute 85 = .ok (.aload_n 0, 1) := by decide +kernel
theorem dX7_compute_86 : decode cX7_compute 86 = .ok (.invokevirtual 59, 3) := by decide +kernel
theorem dX7_compute_89 : decode cX7_compute 89 = .ok (.return_, 1) := by decide +kernel
theorem dX7_topOf_0 : decode cX7_topOf 0 = .ok (.bipush 9, 2) := by decide +kernel
theorem dX7_topOf_2 : decode cX7_topOf 2 = .ok (.iload_n 1, 1) := by decide +kernel
theorem dX7_topOf_3 : decode cX7_topOf 3 = .ok (.imul, 1) := by decide +kernel
theorem dX7_topOf_4 : decode cX7_topOf 4 = .ok (.aload_n 0, 1) := by decide +kernel
theorem dX7_topOf_5 : decode cX7_topOf 5 = .ok (.getfield 9, 3) := by decide +kernel
theorem dX7_topOf_8 : decode cX7_topOf 8 = .ok (.iload_n 1, 1) := by decide +kernel
theorem dX7_topOf_9 : decode cX7_topOf 9 = .ok (.iaload, 1) := by decide +kernel
theorem dX7_topOf_10 : decode cX7_topOf 10 = .ok (.iadd, 1) := by decide +kernel
theorem dX7_topOf_11 : decode cX7_topOf 11 = .ok (.ireturn, 1) := by decide +kernel
theorem dX7_nextColumn_0 : decode cX7_nextColumn 0 = .ok (.iconst (-1), 1) := by decide +kernel
theorem dX7_nextColumn_1 : decode cX7_nextColumn 1 = .ok (.istore_n 2, 1) := by decide +kernel
theorem dX7_nextColumn_2 : decode cX7_nextColumn 2 = .ok (.iconst 0, 1) := by decide +kernel
theorem dX7_nextColumn_3 : decode cX7_nextColumn 3 = .ok (.istore_n 3, 1) := by decide +kernel
theorem dX7_nextColumn_4 : decode cX7_nextColumn 4 = .ok (.iload_n 3, 1) := by decide +kernel
theorem dX7_nextColumn_5 : decode cX7_nextColumn 5 = .ok (.bipush 9, 2) := by decide +kernel
theorem dX7_nextColumn_7 : decode cX7_nextColumn 7 = .ok (.if_icmp .ge 41, 3) := by decide +kernel
theorem dX7_nextColumn_10 : decode cX7_nextColumn 10 = .ok (.aload_n 0, 1) := by decide +kernel
theorem dX7_nextColumn_11 : decode cX7_nextColumn 11 = .ok (.iload_n 3, 1) := by decide +kernel
theorem dX7_nextColumn_12 : decode cX7_nextColumn 12 = .ok (.invokevirtual 62, 3) := by decide +kernel
theorem dX7_nextColumn_15 : decode cX7_nextColumn 15 = .ok (.ifCond .ne 27, 3) := by decide +kernel
theorem dX7_nextColumn_18 : decode cX7_nextColumn 18 = .ok (.iload_n 2, 1) := by decide +kernel
theorem dX7_nextColumn_19 : decode cX7_nextColumn 19 = .ok (.iconst (-1), 1) := by decide +kernel
theorem dX7_nextColumn_20 : decode cX7_nextColumn 20 = .ok (.if_icmp .eq 20, 3) := by decide +kernel
theorem dX7_nextColumn_23 : decode cX7_nextColumn 23 = .ok (.aload_n 1, 1) := by decide +kernel
theorem dX7_nextColumn_24 : decode cX7_nextColumn 24 = .ok (.aload_n 0, 1) := by decide +kernel
theorem dX7_nextColumn_25 : decode cX7_nextColumn 25 = .ok (.iload_n 3, 1) := by decide +kernel
theorem dX7_nextColumn_26 : decode cX7_nextColumn 26 = .ok (.invokevirtual 47, 3) := by decide +kernel
theorem dX7_nextColumn_29 : decode cX7_nextColumn 29 = .ok (.aload_n 0, 1) := by decide +kernel
theorem dX7_nextColumn_30 : decode cX7_nextColumn 30 = .ok (.iload_n 2, 1) := by decide +kernel
theorem dX7_nextColumn_31 : decode cX7_nextColumn 31 = .ok (.invokevirtual 47, 3) := by decide +kernel
theorem dX7_nextColumn_34 : decode cX7_nextColumn 34 = .ok (.invokevirtual 65, 3) := by decide +kernel
theorem dX7_nextColumn_37 : decode cX7_nextColumn 37 = .ok (.ifCond .eq 5, 3) := by decide +kernel
theorem dX7_nextColumn_40 : decode cX7_nextColumn 40 = .ok (.iload_n 3, 1) := by decide +kernel
theorem dX7_nextColumn_41 : decode cX7_nextColumn 41 = .ok (.istore_n 2, 1) := by decide +kernel
theorem dX7_nextColumn_42 : decode cX7_nextColumn 42 = .ok (.iinc 3 1, 3) := by decide +kernel
theorem dX7_nextColumn_45 : decode cX7_nextColumn 45 = .ok (.goto (-41), 3) := by decide +kernel
theorem dX7_nextColumn_48 : decode cX7_nextColumn 48 = .ok (.iload_n 2, 1) := by decide +kernel
theorem dX7_nextColumn_49 : decode cX7_nextColumn 49 = .ok (.ireturn, 1) := by decide +kernel
theorem dX7_isClosed_0 : decode cX7_isClosed 0 = .ok (.iconst 0, 1) := by decide +kernel
theorem dX7_isClosed_1 : decode cX7_isClosed 1 = .ok (.istore_n 2, 1) := by decide +kernel
theorem dX7_isClosed_2 : decode cX7_isClosed 2 = .ok (.iload_n 2, 1) := by decide +kernel
theorem dX7_isClosed_3 : decode cX7_isClosed 3 = .ok (.aload_n 0, 1) := by decide +kernel
theorem dX7_isClosed_4 : decode cX7_isClosed 4 = .ok (.getfield 15, 3) := by decide +kernel
theorem dX7_isClosed_7 : decode cX7_isClosed 7 = .ok (.if_icmp .ge 42, 3) := by decide +kernel
theorem dX7_isClosed_10 : decode cX7_isClosed 10 = .ok (.aload_n 0, 1) := by decide +kernel
theorem dX7_isClosed_11 : decode cX7_isClosed 11 = .ok (.getfield 21, 3) := by decide +kernel
theorem dX7_isClosed_14 : decode cX7_isClosed 14 = .ok (.iload_n 2, 1) := by decide +kernel
theorem dX7_isClosed_15 : decode cX7_isClosed 15 = .ok (.aaload, 1) := by decide +kernel
theorem dX7_isClosed_16 : decode cX7_isClosed 16 = .ok (.getfield 71, 3) := by decide +kernel
theorem dX7_isClosed_19 : decode cX7_isClosed 19 = .ok (.istore_n 3, 1) := by decide +kernel
theorem dX7_isClosed_20 : decode cX7_isClosed 20 = .ok (.iload_n 3, 1) := by decide +kernel
theorem dX7_isClosed_21 : decode cX7_isClosed 21 = .ok (.bipush 9, 2) := by decide +kernel
theorem dX7_isClosed_23 : decode cX7_isClosed 23 = .ok (.idiv, 1) := by decide +kernel
theorem dX7_isClosed_24 : decode cX7_isClosed 24 = .ok (.iload_n 1, 1) := by decide +kernel
theorem dX7_isClosed_25 : decode cX7_isClosed 25 = .ok (.if_icmp .gt 18, 3) := by decide +kernel
theorem dX7_isClosed_28 : decode cX7_isClosed 28 = .ok (.iload_n 3, 1) := by decide +kernel
theorem dX7_isClosed_29 : decode cX7_isClosed 29 = .ok (.bipush 9, 2) := by decide +kernel
theorem dX7_isClosed_31 : decode cX7_isClosed 31 = .ok (.irem, 1) := by decide +kernel
theorem dX7_isClosed_32 : decode cX7_isClosed 32 = .ok (.aload_n 0, 1) := by decide +kernel
theorem dX7_isClosed_33 : decode cX7_isClosed 33 = .ok (.getfield 9, 3) := by decide +kernel
theorem dX7_isClosed_36 : decode cX7_isClosed 36 = .ok (.iload_n 1, 1) := by decide +kernel
theorem dX7_isClosed_37 : decode cX7_isClosed 37 = .ok (.iaload, 1) := by decide +kernel
theorem dX7_isClosed_38 : decode cX7_isClosed 38 = .ok (.if_icmp .gt 5, 3) := by decide +kernel
theorem dX7_isClosed_41 : decode cX7_isClosed 41 = .ok (.iconst 1, 1) := by decide +kernel
theorem dX7_isClosed_42 : decode cX7_isClosed 42 = .ok (.ireturn, 1) := by decide +kernel
theorem dX7_isClosed_43 : decode cX7_isClosed 43 = .ok (.iinc 2 1, 3) := by decide +kernel
theorem dX7_isClosed_46 : decode cX7_isClosed 46 = .ok (.goto (-44), 3) := by decide +kernel
theorem dX7_isClosed_49 : decode cX7_isClosed 49 = .ok (.iconst 0, 1) := by decide +kernel
theorem dX7_isClosed_50 : decode cX7_isClosed 50 = .ok (.ireturn, 1) := by decide +kernel
theorem dX7_insertCorner_0 : decode cX7_insertCorner 0 = .ok (.aload_n 0, 1) := by decide +kernel
theorem dX7_insertCorner_1 : decode cX7_insertCorner 1 = .ok (.getfield 15, 3) := by decide +kernel
theorem dX7_insertCorner_4 : decode cX7_insertCorner 4 = .ok (.iconst 4, 1) := by decide +kernel
theorem dX7_insertCorner_5 : decode cX7_insertCorner 5 = .ok (.if_icmp .lt 4, 3) := by decide +kernel
theorem dX7_insertCorner_8 : decode cX7_insertCorner 8 = .ok (.return_, 1) := by decide +kernel
theorem dX7_insertCorner_9 : decode cX7_insertCorner 9 = .ok (.aload_n 0, 1) := by decide +kernel
theorem dX7_insertCorner_10 : decode cX7_insertCorner 10 = .ok (.getfield 21, 3) := by decide +kernel
theorem dX7_insertCorner_13 : decode cX7_insertCorner 13 = .ok (.aload_n 0, 1) := by decide +kernel
theorem dX7_insertCorner_14 : decode cX7_insertCorner 14 = .ok (.getfield 15, 3) := by decide +kernel
theorem dX7_insertCorner_17 : decode cX7_insertCorner 17 = .ok (.aaload, 1) := by decide +kernel
theorem dX7_insertCorner_18 : decode cX7_insertCorner 18 = .ok (.astore_n 3, 1) := by decide +kernel
theorem dX7_insertCorner_19 : decode cX7_insertCorner 19 = .ok (.aload_n 0, 1) := by decide +kernel
theorem dX7_insertCorner_20 : decode cX7_insertCorner 20 = .ok (.getfield 15, 3) := by decide +kernel
theorem dX7_insertCorner_23 : decode cX7_insertCorner 23 = .ok (.istore 4, 2) := by decide +kernel
theorem dX7_insertCorner_25 : decode cX7_insertCorner 25 = .ok (.aload_n 0, 1) := by decide +kernel
theorem dX7_insertCorner_26 : decode cX7_insertCorner 26 = .ok (.getfield 15, 3) := by decide +kernel
theorem dX7_insertCorner_29 : decode cX7_insertCorner 29 = .ok (.iconst 1, 1) := by decide +kernel
theorem dX7_insertCorner_30 : decode cX7_insertCorner 30 = .ok (.isub, 1) := by decide +kernel
theorem dX7_insertCorner_31 : decode cX7_insertCorner 31 = .ok (.istore 5, 2) := by decide +kernel
theorem dX7_insertCorner_33 : decode cX7_insertCorner 33 = .ok (.iload 5, 2) := by decide +kernel
theorem dX7_insertCorner_35 : decode cX7_insertCorner 35 = .ok (.ifCond .lt 43, 3) := by decide +kernel
theorem dX7_insertCorner_38 : decode cX7_insertCorner 38 = .ok (.aload_n 0, 1) := by decide +kernel
theorem dX7_insertCorner_39 : decode cX7_insertCorner 39 = .ok (.getfield 21, 3) := by decide +kernel
theorem dX7_insertCorner_42 : decode cX7_insertCorner 42 = .ok (.iload 5, 2) := by decide +kernel
theorem dX7_insertCorner_44 : decode cX7_insertCorner 44 = .ok (.aaload, 1) := by decide +kernel
theorem dX7_insertCorner_45 : decode cX7_insertCorner 45 = .ok (.getfield 71, 3) := by decide +kernel
theorem dX7_insertCorner_48 : decode cX7_insertCorner 48 = .ok (.iload_n 1, 1) := by decide +kernel
theorem dX7_insertCorner_49 : decode cX7_insertCorner 49 = .ok (.if_icmp .le 29, 3) := by decide +kernel
theorem dX7_insertCorner_52 : decode cX7_insertCorner 52 = .ok (.aload_n 0, 1) := by decide +kernel
theorem dX7_insertCorner_53 : decode cX7_insertCorner 53 = .ok (.getfield 21, 3) := by decide +kernel
theorem dX7_insertCorner_56 : decode cX7_insertCorner 56 = .ok (.iload 5, 2) := by decide +kernel
theorem dX7_insertCorner_58 : decode cX7_insertCorner 58 = .ok (.iconst 1, 1) := by decide +kernel
theorem dX7_insertCorner_59 : decode cX7_insertCorner 59 = .ok (.iadd, 1) := by decide +kernel
theorem dX7_insertCorner_60 : decode cX7_insertCorner 60 = .ok (.aload_n 0, 1) := by decide +kernel
theorem dX7_insertCorner_61 : decode cX7_insertCorner 61 = .ok (.getfield 21, 3) := by decide +kernel
theorem dX7_insertCorner_64 : decode cX7_insertCorner 64 = .ok (.iload 5, 2) := by decide +kernel
theorem dX7_insertCorner_66 : decode cX7_insertCorner 66 = .ok (.aaload, 1) := by decide +kernel
theorem dX7_insertCorner_67 : decode cX7_insertCorner 67 = .ok (.aastore, 1) := by decide +kernel
theorem dX7_insertCorner_68 : decode cX7_insertCorner 68 = .ok (.iload 5, 2) := by decide +kernel
theorem dX7_insertCorner_70 : decode cX7_insertCorner 70 = .ok (.istore 4, 2) := by decide +kernel
theorem dX7_insertCorner_72 : decode cX7_insertCorner 72 = .ok (.iinc 5 (-1), 3) := by decide +kernel
theorem dX7_insertCorner_75 : decode cX7_insertCorner 75 = .ok (.goto (-42), 3) := by decide +kernel
theorem dX7_insertCorner_78 : decode cX7_insertCorner 78 = .ok (.aload_n 0, 1) := by decide +kernel
theorem dX7_insertCorner_79 : decode cX7_insertCorner 79 = .ok (.getfield 21, 3) := by decide +kernel
theorem dX7_insertCorner_82 : decode cX7_insertCorner 82 = .ok (.iload 4, 2) := by decide +kernel
theorem dX7_insertCorner_84 : decode cX7_insertCorner 84 = .ok (.aload_n 3, 1) := by decide +kernel
theorem dX7_insertCorner_85 : decode cX7_insertCorner 85 = .ok (.aastore, 1) := by decide +kernel
theorem dX7_insertCorner_86 : decode cX7_insertCorner 86 = .ok (.aload_n 3, 1) := by decide +kernel
theorem dX7_insertCorner_87 : decode cX7_insertCorner 87 = .ok (.iload_n 1, 1) := by decide +kernel
theorem dX7_insertCorner_88 : decode cX7_insertCorner 88 = .ok (.aload_n 2, 1) := by decide +kernel
theorem dX7_insertCorner_89 : decode cX7_insertCorner 89 = .ok (.invokevirtual 74, 3) := by decide +kernel
theorem dX7_insertCorner_92 : decode cX7_insertCorner 92 = .ok (.aload_n 0, 1) := by decide +kernel
theorem dX7_insertCorner_93 : decode cX7_insertCorner 93 = .ok (.dup, 1) := by decide +kernel
theorem dX7_insertCorner_94 : decode cX7_insertCorner 94 = .ok (.getfield 15, 3) := by decide +kernel
theorem dX7_insertCorner_97 : decode cX7_insertCorner 97 = .ok (.iconst 1, 1) := by decide +kernel
theorem dX7_insertCorner_98 : decode cX7_insertCorner 98 = .ok (.iadd, 1) := by decide +kernel
theorem dX7_insertCorner_99 : decode cX7_insertCorner 99 = .ok (.putfield 15, 3) := by decide +kernel
theorem dX7_insertCorner_102 : decode cX7_insertCorner 102 = .ok (.return_, 1) := by decide +kernel
theorem dX7_findWall_0 : decode cX7_findWall 0 = .ok (.aload_n 0, 1) := by decide +kernel
theorem dX7_findWall_1 : decode cX7_findWall 1 = .ok (.iconst 0, 1) := by decide +kernel
theorem dX7_findWall_2 : decode cX7_findWall 2 = .ok (.putfield 25, 3) := by decide +kernel
theorem dX7_findWall_5 : decode cX7_findWall 5 = .ok (.aload_n 0, 1) := by decide +kernel
theorem dX7_findWall_6 : decode cX7_findWall 6 = .ok (.iconst 0, 1) := by decide +kernel
theorem dX7_findWall_7 : decode cX7_findWall 7 = .ok (.putfield 28, 3) := by decide +kernel
theorem dX7_findWall_10 : decode cX7_findWall 10 = .ok (.iconst 0, 1) := by decide +kernel
theorem dX7_findWall_11 : decode cX7_findWall 11 = .ok (.istore_n 1, 1) := by decide +kernel
theorem dX7_findWall_12 : decode cX7_findWall 12 = .ok (.iload_n 1, 1) := by decide +kernel
theorem dX7_findWall_13 : decode cX7_findWall 13 = .ok (.aload_n 0, 1) := by decide +kernel
theorem dX7_findWall_14 : decode cX7_findWall 14 = .ok (.getfield 15, 3) := by decide +kernel
theorem dX7_findWall_17 : decode cX7_findWall 17 = .ok (.if_icmp .ge 19, 3) := by decide +kernel
theorem dX7_findWall_20 : decode cX7_findWall 20 = .ok (.aload_n 0, 1) := by decide +kernel
theorem dX7_findWall_21 : decode cX7_findWall 21 = .ok (.aload_n 0, 1) := by decide +kernel
theorem dX7_findWall_22 : decode cX7_findWall 22 = .ok (.getfield 21, 3) := by decide +kernel
theorem dX7_findWall_25 : decode cX7_findWall 25 = .ok (.iload_n 1, 1) := by decide +kernel
theorem dX7_findWall_26 : decode cX7_findWall 26 = .ok (.aaload, 1) := by decide +kernel
theorem dX7_findWall_27 : decode cX7_findWall 27 = .ok (.invokevirtual 77, 3) := by decide +kernel
theorem dX7_findWall_30 : decode cX7_findWall 30 = .ok (.iinc 1 1, 3) := by decide +kernel
theorem dX7_findWall_33 : decode cX7_findWall 33 = .ok (.goto (-21), 3) := by decide +kernel
theorem dX7_findWall_36 : decode cX7_findWall 36 = .ok (.bipush 9, 2) := by decide +kernel
theorem dX7_findWall_38 : decode cX7_findWall 38 = .ok (.istore_n 1, 1) := by decide +kernel
theorem dX7_findWall_39 : decode cX7_findWall 39 = .ok (.iload_n 1, 1) := by decide +kernel
theorem dX7_findWall_40 : decode cX7_findWall 40 = .ok (.iconst 1, 1) := by decide +kernel
theorem dX7_findWall_41 : decode cX7_findWall 41 = .ok (.if_icmp .le 47, 3) := by decide +kernel
theorem dX7_findWall_44 : decode cX7_findWall 44 = .ok (.aload_n 0, 1) := by decide +kernel
theorem dX7_findWall_45 : decode cX7_findWall 45 = .ok (.getfield 25, 3) := by decide +kernel
theorem dX7_findWall_48 : decode cX7_findWall 48 = .ok (.iload_n 1, 1) := by decide +kernel
theorem dX7_findWall_49 : decode cX7_findWall 49 = .ok (.irem, 1) := by decide +kernel
theorem dX7_findWall_50 : decode cX7_findWall 50 = .ok (.ifCond .ne 32, 3) := by decide +kernel
theorem dX7_findWall_53 : decode cX7_findWall 53 = .ok (.aload_n 0, 1) := by decide +kernel
theorem dX7_findWall_54 : decode cX7_findWall 54 = .ok (.getfield 28, 3) := by decide +kernel
theorem dX7_findWall_57 : decode cX7_findWall 57 = .ok (.iload_n 1, 1) := by decide +kernel
theorem dX7_findWall_58 : decode cX7_findWall 58 = .ok (.irem, 1) := by decide +kernel
theorem dX7_findWall_59 : decode cX7_findWall 59 = .ok (.ifCond .ne 23, 3) := by decide +kernel
theorem dX7_findWall_62 : decode cX7_findWall 62 = .ok (.aload_n 0, 1) := by decide +kernel
theorem dX7_findWall_63 : decode cX7_findWall 63 = .ok (.dup, 1) := by decide +kernel
theorem dX7_findWall_64 : decode cX7_findWall 64 = .ok (.getfield 25, 3) := by decide +kernel
theorem dX7_findWall_67 : decode cX7_findWall 67 = .ok (.iload_n 1, 1) := by decide +kernel
theorem dX7_findWall_68 : decode cX7_findWall 68 = .ok (.idiv, 1) := by decide +kernel
theorem dX7_findWall_69 : decode cX7_findWall 69 = .ok (.putfield 25, 3) := by decide +kernel
theorem dX7_findWall_72 : decode cX7_findWall 72 = .ok (.aload_n 0, 1) := by decide +kernel
theorem dX7_findWall_73 : decode cX7_findWall 73 = .ok (.dup, 1) := by decide +kernel
theorem dX7_findWall_74 : decode cX7_findWall 74 = .ok (.getfield 28, 3) := by decide +kernel
theorem dX7_findWall_77 : decode cX7_findWall 77 = .ok (.iload_n 1, 1) := by decide +kernel
theorem dX7_findWall_78 : decode cX7_findWall 78 = .ok (.idiv, 1) := by decide +kernel
theorem dX7_findWall_79 : decode cX7_findWall 79 = .ok (.putfield 28, 3) := by decide +kernel
theorem dX7_findWall_82 : decode cX7_findWall 82 = .ok (.iinc 1 (-1), 3) := by decide +kernel
theorem dX7_findWall_85 : decode cX7_findWall 85 = .ok (.goto (-46), 3) := by decide +kernel
theorem dX7_findWall_88 : decode cX7_findWall 88 = .ok (.return_, 1) := by decide +kernel
theorem dX7_lowerWall_0 : decode cX7_lowerWall 0 = .ok (.aload_n 1, 1) := by decide +kernel
theorem dX7_lowerWall_1 : decode cX7_lowerWall 1 = .ok (.getfield 71, 3) := by decide +kernel
theorem dX7_lowerWall_4 : decode cX7_lowerWall 4 = .ok (.istore_n 2, 1) := by decide +kernel
theorem dX7_lowerWall_5 : decode cX7_lowerWall 5 = .ok (.iconst 0, 1) := by decide +kernel
theorem dX7_lowerWall_6 : decode cX7_lowerWall 6 = .ok (.istore_n 3, 1) := by decide +kernel
theorem dX7_lowerWall_7 : decode cX7_lowerWall 7 = .ok (.iload_n 3, 1) := by decide +kernel
theorem dX7_lowerWall_8 : decode cX7_lowerWall 8 = .ok (.aload_n 1, 1) := by decide +kernel
theorem dX7_lowerWall_9 : decode cX7_lowerWall 9 = .ok (.getfield 81, 3) := by decide +kernel
theorem dX7_lowerWall_12 : decode cX7_lowerWall 12 = .ok (.if_icmp .ge 82, 3) := by decide +kernel
theorem dX7_lowerWall_15 : decode cX7_lowerWall 15 = .ok (.aload_n 1, 1) := by decide +kernel
theorem dX7_lowerWall_16 : decode cX7_lowerWall 16 = .ok (.getfield 82, 3) := by decide +kernel
theorem dX7_lowerWall_19 : decode cX7_lowerWall 19 = .ok (.iload_n 3, 1) := by decide +kernel
theorem dX7_lowerWall_20 : decode cX7_lowerWall 20 = .ok (.iaload, 1) := by decide +kernel
theorem dX7_lowerWall_21 : decode cX7_lowerWall 21 = .ok (.istore 4, 2) := by decide +kernel
theorem dX7_lowerWall_23 : decode cX7_lowerWall 23 = .ok (.iload_n 2, 1) := by decide +kernel
theorem dX7_lowerWall_24 : decode cX7_lowerWall 24 = .ok (.bipush 9, 2) := by decide +kernel
theorem dX7_lowerWall_26 : decode cX7_lowerWall 26 = .ok (.idiv, 1) := by decide +kernel
theorem dX7_lowerWall_27 : decode cX7_lowerWall 27 = .ok (.iload 4, 2) := by decide +kernel
theorem dX7_lowerWall_29 : decode cX7_lowerWall 29 = .ok (.bipush 9, 2) := by decide +kernel
theorem dX7_lowerWall_31 : decode cX7_lowerWall 31 = .ok (.idiv, 1) := by decide +kernel
theorem dX7_lowerWall_32 : decode cX7_lowerWall 32 = .ok (.isub, 1) := by decide +kernel
theorem dX7_lowerWall_33 : decode cX7_lowerWall 33 = .ok (.istore 5, 2) := by decide +kernel
theorem dX7_lowerWall_35 : decode cX7_lowerWall 35 = .ok (.iload 4, 2) := by decide +kernel
theorem dX7_lowerWall_37 : decode cX7_lowerWall 37 = .ok (.bipush 9, 2) := by decide +kernel
theorem dX7_lowerWall_39 : decode cX7_lowerWall 39 = .ok (.irem, 1) := by decide +kernel
theorem dX7_lowerWall_40 : decode cX7_lowerWall 40 = .ok (.iload_n 2, 1) := by decide +kernel
theorem dX7_lowerWall_41 : decode cX7_lowerWall 41 = .ok (.bipush 9, 2) := by decide +kernel
theorem dX7_lowerWall_43 : decode cX7_lowerWall 43 = .ok (.irem, 1) := by decide +kernel
theorem dX7_lowerWall_44 : decode cX7_lowerWall 44 = .ok (.isub, 1) := by decide +kernel
theorem dX7_lowerWall_45 : decode cX7_lowerWall 45 = .ok (.istore 6, 2) := by decide +kernel
theorem dX7_lowerWall_47 : decode cX7_lowerWall 47 = .ok (.iload 6, 2) := by decide +kernel
theorem dX7_lowerWall_49 : decode cX7_lowerWall 49 = .ok (.ifCond .le 39, 3) := by decide +kernel
theorem dX7_lowerWall_52 : decode cX7_lowerWall 52 = .ok (.aload_n 0, 1) := by decide +kernel
theorem dX7_lowerWall_53 : decode cX7_lowerWall 53 = .ok (.invokevirtual 85, 3) := by decide +kernel
theorem dX7_lowerWall_56 : decode cX7_lowerWall 56 = .ok (.ifCond .eq 20, 3) := by decide +kernel
theorem dX7_lowerWall_59 : decode cX7_lowerWall 59 = .ok (.iload 5, 2) := by decide +kernel
theorem dX7_lowerWall_61 : decode cX7_lowerWall 61 = .ok (.aload_n 0, 1) := by decide +kernel
theorem dX7_lowerWall_62 : decode cX7_lowerWall 62 = .ok (.getfield 28, 3) := by decide +kernel
theorem dX7_lowerWall_65 : decode cX7_lowerWall 65 = .ok (.imul, 1) := by decide +kernel
theorem dX7_lowerWall_66 : decode cX7_lowerWall 66 = .ok (.aload_n 0, 1) := by decide +kernel
theorem dX7_lowerWall_67 : decode cX7_lowerWall 67 = .ok (.getfield 25, 3) := by decide +kernel
theorem dX7_lowerWall_70 : decode cX7_lowerWall 70 = .ok (.iload 6, 2) := by decide +kernel
theorem dX7_lowerWall_72 : decode cX7_lowerWall 72 = .ok (.imul, 1) := by decide +kernel
theorem dX7_lowerWall_73 : decode cX7_lowerWall 73 = .ok (.if_icmp .ge 15, 3) := by decide +kernel
theorem dX7_lowerWall_76 : decode cX7_lowerWall 76 = .ok (.aload_n 0, 1) := by decide +kernel
theorem dX7_lowerWall_77 : decode cX7_lowerWall 77 = .ok (.iload 5, 2) := by decide +kernel
theorem dX7_lowerWall_79 : decode cX7_lowerWall 79 = .ok (.putfield 25, 3) := by decide +kernel
theorem dX7_lowerWall_82 : decode cX7_lowerWall 82 = .ok (.aload_n 0, 1) := by decide +kernel
theorem dX7_lowerWall_83 : decode cX7_lowerWall 83 = .ok (.iload 6, 2) := by decide +kernel
theorem dX7_lowerWall_85 : decode cX7_lowerWall 85 = .ok (.putfield 28, 3) := by decide +kernel
theorem dX7_lowerWall_88 : decode cX7_lowerWall 88 = .ok (.iinc 3 1, 3) := by decide +kernel
theorem dX7_lowerWall_91 : decode cX7_lowerWall 91 = .ok (.goto (-84), 3) := by decide +kernel
theorem dX7_lowerWall_94 : decode cX7_lowerWall 94 = .ok (.return_, 1) := by decide +kernel
theorem dX7_hasWall_0 : decode cX7_hasWall 0 = .ok (.aload_n 0, 1) := by decide +kernel
theorem dX7_hasWall_1 : decode cX7_hasWall 1 = .ok (.getfield 28, 3) := by decide +kernel
theorem dX7_hasWall_4 : decode cX7_hasWall 4 = .ok (.ifCond .eq 7, 3) := by decide +kernel
theorem dX7_hasWall_7 : decode cX7_hasWall 7 = .ok (.iconst 1, 1) := by decide +kernel
theorem dX7_hasWall_8 : decode cX7_hasWall 8 = .ok (.goto 4, 3) := by decide +kernel
theorem dX7_hasWall_11 : decode cX7_hasWall 11 = .ok (.iconst 0, 1) := by decide +kernel
theorem dX7_hasWall_12 : decode cX7_hasWall 12 = .ok (.ireturn, 1) := by decide +kernel
theorem dX7_hasAboveWall_0 : decode cX7_hasAboveWall 0 = .ok (.aload_n 0, 1) := by decide +kernel
theorem dX7_hasAboveWall_1 : decode cX7_hasAboveWall 1 = .ok (.invokevirtual 85, 3) := by decide +kernel
theorem dX7_hasAboveWall_4 : decode cX7_hasAboveWall 4 = .ok (.ifCond .eq 22, 3) := by decide +kernel
theorem dX7_hasAboveWall_7 : decode cX7_hasAboveWall 7 = .ok (.iload_n 2, 1) := by decide +kernel
theorem dX7_hasAboveWall_8 : decode cX7_hasAboveWall 8 = .ok (.aload_n 0, 1) := by decide +kernel
theorem dX7_hasAboveWall_9 : decode cX7_hasAboveWall 9 = .ok (.getfield 28, 3) := by decide +kernel
theorem dX7_hasAboveWall_12 : decode cX7_hasAboveWall 12 = .ok (.imul, 1) := by decide +kernel
theorem dX7_hasAboveWall_13 : decode cX7_hasAboveWall 13 = .ok (.aload_n 0, 1) := by decide +kernel
theorem dX7_hasAboveWall_14 : decode cX7_hasAboveWall 14 = .ok (.getfield 25, 3) := by decide +kernel
theorem dX7_hasAboveWall_17 : decode cX7_hasAboveWall 17 = .ok (.iload_n 1, 1) := by decide +kernel
theorem dX7_hasAboveWall_18 : decode cX7_hasAboveWall 18 = .ok (.imul, 1) := by decide +kernel
theorem dX7_hasAboveWall_19 : decode cX7_hasAboveWall 19 = .ok (.if_icmp .le 7, 3) := by decide +kernel
theorem dX7_hasAboveWall_22 : decode cX7_hasAboveWall 22 = .ok (.iconst 1, 1) := by decide +kernel
theorem dX7_hasAboveWall_23 : decode cX7_hasAboveWall 23 = .ok (.goto 4, 3) := by decide +kernel
theorem dX7_hasAboveWall_26 : decode cX7_hasAboveWall 26 = .ok (.iconst 0, 1) := by decide +kernel
theorem dX7_hasAboveWall_27 : decode cX7_hasAboveWall 27 = .ok (.ireturn, 1) := by decide +kernel
theorem dX7_hasOnWall_0 : decode cX7_hasOnWall 0 = .ok (.aload_n 0, 1) := by decide +kernel
theorem dX7_hasOnWall_1 : decode cX7_hasOnWall 1 = .ok (.invokevirtual 85, 3) := by decide +kernel
theorem dX7_hasOnWall_4 : decode cX7_hasOnWall 4 = .ok (.ifCond .eq 22, 3) := by decide +kernel
theorem dX7_hasOnWall_7 : decode cX7_hasOnWall 7 = .ok (.iload_n 2, 1) := by decide +kernel
theorem dX7_hasOnWall_8 : decode cX7_hasOnWall 8 = .ok (.aload_n 0, 1) := by decide +kernel
theorem dX7_hasOnWall_9 : decode cX7_hasOnWall 9 = .ok (.getfield 28, 3) := by decide +kernel
theorem dX7_hasOnWall_12 : decode cX7_hasOnWall 12 = .ok (.imul, 1) := by decide +kernel
theorem dX7_hasOnWall_13 : decode cX7_hasOnWall 13 = .ok (.aload_n 0, 1) := by decide +kernel
theorem dX7_hasOnWall_14 : decode cX7_hasOnWall 14 = .ok (.getfield 25, 3) := by decide +kernel
theorem dX7_hasOnWall_17 : decode cX7_hasOnWall 17 = .ok (.iload_n 1, 1) := by decide +kernel
theorem dX7_hasOnWall_18 : decode cX7_hasOnWall 18 = .ok (.imul, 1) := by decide +kernel
theorem dX7_hasOnWall_19 : decode cX7_hasOnWall 19 = .ok (.if_icmp .ne 7, 3) := by decide +kernel
theorem dX7_hasOnWall_22 : decode cX7_hasOnWall 22 = .ok (.iconst 1, 1) := by decide +kernel
theorem dX7_hasOnWall_23 : decode cX7_hasOnWall 23 = .ok (.goto 4, 3) := by decide +kernel
theorem dX7_hasOnWall_26 : decode cX7_hasOnWall 26 = .ok (.iconst 0, 1) := by decide +kernel
theorem dX7_hasOnWall_27 : decode cX7_hasOnWall 27 = .ok (.ireturn, 1) := by decide +kernel
theorem dX7_countCornersOutside_0 : decode cX7_countCornersOutside 0 = .ok (.iconst 0, 1) := by decide +kernel
theorem dX7_countCornersOutside_1 : decode cX7_countCornersOutside 1 = .ok (.istore_n 2, 1) := by decide +kernel
theorem dX7_countCornersOutside_2 : decode cX7_countCornersOutside 2 = .ok (.iconst 0, 1) := by decide +kernel
theorem dX7_countCornersOutside_3 : decode cX7_countCornersOutside 3 = .ok (.istore_n 3, 1) := by decide +kernel
theorem dX7_countCornersOutside_4 : decode cX7_countCornersOutside 4 = .ok (.iload_n 3, 1) := by decide +kernel
theorem dX7_countCornersOutside_5 : decode cX7_countCornersOutside 5 = .ok (.aload_n 0, 1) := by decide +kernel
theorem dX7_countCornersOutside_6 : decode cX7_countCornersOutside 6 = .ok (.getfield 15, 3) := by decide +kernel
theorem dX7_countCornersOutside_9 : decode cX7_countCornersOutside 9 = .ok (.if_icmp .ge 28, 3) := by decide +kernel
theorem dX7_countCornersOutside_12 : decode cX7_countCornersOutside 12 = .ok (.aload_n 1, 1) := by decide +kernel
theorem dX7_countCornersOutside_13 : decode cX7_countCornersOutside 13 = .ok (.aload_n 0, 1) := by decide +kernel
theorem dX7_countCornersOutside_14 : decode cX7_countCornersOutside 14 = .ok (.getfield 21, 3) := by decide +kernel
theorem dX7_countCornersOutside_17 : decode cX7_countCornersOutside 17 = .ok (.iload_n 3, 1) := by decide +kernel
theorem dX7_countCornersOutside_18 : decode cX7_countCornersOutside 18 = .ok (.aaload, 1) := by decide +kernel
theorem dX7_countCornersOutside_19 : decode cX7_countCornersOutside 19 = .ok (.getfield 71, 3) := by decide +kernel
theorem dX7_countCornersOutside_22 : decode cX7_countCornersOutside 22 = .ok (.invokevirtual 89, 3) := by decide +kernel
theorem dX7_countCornersOutside_25 : decode cX7_countCornersOutside 25 = .ok (.ifCond .ne 6, 3) := by decide +kernel
theorem dX7_countCornersOutside_28 : decode cX7_countCornersOutside 28 = .ok (.iinc 2 1, 3) := by decide +kernel
theorem dX7_countCornersOutside_31 : decode cX7_countCornersOutside 31 = .ok (.iinc 3 1, 3) := by decide +kernel
theorem dX7_countCornersOutside_34 : decode cX7_countCornersOutside 34 = .ok (.goto (-30), 3) := by decide +kernel
theorem dX7_countCornersOutside_37 : decode cX7_countCornersOutside 37 = .ok (.iload_n 2, 1) := by decide +kernel
theorem dX7_countCornersOutside_38 : decode cX7_countCornersOutside 38 = .ok (.ireturn, 1) := by decide +kernel
theorem dX7_hasCorner_0 : decode cX7_hasCorner 0 = .ok (.iconst 0, 1) := by decide +kernel
theorem dX7_hasCorner_1 : decode cX7_hasCorner 1 = .ok (.istore_n 2, 1) := by decide +kernel
theorem dX7_hasCorner_2 : decode cX7_hasCorner 2 = .ok (.iload_n 2, 1) := by decide +kernel
theorem dX7_hasCorner_3 : decode cX7_hasCorner 3 = .ok (.aload_n 0, 1) := by decide +kernel
theorem dX7_hasCorner_4 : decode cX7_hasCorner 4 = .ok (.getfield 15, 3) := by decide +kernel
theorem dX7_hasCorner_7 : decode cX7_hasCorner 7 = .ok (.if_icmp .ge 24, 3) := by decide +kernel
theorem dX7_hasCorner_10 : decode cX7_hasCorner 10 = .ok (.aload_n 0, 1) := by decide +kernel
theorem dX7_hasCorner_11 : decode cX7_hasCorner 11 = .ok (.getfield 21, 3) := by decide +kernel
theorem dX7_hasCorner_14 : decode cX7_hasCorner 14 = .ok (.iload_n 2, 1) := by decide +kernel
theorem dX7_hasCorner_15 : decode cX7_hasCorner 15 = .ok (.aaload, 1) := by decide +kernel
theorem dX7_hasCorner_16 : decode cX7_hasCorner 16 = .ok (.getfield 71, 3) := by decide +kernel
theorem dX7_hasCorner_19 : decode cX7_hasCorner 19 = .ok (.iload_n 1, 1) := by decide +kernel
theorem dX7_hasCorner_20 : decode cX7_hasCorner 20 = .ok (.if_icmp .ne 5, 3) := by decide +kernel
theorem dX7_hasCorner_23 : decode cX7_hasCorner 23 = .ok (.iconst 1, 1) := by decide +kernel
theorem dX7_hasCorner_24 : decode cX7_hasCorner 24 = .ok (.ireturn, 1) := by decide +kernel
theorem dX7_hasCorner_25 : decode cX7_hasCorner 25 = .ok (.iinc 2 1, 3) := by decide +kernel
theorem dX7_hasCorner_28 : decode cX7_hasCorner 28 = .ok (.goto (-26), 3) := by decide +kernel
theorem dX7_hasCorner_31 : decode cX7_hasCorner 31 = .ok (.iconst 0, 1) := by decide +kernel
theorem dX7_hasCorner_32 : decode cX7_hasCorner 32 = .ok (.ireturn, 1) := by decide +kernel
theorem dX7_holdsTermsOf_0 : decode cX7_holdsTermsOf 0 = .ok (.iconst 0, 1) := by decide +kernel
theorem dX7_holdsTermsOf_1 : decode cX7_holdsTermsOf 1 = .ok (.istore_n 2, 1) := by decide +kernel
theorem dX7_holdsTermsOf_2 : decode cX7_holdsTermsOf 2 = .ok (.iload_n 2, 1) := by decide +kernel
theorem dX7_holdsTermsOf_3 : decode cX7_holdsTermsOf 3 = .ok (.aload_n 0, 1) := by decide +kernel
theorem dX7_holdsTermsOf_4 : decode cX7_holdsTermsOf 4 = .ok (.getfield 15, 3) := by decide +kernel
theorem dX7_holdsTermsOf_7 : decode cX7_holdsTermsOf 7 = .ok (.if_icmp .ge 24, 3) := by decide +kernel
theorem dX7_holdsTermsOf_10 : decode cX7_holdsTermsOf 10 = .ok (.aload_n 0, 1) := by decide +kernel
theorem dX7_holdsTermsOf_11 : decode cX7_holdsTermsOf 11 = .ok (.getfield 21, 3) := by decide +kernel
theorem dX7_holdsTermsOf_14 : decode cX7_holdsTermsOf 14 = .ok (.iload_n 2, 1) := by decide +kernel
theorem dX7_holdsTermsOf_15 : decode cX7_holdsTermsOf 15 = .ok (.aaload, 1) := by decide +kernel
theorem dX7_holdsTermsOf_16 : decode cX7_holdsTermsOf 16 = .ok (.aload_n 1, 1) := by decide +kernel
theorem dX7_holdsTermsOf_17 : decode cX7_holdsTermsOf 17 = .ok (.invokevirtual 92, 3) := by decide +kernel
theorem dX7_holdsTermsOf_20 : decode cX7_holdsTermsOf 20 = .ok (.ifCond .eq 5, 3) := by decide +kernel
theorem dX7_holdsTermsOf_23 : decode cX7_holdsTermsOf 23 = .ok (.iconst 1, 1) := by decide +kernel
theorem dX7_holdsTermsOf_24 : decode cX7_holdsTermsOf 24 = .ok (.ireturn, 1) := by decide +kernel
theorem dX7_holdsTermsOf_25 : decode cX7_holdsTermsOf 25 = .ok (.iinc 2 1, 3) := by decide +kernel
theorem dX7_holdsTermsOf_28 : decode cX7_holdsTermsOf 28 = .ok (.goto (-26), 3) := by decide +kernel
theorem dX7_holdsTermsOf_31 : decode cX7_holdsTermsOf 31 = .ok (.iconst 0, 1) := by decide +kernel
theorem dX7_holdsTermsOf_32 : decode cX7_holdsTermsOf 32 = .ok (.ireturn, 1) := by decide +kernel
theorem dX8_init_0 : decode cX8_init 0 = .ok (.aload_n 0, 1) := by decide +kernel
theorem dX8_init_1 : decode cX8_init 1 = .ok (.invokespecial 3, 3) := by decide +kernel
theorem dX8_init_4 : decode cX8_init 4 = .ok (.aload_n 0, 1) := by decide +kernel
theorem dX8_init_5 : decode cX8_init 5 = .ok (.iconst 0, 1) := by decide +kernel
theorem dX8_init_6 : decode cX8_init 6 = .ok (.putfield 11, 3) := by decide +kernel
theorem dX8_init_9 : decode cX8_init 9 = .ok (.aload_n 0, 1) := by decide +kernel
theorem dX8_init_10 : decode cX8_init 10 = .ok (.iconst 0, 1) := by decide +kernel
theorem dX8_init_11 : decode cX8_init 11 = .ok (.putfield 15, 3) := by decide +kernel
theorem dX8_init_14 : decode cX8_init 14 = .ok (.aload_n 0, 1) := by decide +kernel
theorem dX8_init_15 : decode cX8_init 15 = .ok (.bipush 81, 2) := by decide +kernel
theorem dX8_init_17 : decode cX8_init 17 = .ok (.newarray .int, 2) := by decide +kernel
theorem dX8_init_19 : decode cX8_init 19 = .ok (.putfield 18, 3) := by decide +kernel
theorem dX8_init_22 : decode cX8_init 22 = .ok (.return_, 1) := by decide +kernel
theorem dX9_init_0 : decode cX9_init 0 = .ok (.aload_n 0, 1) := by decide +kernel
theorem dX9_init_1 : decode cX9_init 1 = .ok (.invokespecial 3, 3) := by decide +kernel
theorem dX9_init_4 : decode cX9_init 4 = .ok (.aload_n 0, 1) := by decide +kernel
theorem dX9_init_5 : decode cX9_init 5 = .ok (.new 9, 3) := by decide +kernel
theorem dX9_init_8 : decode cX9_init 8 = .ok (.dup, 1) := by decide +kernel
theorem dX9_init_9 : decode cX9_init 9 = .ok (.invokespecial 11, 3) := by decide +kernel
theorem dX9_init_12 : decode cX9_init 12 = .ok (.putfield 12, 3) := by decide +kernel
theorem dX9_init_15 : decode cX9_init 15 = .ok (.aload_n 0, 1) := by decide +kernel
theorem dX9_init_16 : decode cX9_init 16 = .ok (.new 16, 3) := by decide +kernel
theorem dX9_init_19 : decode cX9_init 19 = .ok (.dup, 1) := by decide +kernel
theorem dX9_init_20 : decode cX9_init 20 = .ok (.invokespecial 18, 3) := by decide +kernel
theorem dX9_init_23 : decode cX9_init 23 = .ok (.putfield 19, 3) := by decide +kernel
theorem dX9_init_26 : decode cX9_init 26 = .ok (.aload_n 0, 1) := by decide +kernel
theorem dX9_init_27 : decode cX9_init 27 = .ok (.new 9, 3) := by decide +kernel
theorem dX9_init_30 : decode cX9_init 30 = .ok (.dup, 1) := by decide +kernel
theorem dX9_init_31 : decode cX9_init 31 = .ok (.invokespecial 11, 3) := by decide +kernel
theorem dX9_init_34 : decode cX9_init 34 = .ok (.putfield 23, 3) := by decide +kernel
theorem dX9_init_37 : decode cX9_init 37 = .ok (.aload_n 0, 1) := by decide +kernel
theorem dX9_init_38 : decode cX9_init 38 = .ok (.new 16, 3) := by decide +kernel
theorem dX9_init_41 : decode cX9_init 41 = .ok (.dup, 1) := by decide +kernel
theorem dX9_init_42 : decode cX9_init 42 = .ok (.invokespecial 18, 3) := by decide +kernel
theorem dX9_init_45 : decode cX9_init 45 = .ok (.putfield 26, 3) := by decide +kernel
theorem dX9_init_48 : decode cX9_init 48 = .ok (.aload_n 0, 1) := by decide +kernel
theorem dX9_init_49 : decode cX9_init 49 = .ok (.iconst 0, 1) := by decide +kernel
theorem dX9_init_50 : decode cX9_init 50 = .ok (.putfield 29, 3) := by decide +kernel
theorem dX9_init_53 : decode cX9_init 53 = .ok (.aload_n 0, 1) := by decide +kernel
theorem dX9_init_54 : decode cX9_init 54 = .ok (.new 33, 3) := by decide +kernel
theorem dX9_init_57 : decode cX9_init 57 = .ok (.dup, 1) := by decide +kernel
theorem dX9_init_58 : decode cX9_init 58 = .ok (.aload_n 0, 1) := by decide +kernel
theorem dX9_init_59 : decode cX9_init 59 = .ok (.getfield 12, 3) := by decide +kernel
theorem dX9_init_62 : decode cX9_init 62 = .ok (.invokespecial 35, 3) := by decide +kernel
theorem dX9_init_65 : decode cX9_init 65 = .ok (.putfield 38, 3) := by decide +kernel
theorem dX9_init_68 : decode cX9_init 68 = .ok (.aload_n 0, 1) := by decide +kernel
theorem dX9_init_69 : decode cX9_init 69 = .ok (.new 42, 3) := by decide +kernel
theorem dX9_init_72 : decode cX9_init 72 = .ok (.dup, 1) := by decide +kernel
theorem dX9_init_73 : decode cX9_init 73 = .ok (.invokespecial 44, 3) := by decide +kernel
theorem dX9_init_76 : decode cX9_init 76 = .ok (.putfield 45, 3) := by decide +kernel
theorem dX9_init_79 : decode cX9_init 79 = .ok (.aload_n 0, 1) := by decide +kernel
theorem dX9_init_80 : decode cX9_init 80 = .ok (.new 49, 3) := by decide +kernel
theorem dX9_init_83 : decode cX9_init 83 = .ok (.dup, 1) := by decide +kernel
theorem dX9_init_84 : decode cX9_init 84 = .ok (.invokespecial 51, 3) := by decide +kernel
theorem dX9_init_87 : decode cX9_init 87 = .ok (.putfield 52, 3) := by decide +kernel
theorem dX9_init_90 : decode cX9_init 90 = .ok (.aload_n 0, 1) := by decide +kernel
theorem dX9_init_91 : decode cX9_init 91 = .ok (.new 56, 3) := by decide +kernel
theorem dX9_init_94 : decode cX9_init 94 = .ok (.dup, 1) := by decide +kernel
theorem dX9_init_95 : decode cX9_init 95 = .ok (.invokespecial 58, 3) := by decide +kernel
theorem dX9_init_98 : decode cX9_init 98 = .ok (.putfield 59, 3) := by decide +kernel
theorem dX9_init_101 : decode cX9_init 101 = .ok (.aload_n 0, 1) := by decide +kernel
theorem dX9_init_102 : decode cX9_init 102 = .ok (.new 63, 3) := by decide +kernel
theorem dX9_init_105 : decode cX9_init 105 = .ok (.dup, 1) := by decide +kernel
theorem dX9_init_106 : decode cX9_init 106 = .ok (.invokespecial 65, 3) := by decide +kernel
theorem dX9_init_109 : decode cX9_init 109 = .ok (.putfield 66, 3) := by decide +kernel
theorem dX9_init_112 : decode cX9_init 112 = .ok (.aload_n 0, 1) := by decide +kernel
theorem dX9_init_113 : decode cX9_init 113 = .ok (.new 70, 3) := by decide +kernel
theorem dX9_init_116 : decode cX9_init 116 = .ok (.dup, 1) := by decide +kernel
theorem dX9_init_117 : decode cX9_init 117 = .ok (.invokespecial 72, 3) := by decide +kernel
theorem dX9_init_120 : decode cX9_init 120 = .ok (.putfield 73, 3) := by decide +kernel
theorem dX9_init_123 : decode cX9_init 123 = .ok (.aload_n 0, 1) := by decide +kernel
theorem dX9_init_124 : decode cX9_init 124 = .ok (.iconst 4, 1) := by decide +kernel
theorem dX9_init_125 : decode cX9_init 125 = .ok (.anewarray 77, 3) := by decide +kernel
theorem dX9_init_128 : decode cX9_init 128 = .ok (.putfield 79, 3) := by decide +kernel
theorem dX9_init_131 : decode cX9_init 131 = .ok (.iconst 0, 1) := by decide +kernel
theorem dX9_init_132 : decode cX9_init 132 = .ok (.istore_n 1, 1) := by decide +kernel
theorem dX9_init_133 : decode cX9_init 133 = .ok (.iload_n 1, 1) := by decide +kernel
theorem dX9_init_134 : decode cX9_init 134 = .ok (.iconst 4, 1) := by decide +kernel
theorem dX9_init_135 : decode cX9_init 135 = .ok (.if_icmp .ge 22, 3) := by decide +kernel
theorem dX9_init_138 : decode cX9_init 138 = .ok (.aload_n 0, 1) := by decide +kernel
theorem dX9_init_139 : decode cX9_init 139 = .ok (.getfield 79, 3) := by decide +kernel
theorem dX9_init_142 : decode cX9_init 142 = .ok (.iload_n 1, 1) := by decide +kernel
theorem dX9_init_143 : decode cX9_init 143 = .ok (.new 77, 3) := by decide +kernel
theorem dX9_init_146 : decode cX9_init 146 = .ok (.dup, 1) := by decide +kernel
theorem dX9_init_147 : decode cX9_init 147 = .ok (.invokespecial 83, 3) := by decide +kernel
theorem dX9_init_150 : decode cX9_init 150 = .ok (.aastore, 1) := by decide +kernel
theorem dX9_init_151 : decode cX9_init 151 = .ok (.iinc 1 1, 3) := by decide +kernel
theorem dX9_init_154 : decode cX9_init 154 = .ok (.goto (-21), 3) := by decide +kernel
theorem dX9_init_157 : decode cX9_init 157 = .ok (.return_, 1) := by decide +kernel
theorem dX9_setPrime_0 : decode cX9_setPrime 0 = .ok (.iload_n 1, 1) := by decide +kernel
theorem dX9_setPrime_1 : decode cX9_setPrime 1 = .ok (.invokestatic 84, 3) := by decide +kernel
theorem dX9_setPrime_4 : decode cX9_setPrime 4 = .ok (.ifCond .ne 6, 3) := by decide +kernel
theorem dX9_setPrime_7 : decode cX9_setPrime 7 = .ok (.bipush (-2), 2) := by decide +kernel
theorem dX9_setPrime_9 : decode cX9_setPrime 9 = .ok (.ireturn, 1) := by decide +kernel
theorem dX9_setPrime_10 : decode cX9_setPrime 10 = .ok (.aload_n 0, 1) := by decide +kernel
theorem dX9_setPrime_11 : decode cX9_setPrime 11 = .ok (.getfield 12, 3) := by decide +kernel
theorem dX9_setPrime_14 : decode cX9_setPrime 14 = .ok (.getfield 88, 3) := by decide +kernel
theorem dX9_setPrime_17 : decode cX9_setPrime 17 = .ok (.istore_n 2, 1) := by decide +kernel
theorem dX9_setPrime_18 : decode cX9_setPrime 18 = .ok (.aload_n 0, 1) := by decide +kernel
theorem dX9_setPrime_19 : decode cX9_setPrime 19 = .ok (.getfield 12, 3) := by decide +kernel
theorem dX9_setPrime_22 : decode cX9_setPrime 22 = .ok (.iload_n 1, 1) := by decide +kernel
theorem dX9_setPrime_23 : decode cX9_setPrime 23 = .ok (.invokevirtual 92, 3) := by decide +kernel
theorem dX9_setPrime_26 : decode cX9_setPrime 26 = .ok (.aload_n 0, 1) := by decide +kernel
theorem dX9_setPrime_27 : decode cX9_setPrime 27 = .ok (.getfield 19, 3) := by decide +kernel
theorem dX9_setPrime_30 : decode cX9_setPrime 30 = .ok (.invokevirtual 96, 3) := by decide +kernel
theorem dX9_setPrime_33 : decode cX9_setPrime 33 = .ok (.aload_n 0, 1) := by decide +kernel
theorem dX9_setPrime_34 : decode cX9_setPrime 34 = .ok (.getfield 59, 3) := by decide +kernel
theorem dX9_setPrime_37 : decode cX9_setPrime 37 = .ok (.invokevirtual 99, 3) := by decide +kernel
theorem dX9_setPrime_40 : decode cX9_setPrime 40 = .ok (.iload_n 2, 1) := by decide +kernel
theorem dX9_setPrime_41 : decode cX9_setPrime 41 = .ok (.ireturn, 1) := by decide +kernel
theorem dX9_prime_0 : decode cX9_prime 0 = .ok (.aload_n 0, 1) := by decide +kernel
theorem dX9_prime_1 : decode cX9_prime 1 = .ok (.getfield 12, 3) := by decide +kernel
theorem dX9_prime_4 : decode cX9_prime 4 = .ok (.getfield 88, 3) := by decide +kernel
theorem dX9_prime_7 : decode cX9_prime 7 = .ok (.ireturn, 1) := by decide +kernel
theorem dX9_addPoint_0 : decode cX9_addPoint 0 = .ok (.aload_n 0, 1) := by decide +kernel
theorem dX9_addPoint_1 : decode cX9_addPoint 1 = .ok (.getfield 12, 3) := by decide +kernel
theorem dX9_addPoint_4 : decode cX9_addPoint 4 = .ok (.iload_n 1, 1) := by decide +kernel
theorem dX9_addPoint_5 : decode cX9_addPoint 5 = .ok (.invokevirtual 102, 3) := by decide +kernel
theorem dX9_addPoint_8 : decode cX9_addPoint 8 = .ok (.ifCond .eq 14, 3) := by decide +kernel
theorem dX9_addPoint_11 : decode cX9_addPoint 11 = .ok (.aload_n 0, 1) := by decide +kernel
theorem dX9_addPoint_12 : decode cX9_addPoint 12 = .ok (.getfield 12, 3) := by decide +kernel
theorem dX9_addPoint_15 : decode cX9_addPoint 15 = .ok (.iload_n 2, 1) := by decide +kernel
theorem dX9_addPoint_16 : decode cX9_addPoint 16 = .ok (.invokevirtual 102, 3) := by decide +kernel
theorem dX9_addPoint_19 : decode cX9_addPoint 19 = .ok (.ifCond .ne 6, 3) := by decide +kernel
theorem dX9_addPoint_22 : decode cX9_addPoint 22 = .ok (.bipush (-2), 2) := by decide +kernel
theorem dX9_addPoint_24 : decode cX9_addPoint 24 = .ok (.ireturn, 1) := by decide +kernel
theorem dX9_addPoint_25 : decode cX9_addPoint 25 = .ok (.aload_n 0, 1) := by decide +kernel
theorem dX9_addPoint_26 : decode cX9_addPoint 26 = .ok (.getfield 12, 3) := by decide +kernel
theorem dX9_addPoint_29 : decode cX9_addPoint 29 = .ok (.iload_n 1, 1) := by decide +kernel
theorem dX9_addPoint_30 : decode cX9_addPoint 30 = .ok (.iload_n 2, 1) := by decide +kernel
theorem dX9_addPoint_31 : decode cX9_addPoint 31 = .ok (.invokevirtual 105, 3) := by decide +kernel
theorem dX9_addPoint_34 : decode cX9_addPoint 34 = .ok (.ifCond .eq 6, 3) := by decide +kernel
theorem dX9_addPoint_37 : decode cX9_addPoint 37 = .ok (.bipush (-3), 2) := by decide +kernel
theorem dX9_addPoint_39 : decode cX9_addPoint 39 = .ok (.ireturn, 1) := by decide +kernel
theorem dX9_addPoint_40 : decode cX9_addPoint 40 = .ok (.aload_n 0, 1) := by decide +kernel
theorem dX9_addPoint_41 : decode cX9_addPoint 41 = .ok (.getfield 12, 3) := by decide +kernel
theorem dX9_addPoint_44 : decode cX9_addPoint 44 = .ok (.getfield 109, 3) := by decide +kernel
theorem dX9_addPoint_47 : decode cX9_addPoint 47 = .ok (.bipush 8, 2) := by decide +kernel
theorem dX9_addPoint_49 : decode cX9_addPoint 49 = .ok (.if_icmp .lt 6, 3) := by decide +kernel
theorem dX9_addPoint_52 : decode cX9_addPoint 52 = .ok (.bipush (-4), 2) := by decide +kernel
theorem dX9_addPoint_54 : decode cX9_addPoint 54 = .ok (.ireturn, 1) := by decide +kernel
theorem dX9_addPoint_55 : decode cX9_addPoint 55 = .ok (.aload_n 0, 1) := by decide +kernel
theorem dX9_addPoint_56 : decode cX9_addPoint 56 = .ok (.getfield 12, 3) := by decide +kernel
theorem dX9_addPoint_59 : decode cX9_addPoint 59 = .ok (.iload_n 1, 1) := by decide +kernel
theorem dX9_addPoint_60 : decode cX9_addPoint 60 = .ok (.iload_n 2, 1) := by decide +kernel
theorem dX9_addPoint_61 : decode cX9_addPoint 61 = .ok (.invokevirtual 112, 3) := by decide +kernel
theorem dX9_addPoint_64 : decode cX9_addPoint 64 = .ok (.aload_n 0, 1) := by decide +kernel
theorem dX9_addPoint_65 : decode cX9_addPoint 65 = .ok (.getfield 59, 3) := by decide +kernel
theorem dX9_addPoint_68 : decode cX9_addPoint 68 = .ok (.invokevirtual 99, 3) := by decide +kernel
theorem dX9_addPoint_71 : decode cX9_addPoint 71 = .ok (.aload_n 0, 1) := by decide +kernel
theorem dX9_addPoint_72 : decode cX9_addPoint 72 = .ok (.getfield 12, 3) := by decide +kernel
theorem dX9_addPoint_75 : decode cX9_addPoint 75 = .ok (.getfield 109, 3) := by decide +kernel
theorem dX9_addPoint_78 : decode cX9_addPoint 78 = .ok (.ireturn, 1) := by decide +kernel
theorem dX9_pointCount_0 : decode cX9_pointCount 0 = .ok (.aload_n 0, 1) := by decide +kernel
theorem dX9_pointCount_1 : decode cX9_pointCount 1 = .ok (.getfield 12, 3) := by decide +kernel
theorem dX9_pointCount_4 : decode cX9_pointCount 4 = .ok (.getfield 109, 3) := by decide +kernel
theorem dX9_pointCount_7 : decode cX9_pointCount 7 = .ok (.ireturn, 1) := by decide +kernel
theorem dX9_columnHeight_0 : decode cX9_columnHeight 0 = .ok (.iload 4, 2) := by decide +kernel
theorem dX9_columnHeight_2 : decode cX9_columnHeight 2 = .ok (.invokestatic 140, 3) := by decide +kernel
theorem dX9_columnHeight_5 : decode cX9_columnHeight 5 = .ok (.ifCond .ne 5, 3) := by decide +kernel
theorem dX9_columnHeight_8 : decode cX9_columnHeight 8 = .ok (.iconst (-1), 1) := by decide +kernel
theorem dX9_columnHeight_9 : decode cX9_columnHeight 9 = .ok (.ireturn, 1) := by decide +kernel
theorem dX9_columnHeight_10 : decode cX9_columnHeight 10 = .ok (.iload_n 1, 1) := by decide +kernel
theorem dX9_columnHeight_11 : decode cX9_columnHeight 11 = .ok (.iload_n 2, 1) := by decide +kernel
theorem dX9_columnHeight_12 : decode cX9_columnHeight 12 = .ok (.iload_n 3, 1) := by decide +kernel
theorem dX9_columnHeight_13 : decode cX9_columnHeight 13 = .ok (.invokestatic 143, 3) := by decide +kernel
theorem dX9_columnHeight_16 : decode cX9_columnHeight 16 = .ok (.ifCond .ne 6, 3) := by decide +kernel
theorem dX9_columnHeight_19 : decode cX9_columnHeight 19 = .ok (.bipush (-2), 2) := by decide +kernel
theorem dX9_columnHeight_21 : decode cX9_columnHeight 21 = .ok (.ireturn, 1) := by decide +kernel
theorem dX9_columnHeight_22 : decode cX9_columnHeight 22 = .ok (.aload_n 0, 1) := by decide +kernel
theorem dX9_columnHeight_23 : decode cX9_columnHeight 23 = .ok (.iload_n 1, 1) := by decide +kernel
theorem dX9_columnHeight_24 : decode cX9_columnHeight 24 = .ok (.iload_n 2, 1) := by decide +kernel
theorem dX9_columnHeight_25 : decode cX9_columnHeight 25 = .ok (.iload_n 3, 1) := by decide +kernel
theorem dX9_columnHeight_26 : decode cX9_columnHeight 26 = .ok (.invokevirtual 147, 3) := by decide +kernel
theorem dX9_columnHeight_29 : decode cX9_columnHeight 29 = .ok (.aload_n 0, 1) := by decide +kernel
theorem dX9_columnHeight_30 : decode cX9_columnHeight 30 = .ok (.getfield 52, 3) := by decide +kernel
theorem dX9_columnHeight_33 : decode cX9_columnHeight 33 = .ok (.getfield 151, 3) := by decide +kernel
theorem dX9_columnHeight_36 : decode cX9_columnHeight 36 = .ok (.iload 4, 2) := by decide +kernel
theorem dX9_columnHeight_38 : decode cX9_columnHeight 38 = .ok (.iaload, 1) := by decide +kernel
theorem dX9_columnHeight_39 : decode cX9_columnHeight 39 = .ok (.ireturn, 1) := by decide +kernel
theorem dX9_cornerCount_0 : decode cX9_cornerCount 0 = .ok (.iload_n 1, 1) := by decide +kernel
theorem dX9_cornerCount_1 : decode cX9_cornerCount 1 = .ok (.iload_n 2, 1) := by decide +kernel
theorem dX9_cornerCount_2 : decode cX9_cornerCount 2 = .ok (.iload_n 3, 1) := by decide +kernel
theorem dX9_cornerCount_3 : decode cX9_cornerCount 3 = .ok (.invokestatic 143, 3) := by decide +kernel
theorem dX9_cornerCount_6 : decode cX9_cornerCount 6 = .ok (.ifCond .ne 6, 3) := by decide +kernel
theorem dX9_cornerCount_9 : decode cX9_cornerCount 9 = .ok (.bipush (-2), 2) := by decide +kernel
theorem dX9_cornerCount_11 : decode cX9_cornerCount 11 = .ok (.ireturn, 1) := by decide +kernel
theorem dX9_cornerCount_12 : decode cX9_cornerCount 12 = .ok (.aload_n 0, 1) := by decide +kernel
theorem dX9_cornerCount_13 : decode cX9_cornerCount 13 = .ok (.iload_n 1, 1) := by decide +kernel
theorem dX9_cornerCount_14 : decode cX9_cornerCount 14 = .ok (.iload_n 2, 1) := by decide +kernel
theorem dX9_cornerCount_15 : decode cX9_cornerCount 15 = .ok (.iload_n 3, 1) := by decide +kernel
theorem dX9_cornerCount_16 : decode cX9_cornerCount 16 = .ok (.invokevirtual 147, 3) := by decide +kernel
theorem dX9_cornerCount_19 : decode cX9_cornerCount 19 = .ok (.aload_n 0, 1) := by decide +kernel
theorem dX9_cornerCount_20 : decode cX9_cornerCount 20 = .ok (.getfield 52, 3) := by decide +kernel
theorem dX9_cornerCount_23 : decode cX9_cornerCount 23 = .ok (.getfield 154, 3) := by decide +kernel
theorem dX9_cornerCount_26 : decode cX9_cornerCount 26 = .ok (.ireturn, 1) := by decide +kernel
theorem dX9_corner_0 : decode cX9_corner 0 = .ok (.iload_n 1, 1) := by decide +kernel
theorem dX9_corner_1 : decode cX9_corner 1 = .ok (.iload_n 2, 1) := by decide +kernel
theorem dX9_corner_2 : decode cX9_corner 2 = .ok (.iload_n 3, 1) := by decide +kernel
theorem dX9_corner_3 : decode cX9_corner 3 = .ok (.invokestatic 143, 3) := by decide +kernel
theorem dX9_corner_6 : decode cX9_corner 6 = .ok (.ifCond .ne 6, 3) := by decide +kernel
theorem dX9_corner_9 : decode cX9_corner 9 = .ok (.bipush (-2), 2) := by decide +kernel
theorem dX9_corner_11 : decode cX9_corner 11 = .ok (.ireturn, 1) := by decide +kernel
theorem dX9_corner_12 : decode cX9_corner 12 = .ok (.aload_n 0, 1) := by decide +kernel
theorem dX9_corner_13 : decode cX9_corner 13 = .ok (.iload_n 1, 1) := by decide +kernel
theorem dX9_corner_14 : decode cX9_corner 14 = .ok (.iload_n 2, 1) := by decide +kernel
theorem dX9_corner_15 : decode cX9_corner 15 = .ok (.iload_n 3, 1) := by decide +kernel
theorem dX9_corner_16 : decode cX9_corner 16 = .ok (.invokevirtual 147, 3) := by decide +kernel
theorem dX9_corner_19 : decode cX9_corner 19 = .ok (.aload_n 0, 1) := by decide +kernel
theorem dX9_corner_20 : decode cX9_corner 20 = .ok (.getfield 52, 3) := by decide +kernel
theorem dX9_corner_23 : decode cX9_corner 23 = .ok (.iload 4, 2) := by decide +kernel
theorem dX9_corner_25 : decode cX9_corner 25 = .ok (.invokevirtual 155, 3) := by decide +kernel
theorem dX9_corner_28 : decode cX9_corner 28 = .ok (.astore 5, 2) := by decide +kernel
theorem dX9_corner_30 : decode cX9_corner 30 = .ok (.aload 5, 2) := by decide +kernel
theorem dX9_corner_32 : decode cX9_corner 32 = .ok (.ifnonnull 7, 3) := by decide +kernel
theorem dX9_corner_35 : decode cX9_corner 35 = .ok (.iconst (-1), 1) := by decide +kernel
theorem dX9_corner_36 : decode cX9_corner 36 = .ok (.goto 11, 3) := by decide +kernel
theorem dX9_corner_39 : decode cX9_corner 39 = .ok (.aload 5, 2) := by decide +kernel
theorem dX9_corner_41 : decode cX9_corner 41 = .ok (.getfield 159, 3) := by decide +kernel
theorem dX9_corner_44 : decode cX9_corner 44 = .ok (.invokestatic 164, 3) := by decide +kernel
theorem dX9_corner_47 : decode cX9_corner 47 = .ok (.ireturn, 1) := by decide +kernel
theorem dX9_coneCount_0 : decode cX9_coneCount 0 = .ok (.aload_n 0, 1) := by decide +kernel
theorem dX9_coneCount_1 : decode cX9_coneCount 1 = .ok (.getfield 59, 3) := by decide +kernel
theorem dX9_coneCount_4 : decode cX9_coneCount 4 = .ok (.aload_n 0, 1) := by decide +kernel
theorem dX9_coneCount_5 : decode cX9_coneCount 5 = .ok (.getfield 45, 3) := by decide +kernel
theorem dX9_coneCount_8 : decode cX9_coneCount 8 = .ok (.aload_n 0, 1) := by decide +kernel
theorem dX9_coneCount_9 : decode cX9_coneCount 9 = .ok (.getfield 38, 3) := by decide +kernel
theorem dX9_coneCount_12 : decode cX9_coneCount 12 = .ok (.invokevirtual 168, 3) := by decide +kernel
theorem dX9_coneCount_15 : decode cX9_coneCount 15 = .ok (.aload_n 0, 1) := by decide +kernel
theorem dX9_coneCount_16 : decode cX9_coneCount 16 = .ok (.getfield 59, 3) := by decide +kernel
theorem dX9_coneCount_19 : decode cX9_coneCount 19 = .ok (.getfield 172, 3) := by decide +kernel
theorem dX9_coneCount_22 : decode cX9_coneCount 22 = .ok (.ireturn, 1) := by decide +kernel
theorem dX9_wallNumerator_0 : decode cX9_wallNumerator 0 = .ok (.aload_n 0, 1) := by decide +kernel
theorem dX9_wallNumerator_1 : decode cX9_wallNumerator 1 = .ok (.iload_n 1, 1) := by decide +kernel
theorem dX9_wallNumerator_2 : decode cX9_wallNumerator 2 = .ok (.invokevirtual 173, 3) := by decide +kernel
theorem dX9_wallNumerator_5 : decode cX9_wallNumerator 5 = .ok (.astore_n 2, 1) := by decide +kernel
theorem dX9_wallNumerator_6 : decode cX9_wallNumerator 6 = .ok (.aload_n 2, 1) := by decide +kernel
theorem dX9_wallNumerator_7 : decode cX9_wallNumerator 7 = .ok (.ifnonnull 5, 3) := by decide +kernel
theorem dX9_wallNumerator_10 : decode cX9_wallNumerator 10 = .ok (.iconst (-1), 1) := by decide +kernel
theorem dX9_wallNumerator_11 : decode cX9_wallNumerator 11 = .ok (.ireturn, 1) := by decide +kernel
theorem dX9_wallNumerator_12 : decode cX9_wallNumerator 12 = .ok (.aload_n 2, 1) := by decide +kernel
theorem dX9_wallNumerator_13 : decode cX9_wallNumerator 13 = .ok (.invokevirtual 177, 3) := by decide +kernel
theorem dX9_wallNumerator_16 : decode cX9_wallNumerator 16 = .ok (.ifCond .eq 10, 3) := by decide +kernel
theorem dX9_wallNumerator_19 : decode cX9_wallNumerator 19 = .ok (.aload_n 2, 1) := by decide +kernel
theorem dX9_wallNumerator_20 : decode cX9_wallNumerator 20 = .ok (.getfield 180, 3) := by decide +kernel
theorem dX9_wallNumerator_23 : decode cX9_wallNumerator 23 = .ok (.goto 5, 3) := by decide +kernel
theorem dX9_wallNumerator_26 : decode cX9_wallNumerator 26 = .ok (.bipush (-5), 2) := by decide +kernel
theorem dX9_wallNumerator_28 : decode cX9_wallNumerator 28 = .ok (.ireturn, 1) := by decide +kernel
theorem dX9_wallDenominator_0 : decode cX9_wallDenominator 0 = .ok (.aload_n 0, 1) := by decide +kernel
theorem dX9_wallDenominator_1 : decode cX9_wallDenominator 1 = .ok (.iload_n 1, 1) := by decide +kernel
theorem dX9_wallDenominator_2 : decode cX9_wallDenominator 2 = .ok (.invokevirtual 173, 3) := by decide +kernel
theorem dX9_wallDenominator_5 : decode cX9_wallDenominator 5 = .ok (.astore_n 2, 1) := by decide +kernel
theorem dX9_wallDenominator_6 : decode cX9_wallDenominator 6 = .ok (.aload_n 2, 1) := by decide +kernel
theorem dX9_wallDenominator_7 : decode cX9_wallDenominator 7 = .ok (.ifnonnull 5, 3) := by decide +kernel
theorem dX9_wallDenominator_10 : decode cX9_wallDenominator 10 = .ok (.iconst (-1), 1) := by decide +kernel
theorem dX9_wallDenominator_11 : decode cX9_wallDenominator 11 = .ok (.ireturn, 1) := by decide +kernel
theorem dX9_wallDenominator_12 : decode cX9_wallDenominator 12 = .ok (.aload_n 2, 1) := by decide +kernel
theorem dX9_wallDenominator_13 : decode cX9_wallDenominator 13 = .ok (.invokevirtual 177, 3) := by decide +kernel
theorem dX9_wallDenominator_16 : decode cX9_wallDenominator 16 = .ok (.ifCond .eq 10, 3) := by decide +kernel
theorem dX9_wallDenominator_19 : decode cX9_wallDenominator 19 = .ok (.aload_n 2, 1) := by decide +kernel
theorem dX9_wallDenominator_20 : decode cX9_wallDenominator 20 = .ok (.getfield 183, 3) := by decide +kernel
theorem dX9_wallDenominator_23 : decode cX9_wallDenominator 23 = .ok (.goto 5, 3) := by decide +kernel
theorem dX9_wallDenominator_26 : decode cX9_wallDenominator 26 = .ok (.bipush (-5), 2) := by decide +kernel
theorem dX9_wallDenominator_28 : decode cX9_wallDenominator 28 = .ok (.ireturn, 1) := by decide +kernel
theorem dX9_firstConeContaining_0 : decode cX9_firstConeContaining 0 = .ok (.iload_n 1, 1) := by decide +kernel
theorem dX9_firstConeContaining_1 : decode cX9_firstConeContaining 1 = .ok (.iload_n 2, 1) := by decide +kernel
theorem dX9_firstConeContaining_2 : decode cX9_firstConeContaining 2 = .ok (.invokestatic 186, 3) := by decide +kernel
theorem dX9_firstConeContaining_5 : decode cX9_firstConeContaining 5 = .ok (.ifCond .ne 6, 3) := by decide +kernel
theorem dX9_firstConeContaining_8 : decode cX9_firstConeContaining 8 = .ok (.bipush (-2), 2) := by decide +kernel
theorem dX9_firstConeContaining_10 : decode cX9_firstConeContaining 10 = .ok (.ireturn, 1) := by decide +kernel
theorem dX9_firstConeContaining_11 : decode cX9_firstConeContaining 11 = .ok (.aload_n 0, 1) := by decide +kernel
theorem dX9_firstConeContaining_12 : decode cX9_firstConeContaining 12 = .ok (.getfield 59, 3) := by decide +kernel
theorem dX9_firstConeContaining_15 : decode cX9_firstConeContaining 15 = .ok (.aload_n 0, 1) := by decide +kernel
theorem dX9_firstConeContaining_16 : decode cX9_firstConeContaining 16 = .ok (.getfield 45, 3) := by decide +kernel
theorem dX9_firstConeContaining_19 : decode cX9_firstConeContaining 19 = .ok (.aload_n 0, 1) := by decide +kernel
theorem dX9_firstConeContaining_20 : decode cX9_firstConeContaining 20 = .ok (.getfield 38, 3) := by decide +kernel
theorem dX9_firstConeContaining_23 : decode cX9_firstConeContaining 23 = .ok (.invokevirtual 168, 3) := by decide +kernel
theorem dX9_firstConeContaining_26 : decode cX9_firstConeContaining 26 = .ok (.aload_n 0, 1) := by decide +kernel
theorem dX9_firstConeContaining_27 : decode cX9_firstConeContaining 27 = .ok (.getfield 59, 3) := by decide +kernel
theorem dX9_firstConeContaining_30 : decode cX9_firstConeContaining 30 = .ok (.iload_n 1, 1) := by decide +kernel
theorem dX9_firstConeContaining_31 : decode cX9_firstConeContaining 31 = .ok (.iload_n 2, 1) := by decide +kernel
theorem dX9_firstConeContaining_32 : decode cX9_firstConeContaining 32 = .ok (.invokevirtual 189, 3) := by decide +kernel
theorem dX9_firstConeContaining_35 : decode cX9_firstConeContaining 35 = .ok (.ireturn, 1) := by decide +kernel
theorem dX9_conesContaining_0 : decode cX9_conesContaining 0 = .ok (.iload_n 1, 1) := by decide +kernel
theorem dX9_conesContaining_1 : decode cX9_conesContaining 1 = .ok (.iload_n 2, 1) := by decide +kernel
theorem dX9_conesContaining_2 : decode cX9_conesContaining 2 = .ok (.invokestatic 186, 3) := by decide +kernel
theorem dX9_conesContaining_5 : decode cX9_conesContaining 5 = .ok (.ifCond .ne 6, 3) := by decide +kernel
theorem dX9_conesContaining_8 : decode cX9_conesContaining 8 = .ok (.bipush (-2), 2) := by decide +kernel
theorem dX9_conesContaining_10 : decode cX9_conesContaining 10 = .ok (.ireturn, 1) := by decide +kernel
theorem dX9_conesContaining_11 : decode cX9_conesContaining 11 = .ok (.aload_n 0, 1) := by decide +kernel
theorem dX9_conesContaining_12 : decode cX9_conesContaining 12 = .ok (.getfield 59, 3) := by decide +kernel
theorem dX9_conesContaining_15 : decode cX9_conesContaining 15 = .ok (.aload_n 0, 1) := by decide +kernel
theorem dX9_conesContaining_16 : decode cX9_conesContaining 16 = .ok (.getfield 45, 3) := by decide +kernel
theorem dX9_conesContaining_19 : decode cX9_conesContaining 19 = .ok (.aload_n 0, 1) := by decide +kernel
theorem dX9_conesContaining_20 : decode cX9_conesContaining 20 = .ok (.getfield 38, 3) := by decide +kernel
theorem dX9_conesContaining_23 : decode cX9_conesContaining 23 = .ok (.invokevirtual 168, 3) := by decide +kernel
theorem dX9_conesContaining_26 : decode cX9_conesContaining 26 = .ok (.aload_n 0, 1) := by decide +kernel
theorem dX9_conesContaining_27 : decode cX9_conesContaining 27 = .ok (.getfield 59, 3) := by decide +kernel
theorem dX9_conesContaining_30 : decode cX9_conesContaining 30 = .ok (.aload_n 0, 1) := by decide +kernel
theorem dX9_conesContaining_31 : decode cX9_conesContaining 31 = .ok (.getfield 59, 3) := by decide +kernel
theorem dX9_conesContaining_34 : decode cX9_conesContaining 34 = .ok (.iload_n 1, 1) := by decide +kernel
theorem dX9_conesContaining_35 : decode cX9_conesContaining 35 = .ok (.iload_n 2, 1) := by decide +kernel
theorem dX9_conesContaining_36 : decode cX9_conesContaining 36 = .ok (.invokevirtual 189, 3) := by decide +kernel
theorem dX9_conesContaining_39 : decode cX9_conesContaining 39 = .ok (.invokevirtual 193, 3) := by decide +kernel
theorem dX9_conesContaining_42 : decode cX9_conesContaining 42 = .ok (.astore_n 3, 1) := by decide +kernel
theorem dX9_conesContaining_43 : decode cX9_conesContaining 43 = .ok (.aload_n 3, 1) := by decide +kernel
theorem dX9_conesContaining_44 : decode cX9_conesContaining 44 = .ok (.ifnull 16, 3) := by decide +kernel
theorem dX9_conesContaining_47 : decode cX9_conesContaining 47 = .ok (.aload_n 3, 1) := by decide +kernel
theorem dX9_conesContaining_48 : decode cX9_conesContaining 48 = .ok (.iload_n 1, 1) := by decide +kernel
theorem dX9_conesContaining_49 : decode cX9_conesContaining 49 = .ok (.iload_n 2, 1) := by decide +kernel
theorem dX9_conesContaining_50 : decode cX9_conesContaining 50 = .ok (.invokevirtual 195, 3) := by decide +kernel
theorem dX9_conesContaining_53 : decode cX9_conesContaining 53 = .ok (.ifCond .eq 7, 3) := by decide +kernel
theorem dX9_conesContaining_56 : decode cX9_conesContaining 56 = .ok (.iconst 2, 1) := by decide +kernel
theorem dX9_conesContaining_57 : decode cX9_conesContaining 57 = .ok (.goto 4, 3) := by decide +kernel
theorem dX9_conesContaining_60 : decode cX9_conesContaining 60 = .ok (.iconst 1, 1) := by decide +kernel
theorem dX9_conesContaining_61 : decode cX9_conesContaining 61 = .ok (.ireturn, 1) := by decide +kernel
theorem dX9_coneHeight_0 : decode cX9_coneHeight 0 = .ok (.aload_n 0, 1) := by decide +kernel
theorem dX9_coneHeight_1 : decode cX9_coneHeight 1 = .ok (.iload_n 1, 1) := by decide +kernel
theorem dX9_coneHeight_2 : decode cX9_coneHeight 2 = .ok (.invokevirtual 173, 3) := by decide +kernel
theorem dX9_coneHeight_5 : decode cX9_coneHeight 5 = .ok (.astore_n 3, 1) := by decide +kernel
theorem dX9_coneHeight_6 : decode cX9_coneHeight 6 = .ok (.aload_n 3, 1) := by decide +kernel
theorem dX9_coneHeight_7 : decode cX9_coneHeight 7 = .ok (.ifnull 10, 3) := by decide +kernel
theorem dX9_coneHeight_10 : decode cX9_coneHeight 10 = .ok (.iload_n 2, 1) := by decide +kernel
theorem dX9_coneHeight_11 : decode cX9_coneHeight 11 = .ok (.invokestatic 140, 3) := by decide +kernel
theorem dX9_coneHeight_14 : decode cX9_coneHeight 14 = .ok (.ifCond .ne 5, 3) := by decide +kernel
theorem dX9_coneHeight_17 : decode cX9_coneHeight 17 = .ok (.iconst (-1), 1) := by decide +kernel
theorem dX9_coneHeight_18 : decode cX9_coneHeight 18 = .ok (.ireturn, 1) := by decide +kernel
theorem dX9_coneHeight_19 : decode cX9_coneHeight 19 = .ok (.aload_n 3, 1) := by decide +kernel
theorem dX9_coneHeight_20 : decode cX9_coneHeight 20 = .ok (.getfield 151, 3) := by decide +kernel
theorem dX9_coneHeight_23 : decode cX9_coneHeight 23 = .ok (.iload_n 2, 1) := by decide +kernel
theorem dX9_coneHeight_24 : decode cX9_coneHeight 24 = .ok (.iaload, 1) := by decide +kernel
theorem dX9_coneHeight_25 : decode cX9_coneHeight 25 = .ok (.ireturn, 1) := by decide +kernel
theorem dX9_basisSize_0 : decode cX9_basisSize 0 = .ok (.aload_n 0, 1) := by decide +kernel
theorem dX9_basisSize_1 : decode cX9_basisSize 1 = .ok (.iload_n 1, 1) := by decide +kernel
theorem dX9_basisSize_2 : decode cX9_basisSize 2 = .ok (.invokevirtual 173, 3) := by decide +kernel
theorem dX9_basisSize_5 : decode cX9_basisSize 5 = .ok (.astore_n 2, 1) := by decide +kernel
theorem dX9_basisSize_6 : decode cX9_basisSize 6 = .ok (.aload_n 2, 1) := by decide +kernel
theorem dX9_basisSize_7 : decode cX9_basisSize 7 = .ok (.ifnonnull 7, 3) := by decide +kernel
theorem dX9_basisSize_10 : decode cX9_basisSize 10 = .ok (.iconst (-1), 1) := by decide +kernel
theorem dX9_basisSize_11 : decode cX9_basisSize 11 = .ok (.goto 7, 3) := by decide +kernel
theorem dX9_basisSize_14 : decode cX9_basisSize 14 = .ok (.aload_n 2, 1) := by decide +kernel
theorem dX9_basisSize_15 : decode cX9_basisSize 15 = .ok (.getfield 154, 3) := by decide +kernel
theorem dX9_basisSize_18 : decode cX9_basisSize 18 = .ok (.ireturn, 1) := by decide +kernel
theorem dX9_basisCorner_0 : decode cX9_basisCorner 0 = .ok (.aload_n 0, 1) := by decide +kernel
theorem dX9_basisCorner_1 : decode cX9_basisCorner 1 = .ok (.iload_n 1, 1) := by decide +kernel
theorem dX9_basisCorner_2 : decode cX9_basisCorner 2 = .ok (.iload_n 2, 1) := by decide +kernel
theorem dX9_basisCorner_3 : decode cX9_basisCorner 3 = .ok (.invokevirtual 198, 3) := by decide +kernel
theorem dX9_basisCorner_6 : decode cX9_basisCorner 6 = .ok (.astore_n 3, 1) := by decide +kernel
theorem dX9_basisCorner_7 : decode cX9_basisCorner 7 = .ok (.aload_n 3, 1) := by decide +kernel
theorem dX9_basisCorner_8 : decode cX9_basisCorner 8 = .ok (.ifnonnull 7, 3) := by decide +kernel
theorem dX9_basisCorner_11 : decode cX9_basisCorner 11 = .ok (.iconst (-1), 1) := by decide +kernel
theorem dX9_basisCorner_12 : decode cX9_basisCorner 12 = .ok (.goto 10, 3) := by decide +kernel
theorem dX9_basisCorner_15 : decode cX9_basisCorner 15 = .ok (.aload_n 3, 1) := by decide +kernel
theorem dX9_basisCorner_16 : decode cX9_basisCorner 16 = .ok (.getfield 159, 3) := by decide +kernel
theorem dX9_basisCorner_19 : decode cX9_basisCorner 19 = .ok (.invokestatic 164, 3) := by decide +kernel
theorem dX9_basisCorner_22 : decode cX9_basisCorner 22 = .ok (.ireturn, 1) := by decide +kernel
theorem dX9_basisCoefficient_0 : decode cX9_basisCoefficient 0 = .ok (.aload_n 0, 1) := by decide +kernel
theorem dX9_basisCoefficient_1 : decode cX9_basisCoefficient 1 = .ok (.iload_n 1, 1) := by decide +kernel
theorem dX9_basisCoefficient_2 : decode cX9_basisCoefficient 2 = .ok (.iload_n 2, 1) := by decide +kernel
theorem dX9_basisCoefficient_3 : decode cX9_basisCoefficient 3 = .ok (.invokevirtual 198, 3) := by decide +kernel
theorem dX9_basisCoefficient_6 : decode cX9_basisCoefficient 6 = .ok (.astore 5, 2) := by decide +kernel
theorem dX9_basisCoefficient_8 : decode cX9_basisCoefficient 8 = .ok (.aload 5, 2) := by decide +kernel
theorem dX9_basisCoefficient_10 : decode cX9_basisCoefficient 10 = .ok (.ifnull 18, 3) := by decide +kernel
theorem dX9_basisCoefficient_13 : decode cX9_basisCoefficient 13 = .ok (.iload_n 3, 1) := by decide +kernel
theorem dX9_basisCoefficient_14 : decode cX9_basisCoefficient 14 = .ok (.invokestatic 140, 3) := by decide +kernel
theorem dX9_basisCoefficient_17 : decode cX9_basisCoefficient 17 = .ok (.ifCond .eq 11, 3) := by decide +kernel
theorem dX9_basisCoefficient_20 : decode cX9_basisCoefficient 20 = .ok (.iload 4, 2) := by decide +kernel
theorem dX9_basisCoefficient_22 : decode cX9_basisCoefficient 22 = .ok (.invokestatic 140, 3) := by decide +kernel
theorem dX9_basisCoefficient_25 : decode cX9_basisCoefficient 25 = .ok (.ifCond .ne 5, 3) := by decide +kernel
theorem dX9_basisCoefficient_28 : decode cX9_basisCoefficient 28 = .ok (.iconst (-1), 1) := by decide +kernel
theorem dX9_basisCoefficient_29 : decode cX9_basisCoefficient 29 = .ok (.ireturn, 1) := by decide +kernel
theorem dX9_basisCoefficient_30 : decode cX9_basisCoefficient 30 = .ok (.aload 5, 2) := by decide +kernel
theorem dX9_basisCoefficient_32 : decode cX9_basisCoefficient 32 = .ok (.bipush 9, 2) := by decide +kernel
theorem dX9_basisCoefficient_34 : decode cX9_basisCoefficient 34 = .ok (.iload_n 3, 1) := by decide +kernel
theorem dX9_basisCoefficient_35 : decode cX9_basisCoefficient 35 = .ok (.imul, 1) := by decide +kernel
theorem dX9_basisCoefficient_36 : decode cX9_basisCoefficient 36 = .ok (.iload 4, 2) := by decide +kernel
theorem dX9_basisCoefficient_38 : decode cX9_basisCoefficient 38 = .ok (.iadd, 1) := by decide +kernel
theorem dX9_basisCoefficient_39 : decode cX9_basisCoefficient 39 = .ok (.invokevirtual 202, 3) := by decide +kernel
theorem dX9_basisCoefficient_42 : decode cX9_basisCoefficient 42 = .ok (.ireturn, 1) := by decide +kernel
theorem dX9_changedCorners_0 : decode cX9_changedCorners 0 = .ok (.aload_n 0, 1) := by decide +kernel
theorem dX9_changedCorners_1 : decode cX9_changedCorners 1 = .ok (.iload_n 1, 1) := by decide +kernel
theorem dX9_changedCorners_2 : decode cX9_changedCorners 2 = .ok (.invokevirtual 173, 3) := by decide +kernel
theorem dX9_changedCorners_5 : decode cX9_changedCorners 5 = .ok (.astore_n 2, 1) := by decide +kernel
theorem dX9_changedCorners_6 : decode cX9_changedCorners 6 = .ok (.aload_n 2, 1) := by decide +kernel
theorem dX9_changedCorners_7 : decode cX9_changedCorners 7 = .ok (.ifnonnull 5, 3) := by decide +kernel
theorem dX9_changedCorners_10 : decode cX9_changedCorners 10 = .ok (.iconst (-1), 1) := by decide +kernel
theorem dX9_changedCorners_11 : decode cX9_changedCorners 11 = .ok (.ireturn, 1) := by decide +kernel
theorem dX9_changedCorners_12 : decode cX9_changedCorners 12 = .ok (.aload_n 0, 1) := by decide +kernel
theorem dX9_changedCorners_13 : decode cX9_changedCorners 13 = .ok (.iload_n 1, 1) := by decide +kernel
theorem dX9_changedCorners_14 : decode cX9_changedCorners 14 = .ok (.iconst 1, 1) := by decide +kernel
theorem dX9_changedCorners_15 : decode cX9_changedCorners 15 = .ok (.iadd, 1) := by decide +kernel
theorem dX9_changedCorners_16 : decode cX9_changedCorners 16 = .ok (.invokevirtual 173, 3) := by decide +kernel
theorem dX9_changedCorners_19 : decode cX9_changedCorners 19 = .ok (.astore_n 3, 1) := by decide +kernel
theorem dX9_changedCorners_20 : decode cX9_changedCorners 20 = .ok (.aload_n 3, 1) := by decide +kernel
theorem dX9_changedCorners_21 : decode cX9_changedCorners 21 = .ok (.ifnonnull 8, 3) := by decide +kernel
theorem dX9_changedCorners_24 : decode cX9_changedCorners 24 = .ok (.bipush (-5), 2) := by decide +kernel
theorem dX9_changedCorners_26 : decode cX9_changedCorners 26 = .ok (.goto 8, 3) := by decide +kernel
theorem dX9_changedCorners_29 : decode cX9_changedCorners 29 = .ok (.aload_n 2, 1) := by decide +kernel
theorem dX9_changedCorners_30 : decode cX9_changedCorners 30 = .ok (.aload_n 3, 1) := by decide +kernel
theorem dX9_changedCorners_31 : decode cX9_changedCorners 31 = .ok (.invokevirtual 205, 3) := by decide +kernel
theorem dX9_changedCorners_34 : decode cX9_changedCorners 34 = .ok (.ireturn, 1) := by decide +kernel
theorem dX9_universalSize_0 : decode cX9_universalSize 0 = .ok (.aload_n 0, 1) := by decide +kernel
theorem dX9_universalSize_1 : decode cX9_universalSize 1 = .ok (.getfield 59, 3) := by decide +kernel
theorem dX9_universalSize_4 : decode cX9_universalSize 4 = .ok (.aload_n 0, 1) := by decide +kernel
theorem dX9_universalSize_5 : decode cX9_universalSize 5 = .ok (.getfield 45, 3) := by decide +kernel
theorem dX9_universalSize_8 : decode cX9_universalSize 8 = .ok (.aload_n 0, 1) := by decide +kernel
theorem dX9_universalSize_9 : decode cX9_universalSize 9 = .ok (.getfield 38, 3) := by decide +kernel
theorem dX9_universalSize_12 : decode cX9_universalSize 12 = .ok (.invokevirtual 168, 3) := by decide +kernel
theorem dX9_universalSize_15 : decode cX9_universalSize 15 = .ok (.aload_n 0, 1) := by decide +kernel
theorem dX9_universalSize_16 : decode cX9_universalSize 16 = .ok (.getfield 59, 3) := by decide +kernel
theorem dX9_universalSize_19 : decode cX9_universalSize 19 = .ok (.invokevirtual 209, 3) := by decide +kernel
theorem dX9_universalSize_22 : decode cX9_universalSize 22 = .ok (.ireturn, 1) := by decide +kernel
theorem dX9_universalDegree_0 : decode cX9_universalDegree 0 = .ok (.aload_n 0, 1) := by decide +kernel
theorem dX9_universalDegree_1 : decode cX9_universalDegree 1 = .ok (.getfield 59, 3) := by decide +kernel
theorem dX9_universalDegree_4 : decode cX9_universalDegree 4 = .ok (.aload_n 0, 1) := by decide +kernel
theorem dX9_universalDegree_5 : decode cX9_universalDegree 5 = .ok (.getfield 45, 3) := by decide +kernel
theorem dX9_universalDegree_8 : decode cX9_universalDegree 8 = .ok (.aload_n 0, 1) := by decide +kernel
theorem dX9_universalDegree_9 : decode cX9_universalDegree 9 = .ok (.getfield 38, 3) := by decide +kernel
theorem dX9_universalDegree_12 : decode cX9_universalDegree 12 = .ok (.invokevirtual 168, 3) := by decide +kernel
theorem dX9_universalDegree_15 : decode cX9_universalDegree 15 = .ok (.aload_n 0, 1) := by decide +kernel
theorem dX9_universalDegree_16 : decode cX9_universalDegree 16 = .ok (.getfield 59, 3) := by decide +kernel
theorem dX9_universalDegree_19 : decode cX9_universalDegree 19 = .ok (.invokevirtual 213, 3) := by decide +kernel
theorem dX9_universalDegree_22 : decode cX9_universalDegree 22 = .ok (.ireturn, 1) := by decide +kernel
theorem dX9_termCount_0 : decode cX9_termCount 0 = .ok (.aload_n 0, 1) := by decide +kernel
theorem dX9_termCount_1 : decode cX9_termCount 1 = .ok (.getfield 19, 3) := by decide +kernel
theorem dX9_termCount_4 : decode cX9_termCount 4 = .ok (.invokevirtual 228, 3) := by decide +kernel
theorem dX9_termCount_7 : decode cX9_termCount 7 = .ok (.ireturn, 1) := by decide +kernel
theorem dX9_isVanishing_0 : decode cX9_isVanishing 0 = .ok (.iconst 0, 1) := by decide +kernel
theorem dX9_isVanishing_1 : decode cX9_isVanishing 1 = .ok (.istore_n 1, 1) := by decide +kernel
theorem dX9_isVanishing_2 : decode cX9_isVanishing 2 = .ok (.iload_n 1, 1) := by decide +kernel
theorem dX9_isVanishing_3 : decode cX9_isVanishing 3 = .ok (.aload_n 0, 1) := by decide +kernel
theorem dX9_isVanishing_4 : decode cX9_isVanishing 4 = .ok (.getfield 12, 3) := by decide +kernel
theorem dX9_isVanishing_7 : decode cX9_isVanishing 7 = .ok (.getfield 109, 3) := by decide +kernel
theorem dX9_isVanishing_10 : decode cX9_isVanishing 10 = .ok (.if_icmp .ge 26, 3) := by decide +kernel
theorem dX9_isVanishing_13 : decode cX9_isVanishing 13 = .ok (.aload_n 0, 1) := by decide +kernel
theorem dX9_isVanishing_14 : decode cX9_isVanishing 14 = .ok (.getfield 19, 3) := by decide +kernel
theorem dX9_isVanishing_17 : decode cX9_isVanishing 17 = .ok (.aload_n 0, 1) := by decide +kernel
theorem dX9_isVanishing_18 : decode cX9_isVanishing 18 = .ok (.getfield 12, 3) := by decide +kernel
theorem dX9_isVanishing_21 : decode cX9_isVanishing 21 = .ok (.iload_n 1, 1) := by decide +kernel
theorem dX9_isVanishing_22 : decode cX9_isVanishing 22 = .ok (.invokevirtual 231, 3) := by decide +kernel
theorem dX9_isVanishing_25 : decode cX9_isVanishing 25 = .ok (.ifCond .eq 5, 3) := by decide +kernel
theorem dX9_isVanishing_28 : decode cX9_isVanishing 28 = .ok (.iconst 0, 1) := by decide +kernel
theorem dX9_isVanishing_29 : decode cX9_isVanishing 29 = .ok (.ireturn, 1) := by decide +kernel
theorem dX9_isVanishing_30 : decode cX9_isVanishing 30 = .ok (.iinc 1 1, 3) := by decide +kernel
theorem dX9_isVanishing_33 : decode cX9_isVanishing 33 = .ok (.goto (-31), 3) := by decide +kernel
theorem dX9_isVanishing_36 : decode cX9_isVanishing 36 = .ok (.iconst 1, 1) := by decide +kernel
theorem dX9_isVanishing_37 : decode cX9_isVanishing 37 = .ok (.ireturn, 1) := by decide +kernel
theorem dX9_loadBasisPolynomial_0 : decode cX9_loadBasisPolynomial 0 = .ok (.aload_n 0, 1) := by decide +kernel
theorem dX9_loadBasisPolynomial_1 : decode cX9_loadBasisPolynomial 1 = .ok (.iload_n 1, 1) := by decide +kernel
theorem dX9_loadBasisPolynomial_2 : decode cX9_loadBasisPolynomial 2 = .ok (.iload_n 2, 1) := by decide +kernel
theorem dX9_loadBasisPolynomial_3 : decode cX9_loadBasisPolynomial 3 = .ok (.invokevirtual 198, 3) := by decide +kernel
theorem dX9_loadBasisPolynomial_6 : decode cX9_loadBasisPolynomial 6 = .ok (.astore_n 3, 1) := by decide +kernel
theorem dX9_loadBasisPolynomial_7 : decode cX9_loadBasisPolynomial 7 = .ok (.aload_n 3, 1) := by decide +kernel
theorem dX9_loadBasisPolynomial_8 : decode cX9_loadBasisPolynomial 8 = .ok (.ifnonnull 5, 3) := by decide +kernel
theorem dX9_loadBasisPolynomial_11 : decode cX9_loadBasisPolynomial 11 = .ok (.iconst (-1), 1) := by decide +kernel
theorem dX9_loadBasisPolynomial_12 : decode cX9_loadBasisPolynomial 12 = .ok (.ireturn, 1) := by decide +kernel
theorem dX9_loadBasisPolynomial_13 : decode cX9_loadBasisPolynomial 13 = .ok (.aload_n 0, 1) := by decide +kernel
theorem dX9_loadBasisPolynomial_14 : decode cX9_loadBasisPolynomial 14 = .ok (.getfield 19, 3) := by decide +kernel
theorem dX9_loadBasisPolynomial_17 : decode cX9_loadBasisPolynomial 17 = .ok (.invokevirtual 96, 3) := by decide +kernel
theorem dX9_loadBasisPolynomial_20 : decode cX9_loadBasisPolynomial 20 = .ok (.iconst 0, 1) := by decide +kernel
theorem dX9_loadBasisPolynomial_21 : decode cX9_loadBasisPolynomial 21 = .ok (.istore 4, 2) := by decide +kernel
theorem dX9_loadBasisPolynomial_23 : decode cX9_loadBasisPolynomial 23 = .ok (.iload 4, 2) := by decide +kernel
theorem dX9_loadBasisPolynomial_25 : decode cX9_loadBasisPolynomial 25 = .ok (.aload_n 3, 1) := by decide +kernel
theorem dX9_loadBasisPolynomial_26 : decode cX9_loadBasisPolynomial 26 = .ok (.getfield 261, 3) := by decide +kernel
theorem dX9_loadBasisPolynomial_29 : decode cX9_loadBasisPolynomial 29 = .ok (.if_icmp .ge 31, 3) := by decide +kernel
theorem dX9_loadBasisPolynomial_32 : decode cX9_loadBasisPolynomial 32 = .ok (.aload_n 0, 1) := by decide +kernel
theorem dX9_loadBasisPolynomial_33 : decode cX9_loadBasisPolynomial 33 = .ok (.getfield 19, 3) := by decide +kernel
theorem dX9_loadBasisPolynomial_36 : decode cX9_loadBasisPolynomial 36 = .ok (.getfield 222, 3) := by decide +kernel
theorem dX9_loadBasisPolynomial_39 : decode cX9_loadBasisPolynomial 39 = .ok (.aload_n 3, 1) := by decide +kernel
theorem dX9_loadBasisPolynomial_40 : decode cX9_loadBasisPolynomial 40 = .ok (.getfield 262, 3) := by decide +kernel
theorem dX9_loadBasisPolynomial_43 : decode cX9_loadBasisPolynomial 43 = .ok (.iload 4, 2) := by decide +kernel
theorem dX9_loadBasisPolynomial_45 : decode cX9_loadBasisPolynomial 45 = .ok (.iaload, 1) := by decide +kernel
theorem dX9_loadBasisPolynomial_46 : decode cX9_loadBasisPolynomial 46 = .ok (.aload_n 3, 1) := by decide +kernel
theorem dX9_loadBasisPolynomial_47 : decode cX9_loadBasisPolynomial 47 = .ok (.getfield 265, 3) := by decide +kernel
theorem dX9_loadBasisPolynomial_50 : decode cX9_loadBasisPolynomial 50 = .ok (.iload 4, 2) := by decide +kernel
theorem dX9_loadBasisPolynomial_52 : decode cX9_loadBasisPolynomial 52 = .ok (.iaload, 1) := by decide +kernel
theorem dX9_loadBasisPolynomial_53 : decode cX9_loadBasisPolynomial 53 = .ok (.iastore, 1) := by decide +kernel
theorem dX9_loadBasisPolynomial_54 : decode cX9_loadBasisPolynomial 54 = .ok (.iinc 4 1, 3) := by decide +kernel
theorem dX9_loadBasisPolynomial_57 : decode cX9_loadBasisPolynomial 57 = .ok (.goto (-34), 3) := by decide +kernel
theorem dX9_loadBasisPolynomial_60 : decode cX9_loadBasisPolynomial 60 = .ok (.aload_n 0, 1) := by decide +kernel
theorem dX9_loadBasisPolynomial_61 : decode cX9_loadBasisPolynomial 61 = .ok (.getfield 19, 3) := by decide +kernel
theorem dX9_loadBasisPolynomial_64 : decode cX9_loadBasisPolynomial 64 = .ok (.invokevirtual 228, 3) := by decide +kernel
theorem dX9_loadBasisPolynomial_67 : decode cX9_loadBasisPolynomial 67 = .ok (.ireturn, 1) := by decide +kernel
theorem dX9_isAllowedPrime_0 : decode cX9_isAllowedPrime 0 = .ok (.getstatic 306, 3) := by decide +kernel
theorem dX9_isAllowedPrime_3 : decode cX9_isAllowedPrime 3 = .ok (.astore_n 1, 1) := by decide +kernel
theorem dX9_isAllowedPrime_4 : decode cX9_isAllowedPrime 4 = .ok (.aload_n 1, 1) := by decide +kernel
theorem dX9_isAllowedPrime_5 : decode cX9_isAllowedPrime 5 = .ok (.arraylength, 1) := by decide +kernel
theorem dX9_isAllowedPrime_6 : decode cX9_isAllowedPrime 6 = .ok (.istore_n 2, 1) := by decide +kernel
theorem dX9_isAllowedPrime_7 : decode cX9_isAllowedPrime 7 = .ok (.iconst 0, 1) := by decide +kernel
theorem dX9_isAllowedPrime_8 : decode cX9_isAllowedPrime 8 = .ok (.istore_n 3, 1) := by decide +kernel
theorem dX9_isAllowedPrime_9 : decode cX9_isAllowedPrime 9 = .ok (.iload_n 3, 1) := by decide +kernel
theorem dX9_isAllowedPrime_10 : decode cX9_isAllowedPrime 10 = .ok (.iload_n 2, 1) := by decide +kernel
theorem dX9_isAllowedPrime_11 : decode cX9_isAllowedPrime 11 = .ok (.if_icmp .ge 22, 3) := by decide +kernel
theorem dX9_isAllowedPrime_14 : decode cX9_isAllowedPrime 14 = .ok (.aload_n 1, 1) := by decide +kernel
theorem dX9_isAllowedPrime_15 : decode cX9_isAllowedPrime 15 = .ok (.iload_n 3, 1) := by decide +kernel
theorem dX9_isAllowedPrime_16 : decode cX9_isAllowedPrime 16 = .ok (.iaload, 1) := by decide +kernel
theorem dX9_isAllowedPrime_17 : decode cX9_isAllowedPrime 17 = .ok (.istore 4, 2) := by decide +kernel
theorem dX9_isAllowedPrime_19 : decode cX9_isAllowedPrime 19 = .ok (.iload 4, 2) := by decide +kernel
theorem dX9_isAllowedPrime_21 : decode cX9_isAllowedPrime 21 = .ok (.iload_n 0, 1) := by decide +kernel
theorem dX9_isAllowedPrime_22 : decode cX9_isAllowedPrime 22 = .ok (.if_icmp .ne 5, 3) := by decide +kernel
theorem dX9_isAllowedPrime_25 : decode cX9_isAllowedPrime 25 = .ok (.iconst 1, 1) := by decide +kernel
theorem dX9_isAllowedPrime_26 : decode cX9_isAllowedPrime 26 = .ok (.ireturn, 1) := by decide +kernel
theorem dX9_isAllowedPrime_27 : decode cX9_isAllowedPrime 27 = .ok (.iinc 3 1, 3) := by decide +kernel
theorem dX9_isAllowedPrime_30 : decode cX9_isAllowedPrime 30 = .ok (.goto (-21), 3) := by decide +kernel
theorem dX9_isAllowedPrime_33 : decode cX9_isAllowedPrime 33 = .ok (.iconst 0, 1) := by decide +kernel
theorem dX9_isAllowedPrime_34 : decode cX9_isAllowedPrime 34 = .ok (.ireturn, 1) := by decide +kernel
theorem dX9_isExponent_0 : decode cX9_isExponent 0 = .ok (.iload_n 0, 1) := by decide +kernel
theorem dX9_isExponent_1 : decode cX9_isExponent 1 = .ok (.ifCond .lt 13, 3) := by decide +kernel
theorem dX9_isExponent_4 : decode cX9_isExponent 4 = .ok (.iload_n 0, 1) := by decide +kernel
theorem dX9_isExponent_5 : decode cX9_isExponent 5 = .ok (.bipush 9, 2) := by decide +kernel
theorem dX9_isExponent_7 : decode cX9_isExponent 7 = .ok (.if_icmp .ge 7, 3) := by decide +kernel
theorem dX9_isExponent_10 : decode cX9_isExponent 10 = .ok (.iconst 1, 1) := by decide +kernel
theorem dX9_isExponent_11 : decode cX9_isExponent 11 = .ok (.goto 4, 3) := by decide +kernel
theorem dX9_isExponent_14 : decode cX9_isExponent 14 = .ok (.iconst 0, 1) := by decide +kernel
theorem dX9_isExponent_15 : decode cX9_isExponent 15 = .ok (.ireturn, 1) := by decide +kernel
theorem dX9_isWeight_0 : decode cX9_isWeight 0 = .ok (.iload_n 0, 1) := by decide +kernel
theorem dX9_isWeight_1 : decode cX9_isWeight 1 = .ok (.ifCond .lt 31, 3) := by decide +kernel
theorem dX9_isWeight_4 : decode cX9_isWeight 4 = .ok (.iload_n 0, 1) := by decide +kernel
theorem dX9_isWeight_5 : decode cX9_isWeight 5 = .ok (.bipush 99, 2) := by decide +kernel
theorem dX9_isWeight_7 : decode cX9_isWeight 7 = .ok (.if_icmp .gt 25, 3) := by decide +kernel
theorem dX9_isWeight_10 : decode cX9_isWeight 10 = .ok (.iload_n 1, 1) := by decide +kernel
theorem dX9_isWeight_11 : decode cX9_isWeight 11 = .ok (.ifCond .lt 21, 3) := by decide +kernel
theorem dX9_isWeight_14 : decode cX9_isWeight 14 = .ok (.iload_n 1, 1) := by decide +kernel
theorem dX9_isWeight_15 : decode cX9_isWeight 15 = .ok (.bipush 99, 2) := by decide +kernel
theorem dX9_isWeight_17 : decode cX9_isWeight 17 = .ok (.if_icmp .gt 15, 3) := by decide +kernel
theorem dX9_isWeight_20 : decode cX9_isWeight 20 = .ok (.iload_n 0, 1) := by decide +kernel
theorem dX9_isWeight_21 : decode cX9_isWeight 21 = .ok (.ifCond .ne 7, 3) := by decide +kernel
theorem dX9_isWeight_24 : decode cX9_isWeight 24 = .ok (.iload_n 1, 1) := by decide +kernel
theorem dX9_isWeight_25 : decode cX9_isWeight 25 = .ok (.ifCond .eq 7, 3) := by decide +kernel
theorem dX9_isWeight_28 : decode cX9_isWeight 28 = .ok (.iconst 1, 1) := by decide +kernel
theorem dX9_isWeight_29 : decode cX9_isWeight 29 = .ok (.goto 4, 3) := by decide +kernel
theorem dX9_isWeight_32 : decode cX9_isWeight 32 = .ok (.iconst 0, 1) := by decide +kernel
theorem dX9_isWeight_33 : decode cX9_isWeight 33 = .ok (.ireturn, 1) := by decide +kernel
theorem dX9_isOrder_0 : decode cX9_isOrder 0 = .ok (.iload_n 0, 1) := by decide +kernel
theorem dX9_isOrder_1 : decode cX9_isOrder 1 = .ok (.iload_n 1, 1) := by decide +kernel
theorem dX9_isOrder_2 : decode cX9_isOrder 2 = .ok (.invokestatic 186, 3) := by decide +kernel
theorem dX9_isOrder_5 : decode cX9_isOrder 5 = .ok (.ifCond .eq 16, 3) := by decide +kernel
theorem dX9_isOrder_8 : decode cX9_isOrder 8 = .ok (.iload_n 2, 1) := by decide +kernel
theorem dX9_isOrder_9 : decode cX9_isOrder 9 = .ok (.ifCond .eq 8, 3) := by decide +kernel
theorem dX9_isOrder_12 : decode cX9_isOrder 12 = .ok (.iload_n 2, 1) := by decide +kernel
theorem dX9_isOrder_13 : decode cX9_isOrder 13 = .ok (.iconst 1, 1) := by decide +kernel
theorem dX9_isOrder_14 : decode cX9_isOrder 14 = .ok (.if_icmp .ne 7, 3) := by decide +kernel
theorem dX9_isOrder_17 : decode cX9_isOrder 17 = .ok (.iconst 1, 1) := by decide +kernel
theorem dX9_isOrder_18 : decode cX9_isOrder 18 = .ok (.goto 4, 3) := by decide +kernel
theorem dX9_isOrder_21 : decode cX9_isOrder 21 = .ok (.iconst 0, 1) := by decide +kernel
theorem dX9_isOrder_22 : decode cX9_isOrder 22 = .ok (.ireturn, 1) := by decide +kernel
theorem dX9_decimalExponents_0 : decode cX9_decimalExponents 0 = .ok (.bipush 10, 2) := by decide +kernel
theorem dX9_decimalExponents_2 : decode cX9_decimalExponents 2 = .ok (.iload_n 0, 1) := by decide +kernel
theorem dX9_decimalExponents_3 : decode cX9_decimalExponents 3 = .ok (.bipush 9, 2) := by decide +kernel
theorem dX9_decimalExponents_5 : decode cX9_decimalExponents 5 = .ok (.idiv, 1) := by decide +kernel
theorem dX9_decimalExponents_6 : decode cX9_decimalExponents 6 = .ok (.imul, 1) := by decide +kernel
theorem dX9_decimalExponents_7 : decode cX9_decimalExponents 7 = .ok (.iload_n 0, 1) := by decide +kernel
theorem dX9_decimalExponents_8 : decode cX9_decimalExponents 8 = .ok (.bipush 9, 2) := by decide +kernel
theorem dX9_decimalExponents_10 : decode cX9_decimalExponents 10 = .ok (.irem, 1) := by decide +kernel
theorem dX9_decimalExponents_11 : decode cX9_decimalExponents 11 = .ok (.iadd, 1) := by decide +kernel
theorem dX9_decimalExponents_12 : decode cX9_decimalExponents 12 = .ok (.ireturn, 1) := by decide +kernel
theorem dX9_computeOrder_0 : decode cX9_computeOrder 0 = .ok (.aload_n 0, 1) := by decide +kernel
theorem dX9_computeOrder_1 : decode cX9_computeOrder 1 = .ok (.getfield 45, 3) := by decide +kernel
theorem dX9_computeOrder_4 : decode cX9_computeOrder 4 = .ok (.iload_n 1, 1) := by decide +kernel
theorem dX9_computeOrder_5 : decode cX9_computeOrder 5 = .ok (.iload_n 2, 1) := by decide +kernel
theorem dX9_computeOrder_6 : decode cX9_computeOrder 6 = .ok (.iload_n 3, 1) := by decide +kernel
theorem dX9_computeOrder_7 : decode cX9_computeOrder 7 = .ok (.invokevirtual 309, 3) := by decide +kernel
theorem dX9_computeOrder_10 : decode cX9_computeOrder 10 = .ok (.aload_n 0, 1) := by decide +kernel
theorem dX9_computeOrder_11 : decode cX9_computeOrder 11 = .ok (.getfield 52, 3) := by decide +kernel
theorem dX9_computeOrder_14 : decode cX9_computeOrder 14 = .ok (.aload_n 0, 1) := by decide +kernel
theorem dX9_computeOrder_15 : decode cX9_computeOrder 15 = .ok (.getfield 45, 3) := by decide +kernel
theorem dX9_computeOrder_18 : decode cX9_computeOrder 18 = .ok (.aload_n 0, 1) := by decide +kernel
theorem dX9_computeOrder_19 : decode cX9_computeOrder 19 = .ok (.getfield 38, 3) := by decide +kernel
theorem dX9_computeOrder_22 : decode cX9_computeOrder 22 = .ok (.invokevirtual 312, 3) := by decide +kernel
theorem dX9_computeOrder_25 : decode cX9_computeOrder 25 = .ok (.return_, 1) := by decide +kernel
theorem dX9_findCone_0 : decode cX9_findCone 0 = .ok (.aload_n 0, 1) := by decide +kernel
theorem dX9_findCone_1 : decode cX9_findCone 1 = .ok (.getfield 59, 3) := by decide +kernel
theorem dX9_findCone_4 : decode cX9_findCone 4 = .ok (.aload_n 0, 1) := by decide +kernel
theorem dX9_findCone_5 : decode cX9_findCone 5 = .ok (.getfield 45, 3) := by decide +kernel
theorem dX9_findCone_8 : decode cX9_findCone 8 = .ok (.aload_n 0, 1) := by decide +kernel
theorem dX9_findCone_9 : decode cX9_findCone 9 = .ok (.getfield 38, 3) := by decide +kernel
theorem dX9_findCone_12 : decode cX9_findCone 12 = .ok (.invokevirtual 168, 3) := by decide +kernel
theorem dX9_findCone_15 : decode cX9_findCone 15 = .ok (.aload_n 0, 1) := by decide +kernel
theorem dX9_findCone_16 : decode cX9_findCone 16 = .ok (.getfield 59, 3) := by decide +kernel
theorem dX9_findCone_19 : decode cX9_findCone 19 = .ok (.iload_n 1, 1) := by decide +kernel
theorem dX9_findCone_20 : decode cX9_findCone 20 = .ok (.invokevirtual 193, 3) := by decide +kernel
theorem dX9_findCone_23 : decode cX9_findCone 23 = .ok (.areturn, 1) := by decide +kernel
theorem dX9_findBasisPolynomial_0 : decode cX9_findBasisPolynomial 0 = .ok (.aload_n 0, 1) := by decide +kernel
theorem dX9_findBasisPolynomial_1 : decode cX9_findBasisPolynomial 1 = .ok (.iload_n 1, 1) := by decide +kernel
theorem dX9_findBasisPolynomial_2 : decode cX9_findBasisPolynomial 2 = .ok (.invokevirtual 173, 3) := by decide +kernel
theorem dX9_findBasisPolynomial_5 : decode cX9_findBasisPolynomial 5 = .ok (.astore_n 3, 1) := by decide +kernel
theorem dX9_findBasisPolynomial_6 : decode cX9_findBasisPolynomial 6 = .ok (.aload_n 3, 1) := by decide +kernel
theorem dX9_findBasisPolynomial_7 : decode cX9_findBasisPolynomial 7 = .ok (.ifnonnull 7, 3) := by decide +kernel
theorem dX9_findBasisPolynomial_10 : decode cX9_findBasisPolynomial 10 = .ok (.aconst_null, 1) := by decide +kernel
theorem dX9_findBasisPolynomial_11 : decode cX9_findBasisPolynomial 11 = .ok (.goto 8, 3) := by decide +kernel
theorem dX9_findBasisPolynomial_14 : decode cX9_findBasisPolynomial 14 = .ok (.aload_n 3, 1) := by decide +kernel
theorem dX9_findBasisPolynomial_15 : decode cX9_findBasisPolynomial 15 = .ok (.iload_n 2, 1) := by decide +kernel
theorem dX9_findBasisPolynomial_16 : decode cX9_findBasisPolynomial 16 = .ok (.invokevirtual 155, 3) := by decide +kernel
theorem dX9_findBasisPolynomial_19 : decode cX9_findBasisPolynomial 19 = .ok (.areturn, 1) := by decide +kernel
theorem dJ5_init_d00df_0 : decode cJ5_init_d00df 0 = .ok (.aload_n 0, 1) := by decide +kernel
theorem dJ5_init_d00df_1 : decode cJ5_init_d00df 1 = .ok (.invokespecial 3, 3) := by decide +kernel
theorem dJ5_init_d00df_4 : decode cJ5_init_d00df 4 = .ok (.getstatic 18, 3) := by decide +kernel
theorem dJ5_init_d00df_7 : decode cJ5_init_d00df 7 = .ok (.ifCond .eq 18, 3) := by decide +kernel
theorem dJ5_init_d00df_10 : decode cJ5_init_d00df 10 = .ok (.aload_n 0, 1) := by decide +kernel
theorem dJ5_init_d00df_11 : decode cJ5_init_d00df 11 = .ok (.iload_n 1, 1) := by decide +kernel
theorem dJ5_init_d00df_12 : decode cJ5_init_d00df 12 = .ok (.newarray .byte, 2) := by decide +kernel
theorem dJ5_init_d00df_14 : decode cJ5_init_d00df 14 = .ok (.putfield 15, 3) := by decide +kernel
theorem dJ5_init_d00df_17 : decode cJ5_init_d00df 17 = .ok (.aload_n 0, 1) := by decide +kernel
theorem dJ5_init_d00df_18 : decode cJ5_init_d00df 18 = .ok (.iconst 0, 1) := by decide +kernel
theorem dJ5_init_d00df_19 : decode cJ5_init_d00df 19 = .ok (.putfield 22, 3) := by decide +kernel
theorem dJ5_init_d00df_22 : decode cJ5_init_d00df 22 = .ok (.goto 16, 3) := by decide +kernel
theorem dJ5_init_d00df_25 : decode cJ5_init_d00df 25 = .ok (.aload_n 0, 1) := by decide +kernel
theorem dJ5_init_d00df_26 : decode cJ5_init_d00df 26 = .ok (.iload_n 1, 1) := by decide +kernel
theorem dJ5_init_d00df_27 : decode cJ5_init_d00df 27 = .ok (.invokestatic 26, 3) := by decide +kernel
theorem dJ5_init_d00df_30 : decode cJ5_init_d00df 30 = .ok (.putfield 15, 3) := by decide +kernel
theorem dJ5_init_d00df_33 : decode cJ5_init_d00df 33 = .ok (.aload_n 0, 1) := by decide +kernel
theorem dJ5_init_d00df_34 : decode cJ5_init_d00df 34 = .ok (.iconst 1, 1) := by decide +kernel
theorem dJ5_init_d00df_35 : decode cJ5_init_d00df 35 = .ok (.putfield 22, 3) := by decide +kernel
theorem dJ5_init_d00df_38 : decode cJ5_init_d00df 38 = .ok (.return_, 1) := by decide +kernel
theorem dJ9_max_7cf53_0 : decode cJ9_max_7cf53 0 = .ok (.iload_n 0, 1) := by decide +kernel
theorem dJ9_max_7cf53_1 : decode cJ9_max_7cf53 1 = .ok (.iload_n 1, 1) := by decide +kernel
theorem dJ9_max_7cf53_2 : decode cJ9_max_7cf53 2 = .ok (.if_icmp .lt 7, 3) := by decide +kernel
theorem dJ9_max_7cf53_5 : decode cJ9_max_7cf53 5 = .ok (.iload_n 0, 1) := by decide +kernel
theorem dJ9_max_7cf53_6 : decode cJ9_max_7cf53 6 = .ok (.goto 4, 3) := by decide +kernel
theorem dJ9_max_7cf53_9 : decode cJ9_max_7cf53 9 = .ok (.iload_n 1, 1) := by decide +kernel
theorem dJ9_max_7cf53_10 : decode cJ9_max_7cf53 10 = .ok (.ireturn, 1) := by decide +kernel
theorem dJ4_init_da8c8_0 : decode cJ4_init_da8c8 0 = .ok (.aload_n 0, 1) := by decide +kernel
theorem dJ4_init_da8c8_1 : decode cJ4_init_da8c8 1 = .ok (.bipush 16, 2) := by decide +kernel
theorem dJ4_init_da8c8_3 : decode cJ4_init_da8c8 3 = .ok (.invokespecial 1, 3) := by decide +kernel
theorem dJ4_init_da8c8_6 : decode cJ4_init_da8c8 6 = .ok (.return_, 1) := by decide +kernel
theorem dJ2_newBytesFor_77867_0 : decode cJ2_newBytesFor_77867 0 = .ok (.iload_n 0, 1) := by decide +kernel
theorem dJ2_newBytesFor_77867_1 : decode cJ2_newBytesFor_77867 1 = .ok (.invokestatic 11, 3) := by decide +kernel
theorem dJ2_newBytesFor_77867_4 : decode cJ2_newBytesFor_77867 4 = .ok (.newarray .byte, 2) := by decide +kernel
theorem dJ2_newBytesFor_77867_6 : decode cJ2_newBytesFor_77867 6 = .ok (.areturn, 1) := by decide +kernel
theorem dJ2_newBytesLength_0f7a4_0 : decode cJ2_newBytesLength_0f7a4 0 = .ok (.iload_n 0, 1) := by decide +kernel
theorem dJ2_newBytesLength_0f7a4_1 : decode cJ2_newBytesLength_0f7a4 1 = .ok (.ifCond .ge 11, 3) := by decide +kernel
theorem dJ2_newBytesLength_0f7a4_4 : decode cJ2_newBytesLength_0f7a4 4 = .ok (.new 17, 3) := by decide +kernel
theorem dJ2_newBytesLength_0f7a4_7 : decode cJ2_newBytesLength_0f7a4 7 = .ok (.dup, 1) := by decide +kernel
theorem dJ2_newBytesLength_0f7a4_8 : decode cJ2_newBytesLength_0f7a4 8 = .ok (.invokespecial 19, 3) := by decide +kernel
theorem dJ2_newBytesLength_0f7a4_11 : decode cJ2_newBytesLength_0f7a4 11 = .ok (.athrow, 1) := by decide +kernel
theorem dJ2_newBytesLength_0f7a4_12 : decode cJ2_newBytesLength_0f7a4 12 = .ok (.iload_n 0, 1) := by decide +kernel
theorem dJ2_newBytesLength_0f7a4_13 : decode cJ2_newBytesLength_0f7a4 13 = .ok (.ldc 20, 2) := by decide +kernel
theorem dJ2_newBytesLength_0f7a4_15 : decode cJ2_newBytesLength_0f7a4 15 = .ok (.if_icmp .lt 40, 3) := by decide +kernel
theorem dJ2_newBytesLength_0f7a4_18 : decode cJ2_newBytesLength_0f7a4 18 = .ok (.new 21, 3) := by decide +kernel
theorem dJ2_newBytesLength_0f7a4_21 : decode cJ2_newBytesLength_0f7a4 21 = .ok (.dup, 1) := by decide +kernel
theorem dJ2_newBytesLength_0f7a4_22 : decode cJ2_newBytesLength_0f7a4 22 = .ok (.new 23, 3) := by decide +kernel
theorem dJ2_newBytesLength_0f7a4_25 : decode cJ2_newBytesLength_0f7a4 25 = .ok (.dup, 1) := by decide +kernel
theorem dJ2_newBytesLength_0f7a4_26 : decode cJ2_newBytesLength_0f7a4 26 = .ok (.invokespecial 25, 3) := by decide +kernel
theorem dJ2_newBytesLength_0f7a4_29 : decode cJ2_newBytesLength_0f7a4 29 = .ok (.ldc 26, 2) := by decide +kernel
theorem dJ2_newBytesLength_0f7a4_31 : decode cJ2_newBytesLength_0f7a4 31 = .ok (.invokevirtual 28, 3) := by decide +kernel
theorem dJ2_newBytesLength_0f7a4_34 : decode cJ2_newBytesLength_0f7a4 34 = .ok (.iload_n 0, 1) := by decide +kernel
theorem dJ2_newBytesLength_0f7a4_35 : decode cJ2_newBytesLength_0f7a4 35 = .ok (.invokevirtual 32, 3) := by decide +kernel
theorem dJ2_newBytesLength_0f7a4_38 : decode cJ2_newBytesLength_0f7a4 38 = .ok (.ldc 35, 2) := by decide +kernel
theorem dJ2_newBytesLength_0f7a4_40 : decode cJ2_newBytesLength_0f7a4 40 = .ok (.invokevirtual 28, 3) := by decide +kernel
theorem dJ2_newBytesLength_0f7a4_43 : decode cJ2_newBytesLength_0f7a4 43 = .ok (.ldc 20, 2) := by decide +kernel
theorem dJ2_newBytesLength_0f7a4_45 : decode cJ2_newBytesLength_0f7a4 45 = .ok (.invokevirtual 32, 3) := by decide +kernel
theorem dJ2_newBytesLength_0f7a4_48 : decode cJ2_newBytesLength_0f7a4 48 = .ok (.invokevirtual 37, 3) := by decide +kernel
theorem dJ2_newBytesLength_0f7a4_51 : decode cJ2_newBytesLength_0f7a4 51 = .ok (.invokespecial 41, 3) := by decide +kernel
theorem dJ2_newBytesLength_0f7a4_54 : decode cJ2_newBytesLength_0f7a4 54 = .ok (.athrow, 1) := by decide +kernel
theorem dJ2_newBytesLength_0f7a4_55 : decode cJ2_newBytesLength_0f7a4 55 = .ok (.iload_n 0, 1) := by decide +kernel
theorem dJ2_newBytesLength_0f7a4_56 : decode cJ2_newBytesLength_0f7a4 56 = .ok (.iconst 1, 1) := by decide +kernel
theorem dJ2_newBytesLength_0f7a4_57 : decode cJ2_newBytesLength_0f7a4 57 = .ok (.ishl, 1) := by decide +kernel
theorem dJ2_newBytesLength_0f7a4_58 : decode cJ2_newBytesLength_0f7a4 58 = .ok (.ireturn, 1) := by decide +kernel
theorem dJ7_fill_53178_0 : decode cJ7_fill_53178 0 = .ok (.iconst 0, 1) := by decide +kernel
theorem dJ7_fill_53178_1 : decode cJ7_fill_53178 1 = .ok (.istore_n 2, 1) := by decide +kernel
theorem dJ7_fill_53178_2 : decode cJ7_fill_53178 2 = .ok (.aload_n 0, 1) := by decide +kernel
theorem dJ7_fill_53178_3 : decode cJ7_fill_53178 3 = .ok (.arraylength, 1) := by decide +kernel
theorem dJ7_fill_53178_4 : decode cJ7_fill_53178 4 = .ok (.istore_n 3, 1) := by decide +kernel
theorem dJ7_fill_53178_5 : decode cJ7_fill_53178 5 = .ok (.iload_n 2, 1) := by decide +kernel
theorem dJ7_fill_53178_6 : decode cJ7_fill_53178 6 = .ok (.iload_n 3, 1) := by decide +kernel
theorem dJ7_fill_53178_7 : decode cJ7_fill_53178 7 = .ok (.if_icmp .ge 13, 3) := by decide +kernel
theorem dJ7_fill_53178_10 : decode cJ7_fill_53178 10 = .ok (.aload_n 0, 1) := by decide +kernel
theorem dJ7_fill_53178_11 : decode cJ7_fill_53178 11 = .ok (.iload_n 2, 1) := by decide +kernel
theorem dJ7_fill_53178_12 : decode cJ7_fill_53178 12 = .ok (.iload_n 1, 1) := by decide +kernel
theorem dJ7_fill_53178_13 : decode cJ7_fill_53178 13 = .ok (.iastore, 1) := by decide +kernel
theorem dJ7_fill_53178_14 : decode cJ7_fill_53178 14 = .ok (.iinc 2 1, 3) := by decide +kernel
theorem dJ7_fill_53178_17 : decode cJ7_fill_53178 17 = .ok (.goto (-12), 3) := by decide +kernel
theorem dJ7_fill_53178_20 : decode cJ7_fill_53178 20 = .ok (.return_, 1) := by decide +kernel
theorem dL_cell_0 : decode cL_cell 0 = .ok (.ldc 7, 2) := by decide +kernel
theorem dL_cell_2 : decode cL_cell 2 = .ok (.iload_n 1, 1) := by decide +kernel
theorem dL_cell_3 : decode cL_cell 3 = .ok (.aload_n 0, 1) := by decide +kernel
theorem dL_cell_4 : decode cL_cell 4 = .ok (.arraylength, 1) := by decide +kernel
theorem dL_cell_5 : decode cL_cell 5 = .ok (.if_icmp .ge 9, 3) := by decide +kernel
theorem dL_cell_8 : decode cL_cell 8 = .ok (.aload_n 0, 1) := by decide +kernel
theorem dL_cell_9 : decode cL_cell 9 = .ok (.iload_n 1, 1) := by decide +kernel
theorem dL_cell_10 : decode cL_cell 10 = .ok (.iaload, 1) := by decide +kernel
theorem dL_cell_11 : decode cL_cell 11 = .ok (.goto 4, 3) := by decide +kernel
theorem dL_cell_14 : decode cL_cell 14 = .ok (.iconst 0, 1) := by decide +kernel
theorem dL_cell_15 : decode cL_cell 15 = .ok (.sipush 1009, 3) := by decide +kernel
theorem dL_cell_18 : decode cL_cell 18 = .ok (.iload_n 1, 1) := by decide +kernel
theorem dL_cell_19 : decode cL_cell 19 = .ok (.imul, 1) := by decide +kernel
theorem dL_cell_20 : decode cL_cell 20 = .ok (.iadd, 1) := by decide +kernel
theorem dL_cell_21 : decode cL_cell 21 = .ok (.imul, 1) := by decide +kernel
theorem dL_cell_22 : decode cL_cell 22 = .ok (.sipush 12345, 3) := by decide +kernel
theorem dL_cell_25 : decode cL_cell 25 = .ok (.iadd, 1) := by decide +kernel
theorem dL_cell_26 : decode cL_cell 26 = .ok (.istore_n 2, 1) := by decide +kernel
theorem dL_cell_27 : decode cL_cell 27 = .ok (.iload_n 2, 1) := by decide +kernel
theorem dL_cell_28 : decode cL_cell 28 = .ok (.iload_n 2, 1) := by decide +kernel
theorem dL_cell_29 : decode cL_cell 29 = .ok (.bipush 13, 2) := by decide +kernel
theorem dL_cell_31 : decode cL_cell 31 = .ok (.iushr, 1) := by decide +kernel
theorem dL_cell_32 : decode cL_cell 32 = .ok (.ixor, 1) := by decide +kernel
theorem dL_cell_33 : decode cL_cell 33 = .ok (.ldc 8, 2) := by decide +kernel
theorem dL_cell_35 : decode cL_cell 35 = .ok (.imul, 1) := by decide +kernel
theorem dL_cell_36 : decode cL_cell 36 = .ok (.istore_n 2, 1) := by decide +kernel
theorem dL_cell_37 : decode cL_cell 37 = .ok (.iload_n 2, 1) := by decide +kernel
theorem dL_cell_38 : decode cL_cell 38 = .ok (.iload_n 2, 1) := by decide +kernel
theorem dL_cell_39 : decode cL_cell 39 = .ok (.bipush 16, 2) := by decide +kernel
theorem dL_cell_41 : decode cL_cell 41 = .ok (.iushr, 1) := by decide +kernel
theorem dL_cell_42 : decode cL_cell 42 = .ok (.ixor, 1) := by decide +kernel
theorem dL_cell_43 : decode cL_cell 43 = .ok (.ireturn, 1) := by decide +kernel
theorem dL_pick_0 : decode cL_pick 0 = .ok (.aload_n 0, 1) := by decide +kernel
theorem dL_pick_1 : decode cL_pick 1 = .ok (.iload_n 1, 1) := by decide +kernel
theorem dL_pick_2 : decode cL_pick 2 = .ok (.invokestatic 9, 3) := by decide +kernel
theorem dL_pick_5 : decode cL_pick 5 = .ok (.bipush 8, 2) := by decide +kernel
theorem dL_pick_7 : decode cL_pick 7 = .ok (.iushr, 1) := by decide +kernel
theorem dL_pick_8 : decode cL_pick 8 = .ok (.iload_n 2, 1) := by decide +kernel
theorem dL_pick_9 : decode cL_pick 9 = .ok (.irem, 1) := by decide +kernel
theorem dL_pick_10 : decode cL_pick 10 = .ok (.ireturn, 1) := by decide +kernel
theorem dL_prime_0 : decode cL_prime 0 = .ok (.iload_n 0, 1) := by decide +kernel
theorem dL_prime_1 : decode cL_prime 1 = .ok (.tableswitch 54 0 5 #[39, 41, 43, 45, 48, 51], 39) := by decide +kernel
theorem dL_prime_40 : decode cL_prime 40 = .ok (.iconst 2, 1) := by decide +kernel
theorem dL_prime_41 : decode cL_prime 41 = .ok (.ireturn, 1) := by decide +kernel
theorem dL_prime_42 : decode cL_prime 42 = .ok (.iconst 3, 1) := by decide +kernel
theorem dL_prime_43 : decode cL_prime 43 = .ok (.ireturn, 1) := by decide +kernel
theorem dL_prime_44 : decode cL_prime 44 = .ok (.iconst 5, 1) := by decide +kernel
theorem dL_prime_45 : decode cL_prime 45 = .ok (.ireturn, 1) := by decide +kernel
theorem dL_prime_46 : decode cL_prime 46 = .ok (.bipush 7, 2) := by decide +kernel
theorem dL_prime_48 : decode cL_prime 48 = .ok (.ireturn, 1) := by decide +kernel
theorem dL_prime_49 : decode cL_prime 49 = .ok (.bipush 11, 2) := by decide +kernel
theorem dL_prime_51 : decode cL_prime 51 = .ok (.ireturn, 1) := by decide +kernel
theorem dL_prime_52 : decode cL_prime 52 = .ok (.bipush 23, 2) := by decide +kernel
theorem dL_prime_54 : decode cL_prime 54 = .ok (.ireturn, 1) := by decide +kernel
theorem dL_prime_55 : decode cL_prime 55 = .ok (.bipush 31, 2) := by decide +kernel
theorem dL_prime_57 : decode cL_prime 57 = .ok (.ireturn, 1) := by decide +kernel
theorem dL_addPoints_0 : decode cL_addPoints 0 = .ok (.aload_n 0, 1) := by decide +kernel
theorem dL_addPoints_1 : decode cL_addPoints 1 = .ok (.aload_n 1, 1) := by decide +kernel
theorem dL_addPoints_2 : decode cL_addPoints 2 = .ok (.iload_n 2, 1) := by decide +kernel
theorem dL_addPoints_3 : decode cL_addPoints 3 = .ok (.bipush 7, 2) := by decide +kernel
theorem dL_addPoints_5 : decode cL_addPoints 5 = .ok (.invokestatic 15, 3) := by decide +kernel
theorem dL_addPoints_8 : decode cL_addPoints 8 = .ok (.invokestatic 19, 3) := by decide +kernel
theorem dL_addPoints_11 : decode cL_addPoints 11 = .ok (.invokevirtual 23, 3) := by decide +kernel
theorem dL_addPoints_14 : decode cL_addPoints 14 = .ok (.pop, 1) := by decide +kernel
theorem dL_addPoints_15 : decode cL_addPoints 15 = .ok (.aload_n 1, 1) := by decide +kernel
theorem dL_addPoints_16 : decode cL_addPoints 16 = .ok (.iload_n 2, 1) := by decide +kernel
theorem dL_addPoints_17 : decode cL_addPoints 17 = .ok (.iconst 1, 1) := by decide +kernel
theorem dL_addPoints_18 : decode cL_addPoints 18 = .ok (.iadd, 1) := by decide +kernel
theorem dL_addPoints_19 : decode cL_addPoints 19 = .ok (.bipush 10, 2) := by decide +kernel
theorem dL_addPoints_21 : decode cL_addPoints 21 = .ok (.invokestatic 15, 3) := by decide +kernel
theorem dL_addPoints_24 : decode cL_addPoints 24 = .ok (.istore_n 3, 1) := by decide +kernel
theorem dL_addPoints_25 : decode cL_addPoints 25 = .ok (.iconst 0, 1) := by decide +kernel
theorem dL_addPoints_26 : decode cL_addPoints 26 = .ok (.istore 4, 2) := by decide +kernel
theorem dL_addPoints_28 : decode cL_addPoints 28 = .ok (.iload 4, 2) := by decide +kernel
theorem dL_addPoints_30 : decode cL_addPoints 30 = .ok (.iload_n 3, 1) := by decide +kernel
theorem dL_addPoints_31 : decode cL_addPoints 31 = .ok (.if_icmp .ge 46, 3) := by decide +kernel
theorem dL_addPoints_34 : decode cL_addPoints 34 = .ok (.aload_n 0, 1) := by decide +kernel
theorem dL_addPoints_35 : decode cL_addPoints 35 = .ok (.aload_n 1, 1) := by decide +kernel
theorem dL_addPoints_36 : decode cL_addPoints 36 = .ok (.iload_n 2, 1) := by decide +kernel
theorem dL_addPoints_37 : decode cL_addPoints 37 = .ok (.iconst 2, 1) := by decide +kernel
theorem dL_addPoints_38 : decode cL_addPoints 38 = .ok (.iadd, 1) := by decide +kernel
theorem dL_addPoints_39 : decode cL_addPoints 39 = .ok (.iconst 2, 1) := by decide +kernel
theorem dL_addPoints_40 : decode cL_addPoints 40 = .ok (.iload 4, 2) := by decide +kernel
theorem dL_addPoints_42 : decode cL_addPoints 42 = .ok (.imul, 1) := by decide +kernel
theorem dL_addPoints_43 : decode cL_addPoints 43 = .ok (.iadd, 1) := by decide +kernel
theorem dL_addPoints_44 : decode cL_addPoints 44 = .ok (.aload_n 0, 1) := by decide +kernel
theorem dL_addPoints_45 : decode cL_addPoints 45 = .ok (.invokevirtual 28, 3) := by decide +kernel
theorem dL_addPoints_48 : decode cL_addPoints 48 = .ok (.invokestatic 15, 3) := by decide +kernel
theorem dL_addPoints_51 : decode cL_addPoints 51 = .ok (.aload_n 1, 1) := by decide +kernel
theorem dL_addPoints_52 : decode cL_addPoints 52 = .ok (.iload_n 2, 1) := by decide +kernel
theorem dL_addPoints_53 : decode cL_addPoints 53 = .ok (.iconst 3, 1) := by decide +kernel
theorem dL_addPoints_54 : decode cL_addPoints 54 = .ok (.iadd, 1) := by decide +kernel
theorem dL_addPoints_55 : decode cL_addPoints 55 = .ok (.iconst 2, 1) := by decide +kernel
theorem dL_addPoints_56 : decode cL_addPoints 56 = .ok (.iload 4, 2) := by decide +kernel
theorem dL_addPoints_58 : decode cL_addPoints 58 = .ok (.imul, 1) := by decide +kernel
theorem dL_addPoints_59 : decode cL_addPoints 59 = .ok (.iadd, 1) := by decide +kernel
theorem dL_addPoints_60 : decode cL_addPoints 60 = .ok (.aload_n 0, 1) := by decide +kernel
theorem dL_addPoints_61 : decode cL_addPoints 61 = .ok (.invokevirtual 28, 3) := by decide +kernel
theorem dL_addPoints_64 : decode cL_addPoints 64 = .ok (.invokestatic 15, 3) := by decide +kernel
theorem dL_addPoints_67 : decode cL_addPoints 67 = .ok (.invokevirtual 31, 3) := by decide +kernel
theorem dL_addPoints_70 : decode cL_addPoints 70 = .ok (.pop, 1) := by decide +kernel
theorem dL_addPoints_71 : decode cL_addPoints 71 = .ok (.iinc 4 1, 3) := by decide +kernel
theorem dL_addPoints_74 : decode cL_addPoints 74 = .ok (.goto (-46), 3) := by decide +kernel
theorem dL_addPoints_77 : decode cL_addPoints 77 = .ok (.return_, 1) := by decide +kernel
theorem dL_isStandard_0 : decode cL_isStandard 0 = .ok (.iload_n 3, 1) := by decide +kernel
theorem dL_isStandard_1 : decode cL_isStandard 1 = .ok (.aload_n 0, 1) := by decide +kernel
theorem dL_isStandard_2 : decode cL_isStandard 2 = .ok (.iload_n 1, 1) := by decide +kernel
theorem dL_isStandard_3 : decode cL_isStandard 3 = .ok (.iload_n 2, 1) := by decide +kernel
theorem dL_isStandard_4 : decode cL_isStandard 4 = .ok (.invokevirtual 53, 3) := by decide +kernel
theorem dL_isStandard_7 : decode cL_isStandard 7 = .ok (.if_icmp .ge 7, 3) := by decide +kernel
theorem dL_isStandard_10 : decode cL_isStandard 10 = .ok (.iconst 1, 1) := by decide +kernel
theorem dL_isStandard_11 : decode cL_isStandard 11 = .ok (.goto 4, 3) := by decide +kernel
theorem dL_isStandard_14 : decode cL_isStandard 14 = .ok (.iconst 0, 1) := by decide +kernel
theorem dL_isStandard_15 : decode cL_isStandard 15 = .ok (.ireturn, 1) := by decide +kernel
theorem dL_isBasisGood_0 : decode cL_isBasisGood 0 = .ok (.aload_n 0, 1) := by decide +kernel
theorem dL_isBasisGood_1 : decode cL_isBasisGood 1 = .ok (.iload_n 1, 1) := by decide +kernel
theorem dL_isBasisGood_2 : decode cL_isBasisGood 2 = .ok (.iload_n 2, 1) := by decide +kernel
theorem dL_isBasisGood_3 : decode cL_isBasisGood 3 = .ok (.invokevirtual 56, 3) := by decide +kernel
theorem dL_isBasisGood_6 : decode cL_isBasisGood 6 = .ok (.istore_n 3, 1) := by decide +kernel
theorem dL_isBasisGood_7 : decode cL_isBasisGood 7 = .ok (.aload_n 0, 1) := by decide +kernel
theorem dL_isBasisGood_8 : decode cL_isBasisGood 8 = .ok (.iload_n 1, 1) := by decide +kernel
theorem dL_isBasisGood_9 : decode cL_isBasisGood 9 = .ok (.iload_n 2, 1) := by decide +kernel
theorem dL_isBasisGood_10 : decode cL_isBasisGood 10 = .ok (.iload_n 3, 1) := by decide +kernel
theorem dL_isBasisGood_11 : decode cL_isBasisGood 11 = .ok (.bipush 10, 2) := by decide +kernel
theorem dL_isBasisGood_13 : decode cL_isBasisGood 13 = .ok (.idiv, 1) := by decide +kernel
theorem dL_isBasisGood_14 : decode cL_isBasisGood 14 = .ok (.iload_n 3, 1) := by decide +kernel
theorem dL_isBasisGood_15 : decode cL_isBasisGood 15 = .ok (.bipush 10, 2) := by decide +kernel
theorem dL_isBasisGood_17 : decode cL_isBasisGood 17 = .ok (.irem, 1) := by decide +kernel
theorem dL_isBasisGood_18 : decode cL_isBasisGood 18 = .ok (.invokevirtual 59, 3) := by decide +kernel
theorem dL_isBasisGood_21 : decode cL_isBasisGood 21 = .ok (.iconst 1, 1) := by decide +kernel
theorem dL_isBasisGood_22 : decode cL_isBasisGood 22 = .ok (.if_icmp .ne 23, 3) := by decide +kernel
theorem dL_isBasisGood_25 : decode cL_isBasisGood 25 = .ok (.aload_n 0, 1) := by decide +kernel
theorem dL_isBasisGood_26 : decode cL_isBasisGood 26 = .ok (.iload_n 1, 1) := by decide +kernel
theorem dL_isBasisGood_27 : decode cL_isBasisGood 27 = .ok (.iload_n 3, 1) := by decide +kernel
theorem dL_isBasisGood_28 : decode cL_isBasisGood 28 = .ok (.bipush 10, 2) := by decide +kernel
theorem dL_isBasisGood_30 : decode cL_isBasisGood 30 = .ok (.idiv, 1) := by decide +kernel
theorem dL_isBasisGood_31 : decode cL_isBasisGood 31 = .ok (.iload_n 3, 1) := by decide +kernel
theorem dL_isBasisGood_32 : decode cL_isBasisGood 32 = .ok (.bipush 10, 2) := by decide +kernel
theorem dL_isBasisGood_34 : decode cL_isBasisGood 34 = .ok (.irem, 1) := by decide +kernel
theorem dL_isBasisGood_35 : decode cL_isBasisGood 35 = .ok (.invokestatic 63, 3) := by decide +kernel
theorem dL_isBasisGood_38 : decode cL_isBasisGood 38 = .ok (.ifCond .ne 7, 3) := by decide +kernel
theorem dL_isBasisGood_41 : decode cL_isBasisGood 41 = .ok (.iconst 1, 1) := by decide +kernel
theorem dL_isBasisGood_42 : decode cL_isBasisGood 42 = .ok (.goto 4, 3) := by decide +kernel
theorem dL_isBasisGood_45 : decode cL_isBasisGood 45 = .ok (.iconst 0, 1) := by decide +kernel
theorem dL_isBasisGood_46 : decode cL_isBasisGood 46 = .ok (.istore 4, 2) := by decide +kernel
theorem dL_isBasisGood_48 : decode cL_isBasisGood 48 = .ok (.iload 4, 2) := by decide +kernel
theorem dL_isBasisGood_50 : decode cL_isBasisGood 50 = .ok (.ifCond .eq 57, 3) := by decide +kernel
theorem dL_isBasisGood_53 : decode cL_isBasisGood 53 = .ok (.iload_n 3, 1) := by decide +kernel
theorem dL_isBasisGood_54 : decode cL_isBasisGood 54 = .ok (.bipush 10, 2) := by decide +kernel
theorem dL_isBasisGood_56 : decode cL_isBasisGood 56 = .ok (.idiv, 1) := by decide +kernel
theorem dL_isBasisGood_57 : decode cL_isBasisGood 57 = .ok (.ifCond .eq 21, 3) := by decide +kernel
theorem dL_isBasisGood_60 : decode cL_isBasisGood 60 = .ok (.aload_n 0, 1) := by decide +kernel
theorem dL_isBasisGood_61 : decode cL_isBasisGood 61 = .ok (.iload_n 1, 1) := by decide +kernel
theorem dL_isBasisGood_62 : decode cL_isBasisGood 62 = .ok (.iload_n 3, 1) := by decide +kernel
theorem dL_isBasisGood_63 : decode cL_isBasisGood 63 = .ok (.bipush 10, 2) := by decide +kernel
theorem dL_isBasisGood_65 : decode cL_isBasisGood 65 = .ok (.idiv, 1) := by decide +kernel
theorem dL_isBasisGood_66 : decode cL_isBasisGood 66 = .ok (.iconst 1, 1) := by decide +kernel
theorem dL_isBasisGood_67 : decode cL_isBasisGood 67 = .ok (.isub, 1) := by decide +kernel
theorem dL_isBasisGood_68 : decode cL_isBasisGood 68 = .ok (.iload_n 3, 1) := by decide +kernel
theorem dL_isBasisGood_69 : decode cL_isBasisGood 69 = .ok (.bipush 10, 2) := by decide +kernel
theorem dL_isBasisGood_71 : decode cL_isBasisGood 71 = .ok (.irem, 1) := by decide +kernel
theorem dL_isBasisGood_72 : decode cL_isBasisGood 72 = .ok (.invokestatic 63, 3) := by decide +kernel
theorem dL_isBasisGood_75 : decode cL_isBasisGood 75 = .ok (.ifCond .eq 32, 3) := by decide +kernel
theorem dL_isBasisGood_78 : decode cL_isBasisGood 78 = .ok (.iload_n 3, 1) := by decide +kernel
theorem dL_isBasisGood_79 : decode cL_isBasisGood 79 = .ok (.bipush 10, 2) := by decide +kernel
theorem dL_isBasisGood_81 : decode cL_isBasisGood 81 = .ok (.irem, 1) := by decide +kernel
theorem dL_isBasisGood_82 : decode cL_isBasisGood 82 = .ok (.ifCond .eq 21, 3) := by decide +kernel
theorem dL_isBasisGood_85 : decode cL_isBasisGood 85 = .ok (.aload_n 0, 1) := by decide +kernel
theorem dL_isBasisGood_86 : decode cL_isBasisGood 86 = .ok (.iload_n 1, 1) := by decide +kernel
theorem dL_isBasisGood_87 : decode cL_isBasisGood 87 = .ok (.iload_n 3, 1) := by decide +kernel
theorem dL_isBasisGood_88 : decode cL_isBasisGood 88 = .ok (.bipush 10, 2) := by decide +kernel
theorem dL_isBasisGood_90 : decode cL_isBasisGood 90 = .ok (.idiv, 1) := by decide +kernel
theorem dL_isBasisGood_91 : decode cL_isBasisGood 91 = .ok (.iload_n 3, 1) := by decide +kernel
theorem dL_isBasisGood_92 : decode cL_isBasisGood 92 = .ok (.bipush 10, 2) := by decide +kernel
theorem dL_isBasisGood_94 : decode cL_isBasisGood 94 = .ok (.irem, 1) := by decide +kernel
theorem dL_isBasisGood_95 : decode cL_isBasisGood 95 = .ok (.iconst 1, 1) := by decide +kernel
theorem dL_isBasisGood_96 : decode cL_isBasisGood 96 = .ok (.isub, 1) := by decide +kernel
theorem dL_isBasisGood_97 : decode cL_isBasisGood 97 = .ok (.invokestatic 63, 3) := by decide +kernel
theorem dL_isBasisGood_100 : decode cL_isBasisGood 100 = .ok (.ifCond .eq 7, 3) := by decide +kernel
theorem dL_isBasisGood_103 : decode cL_isBasisGood 103 = .ok (.iconst 1, 1) := by decide +kernel
theorem dL_isBasisGood_104 : decode cL_isBasisGood 104 = .ok (.goto 4, 3) := by decide +kernel
theorem dL_isBasisGood_107 : decode cL_isBasisGood 107 = .ok (.iconst 0, 1) := by decide +kernel
theorem dL_isBasisGood_108 : decode cL_isBasisGood 108 = .ok (.istore 4, 2) := by decide +kernel
theorem dL_isBasisGood_110 : decode cL_isBasisGood 110 = .ok (.iconst 0, 1) := by decide +kernel
theorem dL_isBasisGood_111 : decode cL_isBasisGood 111 = .ok (.istore 5, 2) := by decide +kernel
theorem dL_isBasisGood_113 : decode cL_isBasisGood 113 = .ok (.iconst 0, 1) := by decide +kernel
theorem dL_isBasisGood_114 : decode cL_isBasisGood 114 = .ok (.istore 6, 2) := by decide +kernel
theorem dL_isBasisGood_116 : decode cL_isBasisGood 116 = .ok (.iload 6, 2) := by decide +kernel
theorem dL_isBasisGood_118 : decode cL_isBasisGood 118 = .ok (.bipush 81, 2) := by decide +kernel
theorem dL_isBasisGood_120 : decode cL_isBasisGood 120 = .ok (.if_icmp .ge 109, 3) := by decide +kernel
theorem dL_isBasisGood_123 : decode cL_isBasisGood 123 = .ok (.aload_n 0, 1) := by decide +kernel
theorem dL_isBasisGood_124 : decode cL_isBasisGood 124 = .ok (.iload_n 1, 1) := by decide +kernel
theorem dL_isBasisGood_125 : decode cL_isBasisGood 125 = .ok (.iload_n 2, 1) := by decide +kernel
theorem dL_isBasisGood_126 : decode cL_isBasisGood 126 = .ok (.iload 6, 2) := by decide +kernel
theorem dL_isBasisGood_128 : decode cL_isBasisGood 128 = .ok (.bipush 9, 2) := by decide +kernel
theorem dL_isBasisGood_130 : decode cL_isBasisGood 130 = .ok (.idiv, 1) := by decide +kernel
theorem dL_isBasisGood_131 : decode cL_isBasisGood 131 = .ok (.iload 6, 2) := by decide +kernel
theorem dL_isBasisGood_133 : decode cL_isBasisGood 133 = .ok (.bipush 9, 2) := by decide +kernel
theorem dL_isBasisGood_135 : decode cL_isBasisGood 135 = .ok (.irem, 1) := by decide +kernel
theorem dL_isBasisGood_136 : decode cL_isBasisGood 136 = .ok (.invokevirtual 59, 3) := by decide +kernel
theorem dL_isBasisGood_139 : decode cL_isBasisGood 139 = .ok (.istore 7, 2) := by decide +kernel
theorem dL_isBasisGood_141 : decode cL_isBasisGood 141 = .ok (.iload 5, 2) := by decide +kernel
theorem dL_isBasisGood_143 : decode cL_isBasisGood 143 = .ok (.iload 7, 2) := by decide +kernel
theorem dL_isBasisGood_145 : decode cL_isBasisGood 145 = .ok (.ifCond .eq 7, 3) := by decide +kernel
theorem dL_isBasisGood_148 : decode cL_isBasisGood 148 = .ok (.iconst 1, 1) := by decide +kernel
theorem dL_isBasisGood_149 : decode cL_isBasisGood 149 = .ok (.goto 4, 3) := by decide +kernel
theorem dL_isBasisGood_152 : decode cL_isBasisGood 152 = .ok (.iconst 0, 1) := by decide +kernel
theorem dL_isBasisGood_153 : decode cL_isBasisGood 153 = .ok (.iadd, 1) := by decide +kernel
theorem dL_isBasisGood_154 : decode cL_isBasisGood 154 = .ok (.istore 5, 2) := by decide +kernel
theorem dL_isBasisGood_156 : decode cL_isBasisGood 156 = .ok (.iload 4, 2) := by decide +kernel
theorem dL_isBasisGood_158 : decode cL_isBasisGood 158 = .ok (.ifCond .eq 62, 3) := by decide +kernel
theorem dL_isBasisGood_161 : decode cL_isBasisGood 161 = .ok (.iload 7, 2) := by decide +kernel
theorem dL_isBasisGood_163 : decode cL_isBasisGood 163 = .ok (.ifCond .lt 57, 3) := by decide +kernel
theorem dL_isBasisGood_166 : decode cL_isBasisGood 166 = .ok (.iload 7, 2) := by decide +kernel
theorem dL_isBasisGood_168 : decode cL_isBasisGood 168 = .ok (.aload_n 0, 1) := by decide +kernel
theorem dL_isBasisGood_169 : decode cL_isBasisGood 169 = .ok (.invokevirtual 28, 3) := by decide +kernel
theorem dL_isBasisGood_172 : decode cL_isBasisGood 172 = .ok (.if_icmp .ge 48, 3) := by decide +kernel
theorem dL_isBasisGood_175 : decode cL_isBasisGood 175 = .ok (.iload 7, 2) := by decide +kernel
theorem dL_isBasisGood_177 : decode cL_isBasisGood 177 = .ok (.ifCond .eq 39, 3) := by decide +kernel
theorem dL_isBasisGood_180 : decode cL_isBasisGood 180 = .ok (.bipush 10, 2) := by decide +kernel
theorem dL_isBasisGood_182 : decode cL_isBasisGood 182 = .ok (.iload 6, 2) := by decide +kernel
theorem dL_isBasisGood_184 : decode cL_isBasisGood 184 = .ok (.bipush 9, 2) := by decide +kernel
theorem dL_isBasisGood_186 : decode cL_isBasisGood 186 = .ok (.idiv, 1) := by decide +kernel
theorem dL_isBasisGood_187 : decode cL_isBasisGood 187 = .ok (.imul, 1) := by decide +kernel
theorem dL_isBasisGood_188 : decode cL_isBasisGood 188 = .ok (.iload 6, 2) := by decide +kernel
theorem dL_isBasisGood_190 : decode cL_isBasisGood 190 = .ok (.bipush 9, 2) := by decide +kernel
theorem dL_isBasisGood_192 : decode cL_isBasisGood 192 = .ok (.irem, 1) := by decide +kernel
theorem dL_isBasisGood_193 : decode cL_isBasisGood 193 = .ok (.iadd, 1) := by decide +kernel
theorem dL_isBasisGood_194 : decode cL_isBasisGood 194 = .ok (.iload_n 3, 1) := by decide +kernel
theorem dL_isBasisGood_195 : decode cL_isBasisGood 195 = .ok (.if_icmp .eq 21, 3) := by decide +kernel
theorem dL_isBasisGood_198 : decode cL_isBasisGood 198 = .ok (.aload_n 0, 1) := by decide +kernel
theorem dL_isBasisGood_199 : decode cL_isBasisGood 199 = .ok (.iload_n 1, 1) := by decide +kernel
theorem dL_isBasisGood_200 : decode cL_isBasisGood 200 = .ok (.iload 6, 2) := by decide +kernel
theorem dL_isBasisGood_202 : decode cL_isBasisGood 202 = .ok (.bipush 9, 2) := by decide +kernel
theorem dL_isBasisGood_204 : decode cL_isBasisGood 204 = .ok (.idiv, 1) := by decide +kernel
theorem dL_isBasisGood_205 : decode cL_isBasisGood 205 = .ok (.iload 6, 2) := by decide +kernel
theorem dL_isBasisGood_207 : decode cL_isBasisGood 207 = .ok (.bipush 9, 2) := by decide +kernel
theorem dL_isBasisGood_209 : decode cL_isBasisGood 209 = .ok (.irem, 1) := by decide +kernel
theorem dL_isBasisGood_210 : decode cL_isBasisGood 210 = .ok (.invokestatic 63, 3) := by decide +kernel
theorem dL_isBasisGood_213 : decode cL_isBasisGood 213 = .ok (.ifCond .eq 7, 3) := by decide +kernel
theorem dL_isBasisGood_216 : decode cL_isBasisGood 216 = .ok (.iconst 1, 1) := by decide +kernel
theorem dL_isBasisGood_217 : decode cL_isBasisGood 217 = .ok (.goto 4, 3) := by decide +kernel
theorem dL_isBasisGood_220 : decode cL_isBasisGood 220 = .ok (.iconst 0, 1) := by decide +kernel
theorem dL_isBasisGood_221 : decode cL_isBasisGood 221 = .ok (.istore 4, 2) := by decide +kernel
theorem dL_isBasisGood_223 : decode cL_isBasisGood 223 = .ok (.iinc 6 1, 3) := by decide +kernel
theorem dL_isBasisGood_226 : decode cL_isBasisGood 226 = .ok (.goto (-110), 3) := by decide +kernel
theorem dL_isBasisGood_229 : decode cL_isBasisGood 229 = .ok (.iload 4, 2) := by decide +kernel
theorem dL_isBasisGood_231 : decode cL_isBasisGood 231 = .ok (.ifCond .eq 35, 3) := by decide +kernel
theorem dL_isBasisGood_234 : decode cL_isBasisGood 234 = .ok (.aload_n 0, 1) := by decide +kernel
theorem dL_isBasisGood_235 : decode cL_isBasisGood 235 = .ok (.iload_n 1, 1) := by decide +kernel
theorem dL_isBasisGood_236 : decode cL_isBasisGood 236 = .ok (.iload_n 2, 1) := by decide +kernel
theorem dL_isBasisGood_237 : decode cL_isBasisGood 237 = .ok (.invokevirtual 67, 3) := by decide +kernel
theorem dL_isBasisGood_240 : decode cL_isBasisGood 240 = .ok (.iload 5, 2) := by decide +kernel
theorem dL_isBasisGood_242 : decode cL_isBasisGood 242 = .ok (.if_icmp .ne 24, 3) := by decide +kernel
theorem dL_isBasisGood_245 : decode cL_isBasisGood 245 = .ok (.aload_n 0, 1) := by decide +kernel
theorem dL_isBasisGood_246 : decode cL_isBasisGood 246 = .ok (.invokevirtual 70, 3) := by decide +kernel
theorem dL_isBasisGood_249 : decode cL_isBasisGood 249 = .ok (.iconst 1, 1) := by decide +kernel
theorem dL_isBasisGood_250 : decode cL_isBasisGood 250 = .ok (.if_icmp .ne 16, 3) := by decide +kernel
theorem dL_isBasisGood_253 : decode cL_isBasisGood 253 = .ok (.aload_n 0, 1) := by decide +kernel
theorem dL_isBasisGood_254 : decode cL_isBasisGood 254 = .ok (.invokevirtual 73, 3) := by decide +kernel
theorem dL_isBasisGood_257 : decode cL_isBasisGood 257 = .ok (.iload 5, 2) := by decide +kernel
theorem dL_isBasisGood_259 : decode cL_isBasisGood 259 = .ok (.if_icmp .ne 7, 3) := by decide +kernel
theorem dL_isBasisGood_262 : decode cL_isBasisGood 262 = .ok (.iconst 1, 1) := by decide +kernel
theorem dL_isBasisGood_263 : decode cL_isBasisGood 263 = .ok (.goto 4, 3) := by decide +kernel
theorem dL_isBasisGood_266 : decode cL_isBasisGood 266 = .ok (.iconst 0, 1) := by decide +kernel
theorem dL_isBasisGood_267 : decode cL_isBasisGood 267 = .ok (.ireturn, 1) := by decide +kernel
theorem dL_isConeGood_0 : decode cL_isConeGood 0 = .ok (.aload_n 0, 1) := by decide +kernel
theorem dL_isConeGood_1 : decode cL_isConeGood 1 = .ok (.iload_n 1, 1) := by decide +kernel
theorem dL_isConeGood_2 : decode cL_isConeGood 2 = .ok (.invokevirtual 76, 3) := by decide +kernel
theorem dL_isConeGood_5 : decode cL_isConeGood 5 = .ok (.istore_n 2, 1) := by decide +kernel
theorem dL_isConeGood_6 : decode cL_isConeGood 6 = .ok (.iconst 0, 1) := by decide +kernel
theorem dL_isConeGood_7 : decode cL_isConeGood 7 = .ok (.istore_n 3, 1) := by decide +kernel
theorem dL_isConeGood_8 : decode cL_isConeGood 8 = .ok (.iconst 0, 1) := by decide +kernel
theorem dL_isConeGood_9 : decode cL_isConeGood 9 = .ok (.istore 4, 2) := by decide +kernel
theorem dL_isConeGood_11 : decode cL_isConeGood 11 = .ok (.iload 4, 2) := by decide +kernel
theorem dL_isConeGood_13 : decode cL_isConeGood 13 = .ok (.bipush 9, 2) := by decide +kernel
theorem dL_isConeGood_15 : decode cL_isConeGood 15 = .ok (.if_icmp .ge 45, 3) := by decide +kernel
theorem dL_isConeGood_18 : decode cL_isConeGood 18 = .ok (.iload_n 3, 1) := by decide +kernel
theorem dL_isConeGood_19 : decode cL_isConeGood 19 = .ok (.aload_n 0, 1) := by decide +kernel
theorem dL_isConeGood_20 : decode cL_isConeGood 20 = .ok (.iload_n 1, 1) := by decide +kernel
theorem dL_isConeGood_21 : decode cL_isConeGood 21 = .ok (.iload 4, 2) := by decide +kernel
theorem dL_isConeGood_23 : decode cL_isConeGood 23 = .ok (.invokevirtual 53, 3) := by decide +kernel
theorem dL_isConeGood_26 : decode cL_isConeGood 26 = .ok (.iadd, 1) := by decide +kernel
theorem dL_isConeGood_27 : decode cL_isConeGood 27 = .ok (.istore_n 3, 1) := by decide +kernel
theorem dL_isConeGood_28 : decode cL_isConeGood 28 = .ok (.iload 4, 2) := by decide +kernel
theorem dL_isConeGood_30 : decode cL_isConeGood 30 = .ok (.ifCond .le 24, 3) := by decide +kernel
theorem dL_isConeGood_33 : decode cL_isConeGood 33 = .ok (.aload_n 0, 1) := by decide +kernel
theorem dL_isConeGood_34 : decode cL_isConeGood 34 = .ok (.iload_n 1, 1) := by decide +kernel
theorem dL_isConeGood_35 : decode cL_isConeGood 35 = .ok (.iload 4, 2) := by decide +kernel
theorem dL_isConeGood_37 : decode cL_isConeGood 37 = .ok (.invokevirtual 53, 3) := by decide +kernel
theorem dL_isConeGood_40 : decode cL_isConeGood 40 = .ok (.aload_n 0, 1) := by decide +kernel
theorem dL_isConeGood_41 : decode cL_isConeGood 41 = .ok (.iload_n 1, 1) := by decide +kernel
theorem dL_isConeGood_42 : decode cL_isConeGood 42 = .ok (.iload 4, 2) := by decide +kernel
theorem dL_isConeGood_44 : decode cL_isConeGood 44 = .ok (.iconst 1, 1) := by decide +kernel
theorem dL_isConeGood_45 : decode cL_isConeGood 45 = .ok (.isub, 1) := by decide +kernel
theorem dL_isConeGood_46 : decode cL_isConeGood 46 = .ok (.invokevirtual 53, 3) := by decide +kernel
theorem dL_isConeGood_49 : decode cL_isConeGood 49 = .ok (.if_icmp .le 5, 3) := by decide +kernel
theorem dL_isConeGood_52 : decode cL_isConeGood 52 = .ok (.iconst 0, 1) := by decide +kernel
theorem dL_isConeGood_53 : decode cL_isConeGood 53 = .ok (.ireturn, 1) := by decide +kernel
theorem dL_isConeGood_54 : decode cL_isConeGood 54 = .ok (.iinc 4 1, 3) := by decide +kernel
theorem dL_isConeGood_57 : decode cL_isConeGood 57 = .ok (.goto (-46), 3) := by decide +kernel
theorem dL_isConeGood_60 : decode cL_isConeGood 60 = .ok (.iload_n 2, 1) := by decide +kernel
theorem dL_isConeGood_61 : decode cL_isConeGood 61 = .ok (.iconst 1, 1) := by decide +kernel
theorem dL_isConeGood_62 : decode cL_isConeGood 62 = .ok (.if_icmp .lt 36, 3) := by decide +kernel
theorem dL_isConeGood_65 : decode cL_isConeGood 65 = .ok (.iload_n 3, 1) := by decide +kernel
theorem dL_isConeGood_66 : decode cL_isConeGood 66 = .ok (.aload_n 0, 1) := by decide +kernel
theorem dL_isConeGood_67 : decode cL_isConeGood 67 = .ok (.invokevirtual 39, 3) := by decide +kernel
theorem dL_isConeGood_70 : decode cL_isConeGood 70 = .ok (.if_icmp .ne 28, 3) := by decide +kernel
theorem dL_isConeGood_73 : decode cL_isConeGood 73 = .ok (.aload_n 0, 1) := by decide +kernel
theorem dL_isConeGood_74 : decode cL_isConeGood 74 = .ok (.iload_n 1, 1) := by decide +kernel
theorem dL_isConeGood_75 : decode cL_isConeGood 75 = .ok (.iload_n 2, 1) := by decide +kernel
theorem dL_isConeGood_76 : decode cL_isConeGood 76 = .ok (.invokevirtual 56, 3) := by decide +kernel
theorem dL_isConeGood_79 : decode cL_isConeGood 79 = .ok (.iconst (-1), 1) := by decide +kernel
theorem dL_isConeGood_80 : decode cL_isConeGood 80 = .ok (.if_icmp .ne 18, 3) := by decide +kernel
theorem dL_isConeGood_83 : decode cL_isConeGood 83 = .ok (.aload_n 0, 1) := by decide +kernel
theorem dL_isConeGood_84 : decode cL_isConeGood 84 = .ok (.iload_n 1, 1) := by decide +kernel
theorem dL_isConeGood_85 : decode cL_isConeGood 85 = .ok (.bipush 9, 2) := by decide +kernel
theorem dL_isConeGood_87 : decode cL_isConeGood 87 = .ok (.invokevirtual 53, 3) := by decide +kernel
theorem dL_isConeGood_90 : decode cL_isConeGood 90 = .ok (.iconst (-1), 1) := by decide +kernel
theorem dL_isConeGood_91 : decode cL_isConeGood 91 = .ok (.if_icmp .ne 7, 3) := by decide +kernel
theorem dL_isConeGood_94 : decode cL_isConeGood 94 = .ok (.iconst 1, 1) := by decide +kernel
theorem dL_isConeGood_95 : decode cL_isConeGood 95 = .ok (.goto 4, 3) := by decide +kernel
theorem dL_isConeGood_98 : decode cL_isConeGood 98 = .ok (.iconst 0, 1) := by decide +kernel
theorem dL_isConeGood_99 : decode cL_isConeGood 99 = .ok (.istore 4, 2) := by decide +kernel
theorem dL_isConeGood_101 : decode cL_isConeGood 101 = .ok (.iconst 0, 1) := by decide +kernel
theorem dL_isConeGood_102 : decode cL_isConeGood 102 = .ok (.istore 5, 2) := by decide +kernel
theorem dL_isConeGood_104 : decode cL_isConeGood 104 = .ok (.iload 5, 2) := by decide +kernel
theorem dL_isConeGood_106 : decode cL_isConeGood 106 = .ok (.iload_n 2, 1) := by decide +kernel
theorem dL_isConeGood_107 : decode cL_isConeGood 107 = .ok (.if_icmp .ge 61, 3) := by decide +kernel
theorem dL_isConeGood_110 : decode cL_isConeGood 110 = .ok (.iload 4, 2) := by decide +kernel
theorem dL_isConeGood_112 : decode cL_isConeGood 112 = .ok (.ifCond .eq 47, 3) := by decide +kernel
theorem dL_isConeGood_115 : decode cL_isConeGood 115 = .ok (.aload_n 0, 1) := by decide +kernel
theorem dL_isConeGood_116 : decode cL_isConeGood 116 = .ok (.iload_n 1, 1) := by decide +kernel
theorem dL_isConeGood_117 : decode cL_isConeGood 117 = .ok (.iload 5, 2) := by decide +kernel
theorem dL_isConeGood_119 : decode cL_isConeGood 119 = .ok (.invokestatic 79, 3) := by decide +kernel
theorem dL_isConeGood_122 : decode cL_isConeGood 122 = .ok (.ifCond .eq 37, 3) := by decide +kernel
theorem dL_isConeGood_125 : decode cL_isConeGood 125 = .ok (.iload 5, 2) := by decide +kernel
theorem dL_isConeGood_127 : decode cL_isConeGood 127 = .ok (.ifCond .eq 28, 3) := by decide +kernel
theorem dL_isConeGood_130 : decode cL_isConeGood 130 = .ok (.aload_n 0, 1) := by decide +kernel
theorem dL_isConeGood_131 : decode cL_isConeGood 131 = .ok (.iload_n 1, 1) := by decide +kernel
theorem dL_isConeGood_132 : decode cL_isConeGood 132 = .ok (.iload 5, 2) := by decide +kernel
theorem dL_isConeGood_134 : decode cL_isConeGood 134 = .ok (.invokevirtual 56, 3) := by decide +kernel
