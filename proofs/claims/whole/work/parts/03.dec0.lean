theorem dX0_init_0 : decode cX0_init 0 = .ok (.aload_n 0, 1) := by decide +kernel
theorem dX0_init_1 : decode cX0_init 1 = .ok (.invokespecial 3, 3) := by decide +kernel
theorem dX0_init_4 : decode cX0_init 4 = .ok (.aload_n 0, 1) := by decide +kernel
theorem dX0_init_5 : decode cX0_init 5 = .ok (.bipush 14, 2) := by decide +kernel
theorem dX0_init_7 : decode cX0_init 7 = .ok (.anewarray 9, 3) := by decide +kernel
theorem dX0_init_10 : decode cX0_init 10 = .ok (.putfield 11, 3) := by decide +kernel
theorem dX0_init_13 : decode cX0_init 13 = .ok (.aload_n 0, 1) := by decide +kernel
theorem dX0_init_14 : decode cX0_init 14 = .ok (.iconst 0, 1) := by decide +kernel
theorem dX0_init_15 : decode cX0_init 15 = .ok (.putfield 17, 3) := by decide +kernel
theorem dX0_init_18 : decode cX0_init 18 = .ok (.aload_n 0, 1) := by decide +kernel
theorem dX0_init_19 : decode cX0_init 19 = .ok (.iconst 0, 1) := by decide +kernel
theorem dX0_init_20 : decode cX0_init 20 = .ok (.putfield 21, 3) := by decide +kernel
theorem dX0_init_23 : decode cX0_init 23 = .ok (.iconst 0, 1) := by decide +kernel
theorem dX0_init_24 : decode cX0_init 24 = .ok (.istore_n 1, 1) := by decide +kernel
theorem dX0_init_25 : decode cX0_init 25 = .ok (.iload_n 1, 1) := by decide +kernel
theorem dX0_init_26 : decode cX0_init 26 = .ok (.bipush 14, 2) := by decide +kernel
theorem dX0_init_28 : decode cX0_init 28 = .ok (.if_icmp .ge 22, 3) := by decide +kernel
theorem dX0_init_31 : decode cX0_init 31 = .ok (.aload_n 0, 1) := by decide +kernel
theorem dX0_init_32 : decode cX0_init 32 = .ok (.getfield 11, 3) := by decide +kernel
theorem dX0_init_35 : decode cX0_init 35 = .ok (.iload_n 1, 1) := by decide +kernel
theorem dX0_init_36 : decode cX0_init 36 = .ok (.new 9, 3) := by decide +kernel
theorem dX0_init_39 : decode cX0_init 39 = .ok (.dup, 1) := by decide +kernel
theorem dX0_init_40 : decode cX0_init 40 = .ok (.invokespecial 24, 3) := by decide +kernel
theorem dX0_init_43 : decode cX0_init 43 = .ok (.aastore, 1) := by decide +kernel
theorem dX0_init_44 : decode cX0_init 44 = .ok (.iinc 1 1, 3) := by decide +kernel
theorem dX0_init_47 : decode cX0_init 47 = .ok (.goto (-22), 3) := by decide +kernel
theorem dX0_init_50 : decode cX0_init 50 = .ok (.return_, 1) := by decide +kernel
theorem dX0_remember_0 : decode cX0_remember 0 = .ok (.aload_n 0, 1) := by decide +kernel
theorem dX0_remember_1 : decode cX0_remember 1 = .ok (.getfield 21, 3) := by decide +kernel
theorem dX0_remember_4 : decode cX0_remember 4 = .ok (.bipush 14, 2) := by decide +kernel
theorem dX0_remember_6 : decode cX0_remember 6 = .ok (.if_icmp .ne 26, 3) := by decide +kernel
theorem dX0_remember_9 : decode cX0_remember 9 = .ok (.aload_n 0, 1) := by decide +kernel
theorem dX0_remember_10 : decode cX0_remember 10 = .ok (.aload_n 0, 1) := by decide +kernel
theorem dX0_remember_11 : decode cX0_remember 11 = .ok (.getfield 17, 3) := by decide +kernel
theorem dX0_remember_14 : decode cX0_remember 14 = .ok (.iconst 1, 1) := by decide +kernel
theorem dX0_remember_15 : decode cX0_remember 15 = .ok (.iadd, 1) := by decide +kernel
theorem dX0_remember_16 : decode cX0_remember 16 = .ok (.bipush 14, 2) := by decide +kernel
theorem dX0_remember_18 : decode cX0_remember 18 = .ok (.irem, 1) := by decide +kernel
theorem dX0_remember_19 : decode cX0_remember 19 = .ok (.putfield 17, 3) := by decide +kernel
theorem dX0_remember_22 : decode cX0_remember 22 = .ok (.aload_n 0, 1) := by decide +kernel
theorem dX0_remember_23 : decode cX0_remember 23 = .ok (.dup, 1) := by decide +kernel
theorem dX0_remember_24 : decode cX0_remember 24 = .ok (.getfield 21, 3) := by decide +kernel
theorem dX0_remember_27 : decode cX0_remember 27 = .ok (.iconst 1, 1) := by decide +kernel
theorem dX0_remember_28 : decode cX0_remember 28 = .ok (.isub, 1) := by decide +kernel
theorem dX0_remember_29 : decode cX0_remember 29 = .ok (.putfield 21, 3) := by decide +kernel
theorem dX0_remember_32 : decode cX0_remember 32 = .ok (.aload_n 0, 1) := by decide +kernel
theorem dX0_remember_33 : decode cX0_remember 33 = .ok (.getfield 11, 3) := by decide +kernel
theorem dX0_remember_36 : decode cX0_remember 36 = .ok (.aload_n 0, 1) := by decide +kernel
theorem dX0_remember_37 : decode cX0_remember 37 = .ok (.getfield 17, 3) := by decide +kernel
theorem dX0_remember_40 : decode cX0_remember 40 = .ok (.aload_n 0, 1) := by decide +kernel
theorem dX0_remember_41 : decode cX0_remember 41 = .ok (.getfield 21, 3) := by decide +kernel
theorem dX0_remember_44 : decode cX0_remember 44 = .ok (.iadd, 1) := by decide +kernel
theorem dX0_remember_45 : decode cX0_remember 45 = .ok (.bipush 14, 2) := by decide +kernel
theorem dX0_remember_47 : decode cX0_remember 47 = .ok (.irem, 1) := by decide +kernel
theorem dX0_remember_48 : decode cX0_remember 48 = .ok (.aaload, 1) := by decide +kernel
theorem dX0_remember_49 : decode cX0_remember 49 = .ok (.aload_n 1, 1) := by decide +kernel
theorem dX0_remember_50 : decode cX0_remember 50 = .ok (.invokevirtual 25, 3) := by decide +kernel
theorem dX0_remember_53 : decode cX0_remember 53 = .ok (.aload_n 0, 1) := by decide +kernel
theorem dX0_remember_54 : decode cX0_remember 54 = .ok (.dup, 1) := by decide +kernel
theorem dX0_remember_55 : decode cX0_remember 55 = .ok (.getfield 21, 3) := by decide +kernel
theorem dX0_remember_58 : decode cX0_remember 58 = .ok (.iconst 1, 1) := by decide +kernel
theorem dX0_remember_59 : decode cX0_remember 59 = .ok (.iadd, 1) := by decide +kernel
theorem dX0_remember_60 : decode cX0_remember 60 = .ok (.putfield 21, 3) := by decide +kernel
theorem dX0_remember_63 : decode cX0_remember 63 = .ok (.return_, 1) := by decide +kernel
theorem dX0_takeBack_0 : decode cX0_takeBack 0 = .ok (.aload_n 0, 1) := by decide +kernel
theorem dX0_takeBack_1 : decode cX0_takeBack 1 = .ok (.getfield 21, 3) := by decide +kernel
theorem dX0_takeBack_4 : decode cX0_takeBack 4 = .ok (.ifCond .le 34, 3) := by decide +kernel
theorem dX0_takeBack_7 : decode cX0_takeBack 7 = .ok (.aload_n 0, 1) := by decide +kernel
theorem dX0_takeBack_8 : decode cX0_takeBack 8 = .ok (.dup, 1) := by decide +kernel
theorem dX0_takeBack_9 : decode cX0_takeBack 9 = .ok (.getfield 21, 3) := by decide +kernel
theorem dX0_takeBack_12 : decode cX0_takeBack 12 = .ok (.iconst 1, 1) := by decide +kernel
theorem dX0_takeBack_13 : decode cX0_takeBack 13 = .ok (.isub, 1) := by decide +kernel
theorem dX0_takeBack_14 : decode cX0_takeBack 14 = .ok (.putfield 21, 3) := by decide +kernel
theorem dX0_takeBack_17 : decode cX0_takeBack 17 = .ok (.aload_n 1, 1) := by decide +kernel
theorem dX0_takeBack_18 : decode cX0_takeBack 18 = .ok (.aload_n 0, 1) := by decide +kernel
theorem dX0_takeBack_19 : decode cX0_takeBack 19 = .ok (.getfield 11, 3) := by decide +kernel
theorem dX0_takeBack_22 : decode cX0_takeBack 22 = .ok (.aload_n 0, 1) := by decide +kernel
theorem dX0_takeBack_23 : decode cX0_takeBack 23 = .ok (.getfield 17, 3) := by decide +kernel
theorem dX0_takeBack_26 : decode cX0_takeBack 26 = .ok (.aload_n 0, 1) := by decide +kernel
theorem dX0_takeBack_27 : decode cX0_takeBack 27 = .ok (.getfield 21, 3) := by decide +kernel
theorem dX0_takeBack_30 : decode cX0_takeBack 30 = .ok (.iadd, 1) := by decide +kernel
theorem dX0_takeBack_31 : decode cX0_takeBack 31 = .ok (.bipush 14, 2) := by decide +kernel
theorem dX0_takeBack_33 : decode cX0_takeBack 33 = .ok (.irem, 1) := by decide +kernel
theorem dX0_takeBack_34 : decode cX0_takeBack 34 = .ok (.aaload, 1) := by decide +kernel
theorem dX0_takeBack_35 : decode cX0_takeBack 35 = .ok (.invokevirtual 25, 3) := by decide +kernel
theorem dX0_takeBack_38 : decode cX0_takeBack 38 = .ok (.return_, 1) := by decide +kernel
theorem dX0_forgetAll_0 : decode cX0_forgetAll 0 = .ok (.aload_n 0, 1) := by decide +kernel
theorem dX0_forgetAll_1 : decode cX0_forgetAll 1 = .ok (.iconst 0, 1) := by decide +kernel
theorem dX0_forgetAll_2 : decode cX0_forgetAll 2 = .ok (.putfield 21, 3) := by decide +kernel
theorem dX0_forgetAll_5 : decode cX0_forgetAll 5 = .ok (.return_, 1) := by decide +kernel
theorem dX1_init_0 : decode cX1_init 0 = .ok (.aload_n 0, 1) := by decide +kernel
theorem dX1_init_1 : decode cX1_init 1 = .ok (.invokespecial 3, 3) := by decide +kernel
theorem dX1_init_4 : decode cX1_init 4 = .ok (.aload_n 0, 1) := by decide +kernel
theorem dX1_init_5 : decode cX1_init 5 = .ok (.bipush 6, 2) := by decide +kernel
theorem dX1_init_7 : decode cX1_init 7 = .ok (.bipush 6, 2) := by decide +kernel
theorem dX1_init_9 : decode cX1_init 9 = .ok (.multianewarray 9 2, 4) := by decide +kernel
theorem dX1_init_13 : decode cX1_init 13 = .ok (.putfield 11, 3) := by decide +kernel
theorem dX1_init_16 : decode cX1_init 16 = .ok (.aload_n 0, 1) := by decide +kernel
theorem dX1_init_17 : decode cX1_init 17 = .ok (.bipush 6, 2) := by decide +kernel
theorem dX1_init_19 : decode cX1_init 19 = .ok (.bipush 6, 2) := by decide +kernel
theorem dX1_init_21 : decode cX1_init 21 = .ok (.multianewarray 9 2, 4) := by decide +kernel
theorem dX1_init_25 : decode cX1_init 25 = .ok (.putfield 16, 3) := by decide +kernel
theorem dX1_init_28 : decode cX1_init 28 = .ok (.aload_n 0, 1) := by decide +kernel
theorem dX1_init_29 : decode cX1_init 29 = .ok (.bipush 6, 2) := by decide +kernel
theorem dX1_init_31 : decode cX1_init 31 = .ok (.newarray .long, 2) := by decide +kernel
theorem dX1_init_33 : decode cX1_init 33 = .ok (.putfield 19, 3) := by decide +kernel
theorem dX1_init_36 : decode cX1_init 36 = .ok (.aload_n 0, 1) := by decide +kernel
theorem dX1_init_37 : decode cX1_init 37 = .ok (.iconst 0, 1) := by decide +kernel
theorem dX1_init_38 : decode cX1_init 38 = .ok (.putfield 23, 3) := by decide +kernel
theorem dX1_init_41 : decode cX1_init 41 = .ok (.aload_n 0, 1) := by decide +kernel
theorem dX1_init_42 : decode cX1_init 42 = .ok (.iconst 1, 1) := by decide +kernel
theorem dX1_init_43 : decode cX1_init 43 = .ok (.putfield 27, 3) := by decide +kernel
theorem dX1_init_46 : decode cX1_init 46 = .ok (.aload_n 0, 1) := by decide +kernel
theorem dX1_init_47 : decode cX1_init 47 = .ok (.iconst 1, 1) := by decide +kernel
theorem dX1_init_48 : decode cX1_init 48 = .ok (.putfield 31, 3) := by decide +kernel
theorem dX1_init_51 : decode cX1_init 51 = .ok (.aload_n 0, 1) := by decide +kernel
theorem dX1_init_52 : decode cX1_init 52 = .ok (.lconst 1, 1) := by decide +kernel
theorem dX1_init_53 : decode cX1_init 53 = .ok (.putfield 34, 3) := by decide +kernel
theorem dX1_init_56 : decode cX1_init 56 = .ok (.return_, 1) := by decide +kernel
theorem dX1_solves_0 : decode cX1_solves 0 = .ok (.aload_n 0, 1) := by decide +kernel
theorem dX1_solves_1 : decode cX1_solves 1 = .ok (.aload_n 1, 1) := by decide +kernel
theorem dX1_solves_2 : decode cX1_solves 2 = .ok (.iload_n 2, 1) := by decide +kernel
theorem dX1_solves_3 : decode cX1_solves 3 = .ok (.invokevirtual 38, 3) := by decide +kernel
theorem dX1_solves_6 : decode cX1_solves 6 = .ok (.aload_n 0, 1) := by decide +kernel
theorem dX1_solves_7 : decode cX1_solves 7 = .ok (.iconst 1, 1) := by decide +kernel
theorem dX1_solves_8 : decode cX1_solves 8 = .ok (.invokevirtual 42, 3) := by decide +kernel
theorem dX1_solves_11 : decode cX1_solves 11 = .ok (.ireturn, 1) := by decide +kernel
theorem dX1_solvesWith_0 : decode cX1_solvesWith 0 = .ok (.aload_n 0, 1) := by decide +kernel
theorem dX1_solvesWith_1 : decode cX1_solvesWith 1 = .ok (.aload_n 1, 1) := by decide +kernel
theorem dX1_solvesWith_2 : decode cX1_solvesWith 2 = .ok (.iload_n 2, 1) := by decide +kernel
theorem dX1_solvesWith_3 : decode cX1_solvesWith 3 = .ok (.iconst 1, 1) := by decide +kernel
theorem dX1_solvesWith_4 : decode cX1_solvesWith 4 = .ok (.invokevirtual 46, 3) := by decide +kernel
theorem dX1_solvesWith_7 : decode cX1_solvesWith 7 = .ok (.aload_n 0, 1) := by decide +kernel
theorem dX1_solvesWith_8 : decode cX1_solvesWith 8 = .ok (.iconst 1, 1) := by decide +kernel
theorem dX1_solvesWith_9 : decode cX1_solvesWith 9 = .ok (.invokevirtual 42, 3) := by decide +kernel
theorem dX1_solvesWith_12 : decode cX1_solvesWith 12 = .ok (.istore_n 3, 1) := by decide +kernel
theorem dX1_solvesWith_13 : decode cX1_solvesWith 13 = .ok (.aload_n 0, 1) := by decide +kernel
theorem dX1_solvesWith_14 : decode cX1_solvesWith 14 = .ok (.aload_n 1, 1) := by decide +kernel
theorem dX1_solvesWith_15 : decode cX1_solvesWith 15 = .ok (.iload_n 2, 1) := by decide +kernel
theorem dX1_solvesWith_16 : decode cX1_solvesWith 16 = .ok (.iconst (-1), 1) := by decide +kernel
theorem dX1_solvesWith_17 : decode cX1_solvesWith 17 = .ok (.invokevirtual 46, 3) := by decide +kernel
theorem dX1_solvesWith_20 : decode cX1_solvesWith 20 = .ok (.iload_n 3, 1) := by decide +kernel
theorem dX1_solvesWith_21 : decode cX1_solvesWith 21 = .ok (.ireturn, 1) := by decide +kernel
theorem dX1_solvesWithout_0 : decode cX1_solvesWithout 0 = .ok (.aload_n 0, 1) := by decide +kernel
theorem dX1_solvesWithout_1 : decode cX1_solvesWithout 1 = .ok (.aload_n 1, 1) := by decide +kernel
theorem dX1_solvesWithout_2 : decode cX1_solvesWithout 2 = .ok (.iload_n 2, 1) := by decide +kernel
theorem dX1_solvesWithout_3 : decode cX1_solvesWithout 3 = .ok (.iconst (-1), 1) := by decide +kernel
theorem dX1_solvesWithout_4 : decode cX1_solvesWithout 4 = .ok (.invokevirtual 46, 3) := by decide +kernel
theorem dX1_solvesWithout_7 : decode cX1_solvesWithout 7 = .ok (.aload_n 0, 1) := by decide +kernel
theorem dX1_solvesWithout_8 : decode cX1_solvesWithout 8 = .ok (.iconst 0, 1) := by decide +kernel
theorem dX1_solvesWithout_9 : decode cX1_solvesWithout 9 = .ok (.invokevirtual 42, 3) := by decide +kernel
theorem dX1_solvesWithout_12 : decode cX1_solvesWithout 12 = .ok (.istore_n 3, 1) := by decide +kernel
theorem dX1_solvesWithout_13 : decode cX1_solvesWithout 13 = .ok (.aload_n 0, 1) := by decide +kernel
theorem dX1_solvesWithout_14 : decode cX1_solvesWithout 14 = .ok (.aload_n 1, 1) := by decide +kernel
theorem dX1_solvesWithout_15 : decode cX1_solvesWithout 15 = .ok (.iload_n 2, 1) := by decide +kernel
theorem dX1_solvesWithout_16 : decode cX1_solvesWithout 16 = .ok (.iconst 1, 1) := by decide +kernel
theorem dX1_solvesWithout_17 : decode cX1_solvesWithout 17 = .ok (.invokevirtual 46, 3) := by decide +kernel
theorem dX1_solvesWithout_20 : decode cX1_solvesWithout 20 = .ok (.iload_n 3, 1) := by decide +kernel
theorem dX1_solvesWithout_21 : decode cX1_solvesWithout 21 = .ok (.ireturn, 1) := by decide +kernel
theorem dX1_gather_0 : decode cX1_gather 0 = .ok (.aload_n 0, 1) := by decide +kernel
theorem dX1_gather_1 : decode cX1_gather 1 = .ok (.iload_n 2, 1) := by decide +kernel
theorem dX1_gather_2 : decode cX1_gather 2 = .ok (.putfield 23, 3) := by decide +kernel
theorem dX1_gather_5 : decode cX1_gather 5 = .ok (.aload_n 0, 1) := by decide +kernel
theorem dX1_gather_6 : decode cX1_gather 6 = .ok (.aload_n 1, 1) := by decide +kernel
theorem dX1_gather_7 : decode cX1_gather 7 = .ok (.getfield 50, 3) := by decide +kernel
theorem dX1_gather_10 : decode cX1_gather 10 = .ok (.putfield 27, 3) := by decide +kernel
theorem dX1_gather_13 : decode cX1_gather 13 = .ok (.aload_n 0, 1) := by decide +kernel
theorem dX1_gather_14 : decode cX1_gather 14 = .ok (.aload_n 1, 1) := by decide +kernel
theorem dX1_gather_15 : decode cX1_gather 15 = .ok (.iload_n 2, 1) := by decide +kernel
theorem dX1_gather_16 : decode cX1_gather 16 = .ok (.invokevirtual 55, 3) := by decide +kernel
theorem dX1_gather_19 : decode cX1_gather 19 = .ok (.putfield 31, 3) := by decide +kernel
theorem dX1_gather_22 : decode cX1_gather 22 = .ok (.iconst 0, 1) := by decide +kernel
theorem dX1_gather_23 : decode cX1_gather 23 = .ok (.istore_n 3, 1) := by decide +kernel
theorem dX1_gather_24 : decode cX1_gather 24 = .ok (.iload_n 3, 1) := by decide +kernel
theorem dX1_gather_25 : decode cX1_gather 25 = .ok (.aload_n 0, 1) := by decide +kernel
theorem dX1_gather_26 : decode cX1_gather 26 = .ok (.getfield 31, 3) := by decide +kernel
theorem dX1_gather_29 : decode cX1_gather 29 = .ok (.if_icmp .gt 37, 3) := by decide +kernel
theorem dX1_gather_32 : decode cX1_gather 32 = .ok (.iconst 0, 1) := by decide +kernel
theorem dX1_gather_33 : decode cX1_gather 33 = .ok (.istore 4, 2) := by decide +kernel
theorem dX1_gather_35 : decode cX1_gather 35 = .ok (.iload 4, 2) := by decide +kernel
theorem dX1_gather_37 : decode cX1_gather 37 = .ok (.aload_n 0, 1) := by decide +kernel
theorem dX1_gather_38 : decode cX1_gather 38 = .ok (.getfield 31, 3) := by decide +kernel
theorem dX1_gather_41 : decode cX1_gather 41 = .ok (.if_icmp .gt 19, 3) := by decide +kernel
theorem dX1_gather_44 : decode cX1_gather 44 = .ok (.aload_n 0, 1) := by decide +kernel
theorem dX1_gather_45 : decode cX1_gather 45 = .ok (.getfield 11, 3) := by decide +kernel
theorem dX1_gather_48 : decode cX1_gather 48 = .ok (.iload_n 3, 1) := by decide +kernel
theorem dX1_gather_49 : decode cX1_gather 49 = .ok (.aaload, 1) := by decide +kernel
theorem dX1_gather_50 : decode cX1_gather 50 = .ok (.iload 4, 2) := by decide +kernel
theorem dX1_gather_52 : decode cX1_gather 52 = .ok (.lconst 0, 1) := by decide +kernel
theorem dX1_gather_53 : decode cX1_gather 53 = .ok (.lastore, 1) := by decide +kernel
theorem dX1_gather_54 : decode cX1_gather 54 = .ok (.iinc 4 1, 3) := by decide +kernel
theorem dX1_gather_57 : decode cX1_gather 57 = .ok (.goto (-22), 3) := by decide +kernel
theorem dX1_gather_60 : decode cX1_gather 60 = .ok (.iinc 3 1, 3) := by decide +kernel
theorem dX1_gather_63 : decode cX1_gather 63 = .ok (.goto (-39), 3) := by decide +kernel
theorem dX1_gather_66 : decode cX1_gather 66 = .ok (.iconst 0, 1) := by decide +kernel
theorem dX1_gather_67 : decode cX1_gather 67 = .ok (.istore_n 3, 1) := by decide +kernel
theorem dX1_gather_68 : decode cX1_gather 68 = .ok (.iload_n 3, 1) := by decide +kernel
theorem dX1_gather_69 : decode cX1_gather 69 = .ok (.aload_n 1, 1) := by decide +kernel
theorem dX1_gather_70 : decode cX1_gather 70 = .ok (.getfield 59, 3) := by decide +kernel
theorem dX1_gather_73 : decode cX1_gather 73 = .ok (.if_icmp .ge 16, 3) := by decide +kernel
theorem dX1_gather_76 : decode cX1_gather 76 = .ok (.aload_n 0, 1) := by decide +kernel
theorem dX1_gather_77 : decode cX1_gather 77 = .ok (.aload_n 1, 1) := by decide +kernel
theorem dX1_gather_78 : decode cX1_gather 78 = .ok (.iload_n 3, 1) := by decide +kernel
theorem dX1_gather_79 : decode cX1_gather 79 = .ok (.iconst 1, 1) := by decide +kernel
theorem dX1_gather_80 : decode cX1_gather 80 = .ok (.invokevirtual 46, 3) := by decide +kernel
theorem dX1_gather_83 : decode cX1_gather 83 = .ok (.iinc 3 1, 3) := by decide +kernel
theorem dX1_gather_86 : decode cX1_gather 86 = .ok (.goto (-18), 3) := by decide +kernel
theorem dX1_gather_89 : decode cX1_gather 89 = .ok (.return_, 1) := by decide +kernel
theorem dX1_put_0 : decode cX1_put 0 = .ok (.aload_n 1, 1) := by decide +kernel
theorem dX1_put_1 : decode cX1_put 1 = .ok (.iload_n 2, 1) := by decide +kernel
theorem dX1_put_2 : decode cX1_put 2 = .ok (.aload_n 0, 1) := by decide +kernel
theorem dX1_put_3 : decode cX1_put 3 = .ok (.getfield 23, 3) := by decide +kernel
theorem dX1_put_6 : decode cX1_put 6 = .ok (.aload_n 0, 1) := by decide +kernel
theorem dX1_put_7 : decode cX1_put 7 = .ok (.getfield 19, 3) := by decide +kernel
theorem dX1_put_10 : decode cX1_put 10 = .ok (.invokevirtual 62, 3) := by decide +kernel
theorem dX1_put_13 : decode cX1_put 13 = .ok (.iconst 0, 1) := by decide +kernel
theorem dX1_put_14 : decode cX1_put 14 = .ok (.istore 4, 2) := by decide +kernel
theorem dX1_put_16 : decode cX1_put 16 = .ok (.iload 4, 2) := by decide +kernel
theorem dX1_put_18 : decode cX1_put 18 = .ok (.aload_n 0, 1) := by decide +kernel
theorem dX1_put_19 : decode cX1_put 19 = .ok (.getfield 31, 3) := by decide +kernel
theorem dX1_put_22 : decode cX1_put 22 = .ok (.if_icmp .gt 70, 3) := by decide +kernel
theorem dX1_put_25 : decode cX1_put 25 = .ok (.iload_n 3, 1) := by decide +kernel
theorem dX1_put_26 : decode cX1_put 26 = .ok (.i2l, 1) := by decide +kernel
theorem dX1_put_27 : decode cX1_put 27 = .ok (.aload_n 0, 1) := by decide +kernel
theorem dX1_put_28 : decode cX1_put 28 = .ok (.getfield 19, 3) := by decide +kernel
theorem dX1_put_31 : decode cX1_put 31 = .ok (.iload 4, 2) := by decide +kernel
theorem dX1_put_33 : decode cX1_put 33 = .ok (.laload, 1) := by decide +kernel
theorem dX1_put_34 : decode cX1_put 34 = .ok (.lmul, 1) := by decide +kernel
theorem dX1_put_35 : decode cX1_put 35 = .ok (.lstore 5, 2) := by decide +kernel
theorem dX1_put_37 : decode cX1_put 37 = .ok (.iload 4, 2) := by decide +kernel
theorem dX1_put_39 : decode cX1_put 39 = .ok (.istore 7, 2) := by decide +kernel
theorem dX1_put_41 : decode cX1_put 41 = .ok (.lload 5, 2) := by decide +kernel
theorem dX1_put_43 : decode cX1_put 43 = .ok (.lconst 0, 1) := by decide +kernel
theorem dX1_put_44 : decode cX1_put 44 = .ok (.lcmp, 1) := by decide +kernel
theorem dX1_put_45 : decode cX1_put 45 = .ok (.ifCond .eq 41, 3) := by decide +kernel
theorem dX1_put_48 : decode cX1_put 48 = .ok (.iload 7, 2) := by decide +kernel
theorem dX1_put_50 : decode cX1_put 50 = .ok (.aload_n 0, 1) := by decide +kernel
theorem dX1_put_51 : decode cX1_put 51 = .ok (.getfield 31, 3) := by decide +kernel
theorem dX1_put_54 : decode cX1_put 54 = .ok (.if_icmp .gt 32, 3) := by decide +kernel
theorem dX1_put_57 : decode cX1_put 57 = .ok (.aload_n 0, 1) := by decide +kernel
theorem dX1_put_58 : decode cX1_put 58 = .ok (.getfield 11, 3) := by decide +kernel
theorem dX1_put_61 : decode cX1_put 61 = .ok (.iload 4, 2) := by decide +kernel
theorem dX1_put_63 : decode cX1_put 63 = .ok (.aaload, 1) := by decide +kernel
theorem dX1_put_64 : decode cX1_put 64 = .ok (.iload 7, 2) := by decide +kernel
theorem dX1_put_66 : decode cX1_put 66 = .ok (.dup2, 1) := by decide +kernel
theorem dX1_put_67 : decode cX1_put 67 = .ok (.laload, 1) := by decide +kernel
theorem dX1_put_68 : decode cX1_put 68 = .ok (.lload 5, 2) := by decide +kernel
theorem dX1_put_70 : decode cX1_put 70 = .ok (.aload_n 0, 1) := by decide +kernel
theorem dX1_put_71 : decode cX1_put 71 = .ok (.getfield 19, 3) := by decide +kernel
theorem dX1_put_74 : decode cX1_put 74 = .ok (.iload 7, 2) := by decide +kernel
theorem dX1_put_76 : decode cX1_put 76 = .ok (.laload, 1) := by decide +kernel
theorem dX1_put_77 : decode cX1_put 77 = .ok (.lmul, 1) := by decide +kernel
theorem dX1_put_78 : decode cX1_put 78 = .ok (.ladd, 1) := by decide +kernel
theorem dX1_put_79 : decode cX1_put 79 = .ok (.lastore, 1) := by decide +kernel
theorem dX1_put_80 : decode cX1_put 80 = .ok (.iinc 7 1, 3) := by decide +kernel
theorem dX1_put_83 : decode cX1_put 83 = .ok (.goto (-42), 3) := by decide +kernel
theorem dX1_put_86 : decode cX1_put 86 = .ok (.iinc 4 1, 3) := by decide +kernel
theorem dX1_put_89 : decode cX1_put 89 = .ok (.goto (-73), 3) := by decide +kernel
theorem dX1_put_92 : decode cX1_put 92 = .ok (.return_, 1) := by decide +kernel
theorem dX1_sweepAll_0 : decode cX1_sweepAll 0 = .ok (.iconst 0, 1) := by decide +kernel
theorem dX1_sweepAll_1 : decode cX1_sweepAll 1 = .ok (.istore_n 2, 1) := by decide +kernel
theorem dX1_sweepAll_2 : decode cX1_sweepAll 2 = .ok (.iload_n 2, 1) := by decide +kernel
theorem dX1_sweepAll_3 : decode cX1_sweepAll 3 = .ok (.aload_n 0, 1) := by decide +kernel
theorem dX1_sweepAll_4 : decode cX1_sweepAll 4 = .ok (.getfield 31, 3) := by decide +kernel
theorem dX1_sweepAll_7 : decode cX1_sweepAll 7 = .ok (.if_icmp .gt 34, 3) := by decide +kernel
theorem dX1_sweepAll_10 : decode cX1_sweepAll 10 = .ok (.aload_n 0, 1) := by decide +kernel
theorem dX1_sweepAll_11 : decode cX1_sweepAll 11 = .ok (.getfield 11, 3) := by decide +kernel
theorem dX1_sweepAll_14 : decode cX1_sweepAll 14 = .ok (.iload_n 2, 1) := by decide +kernel
theorem dX1_sweepAll_15 : decode cX1_sweepAll 15 = .ok (.aaload, 1) := by decide +kernel
theorem dX1_sweepAll_16 : decode cX1_sweepAll 16 = .ok (.iload_n 2, 1) := by decide +kernel
theorem dX1_sweepAll_17 : decode cX1_sweepAll 17 = .ok (.aload_n 0, 1) := by decide +kernel
theorem dX1_sweepAll_18 : decode cX1_sweepAll 18 = .ok (.getfield 16, 3) := by decide +kernel
theorem dX1_sweepAll_21 : decode cX1_sweepAll 21 = .ok (.iload_n 2, 1) := by decide +kernel
theorem dX1_sweepAll_22 : decode cX1_sweepAll 22 = .ok (.aaload, 1) := by decide +kernel
theorem dX1_sweepAll_23 : decode cX1_sweepAll 23 = .ok (.iload_n 2, 1) := by decide +kernel
theorem dX1_sweepAll_24 : decode cX1_sweepAll 24 = .ok (.aload_n 0, 1) := by decide +kernel
theorem dX1_sweepAll_25 : decode cX1_sweepAll 25 = .ok (.getfield 31, 3) := by decide +kernel
theorem dX1_sweepAll_28 : decode cX1_sweepAll 28 = .ok (.iconst 1, 1) := by decide +kernel
theorem dX1_sweepAll_29 : decode cX1_sweepAll 29 = .ok (.iadd, 1) := by decide +kernel
theorem dX1_sweepAll_30 : decode cX1_sweepAll 30 = .ok (.iload_n 2, 1) := by decide +kernel
theorem dX1_sweepAll_31 : decode cX1_sweepAll 31 = .ok (.isub, 1) := by decide +kernel
theorem dX1_sweepAll_32 : decode cX1_sweepAll 32 = .ok (.invokestatic 66, 3) := by decide +kernel
theorem dX1_sweepAll_35 : decode cX1_sweepAll 35 = .ok (.iinc 2 1, 3) := by decide +kernel
theorem dX1_sweepAll_38 : decode cX1_sweepAll 38 = .ok (.goto (-36), 3) := by decide +kernel
theorem dX1_sweepAll_41 : decode cX1_sweepAll 41 = .ok (.aload_n 0, 1) := by decide +kernel
theorem dX1_sweepAll_42 : decode cX1_sweepAll 42 = .ok (.lconst 1, 1) := by decide +kernel
theorem dX1_sweepAll_43 : decode cX1_sweepAll 43 = .ok (.putfield 34, 3) := by decide +kernel
theorem dX1_sweepAll_46 : decode cX1_sweepAll 46 = .ok (.iconst 0, 1) := by decide +kernel
theorem dX1_sweepAll_47 : decode cX1_sweepAll 47 = .ok (.istore_n 2, 1) := by decide +kernel
theorem dX1_sweepAll_48 : decode cX1_sweepAll 48 = .ok (.iload_n 2, 1) := by decide +kernel
theorem dX1_sweepAll_49 : decode cX1_sweepAll 49 = .ok (.aload_n 0, 1) := by decide +kernel
theorem dX1_sweepAll_50 : decode cX1_sweepAll 50 = .ok (.getfield 31, 3) := by decide +kernel
theorem dX1_sweepAll_53 : decode cX1_sweepAll 53 = .ok (.if_icmp .ge 40, 3) := by decide +kernel
theorem dX1_sweepAll_56 : decode cX1_sweepAll 56 = .ok (.aload_n 0, 1) := by decide +kernel
theorem dX1_sweepAll_57 : decode cX1_sweepAll 57 = .ok (.getfield 16, 3) := by decide +kernel
theorem dX1_sweepAll_60 : decode cX1_sweepAll 60 = .ok (.iload_n 2, 1) := by decide +kernel
theorem dX1_sweepAll_61 : decode cX1_sweepAll 61 = .ok (.aaload, 1) := by decide +kernel
theorem dX1_sweepAll_62 : decode cX1_sweepAll 62 = .ok (.iload_n 2, 1) := by decide +kernel
theorem dX1_sweepAll_63 : decode cX1_sweepAll 63 = .ok (.laload, 1) := by decide +kernel
theorem dX1_sweepAll_64 : decode cX1_sweepAll 64 = .ok (.lconst 0, 1) := by decide +kernel
theorem dX1_sweepAll_65 : decode cX1_sweepAll 65 = .ok (.lcmp, 1) := by decide +kernel
theorem dX1_sweepAll_66 : decode cX1_sweepAll 66 = .ok (.ifCond .gt 5, 3) := by decide +kernel
theorem dX1_sweepAll_69 : decode cX1_sweepAll 69 = .ok (.iconst 0, 1) := by decide +kernel
theorem dX1_sweepAll_70 : decode cX1_sweepAll 70 = .ok (.ireturn, 1) := by decide +kernel
theorem dX1_sweepAll_71 : decode cX1_sweepAll 71 = .ok (.aload_n 0, 1) := by decide +kernel
theorem dX1_sweepAll_72 : decode cX1_sweepAll 72 = .ok (.iload_n 2, 1) := by decide +kernel
theorem dX1_sweepAll_73 : decode cX1_sweepAll 73 = .ok (.iload_n 1, 1) := by decide +kernel
theorem dX1_sweepAll_74 : decode cX1_sweepAll 74 = .ok (.ifCond .eq 7, 3) := by decide +kernel
theorem dX1_sweepAll_77 : decode cX1_sweepAll 77 = .ok (.iconst 0, 1) := by decide +kernel
theorem dX1_sweepAll_78 : decode cX1_sweepAll 78 = .ok (.goto 6, 3) := by decide +kernel
theorem dX1_sweepAll_81 : decode cX1_sweepAll 81 = .ok (.iload_n 2, 1) := by decide +kernel
theorem dX1_sweepAll_82 : decode cX1_sweepAll 82 = .ok (.iconst 1, 1) := by decide +kernel
theorem dX1_sweepAll_83 : decode cX1_sweepAll 83 = .ok (.iadd, 1) := by decide +kernel
theorem dX1_sweepAll_84 : decode cX1_sweepAll 84 = .ok (.invokevirtual 72, 3) := by decide +kernel
theorem dX1_sweepAll_87 : decode cX1_sweepAll 87 = .ok (.iinc 2 1, 3) := by decide +kernel
theorem dX1_sweepAll_90 : decode cX1_sweepAll 90 = .ok (.goto (-42), 3) := by decide +kernel
theorem dX1_sweepAll_93 : decode cX1_sweepAll 93 = .ok (.iconst 1, 1) := by decide +kernel
theorem dX1_sweepAll_94 : decode cX1_sweepAll 94 = .ok (.ireturn, 1) := by decide +kernel
theorem dX1_sweep_0 : decode cX1_sweep 0 = .ok (.aload_n 0, 1) := by decide +kernel
theorem dX1_sweep_1 : decode cX1_sweep 1 = .ok (.getfield 16, 3) := by decide +kernel
theorem dX1_sweep_4 : decode cX1_sweep 4 = .ok (.iload_n 1, 1) := by decide +kernel
theorem dX1_sweep_5 : decode cX1_sweep 5 = .ok (.aaload, 1) := by decide +kernel
theorem dX1_sweep_6 : decode cX1_sweep 6 = .ok (.iload_n 1, 1) := by decide +kernel
theorem dX1_sweep_7 : decode cX1_sweep 7 = .ok (.laload, 1) := by decide +kernel
theorem dX1_sweep_8 : decode cX1_sweep 8 = .ok (.lstore_n 3, 1) := by decide +kernel
theorem dX1_sweep_9 : decode cX1_sweep 9 = .ok (.iload_n 2, 1) := by decide +kernel
theorem dX1_sweep_10 : decode cX1_sweep 10 = .ok (.istore 5, 2) := by decide +kernel
theorem dX1_sweep_12 : decode cX1_sweep 12 = .ok (.iload 5, 2) := by decide +kernel
theorem dX1_sweep_14 : decode cX1_sweep 14 = .ok (.aload_n 0, 1) := by decide +kernel
theorem dX1_sweep_15 : decode cX1_sweep 15 = .ok (.getfield 31, 3) := by decide +kernel
theorem dX1_sweep_18 : decode cX1_sweep 18 = .ok (.if_icmp .gt 23, 3) := by decide +kernel
theorem dX1_sweep_21 : decode cX1_sweep 21 = .ok (.iload 5, 2) := by decide +kernel
theorem dX1_sweep_23 : decode cX1_sweep 23 = .ok (.iload_n 1, 1) := by decide +kernel
theorem dX1_sweep_24 : decode cX1_sweep 24 = .ok (.if_icmp .eq 11, 3) := by decide +kernel
theorem dX1_sweep_27 : decode cX1_sweep 27 = .ok (.aload_n 0, 1) := by decide +kernel
theorem dX1_sweep_28 : decode cX1_sweep 28 = .ok (.iload 5, 2) := by decide +kernel
theorem dX1_sweep_30 : decode cX1_sweep 30 = .ok (.iload_n 1, 1) := by decide +kernel
theorem dX1_sweep_31 : decode cX1_sweep 31 = .ok (.lload_n 3, 1) := by decide +kernel
theorem dX1_sweep_32 : decode cX1_sweep 32 = .ok (.invokevirtual 76, 3) := by decide +kernel
theorem dX1_sweep_35 : decode cX1_sweep 35 = .ok (.iinc 5 1, 3) := by decide +kernel
theorem dX1_sweep_38 : decode cX1_sweep 38 = .ok (.goto (-26), 3) := by decide +kernel
theorem dX1_sweep_41 : decode cX1_sweep 41 = .ok (.aload_n 0, 1) := by decide +kernel
theorem dX1_sweep_42 : decode cX1_sweep 42 = .ok (.getfield 16, 3) := by decide +kernel
theorem dX1_sweep_45 : decode cX1_sweep 45 = .ok (.iload_n 1, 1) := by decide +kernel
theorem dX1_sweep_46 : decode cX1_sweep 46 = .ok (.aaload, 1) := by decide +kernel
theorem dX1_sweep_47 : decode cX1_sweep 47 = .ok (.iload_n 1, 1) := by decide +kernel
theorem dX1_sweep_48 : decode cX1_sweep 48 = .ok (.aload_n 0, 1) := by decide +kernel
theorem dX1_sweep_49 : decode cX1_sweep 49 = .ok (.getfield 34, 3) := by decide +kernel
theorem dX1_sweep_52 : decode cX1_sweep 52 = .ok (.lneg, 1) := by decide +kernel
theorem dX1_sweep_53 : decode cX1_sweep 53 = .ok (.lastore, 1) := by decide +kernel
theorem dX1_sweep_54 : decode cX1_sweep 54 = .ok (.aload_n 0, 1) := by decide +kernel
theorem dX1_sweep_55 : decode cX1_sweep 55 = .ok (.lload_n 3, 1) := by decide +kernel
theorem dX1_sweep_56 : decode cX1_sweep 56 = .ok (.putfield 34, 3) := by decide +kernel
theorem dX1_sweep_59 : decode cX1_sweep 59 = .ok (.return_, 1) := by decide +kernel
theorem dX1_sweepRow_0 : decode cX1_sweepRow 0 = .ok (.iload_n 1, 1) := by decide +kernel
theorem dX1_sweepRow_1 : decode cX1_sweepRow 1 = .ok (.iload_n 2, 1) := by decide +kernel
theorem dX1_sweepRow_2 : decode cX1_sweepRow 2 = .ok (.if_icmp .ge 14, 3) := by decide +kernel
theorem dX1_sweepRow_5 : decode cX1_sweepRow 5 = .ok (.aload_n 0, 1) := by decide +kernel
theorem dX1_sweepRow_6 : decode cX1_sweepRow 6 = .ok (.getfield 16, 3) := by decide +kernel
theorem dX1_sweepRow_9 : decode cX1_sweepRow 9 = .ok (.iload_n 1, 1) := by decide +kernel
theorem dX1_sweepRow_10 : decode cX1_sweepRow 10 = .ok (.aaload, 1) := by decide +kernel
theorem dX1_sweepRow_11 : decode cX1_sweepRow 11 = .ok (.iload_n 2, 1) := by decide +kernel
theorem dX1_sweepRow_12 : decode cX1_sweepRow 12 = .ok (.laload, 1) := by decide +kernel
theorem dX1_sweepRow_13 : decode cX1_sweepRow 13 = .ok (.goto 11, 3) := by decide +kernel
theorem dX1_sweepRow_16 : decode cX1_sweepRow 16 = .ok (.aload_n 0, 1) := by decide +kernel
theorem dX1_sweepRow_17 : decode cX1_sweepRow 17 = .ok (.getfield 16, 3) := by decide +kernel
theorem dX1_sweepRow_20 : decode cX1_sweepRow 20 = .ok (.iload_n 2, 1) := by decide +kernel
theorem dX1_sweepRow_21 : decode cX1_sweepRow 21 = .ok (.aaload, 1) := by decide +kernel
theorem dX1_sweepRow_22 : decode cX1_sweepRow 22 = .ok (.iload_n 1, 1) := by decide +kernel
theorem dX1_sweepRow_23 : decode cX1_sweepRow 23 = .ok (.laload, 1) := by decide +kernel
theorem dX1_sweepRow_24 : decode cX1_sweepRow 24 = .ok (.lstore 5, 2) := by decide +kernel
theorem dX1_sweepRow_26 : decode cX1_sweepRow 26 = .ok (.iload_n 1, 1) := by decide +kernel
theorem dX1_sweepRow_27 : decode cX1_sweepRow 27 = .ok (.istore 7, 2) := by decide +kernel
theorem dX1_sweepRow_29 : decode cX1_sweepRow 29 = .ok (.aload_n 0, 1) := by decide +kernel
theorem dX1_sweepRow_30 : decode cX1_sweepRow 30 = .ok (.getfield 34, 3) := by decide +kernel
theorem dX1_sweepRow_33 : decode cX1_sweepRow 33 = .ok (.lconst 0, 1) := by decide +kernel
theorem dX1_sweepRow_34 : decode cX1_sweepRow 34 = .ok (.lcmp, 1) := by decide +kernel
theorem dX1_sweepRow_35 : decode cX1_sweepRow 35 = .ok (.ifCond .eq 84, 3) := by decide +kernel
theorem dX1_sweepRow_38 : decode cX1_sweepRow 38 = .ok (.iload 7, 2) := by decide +kernel
theorem dX1_sweepRow_40 : decode cX1_sweepRow 40 = .ok (.aload_n 0, 1) := by decide +kernel
theorem dX1_sweepRow_41 : decode cX1_sweepRow 41 = .ok (.getfield 31, 3) := by decide +kernel
theorem dX1_sweepRow_44 : decode cX1_sweepRow 44 = .ok (.if_icmp .gt 75, 3) := by decide +kernel
theorem dX1_sweepRow_47 : decode cX1_sweepRow 47 = .ok (.iload 7, 2) := by decide +kernel
theorem dX1_sweepRow_49 : decode cX1_sweepRow 49 = .ok (.iload_n 2, 1) := by decide +kernel
theorem dX1_sweepRow_50 : decode cX1_sweepRow 50 = .ok (.if_icmp .eq 63, 3) := by decide +kernel
theorem dX1_sweepRow_53 : decode cX1_sweepRow 53 = .ok (.iload 7, 2) := by decide +kernel
theorem dX1_sweepRow_55 : decode cX1_sweepRow 55 = .ok (.iload_n 2, 1) := by decide +kernel
theorem dX1_sweepRow_56 : decode cX1_sweepRow 56 = .ok (.if_icmp .ge 15, 3) := by decide +kernel
theorem dX1_sweepRow_59 : decode cX1_sweepRow 59 = .ok (.aload_n 0, 1) := by decide +kernel
theorem dX1_sweepRow_60 : decode cX1_sweepRow 60 = .ok (.getfield 16, 3) := by decide +kernel
theorem dX1_sweepRow_63 : decode cX1_sweepRow 63 = .ok (.iload 7, 2) := by decide +kernel
theorem dX1_sweepRow_65 : decode cX1_sweepRow 65 = .ok (.aaload, 1) := by decide +kernel
theorem dX1_sweepRow_66 : decode cX1_sweepRow 66 = .ok (.iload_n 2, 1) := by decide +kernel
theorem dX1_sweepRow_67 : decode cX1_sweepRow 67 = .ok (.laload, 1) := by decide +kernel
theorem dX1_sweepRow_68 : decode cX1_sweepRow 68 = .ok (.goto 12, 3) := by decide +kernel
theorem dX1_sweepRow_71 : decode cX1_sweepRow 71 = .ok (.aload_n 0, 1) := by decide +kernel
theorem dX1_sweepRow_72 : decode cX1_sweepRow 72 = .ok (.getfield 16, 3) := by decide +kernel
theorem dX1_sweepRow_75 : decode cX1_sweepRow 75 = .ok (.iload_n 2, 1) := by decide +kernel
theorem dX1_sweepRow_76 : decode cX1_sweepRow 76 = .ok (.aaload, 1) := by decide +kernel
theorem dX1_sweepRow_77 : decode cX1_sweepRow 77 = .ok (.iload 7, 2) := by decide +kernel
theorem dX1_sweepRow_79 : decode cX1_sweepRow 79 = .ok (.laload, 1) := by decide +kernel
theorem dX1_sweepRow_80 : decode cX1_sweepRow 80 = .ok (.lstore 8, 2) := by decide +kernel
theorem dX1_sweepRow_82 : decode cX1_sweepRow 82 = .ok (.aload_n 0, 1) := by decide +kernel
theorem dX1_sweepRow_83 : decode cX1_sweepRow 83 = .ok (.getfield 16, 3) := by decide +kernel
theorem dX1_sweepRow_86 : decode cX1_sweepRow 86 = .ok (.iload_n 1, 1) := by decide +kernel
theorem dX1_sweepRow_87 : decode cX1_sweepRow 87 = .ok (.aaload, 1) := by decide +kernel
theorem dX1_sweepRow_88 : decode cX1_sweepRow 88 = .ok (.iload 7, 2) := by decide +kernel
theorem dX1_sweepRow_90 : decode cX1_sweepRow 90 = .ok (.aload_n 0, 1) := by decide +kernel
theorem dX1_sweepRow_91 : decode cX1_sweepRow 91 = .ok (.getfield 16, 3) := by decide +kernel
theorem dX1_sweepRow_94 : decode cX1_sweepRow 94 = .ok (.iload_n 1, 1) := by decide +kernel
theorem dX1_sweepRow_95 : decode cX1_sweepRow 95 = .ok (.aaload, 1) := by decide +kernel
theorem dX1_sweepRow_96 : decode cX1_sweepRow 96 = .ok (.iload 7, 2) := by decide +kernel
theorem dX1_sweepRow_98 : decode cX1_sweepRow 98 = .ok (.laload, 1) := by decide +kernel
theorem dX1_sweepRow_99 : decode cX1_sweepRow 99 = .ok (.lload_n 3, 1) := by decide +kernel
theorem dX1_sweepRow_100 : decode cX1_sweepRow 100 = .ok (.lmul, 1) := by decide +kernel
theorem dX1_sweepRow_101 : decode cX1_sweepRow 101 = .ok (.lload 5, 2) := by decide +kernel
theorem dX1_sweepRow_103 : decode cX1_sweepRow 103 = .ok (.lload 8, 2) := by decide +kernel
theorem dX1_sweepRow_105 : decode cX1_sweepRow 105 = .ok (.lmul, 1) := by decide +kernel
theorem dX1_sweepRow_106 : decode cX1_sweepRow 106 = .ok (.lsub, 1) := by decide +kernel
theorem dX1_sweepRow_107 : decode cX1_sweepRow 107 = .ok (.aload_n 0, 1) := by decide +kernel
theorem dX1_sweepRow_108 : decode cX1_sweepRow 108 = .ok (.getfield 34, 3) := by decide +kernel
theorem dX1_sweepRow_111 : decode cX1_sweepRow 111 = .ok (.ldiv, 1) := by decide +kernel
theorem dX1_sweepRow_112 : decode cX1_sweepRow 112 = .ok (.lastore, 1) := by decide +kernel
theorem dX1_sweepRow_113 : decode cX1_sweepRow 113 = .ok (.iinc 7 1, 3) := by decide +kernel
theorem dX1_sweepRow_116 : decode cX1_sweepRow 116 = .ok (.goto (-87), 3) := by decide +kernel
theorem dX1_sweepRow_119 : decode cX1_sweepRow 119 = .ok (.return_, 1) := by decide +kernel
theorem dX1_valueAbove_0 : decode cX1_valueAbove 0 = .ok (.aload_n 0, 1) := by decide +kernel
theorem dX1_valueAbove_1 : decode cX1_valueAbove 1 = .ok (.getfield 16, 3) := by decide +kernel
theorem dX1_valueAbove_4 : decode cX1_valueAbove 4 = .ok (.iload_n 1, 1) := by decide +kernel
theorem dX1_valueAbove_5 : decode cX1_valueAbove 5 = .ok (.aaload, 1) := by decide +kernel
theorem dX1_valueAbove_6 : decode cX1_valueAbove 6 = .ok (.aload_n 0, 1) := by decide +kernel
theorem dX1_valueAbove_7 : decode cX1_valueAbove 7 = .ok (.getfield 31, 3) := by decide +kernel
theorem dX1_valueAbove_10 : decode cX1_valueAbove 10 = .ok (.laload, 1) := by decide +kernel
theorem dX1_valueAbove_11 : decode cX1_valueAbove 11 = .ok (.lreturn, 1) := by decide +kernel
theorem dX1_spreadAbove_0 : decode cX1_spreadAbove 0 = .ok (.aload_n 0, 1) := by decide +kernel
theorem dX1_spreadAbove_1 : decode cX1_spreadAbove 1 = .ok (.getfield 16, 3) := by decide +kernel
theorem dX1_spreadAbove_4 : decode cX1_spreadAbove 4 = .ok (.iload_n 1, 1) := by decide +kernel
theorem dX1_spreadAbove_5 : decode cX1_spreadAbove 5 = .ok (.aaload, 1) := by decide +kernel
theorem dX1_spreadAbove_6 : decode cX1_spreadAbove 6 = .ok (.iload_n 1, 1) := by decide +kernel
theorem dX1_spreadAbove_7 : decode cX1_spreadAbove 7 = .ok (.laload, 1) := by decide +kernel
theorem dX1_spreadAbove_8 : decode cX1_spreadAbove 8 = .ok (.lneg, 1) := by decide +kernel
theorem dX1_spreadAbove_9 : decode cX1_spreadAbove 9 = .ok (.lreturn, 1) := by decide +kernel
theorem dX1_totalAbove_0 : decode cX1_totalAbove 0 = .ok (.lconst 0, 1) := by decide +kernel
theorem dX1_totalAbove_1 : decode cX1_totalAbove 1 = .ok (.lstore_n 1, 1) := by decide +kernel
theorem dX1_totalAbove_2 : decode cX1_totalAbove 2 = .ok (.iconst 0, 1) := by decide +kernel
theorem dX1_totalAbove_3 : decode cX1_totalAbove 3 = .ok (.istore_n 3, 1) := by decide +kernel
theorem dX1_totalAbove_4 : decode cX1_totalAbove 4 = .ok (.iload_n 3, 1) := by decide +kernel
theorem dX1_totalAbove_5 : decode cX1_totalAbove 5 = .ok (.aload_n 0, 1) := by decide +kernel
theorem dX1_totalAbove_6 : decode cX1_totalAbove 6 = .ok (.getfield 27, 3) := by decide +kernel
theorem dX1_totalAbove_9 : decode cX1_totalAbove 9 = .ok (.if_icmp .ge 17, 3) := by decide +kernel
theorem dX1_totalAbove_12 : decode cX1_totalAbove 12 = .ok (.lload_n 1, 1) := by decide +kernel
theorem dX1_totalAbove_13 : decode cX1_totalAbove 13 = .ok (.aload_n 0, 1) := by decide +kernel
theorem dX1_totalAbove_14 : decode cX1_totalAbove 14 = .ok (.iload_n 3, 1) := by decide +kernel
theorem dX1_totalAbove_15 : decode cX1_totalAbove 15 = .ok (.invokevirtual 80, 3) := by decide +kernel
theorem dX1_totalAbove_18 : decode cX1_totalAbove 18 = .ok (.ladd, 1) := by decide +kernel
theorem dX1_totalAbove_19 : decode cX1_totalAbove 19 = .ok (.lstore_n 1, 1) := by decide +kernel
theorem dX1_totalAbove_20 : decode cX1_totalAbove 20 = .ok (.iinc 3 1, 3) := by decide +kernel
theorem dX1_totalAbove_23 : decode cX1_totalAbove 23 = .ok (.goto (-19), 3) := by decide +kernel
theorem dX1_totalAbove_26 : decode cX1_totalAbove 26 = .ok (.lload_n 1, 1) := by decide +kernel
theorem dX1_totalAbove_27 : decode cX1_totalAbove 27 = .ok (.lreturn, 1) := by decide +kernel
theorem dX1_restAbove_0 : decode cX1_restAbove 0 = .ok (.aload_n 1, 1) := by decide +kernel
theorem dX1_restAbove_1 : decode cX1_restAbove 1 = .ok (.iload_n 2, 1) := by decide +kernel
theorem dX1_restAbove_2 : decode cX1_restAbove 2 = .ok (.aload_n 0, 1) := by decide +kernel
theorem dX1_restAbove_3 : decode cX1_restAbove 3 = .ok (.getfield 23, 3) := by decide +kernel
theorem dX1_restAbove_6 : decode cX1_restAbove 6 = .ok (.aload_n 0, 1) := by decide +kernel
theorem dX1_restAbove_7 : decode cX1_restAbove 7 = .ok (.getfield 19, 3) := by decide +kernel
theorem dX1_restAbove_10 : decode cX1_restAbove 10 = .ok (.invokevirtual 62, 3) := by decide +kernel
theorem dX1_restAbove_13 : decode cX1_restAbove 13 = .ok (.aload_n 0, 1) := by decide +kernel
theorem dX1_restAbove_14 : decode cX1_restAbove 14 = .ok (.getfield 19, 3) := by decide +kernel
theorem dX1_restAbove_17 : decode cX1_restAbove 17 = .ok (.aload_n 0, 1) := by decide +kernel
theorem dX1_restAbove_18 : decode cX1_restAbove 18 = .ok (.getfield 31, 3) := by decide +kernel
theorem dX1_restAbove_21 : decode cX1_restAbove 21 = .ok (.laload, 1) := by decide +kernel
theorem dX1_restAbove_22 : decode cX1_restAbove 22 = .ok (.aload_n 0, 1) := by decide +kernel
theorem dX1_restAbove_23 : decode cX1_restAbove 23 = .ok (.getfield 34, 3) := by decide +kernel
theorem dX1_restAbove_26 : decode cX1_restAbove 26 = .ok (.lmul, 1) := by decide +kernel
theorem dX1_restAbove_27 : decode cX1_restAbove 27 = .ok (.lstore_n 3, 1) := by decide +kernel
theorem dX1_restAbove_28 : decode cX1_restAbove 28 = .ok (.iconst 0, 1) := by decide +kernel
theorem dX1_restAbove_29 : decode cX1_restAbove 29 = .ok (.istore 5, 2) := by decide +kernel
theorem dX1_restAbove_31 : decode cX1_restAbove 31 = .ok (.iload 5, 2) := by decide +kernel
theorem dX1_restAbove_33 : decode cX1_restAbove 33 = .ok (.aload_n 0, 1) := by decide +kernel
theorem dX1_restAbove_34 : decode cX1_restAbove 34 = .ok (.getfield 31, 3) := by decide +kernel
theorem dX1_restAbove_37 : decode cX1_restAbove 37 = .ok (.if_icmp .ge 26, 3) := by decide +kernel
theorem dX1_restAbove_40 : decode cX1_restAbove 40 = .ok (.lload_n 3, 1) := by decide +kernel
theorem dX1_restAbove_41 : decode cX1_restAbove 41 = .ok (.aload_n 0, 1) := by decide +kernel
theorem dX1_restAbove_42 : decode cX1_restAbove 42 = .ok (.getfield 19, 3) := by decide +kernel
theorem dX1_restAbove_45 : decode cX1_restAbove 45 = .ok (.iload 5, 2) := by decide +kernel
theorem dX1_restAbove_47 : decode cX1_restAbove 47 = .ok (.laload, 1) := by decide +kernel
theorem dX1_restAbove_48 : decode cX1_restAbove 48 = .ok (.aload_n 0, 1) := by decide +kernel
theorem dX1_restAbove_49 : decode cX1_restAbove 49 = .ok (.iload 5, 2) := by decide +kernel
theorem dX1_restAbove_51 : decode cX1_restAbove 51 = .ok (.invokevirtual 84, 3) := by decide +kernel
theorem dX1_restAbove_54 : decode cX1_restAbove 54 = .ok (.lmul, 1) := by decide +kernel
theorem dX1_restAbove_55 : decode cX1_restAbove 55 = .ok (.lsub, 1) := by decide +kernel
theorem dX1_restAbove_56 : decode cX1_restAbove 56 = .ok (.lstore_n 3, 1) := by decide +kernel
theorem dX1_restAbove_57 : decode cX1_restAbove 57 = .ok (.iinc 5 1, 3) := by decide +kernel
theorem dX1_restAbove_60 : decode cX1_restAbove 60 = .ok (.goto (-29), 3) := by decide +kernel
theorem dX1_restAbove_63 : decode cX1_restAbove 63 = .ok (.lload_n 3, 1) := by decide +kernel
theorem dX1_restAbove_64 : decode cX1_restAbove 64 = .ok (.lreturn, 1) := by decide +kernel
theorem dX1_squaresAbove_0 : decode cX1_squaresAbove 0 = .ok (.aload_n 0, 1) := by decide +kernel
theorem dX1_squaresAbove_1 : decode cX1_squaresAbove 1 = .ok (.getfield 16, 3) := by decide +kernel
theorem dX1_squaresAbove_4 : decode cX1_squaresAbove 4 = .ok (.aload_n 0, 1) := by decide +kernel
theorem dX1_squaresAbove_5 : decode cX1_squaresAbove 5 = .ok (.getfield 31, 3) := by decide +kernel
theorem dX1_squaresAbove_8 : decode cX1_squaresAbove 8 = .ok (.aaload, 1) := by decide +kernel
theorem dX1_squaresAbove_9 : decode cX1_squaresAbove 9 = .ok (.aload_n 0, 1) := by decide +kernel
theorem dX1_squaresAbove_10 : decode cX1_squaresAbove 10 = .ok (.getfield 31, 3) := by decide +kernel
theorem dX1_squaresAbove_13 : decode cX1_squaresAbove 13 = .ok (.laload, 1) := by decide +kernel
theorem dX1_squaresAbove_14 : decode cX1_squaresAbove 14 = .ok (.lreturn, 1) := by decide +kernel
theorem dX1_mostDoubtful_0 : decode cX1_mostDoubtful 0 = .ok (.aload_n 0, 1) := by decide +kernel
theorem dX1_mostDoubtful_1 : decode cX1_mostDoubtful 1 = .ok (.aload_n 1, 1) := by decide +kernel
theorem dX1_mostDoubtful_2 : decode cX1_mostDoubtful 2 = .ok (.iload_n 2, 1) := by decide +kernel
theorem dX1_mostDoubtful_3 : decode cX1_mostDoubtful 3 = .ok (.invokevirtual 38, 3) := by decide +kernel
theorem dX1_mostDoubtful_6 : decode cX1_mostDoubtful 6 = .ok (.bipush (-9), 2) := by decide +kernel
theorem dX1_mostDoubtful_8 : decode cX1_mostDoubtful 8 = .ok (.istore_n 3, 1) := by decide +kernel
theorem dX1_mostDoubtful_9 : decode cX1_mostDoubtful 9 = .ok (.lconst 0, 1) := by decide +kernel
theorem dX1_mostDoubtful_10 : decode cX1_mostDoubtful 10 = .ok (.lstore 4, 2) := by decide +kernel
theorem dX1_mostDoubtful_12 : decode cX1_mostDoubtful 12 = .ok (.lconst 1, 1) := by decide +kernel
theorem dX1_mostDoubtful_13 : decode cX1_mostDoubtful 13 = .ok (.lstore 6, 2) := by decide +kernel
theorem dX1_mostDoubtful_15 : decode cX1_mostDoubtful 15 = .ok (.iconst 0, 1) := by decide +kernel
theorem dX1_mostDoubtful_16 : decode cX1_mostDoubtful 16 = .ok (.istore 8, 2) := by decide +kernel
theorem dX1_mostDoubtful_18 : decode cX1_mostDoubtful 18 = .ok (.iload 8, 2) := by decide +kernel
theorem dX1_mostDoubtful_20 : decode cX1_mostDoubtful 20 = .ok (.aload_n 1, 1) := by decide +kernel
theorem dX1_mostDoubtful_21 : decode cX1_mostDoubtful 21 = .ok (.getfield 59, 3) := by decide +kernel
theorem dX1_mostDoubtful_24 : decode cX1_mostDoubtful 24 = .ok (.if_icmp .ge 58, 3) := by decide +kernel
theorem dX1_mostDoubtful_27 : decode cX1_mostDoubtful 27 = .ok (.aload_n 0, 1) := by decide +kernel
theorem dX1_mostDoubtful_28 : decode cX1_mostDoubtful 28 = .ok (.aload_n 1, 1) := by decide +kernel
theorem dX1_mostDoubtful_29 : decode cX1_mostDoubtful 29 = .ok (.iload 8, 2) := by decide +kernel
theorem dX1_mostDoubtful_31 : decode cX1_mostDoubtful 31 = .ok (.invokevirtual 87, 3) := by decide +kernel
theorem dX1_mostDoubtful_34 : decode cX1_mostDoubtful 34 = .ok (.ifCond .eq 42, 3) := by decide +kernel
theorem dX1_mostDoubtful_37 : decode cX1_mostDoubtful 37 = .ok (.iload_n 3, 1) := by decide +kernel
theorem dX1_mostDoubtful_38 : decode cX1_mostDoubtful 38 = .ok (.bipush (-9), 2) := by decide +kernel
theorem dX1_mostDoubtful_40 : decode cX1_mostDoubtful 40 = .ok (.if_icmp .eq 21, 3) := by decide +kernel
theorem dX1_mostDoubtful_43 : decode cX1_mostDoubtful 43 = .ok (.aload_n 0, 1) := by decide +kernel
theorem dX1_mostDoubtful_44 : decode cX1_mostDoubtful 44 = .ok (.invokevirtual 91, 3) := by decide +kernel
theorem dX1_mostDoubtful_47 : decode cX1_mostDoubtful 47 = .ok (.aload_n 0, 1) := by decide +kernel
theorem dX1_mostDoubtful_48 : decode cX1_mostDoubtful 48 = .ok (.getfield 34, 3) := by decide +kernel
theorem dX1_mostDoubtful_51 : decode cX1_mostDoubtful 51 = .ok (.lload 4, 2) := by decide +kernel
theorem dX1_mostDoubtful_53 : decode cX1_mostDoubtful 53 = .ok (.lload 6, 2) := by decide +kernel
theorem dX1_mostDoubtful_55 : decode cX1_mostDoubtful 55 = .ok (.invokestatic 95, 3) := by decide +kernel
theorem dX1_mostDoubtful_58 : decode cX1_mostDoubtful 58 = .ok (.ifCond .eq 18, 3) := by decide +kernel
theorem dX1_mostDoubtful_61 : decode cX1_mostDoubtful 61 = .ok (.iload 8, 2) := by decide +kernel
theorem dX1_mostDoubtful_63 : decode cX1_mostDoubtful 63 = .ok (.istore_n 3, 1) := by decide +kernel
theorem dX1_mostDoubtful_64 : decode cX1_mostDoubtful 64 = .ok (.aload_n 0, 1) := by decide +kernel
theorem dX1_mostDoubtful_65 : decode cX1_mostDoubtful 65 = .ok (.invokevirtual 91, 3) := by decide +kernel
theorem dX1_mostDoubtful_68 : decode cX1_mostDoubtful 68 = .ok (.lstore 4, 2) := by decide +kernel
theorem dX1_mostDoubtful_70 : decode cX1_mostDoubtful 70 = .ok (.aload_n 0, 1) := by decide +kernel
theorem dX1_mostDoubtful_71 : decode cX1_mostDoubtful 71 = .ok (.getfield 34, 3) := by decide +kernel
theorem dX1_mostDoubtful_74 : decode cX1_mostDoubtful 74 = .ok (.lstore 6, 2) := by decide +kernel
theorem dX1_mostDoubtful_76 : decode cX1_mostDoubtful 76 = .ok (.iinc 8 1, 3) := by decide +kernel
theorem dX1_mostDoubtful_79 : decode cX1_mostDoubtful 79 = .ok (.goto (-61), 3) := by decide +kernel
theorem dX1_mostDoubtful_82 : decode cX1_mostDoubtful 82 = .ok (.iload_n 3, 1) := by decide +kernel
theorem dX1_mostDoubtful_83 : decode cX1_mostDoubtful 83 = .ok (.ireturn, 1) := by decide +kernel
theorem dX1_thoseAlone_0 : decode cX1_thoseAlone 0 = .ok (.aload_n 0, 1) := by decide +kernel
theorem dX1_thoseAlone_1 : decode cX1_thoseAlone 1 = .ok (.aload_n 1, 1) := by decide +kernel
theorem dX1_thoseAlone_2 : decode cX1_thoseAlone 2 = .ok (.iload_n 2, 1) := by decide +kernel
theorem dX1_thoseAlone_3 : decode cX1_thoseAlone 3 = .ok (.invokevirtual 38, 3) := by decide +kernel
theorem dX1_thoseAlone_6 : decode cX1_thoseAlone 6 = .ok (.iconst 0, 1) := by decide +kernel
theorem dX1_thoseAlone_7 : decode cX1_thoseAlone 7 = .ok (.istore_n 3, 1) := by decide +kernel
theorem dX1_thoseAlone_8 : decode cX1_thoseAlone 8 = .ok (.iconst 0, 1) := by decide +kernel
theorem dX1_thoseAlone_9 : decode cX1_thoseAlone 9 = .ok (.istore 4, 2) := by decide +kernel
theorem dX1_thoseAlone_11 : decode cX1_thoseAlone 11 = .ok (.iload 4, 2) := by decide +kernel
theorem dX1_thoseAlone_13 : decode cX1_thoseAlone 13 = .ok (.aload_n 1, 1) := by decide +kernel
theorem dX1_thoseAlone_14 : decode cX1_thoseAlone 14 = .ok (.getfield 59, 3) := by decide +kernel
theorem dX1_thoseAlone_17 : decode cX1_thoseAlone 17 = .ok (.if_icmp .ge 35, 3) := by decide +kernel
theorem dX1_thoseAlone_20 : decode cX1_thoseAlone 20 = .ok (.aload_n 0, 1) := by decide +kernel
theorem dX1_thoseAlone_21 : decode cX1_thoseAlone 21 = .ok (.aload_n 1, 1) := by decide +kernel
theorem dX1_thoseAlone_22 : decode cX1_thoseAlone 22 = .ok (.iload 4, 2) := by decide +kernel
theorem dX1_thoseAlone_24 : decode cX1_thoseAlone 24 = .ok (.invokevirtual 87, 3) := by decide +kernel
theorem dX1_thoseAlone_27 : decode cX1_thoseAlone 27 = .ok (.ifCond .eq 19, 3) := by decide +kernel
theorem dX1_thoseAlone_30 : decode cX1_thoseAlone 30 = .ok (.aload_n 0, 1) := by decide +kernel
theorem dX1_thoseAlone_31 : decode cX1_thoseAlone 31 = .ok (.invokevirtual 91, 3) := by decide +kernel
theorem dX1_thoseAlone_34 : decode cX1_thoseAlone 34 = .ok (.lconst 0, 1) := by decide +kernel
theorem dX1_thoseAlone_35 : decode cX1_thoseAlone 35 = .ok (.lcmp, 1) := by decide +kernel
theorem dX1_thoseAlone_36 : decode cX1_thoseAlone 36 = .ok (.ifCond .ne 10, 3) := by decide +kernel
theorem dX1_thoseAlone_39 : decode cX1_thoseAlone 39 = .ok (.iload_n 3, 1) := by decide +kernel
theorem dX1_thoseAlone_40 : decode cX1_thoseAlone 40 = .ok (.iconst 1, 1) := by decide +kernel
theorem dX1_thoseAlone_41 : decode cX1_thoseAlone 41 = .ok (.iload 4, 2) := by decide +kernel
theorem dX1_thoseAlone_43 : decode cX1_thoseAlone 43 = .ok (.ishl, 1) := by decide +kernel
theorem dX1_thoseAlone_44 : decode cX1_thoseAlone 44 = .ok (.ior, 1) := by decide +kernel
theorem dX1_thoseAlone_45 : decode cX1_thoseAlone 45 = .ok (.istore_n 3, 1) := by decide +kernel
theorem dX1_thoseAlone_46 : decode cX1_thoseAlone 46 = .ok (.iinc 4 1, 3) := by decide +kernel
theorem dX1_thoseAlone_49 : decode cX1_thoseAlone 49 = .ok (.goto (-38), 3) := by decide +kernel
theorem dX1_thoseAlone_52 : decode cX1_thoseAlone 52 = .ok (.iload_n 3, 1) := by decide +kernel
theorem dX1_thoseAlone_53 : decode cX1_thoseAlone 53 = .ok (.ireturn, 1) := by decide +kernel
theorem dX2_init_0 : decode cX2_init 0 = .ok (.aload_n 0, 1) := by decide +kernel
theorem dX2_init_1 : decode cX2_init 1 = .ok (.invokespecial 3, 3) := by decide +kernel
theorem dX2_init_4 : decode cX2_init 4 = .ok (.aload_n 0, 1) := by decide +kernel
theorem dX2_init_5 : decode cX2_init 5 = .ok (.iconst 5, 1) := by decide +kernel
theorem dX2_init_6 : decode cX2_init 6 = .ok (.bipush 6, 2) := by decide +kernel
theorem dX2_init_8 : decode cX2_init 8 = .ok (.multianewarray 9 2, 4) := by decide +kernel
theorem dX2_init_12 : decode cX2_init 12 = .ok (.putfield 11, 3) := by decide +kernel
theorem dX2_init_15 : decode cX2_init 15 = .ok (.aload_n 0, 1) := by decide +kernel
theorem dX2_init_16 : decode cX2_init 16 = .ok (.iconst 5, 1) := by decide +kernel
theorem dX2_init_17 : decode cX2_init 17 = .ok (.newarray .int, 2) := by decide +kernel
theorem dX2_init_19 : decode cX2_init 19 = .ok (.putfield 16, 3) := by decide +kernel
theorem dX2_init_22 : decode cX2_init 22 = .ok (.aload_n 0, 1) := by decide +kernel
theorem dX2_init_23 : decode cX2_init 23 = .ok (.sipush 256, 3) := by decide +kernel
theorem dX2_init_26 : decode cX2_init 26 = .ok (.newarray .int, 2) := by decide +kernel
theorem dX2_init_28 : decode cX2_init 28 = .ok (.putfield 20, 3) := by decide +kernel
theorem dX2_init_31 : decode cX2_init 31 = .ok (.return_, 1) := by decide +kernel
theorem dX2_ofAll_0 : decode cX2_ofAll 0 = .ok (.iconst 0, 1) := by decide +kernel
theorem dX2_ofAll_1 : decode cX2_ofAll 1 = .ok (.istore_n 3, 1) := by decide +kernel
theorem dX2_ofAll_2 : decode cX2_ofAll 2 = .ok (.iconst 0, 1) := by decide +kernel
theorem dX2_ofAll_3 : decode cX2_ofAll 3 = .ok (.istore 4, 2) := by decide +kernel
theorem dX2_ofAll_5 : decode cX2_ofAll 5 = .ok (.iload 4, 2) := by decide +kernel
theorem dX2_ofAll_7 : decode cX2_ofAll 7 = .ok (.aload_n 1, 1) := by decide +kernel
theorem dX2_ofAll_8 : decode cX2_ofAll 8 = .ok (.getfield 23, 3) := by decide +kernel
theorem dX2_ofAll_11 : decode cX2_ofAll 11 = .ok (.if_icmp .ge 19, 3) := by decide +kernel
theorem dX2_ofAll_14 : decode cX2_ofAll 14 = .ok (.aload_n 0, 1) := by decide +kernel
theorem dX2_ofAll_15 : decode cX2_ofAll 15 = .ok (.iload_n 3, 1) := by decide +kernel
theorem dX2_ofAll_16 : decode cX2_ofAll 16 = .ok (.aload_n 1, 1) := by decide +kernel
theorem dX2_ofAll_17 : decode cX2_ofAll 17 = .ok (.iload 4, 2) := by decide +kernel
theorem dX2_ofAll_19 : decode cX2_ofAll 19 = .ok (.iload_n 2, 1) := by decide +kernel
theorem dX2_ofAll_20 : decode cX2_ofAll 20 = .ok (.invokevirtual 29, 3) := by decide +kernel
theorem dX2_ofAll_23 : decode cX2_ofAll 23 = .ok (.istore_n 3, 1) := by decide +kernel
theorem dX2_ofAll_24 : decode cX2_ofAll 24 = .ok (.iinc 4 1, 3) := by decide +kernel
theorem dX2_ofAll_27 : decode cX2_ofAll 27 = .ok (.goto (-22), 3) := by decide +kernel
theorem dX2_ofAll_30 : decode cX2_ofAll 30 = .ok (.iload_n 3, 1) := by decide +kernel
theorem dX2_ofAll_31 : decode cX2_ofAll 31 = .ok (.ireturn, 1) := by decide +kernel
theorem dX2_ofEach_0 : decode cX2_ofEach 0 = .ok (.aload_n 0, 1) := by decide +kernel
theorem dX2_ofEach_1 : decode cX2_ofEach 1 = .ok (.getfield 20, 3) := by decide +kernel
theorem dX2_ofEach_4 : decode cX2_ofEach 4 = .ok (.iconst 0, 1) := by decide +kernel
theorem dX2_ofEach_5 : decode cX2_ofEach 5 = .ok (.iconst 0, 1) := by decide +kernel
theorem dX2_ofEach_6 : decode cX2_ofEach 6 = .ok (.iastore, 1) := by decide +kernel
theorem dX2_ofEach_7 : decode cX2_ofEach 7 = .ok (.iconst 1, 1) := by decide +kernel
theorem dX2_ofEach_8 : decode cX2_ofEach 8 = .ok (.istore_n 3, 1) := by decide +kernel
theorem dX2_ofEach_9 : decode cX2_ofEach 9 = .ok (.iload_n 3, 1) := by decide +kernel
theorem dX2_ofEach_10 : decode cX2_ofEach 10 = .ok (.iconst 1, 1) := by decide +kernel
theorem dX2_ofEach_11 : decode cX2_ofEach 11 = .ok (.aload_n 1, 1) := by decide +kernel
theorem dX2_ofEach_12 : decode cX2_ofEach 12 = .ok (.getfield 23, 3) := by decide +kernel
theorem dX2_ofEach_15 : decode cX2_ofEach 15 = .ok (.ishl, 1) := by decide +kernel
theorem dX2_ofEach_16 : decode cX2_ofEach 16 = .ok (.if_icmp .ge 48, 3) := by decide +kernel
theorem dX2_ofEach_19 : decode cX2_ofEach 19 = .ok (.iload_n 3, 1) := by decide +kernel
theorem dX2_ofEach_20 : decode cX2_ofEach 20 = .ok (.iload_n 3, 1) := by decide +kernel
theorem dX2_ofEach_21 : decode cX2_ofEach 21 = .ok (.iconst 1, 1) := by decide +kernel
theorem dX2_ofEach_22 : decode cX2_ofEach 22 = .ok (.isub, 1) := by decide +kernel
theorem dX2_ofEach_23 : decode cX2_ofEach 23 = .ok (.iand, 1) := by decide +kernel
theorem dX2_ofEach_24 : decode cX2_ofEach 24 = .ok (.istore 4, 2) := by decide +kernel
theorem dX2_ofEach_26 : decode cX2_ofEach 26 = .ok (.iload_n 3, 1) := by decide +kernel
theorem dX2_ofEach_27 : decode cX2_ofEach 27 = .ok (.iload 4, 2) := by decide +kernel
theorem dX2_ofEach_29 : decode cX2_ofEach 29 = .ok (.ixor, 1) := by decide +kernel
theorem dX2_ofEach_30 : decode cX2_ofEach 30 = .ok (.iconst 1, 1) := by decide +kernel
theorem dX2_ofEach_31 : decode cX2_ofEach 31 = .ok (.isub, 1) := by decide +kernel
theorem dX2_ofEach_32 : decode cX2_ofEach 32 = .ok (.invokestatic 33, 3) := by decide +kernel
theorem dX2_ofEach_35 : decode cX2_ofEach 35 = .ok (.istore 5, 2) := by decide +kernel
theorem dX2_ofEach_37 : decode cX2_ofEach 37 = .ok (.aload_n 0, 1) := by decide +kernel
theorem dX2_ofEach_38 : decode cX2_ofEach 38 = .ok (.getfield 20, 3) := by decide +kernel
theorem dX2_ofEach_41 : decode cX2_ofEach 41 = .ok (.iload_n 3, 1) := by decide +kernel
theorem dX2_ofEach_42 : decode cX2_ofEach 42 = .ok (.aload_n 0, 1) := by decide +kernel
theorem dX2_ofEach_43 : decode cX2_ofEach 43 = .ok (.aload_n 0, 1) := by decide +kernel
theorem dX2_ofEach_44 : decode cX2_ofEach 44 = .ok (.getfield 20, 3) := by decide +kernel
theorem dX2_ofEach_47 : decode cX2_ofEach 47 = .ok (.iload 4, 2) := by decide +kernel
theorem dX2_ofEach_49 : decode cX2_ofEach 49 = .ok (.iaload, 1) := by decide +kernel
theorem dX2_ofEach_50 : decode cX2_ofEach 50 = .ok (.aload_n 1, 1) := by decide +kernel
theorem dX2_ofEach_51 : decode cX2_ofEach 51 = .ok (.iload 5, 2) := by decide +kernel
theorem dX2_ofEach_53 : decode cX2_ofEach 53 = .ok (.iload_n 2, 1) := by decide +kernel
theorem dX2_ofEach_54 : decode cX2_ofEach 54 = .ok (.invokevirtual 29, 3) := by decide +kernel
theorem dX2_ofEach_57 : decode cX2_ofEach 57 = .ok (.iastore, 1) := by decide +kernel
theorem dX2_ofEach_58 : decode cX2_ofEach 58 = .ok (.iinc 3 1, 3) := by decide +kernel
theorem dX2_ofEach_61 : decode cX2_ofEach 61 = .ok (.goto (-52), 3) := by decide +kernel
theorem dX2_ofEach_64 : decode cX2_ofEach 64 = .ok (.return_, 1) := by decide +kernel
theorem dX2_extended_0 : decode cX2_extended 0 = .ok (.aload_n 2, 1) := by decide +kernel
theorem dX2_extended_1 : decode cX2_extended 1 = .ok (.iload 4, 2) := by decide +kernel
theorem dX2_extended_3 : decode cX2_extended 3 = .ok (.invokevirtual 39, 3) := by decide +kernel
theorem dX2_extended_6 : decode cX2_extended 6 = .ok (.istore 5, 2) := by decide +kernel
theorem dX2_extended_8 : decode cX2_extended 8 = .ok (.iload_n 1, 1) := by decide +kernel
theorem dX2_extended_9 : decode cX2_extended 9 = .ok (.iload 5, 2) := by decide +kernel
theorem dX2_extended_11 : decode cX2_extended 11 = .ok (.if_icmp .lt 5, 3) := by decide +kernel
theorem dX2_extended_14 : decode cX2_extended 14 = .ok (.iload_n 1, 1) := by decide +kernel
theorem dX2_extended_15 : decode cX2_extended 15 = .ok (.ireturn, 1) := by decide +kernel
theorem dX2_extended_16 : decode cX2_extended 16 = .ok (.aload_n 0, 1) := by decide +kernel
theorem dX2_extended_17 : decode cX2_extended 17 = .ok (.getfield 11, 3) := by decide +kernel
theorem dX2_extended_20 : decode cX2_extended 20 = .ok (.iload_n 1, 1) := by decide +kernel
theorem dX2_extended_21 : decode cX2_extended 21 = .ok (.aaload, 1) := by decide +kernel
theorem dX2_extended_22 : decode cX2_extended 22 = .ok (.astore 6, 2) := by decide +kernel
theorem dX2_extended_24 : decode cX2_extended 24 = .ok (.aload_n 2, 1) := by decide +kernel
theorem dX2_extended_25 : decode cX2_extended 25 = .ok (.iload_n 3, 1) := by decide +kernel
theorem dX2_extended_26 : decode cX2_extended 26 = .ok (.iload 4, 2) := by decide +kernel
theorem dX2_extended_28 : decode cX2_extended 28 = .ok (.aload 6, 2) := by decide +kernel
theorem dX2_extended_30 : decode cX2_extended 30 = .ok (.invokevirtual 43, 3) := by decide +kernel
theorem dX2_extended_33 : decode cX2_extended 33 = .ok (.iconst 0, 1) := by decide +kernel
theorem dX2_extended_34 : decode cX2_extended 34 = .ok (.istore 7, 2) := by decide +kernel
theorem dX2_extended_36 : decode cX2_extended 36 = .ok (.iload 7, 2) := by decide +kernel
theorem dX2_extended_38 : decode cX2_extended 38 = .ok (.iload_n 1, 1) := by decide +kernel
theorem dX2_extended_39 : decode cX2_extended 39 = .ok (.if_icmp .ge 30, 3) := by decide +kernel
theorem dX2_extended_42 : decode cX2_extended 42 = .ok (.aload 6, 2) := by decide +kernel
theorem dX2_extended_44 : decode cX2_extended 44 = .ok (.aload_n 0, 1) := by decide +kernel
theorem dX2_extended_45 : decode cX2_extended 45 = .ok (.getfield 11, 3) := by decide +kernel
theorem dX2_extended_48 : decode cX2_extended 48 = .ok (.iload 7, 2) := by decide +kernel
theorem dX2_extended_50 : decode cX2_extended 50 = .ok (.aaload, 1) := by decide +kernel
theorem dX2_extended_51 : decode cX2_extended 51 = .ok (.aload_n 0, 1) := by decide +kernel
theorem dX2_extended_52 : decode cX2_extended 52 = .ok (.getfield 16, 3) := by decide +kernel
theorem dX2_extended_55 : decode cX2_extended 55 = .ok (.iload 7, 2) := by decide +kernel
theorem dX2_extended_57 : decode cX2_extended 57 = .ok (.iaload, 1) := by decide +kernel
theorem dX2_extended_58 : decode cX2_extended 58 = .ok (.iload 5, 2) := by decide +kernel
theorem dX2_extended_60 : decode cX2_extended 60 = .ok (.invokestatic 47, 3) := by decide +kernel
theorem dX2_extended_63 : decode cX2_extended 63 = .ok (.iinc 7 1, 3) := by decide +kernel
theorem dX2_extended_66 : decode cX2_extended 66 = .ok (.goto (-30), 3) := by decide +kernel
theorem dX2_extended_69 : decode cX2_extended 69 = .ok (.iconst 0, 1) := by decide +kernel
theorem dX2_extended_70 : decode cX2_extended 70 = .ok (.istore 7, 2) := by decide +kernel
theorem dX2_extended_72 : decode cX2_extended 72 = .ok (.iload 7, 2) := by decide +kernel
theorem dX2_extended_74 : decode cX2_extended 74 = .ok (.iload 5, 2) := by decide +kernel
theorem dX2_extended_76 : decode cX2_extended 76 = .ok (.if_icmp .ge 31, 3) := by decide +kernel
theorem dX2_extended_79 : decode cX2_extended 79 = .ok (.aload 6, 2) := by decide +kernel
theorem dX2_extended_81 : decode cX2_extended 81 = .ok (.iload 7, 2) := by decide +kernel
theorem dX2_extended_83 : decode cX2_extended 83 = .ok (.laload, 1) := by decide +kernel
theorem dX2_extended_84 : decode cX2_extended 84 = .ok (.lconst 0, 1) := by decide +kernel
theorem dX2_extended_85 : decode cX2_extended 85 = .ok (.lcmp, 1) := by decide +kernel
theorem dX2_extended_86 : decode cX2_extended 86 = .ok (.ifCond .eq 15, 3) := by decide +kernel
theorem dX2_extended_89 : decode cX2_extended 89 = .ok (.aload_n 0, 1) := by decide +kernel
theorem dX2_extended_90 : decode cX2_extended 90 = .ok (.getfield 16, 3) := by decide +kernel
theorem dX2_extended_93 : decode cX2_extended 93 = .ok (.iload_n 1, 1) := by decide +kernel
theorem dX2_extended_94 : decode cX2_extended 94 = .ok (.iload 7, 2) := by decide +kernel
theorem dX2_extended_96 : decode cX2_extended 96 = .ok (.iastore, 1) := by decide +kernel
theorem dX2_extended_97 : decode cX2_extended 97 = .ok (.iload_n 1, 1) := by decide +kernel
theorem dX2_extended_98 : decode cX2_extended 98 = .ok (.iconst 1, 1) := by decide +kernel
theorem dX2_extended_99 : decode cX2_extended 99 = .ok (.iadd, 1) := by decide +kernel
theorem dX2_extended_100 : decode cX2_extended 100 = .ok (.ireturn, 1) := by decide +kernel
theorem dX2_extended_101 : decode cX2_extended 101 = .ok (.iinc 7 1, 3) := by decide +kernel
theorem dX2_extended_104 : decode cX2_extended 104 = .ok (.goto (-32), 3) := by decide +kernel
theorem dX2_extended_107 : decode cX2_extended 107 = .ok (.iload_n 1, 1) := by decide +kernel
theorem dX2_extended_108 : decode cX2_extended 108 = .ok (.ireturn, 1) := by decide +kernel
theorem dX2_reduce_0 : decode cX2_reduce 0 = .ok (.aload_n 0, 1) := by decide +kernel
theorem dX2_reduce_1 : decode cX2_reduce 1 = .ok (.iload_n 2, 1) := by decide +kernel
theorem dX2_reduce_2 : decode cX2_reduce 2 = .ok (.laload, 1) := by decide +kernel
theorem dX2_reduce_3 : decode cX2_reduce 3 = .ok (.lstore 4, 2) := by decide +kernel
theorem dX2_reduce_5 : decode cX2_reduce 5 = .ok (.lload 4, 2) := by decide +kernel
theorem dX2_reduce_7 : decode cX2_reduce 7 = .ok (.lconst 0, 1) := by decide +kernel
theorem dX2_reduce_8 : decode cX2_reduce 8 = .ok (.lcmp, 1) := by decide +kernel
theorem dX2_reduce_9 : decode cX2_reduce 9 = .ok (.ifCond .ne 4, 3) := by decide +kernel
theorem dX2_reduce_12 : decode cX2_reduce 12 = .ok (.return_, 1) := by decide +kernel
theorem dX2_reduce_13 : decode cX2_reduce 13 = .ok (.aload_n 1, 1) := by decide +kernel
theorem dX2_reduce_14 : decode cX2_reduce 14 = .ok (.iload_n 2, 1) := by decide +kernel
theorem dX2_reduce_15 : decode cX2_reduce 15 = .ok (.laload, 1) := by decide +kernel
theorem dX2_reduce_16 : decode cX2_reduce 16 = .ok (.lstore 6, 2) := by decide +kernel
theorem dX2_reduce_18 : decode cX2_reduce 18 = .ok (.iconst 0, 1) := by decide +kernel
theorem dX2_reduce_19 : decode cX2_reduce 19 = .ok (.istore 8, 2) := by decide +kernel
theorem dX2_reduce_21 : decode cX2_reduce 21 = .ok (.iload 8, 2) := by decide +kernel
theorem dX2_reduce_23 : decode cX2_reduce 23 = .ok (.iload_n 3, 1) := by decide +kernel
theorem dX2_reduce_24 : decode cX2_reduce 24 = .ok (.if_icmp .ge 28, 3) := by decide +kernel
theorem dX2_reduce_27 : decode cX2_reduce 27 = .ok (.aload_n 0, 1) := by decide +kernel
theorem dX2_reduce_28 : decode cX2_reduce 28 = .ok (.iload 8, 2) := by decide +kernel
theorem dX2_reduce_30 : decode cX2_reduce 30 = .ok (.aload_n 0, 1) := by decide +kernel
theorem dX2_reduce_31 : decode cX2_reduce 31 = .ok (.iload 8, 2) := by decide +kernel
theorem dX2_reduce_33 : decode cX2_reduce 33 = .ok (.laload, 1) := by decide +kernel
theorem dX2_reduce_34 : decode cX2_reduce 34 = .ok (.lload 6, 2) := by decide +kernel
theorem dX2_reduce_36 : decode cX2_reduce 36 = .ok (.lmul, 1) := by decide +kernel
theorem dX2_reduce_37 : decode cX2_reduce 37 = .ok (.aload_n 1, 1) := by decide +kernel
theorem dX2_reduce_38 : decode cX2_reduce 38 = .ok (.iload 8, 2) := by decide +kernel
theorem dX2_reduce_40 : decode cX2_reduce 40 = .ok (.laload, 1) := by decide +kernel
theorem dX2_reduce_41 : decode cX2_reduce 41 = .ok (.lload 4, 2) := by decide +kernel
theorem dX2_reduce_43 : decode cX2_reduce 43 = .ok (.lmul, 1) := by decide +kernel
theorem dX2_reduce_44 : decode cX2_reduce 44 = .ok (.lsub, 1) := by decide +kernel
theorem dX2_reduce_45 : decode cX2_reduce 45 = .ok (.lastore, 1) := by decide +kernel
theorem dX2_reduce_46 : decode cX2_reduce 46 = .ok (.iinc 8 1, 3) := by decide +kernel
theorem dX2_reduce_49 : decode cX2_reduce 49 = .ok (.goto (-28), 3) := by decide +kernel
theorem dX2_reduce_52 : decode cX2_reduce 52 = .ok (.return_, 1) := by decide +kernel
theorem dX3_init_0 : decode cX3_init 0 = .ok (.aload_n 0, 1) := by decide +kernel
theorem dX3_init_1 : decode cX3_init 1 = .ok (.invokespecial 3, 3) := by decide +kernel
theorem dX3_init_4 : decode cX3_init 4 = .ok (.aload_n 0, 1) := by decide +kernel
theorem dX3_init_5 : decode cX3_init 5 = .ok (.iconst 1, 1) := by decide +kernel
theorem dX3_init_6 : decode cX3_init 6 = .ok (.putfield 9, 3) := by decide +kernel
theorem dX3_init_9 : decode cX3_init 9 = .ok (.aload_n 0, 1) := by decide +kernel
theorem dX3_init_10 : decode cX3_init 10 = .ok (.iconst 0, 1) := by decide +kernel
theorem dX3_init_11 : decode cX3_init 11 = .ok (.putfield 15, 3) := by decide +kernel
theorem dX3_init_14 : decode cX3_init 14 = .ok (.aload_n 0, 1) := by decide +kernel
theorem dX3_init_15 : decode cX3_init 15 = .ok (.iconst 0, 1) := by decide +kernel
theorem dX3_init_16 : decode cX3_init 16 = .ok (.putfield 18, 3) := by decide +kernel
theorem dX3_init_19 : decode cX3_init 19 = .ok (.aload_n 0, 1) := by decide +kernel
theorem dX3_init_20 : decode cX3_init 20 = .ok (.bipush 8, 2) := by decide +kernel
theorem dX3_init_22 : decode cX3_init 22 = .ok (.newarray .int, 2) := by decide +kernel
theorem dX3_init_24 : decode cX3_init 24 = .ok (.putfield 21, 3) := by decide +kernel
theorem dX3_init_27 : decode cX3_init 27 = .ok (.aload_n 0, 1) := by decide +kernel
theorem dX3_init_28 : decode cX3_init 28 = .ok (.bipush 8, 2) := by decide +kernel
theorem dX3_init_30 : decode cX3_init 30 = .ok (.newarray .int, 2) := by decide +kernel
theorem dX3_init_32 : decode cX3_init 32 = .ok (.putfield 25, 3) := by decide +kernel
theorem dX3_init_35 : decode cX3_init 35 = .ok (.return_, 1) := by decide +kernel
theorem dX3_copy_0 : decode cX3_copy 0 = .ok (.aload_n 0, 1) := by decide +kernel
theorem dX3_copy_1 : decode cX3_copy 1 = .ok (.aload_n 1, 1) := by decide +kernel
theorem dX3_copy_2 : decode cX3_copy 2 = .ok (.getfield 9, 3) := by decide +kernel
theorem dX3_copy_5 : decode cX3_copy 5 = .ok (.putfield 9, 3) := by decide +kernel
theorem dX3_copy_8 : decode cX3_copy 8 = .ok (.aload_n 0, 1) := by decide +kernel
theorem dX3_copy_9 : decode cX3_copy 9 = .ok (.aload_n 1, 1) := by decide +kernel
theorem dX3_copy_10 : decode cX3_copy 10 = .ok (.getfield 15, 3) := by decide +kernel
theorem dX3_copy_13 : decode cX3_copy 13 = .ok (.putfield 15, 3) := by decide +kernel
theorem dX3_copy_16 : decode cX3_copy 16 = .ok (.aload_n 0, 1) := by decide +kernel
theorem dX3_copy_17 : decode cX3_copy 17 = .ok (.aload_n 1, 1) := by decide +kernel
theorem dX3_copy_18 : decode cX3_copy 18 = .ok (.getfield 18, 3) := by decide +kernel
theorem dX3_copy_21 : decode cX3_copy 21 = .ok (.putfield 18, 3) := by decide +kernel
theorem dX3_copy_24 : decode cX3_copy 24 = .ok (.aload_n 1, 1) := by decide +kernel
theorem dX3_copy_25 : decode cX3_copy 25 = .ok (.getfield 21, 3) := by decide +kernel
theorem dX3_copy_28 : decode cX3_copy 28 = .ok (.iconst 0, 1) := by decide +kernel
theorem dX3_copy_29 : decode cX3_copy 29 = .ok (.aload_n 0, 1) := by decide +kernel
theorem dX3_copy_30 : decode cX3_copy 30 = .ok (.getfield 21, 3) := by decide +kernel
theorem dX3_copy_33 : decode cX3_copy 33 = .ok (.iconst 0, 1) := by decide +kernel
theorem dX3_copy_34 : decode cX3_copy 34 = .ok (.bipush 8, 2) := by decide +kernel
theorem dX3_copy_36 : decode cX3_copy 36 = .ok (.invokestatic 28, 3) := by decide +kernel
theorem dX3_copy_39 : decode cX3_copy 39 = .ok (.aload_n 1, 1) := by decide +kernel
theorem dX3_copy_40 : decode cX3_copy 40 = .ok (.getfield 25, 3) := by decide +kernel
theorem dX3_copy_43 : decode cX3_copy 43 = .ok (.iconst 0, 1) := by decide +kernel
theorem dX3_copy_44 : decode cX3_copy 44 = .ok (.aload_n 0, 1) := by decide +kernel
theorem dX3_copy_45 : decode cX3_copy 45 = .ok (.getfield 25, 3) := by decide +kernel
theorem dX3_copy_48 : decode cX3_copy 48 = .ok (.iconst 0, 1) := by decide +kernel
theorem dX3_copy_49 : decode cX3_copy 49 = .ok (.bipush 8, 2) := by decide +kernel
theorem dX3_copy_51 : decode cX3_copy 51 = .ok (.invokestatic 28, 3) := by decide +kernel
theorem dX3_copy_54 : decode cX3_copy 54 = .ok (.return_, 1) := by decide +kernel
theorem dX3_takeFrom_0 : decode cX3_takeFrom 0 = .ok (.aload_n 0, 1) := by decide +kernel
theorem dX3_takeFrom_1 : decode cX3_takeFrom 1 = .ok (.aload_n 1, 1) := by decide +kernel
theorem dX3_takeFrom_2 : decode cX3_takeFrom 2 = .ok (.invokevirtual 34, 3) := by decide +kernel
theorem dX3_takeFrom_5 : decode cX3_takeFrom 5 = .ok (.putfield 9, 3) := by decide +kernel
theorem dX3_takeFrom_8 : decode cX3_takeFrom 8 = .ok (.aload_n 0, 1) := by decide +kernel
theorem dX3_takeFrom_9 : decode cX3_takeFrom 9 = .ok (.aload_n 1, 1) := by decide +kernel
theorem dX3_takeFrom_10 : decode cX3_takeFrom 10 = .ok (.invokevirtual 40, 3) := by decide +kernel
theorem dX3_takeFrom_13 : decode cX3_takeFrom 13 = .ok (.putfield 15, 3) := by decide +kernel
theorem dX3_takeFrom_16 : decode cX3_takeFrom 16 = .ok (.aload_n 0, 1) := by decide +kernel
theorem dX3_takeFrom_17 : decode cX3_takeFrom 17 = .ok (.aload_n 1, 1) := by decide +kernel
theorem dX3_takeFrom_18 : decode cX3_takeFrom 18 = .ok (.invokevirtual 43, 3) := by decide +kernel
theorem dX3_takeFrom_21 : decode cX3_takeFrom 21 = .ok (.bipush 8, 2) := by decide +kernel
theorem dX3_takeFrom_23 : decode cX3_takeFrom 23 = .ok (.invokestatic 46, 3) := by decide +kernel
theorem dX3_takeFrom_26 : decode cX3_takeFrom 26 = .ok (.putfield 18, 3) := by decide +kernel
theorem dX3_takeFrom_29 : decode cX3_takeFrom 29 = .ok (.iconst 0, 1) := by decide +kernel
theorem dX3_takeFrom_30 : decode cX3_takeFrom 30 = .ok (.istore_n 2, 1) := by decide +kernel
theorem dX3_takeFrom_31 : decode cX3_takeFrom 31 = .ok (.iload_n 2, 1) := by decide +kernel
theorem dX3_takeFrom_32 : decode cX3_takeFrom 32 = .ok (.aload_n 0, 1) := by decide +kernel
theorem dX3_takeFrom_33 : decode cX3_takeFrom 33 = .ok (.getfield 18, 3) := by decide +kernel
theorem dX3_takeFrom_36 : decode cX3_takeFrom 36 = .ok (.if_icmp .ge 31, 3) := by decide +kernel
theorem dX3_takeFrom_39 : decode cX3_takeFrom 39 = .ok (.aload_n 0, 1) := by decide +kernel
theorem dX3_takeFrom_40 : decode cX3_takeFrom 40 = .ok (.getfield 21, 3) := by decide +kernel
theorem dX3_takeFrom_43 : decode cX3_takeFrom 43 = .ok (.iload_n 2, 1) := by decide +kernel
theorem dX3_takeFrom_44 : decode cX3_takeFrom 44 = .ok (.aload_n 1, 1) := by decide +kernel
theorem dX3_takeFrom_45 : decode cX3_takeFrom 45 = .ok (.iload_n 2, 1) := by decide +kernel
theorem dX3_takeFrom_46 : decode cX3_takeFrom 46 = .ok (.invokevirtual 52, 3) := by decide +kernel
theorem dX3_takeFrom_49 : decode cX3_takeFrom 49 = .ok (.iastore, 1) := by decide +kernel
theorem dX3_takeFrom_50 : decode cX3_takeFrom 50 = .ok (.aload_n 0, 1) := by decide +kernel
theorem dX3_takeFrom_51 : decode cX3_takeFrom 51 = .ok (.getfield 25, 3) := by decide +kernel
theorem dX3_takeFrom_54 : decode cX3_takeFrom 54 = .ok (.iload_n 2, 1) := by decide +kernel
theorem dX3_takeFrom_55 : decode cX3_takeFrom 55 = .ok (.aload_n 1, 1) := by decide +kernel
theorem dX3_takeFrom_56 : decode cX3_takeFrom 56 = .ok (.iload_n 2, 1) := by decide +kernel
theorem dX3_takeFrom_57 : decode cX3_takeFrom 57 = .ok (.invokevirtual 56, 3) := by decide +kernel
theorem dX3_takeFrom_60 : decode cX3_takeFrom 60 = .ok (.iastore, 1) := by decide +kernel
theorem dX3_takeFrom_61 : decode cX3_takeFrom 61 = .ok (.iinc 2 1, 3) := by decide +kernel
theorem dX3_takeFrom_64 : decode cX3_takeFrom 64 = .ok (.goto (-33), 3) := by decide +kernel
theorem dX3_takeFrom_67 : decode cX3_takeFrom 67 = .ok (.return_, 1) := by decide +kernel
theorem dX3_has_0 : decode cX3_has 0 = .ok (.iload_n 1, 1) := by decide +kernel
theorem dX3_has_1 : decode cX3_has 1 = .ok (.ifCond .lt 15, 3) := by decide +kernel
theorem dX3_has_4 : decode cX3_has 4 = .ok (.iload_n 1, 1) := by decide +kernel
theorem dX3_has_5 : decode cX3_has 5 = .ok (.aload_n 0, 1) := by decide +kernel
theorem dX3_has_6 : decode cX3_has 6 = .ok (.getfield 18, 3) := by decide +kernel
theorem dX3_has_9 : decode cX3_has 9 = .ok (.if_icmp .ge 7, 3) := by decide +kernel
theorem dX3_has_12 : decode cX3_has 12 = .ok (.iconst 1, 1) := by decide +kernel
theorem dX3_has_13 : decode cX3_has 13 = .ok (.goto 4, 3) := by decide +kernel
theorem dX3_has_16 : decode cX3_has 16 = .ok (.iconst 0, 1) := by decide +kernel
theorem dX3_has_17 : decode cX3_has 17 = .ok (.ireturn, 1) := by decide +kernel
theorem dX3_unknowns_0 : decode cX3_unknowns 0 = .ok (.iload_n 1, 1) := by decide +kernel
theorem dX3_unknowns_1 : decode cX3_unknowns 1 = .ok (.ifCond .eq 12, 3) := by decide +kernel
theorem dX3_unknowns_4 : decode cX3_unknowns 4 = .ok (.aload_n 0, 1) := by decide +kernel
theorem dX3_unknowns_5 : decode cX3_unknowns 5 = .ok (.getfield 9, 3) := by decide +kernel
theorem dX3_unknowns_8 : decode cX3_unknowns 8 = .ok (.iconst 1, 1) := by decide +kernel
theorem dX3_unknowns_9 : decode cX3_unknowns 9 = .ok (.iadd, 1) := by decide +kernel
theorem dX3_unknowns_10 : decode cX3_unknowns 10 = .ok (.goto 7, 3) := by decide +kernel
theorem dX3_unknowns_13 : decode cX3_unknowns 13 = .ok (.aload_n 0, 1) := by decide +kernel
theorem dX3_unknowns_14 : decode cX3_unknowns 14 = .ok (.getfield 9, 3) := by decide +kernel
theorem dX3_unknowns_17 : decode cX3_unknowns 17 = .ok (.ireturn, 1) := by decide +kernel
theorem dX3_hasUnknown_0 : decode cX3_hasUnknown 0 = .ok (.iload_n 1, 1) := by decide +kernel
theorem dX3_hasUnknown_1 : decode cX3_hasUnknown 1 = .ok (.ifCond .lt 16, 3) := by decide +kernel
theorem dX3_hasUnknown_4 : decode cX3_hasUnknown 4 = .ok (.iload_n 1, 1) := by decide +kernel
theorem dX3_hasUnknown_5 : decode cX3_hasUnknown 5 = .ok (.aload_n 0, 1) := by decide +kernel
theorem dX3_hasUnknown_6 : decode cX3_hasUnknown 6 = .ok (.iload_n 2, 1) := by decide +kernel
theorem dX3_hasUnknown_7 : decode cX3_hasUnknown 7 = .ok (.invokevirtual 59, 3) := by decide +kernel
theorem dX3_hasUnknown_10 : decode cX3_hasUnknown 10 = .ok (.if_icmp .ge 7, 3) := by decide +kernel
theorem dX3_hasUnknown_13 : decode cX3_hasUnknown 13 = .ok (.iconst 1, 1) := by decide +kernel
theorem dX3_hasUnknown_14 : decode cX3_hasUnknown 14 = .ok (.goto 4, 3) := by decide +kernel
theorem dX3_hasUnknown_17 : decode cX3_hasUnknown 17 = .ok (.iconst 0, 1) := by decide +kernel
theorem dX3_hasUnknown_18 : decode cX3_hasUnknown 18 = .ok (.ireturn, 1) := by decide +kernel
theorem dX3_append_0 : decode cX3_append 0 = .ok (.aload_n 0, 1) := by decide +kernel
theorem dX3_append_1 : decode cX3_append 1 = .ok (.getfield 18, 3) := by decide +kernel
theorem dX3_append_4 : decode cX3_append 4 = .ok (.bipush 8, 2) := by decide +kernel
theorem dX3_append_6 : decode cX3_append 6 = .ok (.if_icmp .ge 33, 3) := by decide +kernel
theorem dX3_append_9 : decode cX3_append 9 = .ok (.aload_n 0, 1) := by decide +kernel
theorem dX3_append_10 : decode cX3_append 10 = .ok (.getfield 21, 3) := by decide +kernel
theorem dX3_append_13 : decode cX3_append 13 = .ok (.aload_n 0, 1) := by decide +kernel
theorem dX3_append_14 : decode cX3_append 14 = .ok (.getfield 18, 3) := by decide +kernel
theorem dX3_append_17 : decode cX3_append 17 = .ok (.iload_n 1, 1) := by decide +kernel
theorem dX3_append_18 : decode cX3_append 18 = .ok (.iastore, 1) := by decide +kernel
theorem dX3_append_19 : decode cX3_append 19 = .ok (.aload_n 0, 1) := by decide +kernel
theorem dX3_append_20 : decode cX3_append 20 = .ok (.getfield 25, 3) := by decide +kernel
theorem dX3_append_23 : decode cX3_append 23 = .ok (.aload_n 0, 1) := by decide +kernel
theorem dX3_append_24 : decode cX3_append 24 = .ok (.getfield 18, 3) := by decide +kernel
theorem dX3_append_27 : decode cX3_append 27 = .ok (.iload_n 2, 1) := by decide +kernel
theorem dX3_append_28 : decode cX3_append 28 = .ok (.iastore, 1) := by decide +kernel
theorem dX3_append_29 : decode cX3_append 29 = .ok (.aload_n 0, 1) := by decide +kernel
theorem dX3_append_30 : decode cX3_append 30 = .ok (.dup, 1) := by decide +kernel
theorem dX3_append_31 : decode cX3_append 31 = .ok (.getfield 18, 3) := by decide +kernel
theorem dX3_append_34 : decode cX3_append 34 = .ok (.iconst 1, 1) := by decide +kernel
theorem dX3_append_35 : decode cX3_append 35 = .ok (.iadd, 1) := by decide +kernel
theorem dX3_append_36 : decode cX3_append 36 = .ok (.putfield 18, 3) := by decide +kernel
theorem dX3_append_39 : decode cX3_append 39 = .ok (.return_, 1) := by decide +kernel
theorem dX3_remove_0 : decode cX3_remove 0 = .ok (.iload_n 1, 1) := by decide +kernel
theorem dX3_remove_1 : decode cX3_remove 1 = .ok (.istore_n 2, 1) := by decide +kernel
theorem dX3_remove_2 : decode cX3_remove 2 = .ok (.iload_n 2, 1) := by decide +kernel
theorem dX3_remove_3 : decode cX3_remove 3 = .ok (.iconst 1, 1) := by decide +kernel
theorem dX3_remove_4 : decode cX3_remove 4 = .ok (.iadd, 1) := by decide +kernel
theorem dX3_remove_5 : decode cX3_remove 5 = .ok (.aload_n 0, 1) := by decide +kernel
theorem dX3_remove_6 : decode cX3_remove 6 = .ok (.getfield 18, 3) := by decide +kernel
theorem dX3_remove_9 : decode cX3_remove 9 = .ok (.if_icmp .ge 37, 3) := by decide +kernel
theorem dX3_remove_12 : decode cX3_remove 12 = .ok (.aload_n 0, 1) := by decide +kernel
theorem dX3_remove_13 : decode cX3_remove 13 = .ok (.getfield 21, 3) := by decide +kernel
theorem dX3_remove_16 : decode cX3_remove 16 = .ok (.iload_n 2, 1) := by decide +kernel
theorem dX3_remove_17 : decode cX3_remove 17 = .ok (.aload_n 0, 1) := by decide +kernel
theorem dX3_remove_18 : decode cX3_remove 18 = .ok (.getfield 21, 3) := by decide +kernel
theorem dX3_remove_21 : decode cX3_remove 21 = .ok (.iload_n 2, 1) := by decide +kernel
theorem dX3_remove_22 : decode cX3_remove 22 = .ok (.iconst 1, 1) := by decide +kernel
theorem dX3_remove_23 : decode cX3_remove 23 = .ok (.iadd, 1) := by decide +kernel
theorem dX3_remove_24 : decode cX3_remove 24 = .ok (.iaload, 1) := by decide +kernel
theorem dX3_remove_25 : decode cX3_remove 25 = .ok (.iastore, 1) := by decide +kernel
theorem dX3_remove_26 : decode cX3_remove 26 = .ok (.aload_n 0, 1) := by decide +kernel
theorem dX3_remove_27 : decode cX3_remove 27 = .ok (.getfield 25, 3) := by decide +kernel
theorem dX3_remove_30 : decode cX3_remove 30 = .ok (.iload_n 2, 1) := by decide +kernel
theorem dX3_remove_31 : decode cX3_remove 31 = .ok (.aload_n 0, 1) := by decide +kernel
theorem dX3_remove_32 : decode cX3_remove 32 = .ok (.getfield 25, 3) := by decide +kernel
theorem dX3_remove_35 : decode cX3_remove 35 = .ok (.iload_n 2, 1) := by decide +kernel
theorem dX3_remove_36 : decode cX3_remove 36 = .ok (.iconst 1, 1) := by decide +kernel
theorem dX3_remove_37 : decode cX3_remove 37 = .ok (.iadd, 1) := by decide +kernel
theorem dX3_remove_38 : decode cX3_remove 38 = .ok (.iaload, 1) := by decide +kernel
theorem dX3_remove_39 : decode cX3_remove 39 = .ok (.iastore, 1) := by decide +kernel
theorem dX3_remove_40 : decode cX3_remove 40 = .ok (.iinc 2 1, 3) := by decide +kernel
theorem dX3_remove_43 : decode cX3_remove 43 = .ok (.goto (-41), 3) := by decide +kernel
theorem dX3_remove_46 : decode cX3_remove 46 = .ok (.aload_n 0, 1) := by decide +kernel
theorem dX3_remove_47 : decode cX3_remove 47 = .ok (.dup, 1) := by decide +kernel
theorem dX3_remove_48 : decode cX3_remove 48 = .ok (.getfield 18, 3) := by decide +kernel
theorem dX3_remove_51 : decode cX3_remove 51 = .ok (.iconst 1, 1) := by decide +kernel
theorem dX3_remove_52 : decode cX3_remove 52 = .ok (.isub, 1) := by decide +kernel
theorem dX3_remove_53 : decode cX3_remove 53 = .ok (.putfield 18, 3) := by decide +kernel
theorem dX3_remove_56 : decode cX3_remove 56 = .ok (.return_, 1) := by decide +kernel
theorem dX3_exchange_0 : decode cX3_exchange 0 = .ok (.aload_n 0, 1) := by decide +kernel
theorem dX3_exchange_1 : decode cX3_exchange 1 = .ok (.getfield 21, 3) := by decide +kernel
theorem dX3_exchange_4 : decode cX3_exchange 4 = .ok (.iload_n 1, 1) := by decide +kernel
theorem dX3_exchange_5 : decode cX3_exchange 5 = .ok (.iaload, 1) := by decide +kernel
theorem dX3_exchange_6 : decode cX3_exchange 6 = .ok (.istore_n 3, 1) := by decide +kernel
theorem dX3_exchange_7 : decode cX3_exchange 7 = .ok (.aload_n 0, 1) := by decide +kernel
theorem dX3_exchange_8 : decode cX3_exchange 8 = .ok (.getfield 25, 3) := by decide +kernel
theorem dX3_exchange_11 : decode cX3_exchange 11 = .ok (.iload_n 1, 1) := by decide +kernel
theorem dX3_exchange_12 : decode cX3_exchange 12 = .ok (.iaload, 1) := by decide +kernel
theorem dX3_exchange_13 : decode cX3_exchange 13 = .ok (.istore 4, 2) := by decide +kernel
theorem dX3_exchange_15 : decode cX3_exchange 15 = .ok (.aload_n 0, 1) := by decide +kernel
theorem dX3_exchange_16 : decode cX3_exchange 16 = .ok (.getfield 21, 3) := by decide +kernel
theorem dX3_exchange_19 : decode cX3_exchange 19 = .ok (.iload_n 1, 1) := by decide +kernel
theorem dX3_exchange_20 : decode cX3_exchange 20 = .ok (.aload_n 0, 1) := by decide +kernel
theorem dX3_exchange_21 : decode cX3_exchange 21 = .ok (.getfield 21, 3) := by decide +kernel
theorem dX3_exchange_24 : decode cX3_exchange 24 = .ok (.iload_n 2, 1) := by decide +kernel
theorem dX3_exchange_25 : decode cX3_exchange 25 = .ok (.iaload, 1) := by decide +kernel
theorem dX3_exchange_26 : decode cX3_exchange 26 = .ok (.iastore, 1) := by decide +kernel
theorem dX3_exchange_27 : decode cX3_exchange 27 = .ok (.aload_n 0, 1) := by decide +kernel
theorem dX3_exchange_28 : decode cX3_exchange 28 = .ok (.getfield 25, 3) := by decide +kernel
theorem dX3_exchange_31 : decode cX3_exchange 31 = .ok (.iload_n 1, 1) := by decide +kernel
theorem dX3_exchange_32 : decode cX3_exchange 32 = .ok (.aload_n 0, 1) := by decide +kernel
theorem dX3_exchange_33 : decode cX3_exchange 33 = .ok (.getfield 25, 3) := by decide +kernel
theorem dX3_exchange_36 : decode cX3_exchange 36 = .ok (.iload_n 2, 1) := by decide +kernel
theorem dX3_exchange_37 : decode cX3_exchange 37 = .ok (.iaload, 1) := by decide +kernel
theorem dX3_exchange_38 : decode cX3_exchange 38 = .ok (.iastore, 1) := by decide +kernel
theorem dX3_exchange_39 : decode cX3_exchange 39 = .ok (.aload_n 0, 1) := by decide +kernel
theorem dX3_exchange_40 : decode cX3_exchange 40 = .ok (.getfield 21, 3) := by decide +kernel
theorem dX3_exchange_43 : decode cX3_exchange 43 = .ok (.iload_n 2, 1) := by decide +kernel
theorem dX3_exchange_44 : decode cX3_exchange 44 = .ok (.iload_n 3, 1) := by decide +kernel
theorem dX3_exchange_45 : decode cX3_exchange 45 = .ok (.iastore, 1) := by decide +kernel
theorem dX3_exchange_46 : decode cX3_exchange 46 = .ok (.aload_n 0, 1) := by decide +kernel
theorem dX3_exchange_47 : decode cX3_exchange 47 = .ok (.getfield 25, 3) := by decide +kernel
theorem dX3_exchange_50 : decode cX3_exchange 50 = .ok (.iload_n 2, 1) := by decide +kernel
theorem dX3_exchange_51 : decode cX3_exchange 51 = .ok (.iload 4, 2) := by decide +kernel
theorem dX3_exchange_53 : decode cX3_exchange 53 = .ok (.iastore, 1) := by decide +kernel
theorem dX3_exchange_54 : decode cX3_exchange 54 = .ok (.return_, 1) := by decide +kernel
theorem dX3_layOut_0 : decode cX3_layOut 0 = .ok (.aload_n 0, 1) := by decide +kernel
theorem dX3_layOut_1 : decode cX3_layOut 1 = .ok (.getfield 21, 3) := by decide +kernel
theorem dX3_layOut_4 : decode cX3_layOut 4 = .ok (.iload_n 1, 1) := by decide +kernel
theorem dX3_layOut_5 : decode cX3_layOut 5 = .ok (.iaload, 1) := by decide +kernel
theorem dX3_layOut_6 : decode cX3_layOut 6 = .ok (.istore 4, 2) := by decide +kernel
theorem dX3_layOut_8 : decode cX3_layOut 8 = .ok (.aload_n 0, 1) := by decide +kernel
theorem dX3_layOut_9 : decode cX3_layOut 9 = .ok (.getfield 9, 3) := by decide +kernel
theorem dX3_layOut_12 : decode cX3_layOut 12 = .ok (.iconst 1, 1) := by decide +kernel
theorem dX3_layOut_13 : decode cX3_layOut 13 = .ok (.isub, 1) := by decide +kernel
theorem dX3_layOut_14 : decode cX3_layOut 14 = .ok (.istore 5, 2) := by decide +kernel
theorem dX3_layOut_16 : decode cX3_layOut 16 = .ok (.iload 5, 2) := by decide +kernel
theorem dX3_layOut_18 : decode cX3_layOut 18 = .ok (.ifCond .lt 29, 3) := by decide +kernel
theorem dX3_layOut_21 : decode cX3_layOut 21 = .ok (.aload_n 3, 1) := by decide +kernel
theorem dX3_layOut_22 : decode cX3_layOut 22 = .ok (.iload 5, 2) := by decide +kernel
theorem dX3_layOut_24 : decode cX3_layOut 24 = .ok (.iload 4, 2) := by decide +kernel
theorem dX3_layOut_26 : decode cX3_layOut 26 = .ok (.bipush 10, 2) := by decide +kernel
theorem dX3_layOut_28 : decode cX3_layOut 28 = .ok (.irem, 1) := by decide +kernel
theorem dX3_layOut_29 : decode cX3_layOut 29 = .ok (.invokestatic 63, 3) := by decide +kernel
theorem dX3_layOut_32 : decode cX3_layOut 32 = .ok (.i2l, 1) := by decide +kernel
theorem dX3_layOut_33 : decode cX3_layOut 33 = .ok (.lastore, 1) := by decide +kernel
theorem dX3_layOut_34 : decode cX3_layOut 34 = .ok (.iload 4, 2) := by decide +kernel
theorem dX3_layOut_36 : decode cX3_layOut 36 = .ok (.bipush 10, 2) := by decide +kernel
theorem dX3_layOut_38 : decode cX3_layOut 38 = .ok (.idiv, 1) := by decide +kernel
theorem dX3_layOut_39 : decode cX3_layOut 39 = .ok (.istore 4, 2) := by decide +kernel
theorem dX3_layOut_41 : decode cX3_layOut 41 = .ok (.iinc 5 (-1), 3) := by decide +kernel
theorem dX3_layOut_44 : decode cX3_layOut 44 = .ok (.goto (-28), 3) := by decide +kernel
theorem dX3_layOut_47 : decode cX3_layOut 47 = .ok (.iload_n 2, 1) := by decide +kernel
theorem dX3_layOut_48 : decode cX3_layOut 48 = .ok (.ifCond .eq 11, 3) := by decide +kernel
theorem dX3_layOut_51 : decode cX3_layOut 51 = .ok (.aload_n 3, 1) := by decide +kernel
theorem dX3_layOut_52 : decode cX3_layOut 52 = .ok (.aload_n 0, 1) := by decide +kernel
theorem dX3_layOut_53 : decode cX3_layOut 53 = .ok (.getfield 9, 3) := by decide +kernel
theorem dX3_layOut_56 : decode cX3_layOut 56 = .ok (.iload_n 1, 1) := by decide +kernel
theorem dX3_layOut_57 : decode cX3_layOut 57 = .ok (.i2l, 1) := by decide +kernel
theorem dX3_layOut_58 : decode cX3_layOut 58 = .ok (.lastore, 1) := by decide +kernel
theorem dX3_layOut_59 : decode cX3_layOut 59 = .ok (.aload_n 3, 1) := by decide +kernel
theorem dX3_layOut_60 : decode cX3_layOut 60 = .ok (.aload_n 0, 1) := by decide +kernel
theorem dX3_layOut_61 : decode cX3_layOut 61 = .ok (.iload_n 2, 1) := by decide +kernel
theorem dX3_layOut_62 : decode cX3_layOut 62 = .ok (.invokevirtual 59, 3) := by decide +kernel
theorem dX3_layOut_65 : decode cX3_layOut 65 = .ok (.aload_n 0, 1) := by decide +kernel
theorem dX3_layOut_66 : decode cX3_layOut 66 = .ok (.getfield 25, 3) := by decide +kernel
theorem dX3_layOut_69 : decode cX3_layOut 69 = .ok (.iload_n 1, 1) := by decide +kernel
theorem dX3_layOut_70 : decode cX3_layOut 70 = .ok (.iaload, 1) := by decide +kernel
theorem dX3_layOut_71 : decode cX3_layOut 71 = .ok (.iload 4, 2) := by decide +kernel
theorem dX3_layOut_73 : decode cX3_layOut 73 = .ok (.invokestatic 63, 3) := by decide +kernel
theorem dX3_layOut_76 : decode cX3_layOut 76 = .ok (.aload_n 0, 1) := by decide +kernel
theorem dX3_layOut_77 : decode cX3_layOut 77 = .ok (.getfield 15, 3) := by decide +kernel
theorem dX3_layOut_80 : decode cX3_layOut 80 = .ok (.imul, 1) := by decide +kernel
theorem dX3_layOut_81 : decode cX3_layOut 81 = .ok (.isub, 1) := by decide +kernel
theorem dX3_layOut_82 : decode cX3_layOut 82 = .ok (.i2l, 1) := by decide +kernel
theorem dX3_layOut_83 : decode cX3_layOut 83 = .ok (.lastore, 1) := by decide +kernel
theorem dX3_layOut_84 : decode cX3_layOut 84 = .ok (.return_, 1) := by decide +kernel
theorem dX3_signOf_0 : decode cX3_signOf 0 = .ok (.iload_n 0, 1) := by decide +kernel
theorem dX3_signOf_1 : decode cX3_signOf 1 = .ok (.iconst 2, 1) := by decide +kernel
theorem dX3_signOf_2 : decode cX3_signOf 2 = .ok (.if_icmp .ne 7, 3) := by decide +kernel
theorem dX3_signOf_5 : decode cX3_signOf 5 = .ok (.iconst (-1), 1) := by decide +kernel
theorem dX3_signOf_6 : decode cX3_signOf 6 = .ok (.goto 4, 3) := by decide +kernel
theorem dX3_signOf_9 : decode cX3_signOf 9 = .ok (.iload_n 0, 1) := by decide +kernel
theorem dX3_signOf_10 : decode cX3_signOf 10 = .ok (.ireturn, 1) := by decide +kernel
theorem dX4_init_0 : decode cX4_init 0 = .ok (.aload_n 0, 1) := by decide +kernel
theorem dX4_init_1 : decode cX4_init 1 = .ok (.invokespecial 3, 3) := by decide +kernel
theorem dX4_init_4 : decode cX4_init 4 = .ok (.aload_n 0, 1) := by decide +kernel
theorem dX4_init_5 : decode cX4_init 5 = .ok (.bipush 90, 2) := by decide +kernel
theorem dX4_init_7 : decode cX4_init 7 = .ok (.newarray .int, 2) := by decide +kernel
theorem dX4_init_9 : decode cX4_init 9 = .ok (.putfield 9, 3) := by decide +kernel
theorem dX4_init_12 : decode cX4_init 12 = .ok (.aload_n 0, 1) := by decide +kernel
theorem dX4_init_13 : decode cX4_init 13 = .ok (.iconst 0, 1) := by decide +kernel
theorem dX4_init_14 : decode cX4_init 14 = .ok (.putfield 15, 3) := by decide +kernel
theorem dX4_init_17 : decode cX4_init 17 = .ok (.return_, 1) := by decide +kernel
theorem dX4_faultPlace_0 : decode cX4_faultPlace 0 = .ok (.iconst 0, 1) := by decide +kernel
theorem dX4_faultPlace_1 : decode cX4_faultPlace 1 = .ok (.istore_n 1, 1) := by decide +kernel
theorem dX4_faultPlace_2 : decode cX4_faultPlace 2 = .ok (.iload_n 1, 1) := by decide +kernel
theorem dX4_faultPlace_3 : decode cX4_faultPlace 3 = .ok (.aload_n 0, 1) := by decide +kernel
theorem dX4_faultPlace_4 : decode cX4_faultPlace 4 = .ok (.getfield 15, 3) := by decide +kernel
theorem dX4_faultPlace_7 : decode cX4_faultPlace 7 = .ok (.if_icmp .ge 19, 3) := by decide +kernel
theorem dX4_faultPlace_10 : decode cX4_faultPlace 10 = .ok (.aload_n 0, 1) := by decide +kernel
theorem dX4_faultPlace_11 : decode cX4_faultPlace 11 = .ok (.iload_n 1, 1) := by decide +kernel
theorem dX4_faultPlace_12 : decode cX4_faultPlace 12 = .ok (.invokevirtual 19, 3) := by decide +kernel
theorem dX4_faultPlace_15 : decode cX4_faultPlace 15 = .ok (.ifCond .ne 5, 3) := by decide +kernel
theorem dX4_faultPlace_18 : decode cX4_faultPlace 18 = .ok (.iload_n 1, 1) := by decide +kernel
theorem dX4_faultPlace_19 : decode cX4_faultPlace 19 = .ok (.ireturn, 1) := by decide +kernel
theorem dX4_faultPlace_20 : decode cX4_faultPlace 20 = .ok (.iinc 1 1, 3) := by decide +kernel
theorem dX4_faultPlace_23 : decode cX4_faultPlace 23 = .ok (.goto (-21), 3) := by decide +kernel
theorem dX4_faultPlace_26 : decode cX4_faultPlace 26 = .ok (.aload_n 0, 1) := by decide +kernel
theorem dX4_faultPlace_27 : decode cX4_faultPlace 27 = .ok (.getfield 15, 3) := by decide +kernel
theorem dX4_faultPlace_30 : decode cX4_faultPlace 30 = .ok (.iconst 4, 1) := by decide +kernel
theorem dX4_faultPlace_31 : decode cX4_faultPlace 31 = .ok (.if_icmp .lt 21, 3) := by decide +kernel
theorem dX4_faultPlace_34 : decode cX4_faultPlace 34 = .ok (.aload_n 0, 1) := by decide +kernel
theorem dX4_faultPlace_35 : decode cX4_faultPlace 35 = .ok (.getfield 15, 3) := by decide +kernel
theorem dX4_faultPlace_38 : decode cX4_faultPlace 38 = .ok (.iconst 4, 1) := by decide +kernel
theorem dX4_faultPlace_39 : decode cX4_faultPlace 39 = .ok (.isub, 1) := by decide +kernel
theorem dX4_faultPlace_40 : decode cX4_faultPlace 40 = .ok (.aload_n 0, 1) := by decide +kernel
theorem dX4_faultPlace_41 : decode cX4_faultPlace 41 = .ok (.invokevirtual 23, 3) := by decide +kernel
theorem dX4_faultPlace_44 : decode cX4_faultPlace 44 = .ok (.irem, 1) := by decide +kernel
theorem dX4_faultPlace_45 : decode cX4_faultPlace 45 = .ok (.ifCond .ne 7, 3) := by decide +kernel
theorem dX4_faultPlace_48 : decode cX4_faultPlace 48 = .ok (.iconst 1, 1) := by decide +kernel
theorem dX4_faultPlace_49 : decode cX4_faultPlace 49 = .ok (.goto 4, 3) := by decide +kernel
theorem dX4_faultPlace_52 : decode cX4_faultPlace 52 = .ok (.iconst 0, 1) := by decide +kernel
theorem dX4_faultPlace_53 : decode cX4_faultPlace 53 = .ok (.istore_n 1, 1) := by decide +kernel
theorem dX4_faultPlace_54 : decode cX4_faultPlace 54 = .ok (.iload_n 1, 1) := by decide +kernel
theorem dX4_faultPlace_55 : decode cX4_faultPlace 55 = .ok (.ifCond .eq 8, 3) := by decide +kernel
theorem dX4_faultPlace_58 : decode cX4_faultPlace 58 = .ok (.bipush (-9), 2) := by decide +kernel
theorem dX4_faultPlace_60 : decode cX4_faultPlace 60 = .ok (.goto 7, 3) := by decide +kernel
theorem dX4_faultPlace_63 : decode cX4_faultPlace 63 = .ok (.aload_n 0, 1) := by decide +kernel
theorem dX4_faultPlace_64 : decode cX4_faultPlace 64 = .ok (.getfield 15, 3) := by decide +kernel
theorem dX4_faultPlace_67 : decode cX4_faultPlace 67 = .ok (.ireturn, 1) := by decide +kernel
theorem dX4_fits_0 : decode cX4_fits 0 = .ok (.aload_n 0, 1) := by decide +kernel
theorem dX4_fits_1 : decode cX4_fits 1 = .ok (.getfield 9, 3) := by decide +kernel
theorem dX4_fits_4 : decode cX4_fits 4 = .ok (.iload_n 1, 1) := by decide +kernel
theorem dX4_fits_5 : decode cX4_fits 5 = .ok (.iaload, 1) := by decide +kernel
theorem dX4_fits_6 : decode cX4_fits 6 = .ok (.istore_n 2, 1) := by decide +kernel
theorem dX4_fits_7 : decode cX4_fits 7 = .ok (.iload_n 1, 1) := by decide +kernel
theorem dX4_fits_8 : decode cX4_fits 8 = .ok (.ifCond .ne 15, 3) := by decide +kernel
theorem dX4_fits_11 : decode cX4_fits 11 = .ok (.iload_n 2, 1) := by decide +kernel
theorem dX4_fits_12 : decode cX4_fits 12 = .ok (.bipush 66, 2) := by decide +kernel
theorem dX4_fits_14 : decode cX4_fits 14 = .ok (.if_icmp .ne 7, 3) := by decide +kernel
theorem dX4_fits_17 : decode cX4_fits 17 = .ok (.iconst 1, 1) := by decide +kernel
theorem dX4_fits_18 : decode cX4_fits 18 = .ok (.goto 4, 3) := by decide +kernel
theorem dX4_fits_21 : decode cX4_fits 21 = .ok (.iconst 0, 1) := by decide +kernel
theorem dX4_fits_22 : decode cX4_fits 22 = .ok (.ireturn, 1) := by decide +kernel
theorem dX4_fits_23 : decode cX4_fits 23 = .ok (.iload_n 1, 1) := by decide +kernel
theorem dX4_fits_24 : decode cX4_fits 24 = .ok (.iconst 1, 1) := by decide +kernel
theorem dX4_fits_25 : decode cX4_fits 25 = .ok (.if_icmp .ne 21, 3) := by decide +kernel
theorem dX4_fits_28 : decode cX4_fits 28 = .ok (.iload_n 2, 1) := by decide +kernel
theorem dX4_fits_29 : decode cX4_fits 29 = .ok (.bipush 49, 2) := by decide +kernel
theorem dX4_fits_31 : decode cX4_fits 31 = .ok (.if_icmp .lt 13, 3) := by decide +kernel
theorem dX4_fits_34 : decode cX4_fits 34 = .ok (.iload_n 2, 1) := by decide +kernel
theorem dX4_fits_35 : decode cX4_fits 35 = .ok (.bipush 52, 2) := by decide +kernel
theorem dX4_fits_37 : decode cX4_fits 37 = .ok (.if_icmp .gt 7, 3) := by decide +kernel
theorem dX4_fits_40 : decode cX4_fits 40 = .ok (.iconst 1, 1) := by decide +kernel
theorem dX4_fits_41 : decode cX4_fits 41 = .ok (.goto 4, 3) := by decide +kernel
theorem dX4_fits_44 : decode cX4_fits 44 = .ok (.iconst 0, 1) := by decide +kernel
theorem dX4_fits_45 : decode cX4_fits 45 = .ok (.ireturn, 1) := by decide +kernel
theorem dX4_fits_46 : decode cX4_fits 46 = .ok (.iload_n 1, 1) := by decide +kernel
theorem dX4_fits_47 : decode cX4_fits 47 = .ok (.iconst 4, 1) := by decide +kernel
theorem dX4_fits_48 : decode cX4_fits 48 = .ok (.if_icmp .ge 8, 3) := by decide +kernel
theorem dX4_fits_51 : decode cX4_fits 51 = .ok (.iload_n 2, 1) := by decide +kernel
theorem dX4_fits_52 : decode cX4_fits 52 = .ok (.invokestatic 27, 3) := by decide +kernel
theorem dX4_fits_55 : decode cX4_fits 55 = .ok (.ireturn, 1) := by decide +kernel
theorem dX4_fits_56 : decode cX4_fits 56 = .ok (.iload_n 1, 1) := by decide +kernel
theorem dX4_fits_57 : decode cX4_fits 57 = .ok (.iconst 4, 1) := by decide +kernel
theorem dX4_fits_58 : decode cX4_fits 58 = .ok (.isub, 1) := by decide +kernel
theorem dX4_fits_59 : decode cX4_fits 59 = .ok (.istore_n 3, 1) := by decide +kernel
theorem dX4_fits_60 : decode cX4_fits 60 = .ok (.iload_n 3, 1) := by decide +kernel
theorem dX4_fits_61 : decode cX4_fits 61 = .ok (.aload_n 0, 1) := by decide +kernel
theorem dX4_fits_62 : decode cX4_fits 62 = .ok (.invokevirtual 23, 3) := by decide +kernel
theorem dX4_fits_65 : decode cX4_fits 65 = .ok (.irem, 1) := by decide +kernel
theorem dX4_fits_66 : decode cX4_fits 66 = .ok (.istore 4, 2) := by decide +kernel
theorem dX4_fits_68 : decode cX4_fits 68 = .ok (.iload 4, 2) := by decide +kernel
theorem dX4_fits_70 : decode cX4_fits 70 = .ok (.ifCond .ne 26, 3) := by decide +kernel
theorem dX4_fits_73 : decode cX4_fits 73 = .ok (.iload_n 2, 1) := by decide +kernel
theorem dX4_fits_74 : decode cX4_fits 74 = .ok (.bipush 119, 2) := by decide +kernel
theorem dX4_fits_76 : decode cX4_fits 76 = .ok (.if_icmp .ne 18, 3) := by decide +kernel
theorem dX4_fits_79 : decode cX4_fits 79 = .ok (.iload_n 3, 1) := by decide +kernel
theorem dX4_fits_80 : decode cX4_fits 80 = .ok (.aload_n 0, 1) := by decide +kernel
theorem dX4_fits_81 : decode cX4_fits 81 = .ok (.invokevirtual 23, 3) := by decide +kernel
theorem dX4_fits_84 : decode cX4_fits 84 = .ok (.idiv, 1) := by decide +kernel
theorem dX4_fits_85 : decode cX4_fits 85 = .ok (.bipush 8, 2) := by decide +kernel
theorem dX4_fits_87 : decode cX4_fits 87 = .ok (.if_icmp .ge 7, 3) := by decide +kernel
theorem dX4_fits_90 : decode cX4_fits 90 = .ok (.iconst 1, 1) := by decide +kernel
theorem dX4_fits_91 : decode cX4_fits 91 = .ok (.goto 4, 3) := by decide +kernel
theorem dX4_fits_94 : decode cX4_fits 94 = .ok (.iconst 0, 1) := by decide +kernel
theorem dX4_fits_95 : decode cX4_fits 95 = .ok (.ireturn, 1) := by decide +kernel
theorem dX4_fits_96 : decode cX4_fits 96 = .ok (.iload 4, 2) := by decide +kernel
theorem dX4_fits_98 : decode cX4_fits 98 = .ok (.aload_n 0, 1) := by decide +kernel
theorem dX4_fits_99 : decode cX4_fits 99 = .ok (.invokevirtual 30, 3) := by decide +kernel
theorem dX4_fits_102 : decode cX4_fits 102 = .ok (.iconst 1, 1) := by decide +kernel
theorem dX4_fits_103 : decode cX4_fits 103 = .ok (.iadd, 1) := by decide +kernel
theorem dX4_fits_104 : decode cX4_fits 104 = .ok (.if_icmp .gt 22, 3) := by decide +kernel
theorem dX4_fits_107 : decode cX4_fits 107 = .ok (.iload_n 2, 1) := by decide +kernel
theorem dX4_fits_108 : decode cX4_fits 108 = .ok (.bipush 48, 2) := by decide +kernel
theorem dX4_fits_110 : decode cX4_fits 110 = .ok (.if_icmp .eq 10, 3) := by decide +kernel
theorem dX4_fits_113 : decode cX4_fits 113 = .ok (.iload_n 2, 1) := by decide +kernel
theorem dX4_fits_114 : decode cX4_fits 114 = .ok (.invokestatic 33, 3) := by decide +kernel
theorem dX4_fits_117 : decode cX4_fits 117 = .ok (.ifCond .eq 7, 3) := by decide +kernel
theorem dX4_fits_120 : decode cX4_fits 120 = .ok (.iconst 1, 1) := by decide +kernel
theorem dX4_fits_121 : decode cX4_fits 121 = .ok (.goto 4, 3) := by decide +kernel
theorem dX4_fits_124 : decode cX4_fits 124 = .ok (.iconst 0, 1) := by decide +kernel
theorem dX4_fits_125 : decode cX4_fits 125 = .ok (.ireturn, 1) := by decide +kernel
theorem dX4_fits_126 : decode cX4_fits 126 = .ok (.iload 4, 2) := by decide +kernel
theorem dX4_fits_128 : decode cX4_fits 128 = .ok (.aload_n 0, 1) := by decide +kernel
theorem dX4_fits_129 : decode cX4_fits 129 = .ok (.invokevirtual 30, 3) := by decide +kernel
theorem dX4_fits_132 : decode cX4_fits 132 = .ok (.iconst 2, 1) := by decide +kernel
theorem dX4_fits_133 : decode cX4_fits 133 = .ok (.iadd, 1) := by decide +kernel
theorem dX4_fits_134 : decode cX4_fits 134 = .ok (.if_icmp .ne 10, 3) := by decide +kernel
theorem dX4_fits_137 : decode cX4_fits 137 = .ok (.iload_n 2, 1) := by decide +kernel
theorem dX4_fits_138 : decode cX4_fits 138 = .ok (.invokestatic 33, 3) := by decide +kernel
theorem dX4_fits_141 : decode cX4_fits 141 = .ok (.goto 7, 3) := by decide +kernel
theorem dX4_fits_144 : decode cX4_fits 144 = .ok (.iload_n 2, 1) := by decide +kernel
theorem dX4_fits_145 : decode cX4_fits 145 = .ok (.invokestatic 27, 3) := by decide +kernel
theorem dX4_fits_148 : decode cX4_fits 148 = .ok (.ireturn, 1) := by decide +kernel
theorem dX4_isFigure_0 : decode cX4_isFigure 0 = .ok (.iload_n 0, 1) := by decide +kernel
theorem dX4_isFigure_1 : decode cX4_isFigure 1 = .ok (.bipush 48, 2) := by decide +kernel
theorem dX4_isFigure_3 : decode cX4_isFigure 3 = .ok (.if_icmp .lt 13, 3) := by decide +kernel
theorem dX4_isFigure_6 : decode cX4_isFigure 6 = .ok (.iload_n 0, 1) := by decide +kernel
theorem dX4_isFigure_7 : decode cX4_isFigure 7 = .ok (.bipush 57, 2) := by decide +kernel
theorem dX4_isFigure_9 : decode cX4_isFigure 9 = .ok (.if_icmp .gt 7, 3) := by decide +kernel
theorem dX4_isFigure_12 : decode cX4_isFigure 12 = .ok (.iconst 1, 1) := by decide +kernel
theorem dX4_isFigure_13 : decode cX4_isFigure 13 = .ok (.goto 4, 3) := by decide +kernel
theorem dX4_isFigure_16 : decode cX4_isFigure 16 = .ok (.iconst 0, 1) := by decide +kernel
theorem dX4_isFigure_17 : decode cX4_isFigure 17 = .ok (.ireturn, 1) := by decide +kernel
theorem dX4_isSign_0 : decode cX4_isSign 0 = .ok (.iload_n 0, 1) := by decide +kernel
theorem dX4_isSign_1 : decode cX4_isSign 1 = .ok (.bipush 43, 2) := by decide +kernel
theorem dX4_isSign_3 : decode cX4_isSign 3 = .ok (.if_icmp .eq 9, 3) := by decide +kernel
theorem dX4_isSign_6 : decode cX4_isSign 6 = .ok (.iload_n 0, 1) := by decide +kernel
theorem dX4_isSign_7 : decode cX4_isSign 7 = .ok (.bipush 45, 2) := by decide +kernel
theorem dX4_isSign_9 : decode cX4_isSign 9 = .ok (.if_icmp .ne 7, 3) := by decide +kernel
theorem dX4_isSign_12 : decode cX4_isSign 12 = .ok (.iconst 1, 1) := by decide +kernel
theorem dX4_isSign_13 : decode cX4_isSign 13 = .ok (.goto 4, 3) := by decide +kernel
theorem dX4_isSign_16 : decode cX4_isSign 16 = .ok (.iconst 0, 1) := by decide +kernel
theorem dX4_isSign_17 : decode cX4_isSign 17 = .ok (.ireturn, 1) := by decide +kernel
theorem dX4_weightsTold_0 : decode cX4_weightsTold 0 = .ok (.aload_n 0, 1) := by decide +kernel
theorem dX4_weightsTold_1 : decode cX4_weightsTold 1 = .ok (.getfield 9, 3) := by decide +kernel
theorem dX4_weightsTold_4 : decode cX4_weightsTold 4 = .ok (.iconst 1, 1) := by decide +kernel
theorem dX4_weightsTold_5 : decode cX4_weightsTold 5 = .ok (.iaload, 1) := by decide +kernel
theorem dX4_weightsTold_6 : decode cX4_weightsTold 6 = .ok (.bipush 48, 2) := by decide +kernel
theorem dX4_weightsTold_8 : decode cX4_weightsTold 8 = .ok (.isub, 1) := by decide +kernel
theorem dX4_weightsTold_9 : decode cX4_weightsTold 9 = .ok (.istore_n 1, 1) := by decide +kernel
theorem dX4_weightsTold_10 : decode cX4_weightsTold 10 = .ok (.iload_n 1, 1) := by decide +kernel
theorem dX4_weightsTold_11 : decode cX4_weightsTold 11 = .ok (.iconst 1, 1) := by decide +kernel
theorem dX4_weightsTold_12 : decode cX4_weightsTold 12 = .ok (.if_icmp .lt 8, 3) := by decide +kernel
theorem dX4_weightsTold_15 : decode cX4_weightsTold 15 = .ok (.iload_n 1, 1) := by decide +kernel
theorem dX4_weightsTold_16 : decode cX4_weightsTold 16 = .ok (.iconst 4, 1) := by decide +kernel
theorem dX4_weightsTold_17 : decode cX4_weightsTold 17 = .ok (.if_icmp .le 7, 3) := by decide +kernel
theorem dX4_weightsTold_20 : decode cX4_weightsTold 20 = .ok (.iconst 1, 1) := by decide +kernel
theorem dX4_weightsTold_21 : decode cX4_weightsTold 21 = .ok (.goto 4, 3) := by decide +kernel
theorem dX4_weightsTold_24 : decode cX4_weightsTold 24 = .ok (.iload_n 1, 1) := by decide +kernel
theorem dX4_weightsTold_25 : decode cX4_weightsTold 25 = .ok (.ireturn, 1) := by decide +kernel
theorem dX4_lettersEach_0 : decode cX4_lettersEach 0 = .ok (.aload_n 0, 1) := by decide +kernel
theorem dX4_lettersEach_1 : decode cX4_lettersEach 1 = .ok (.invokevirtual 30, 3) := by decide +kernel
theorem dX4_lettersEach_4 : decode cX4_lettersEach 4 = .ok (.bipush 6, 2) := by decide +kernel
theorem dX4_lettersEach_6 : decode cX4_lettersEach 6 = .ok (.iadd, 1) := by decide +kernel
theorem dX4_lettersEach_7 : decode cX4_lettersEach 7 = .ok (.ireturn, 1) := by decide +kernel
theorem dX4_weighingsTold_0 : decode cX4_weighingsTold 0 = .ok (.aload_n 0, 1) := by decide +kernel
theorem dX4_weighingsTold_1 : decode cX4_weighingsTold 1 = .ok (.getfield 15, 3) := by decide +kernel
theorem dX4_weighingsTold_4 : decode cX4_weighingsTold 4 = .ok (.iconst 4, 1) := by decide +kernel
theorem dX4_weighingsTold_5 : decode cX4_weighingsTold 5 = .ok (.isub, 1) := by decide +kernel
theorem dX4_weighingsTold_6 : decode cX4_weighingsTold 6 = .ok (.aload_n 0, 1) := by decide +kernel
theorem dX4_weighingsTold_7 : decode cX4_weighingsTold 7 = .ok (.invokevirtual 23, 3) := by decide +kernel
theorem dX4_weighingsTold_10 : decode cX4_weighingsTold 10 = .ok (.idiv, 1) := by decide +kernel
theorem dX4_weighingsTold_11 : decode cX4_weighingsTold 11 = .ok (.ireturn, 1) := by decide +kernel
theorem dX4_masterTold_0 : decode cX4_masterTold 0 = .ok (.bipush 10, 2) := by decide +kernel
theorem dX4_masterTold_2 : decode cX4_masterTold 2 = .ok (.aload_n 0, 1) := by decide +kernel
theorem dX4_masterTold_3 : decode cX4_masterTold 3 = .ok (.iconst 2, 1) := by decide +kernel
theorem dX4_masterTold_4 : decode cX4_masterTold 4 = .ok (.invokevirtual 36, 3) := by decide +kernel
theorem dX4_masterTold_7 : decode cX4_masterTold 7 = .ok (.imul, 1) := by decide +kernel
theorem dX4_masterTold_8 : decode cX4_masterTold 8 = .ok (.aload_n 0, 1) := by decide +kernel
theorem dX4_masterTold_9 : decode cX4_masterTold 9 = .ok (.iconst 3, 1) := by decide +kernel
theorem dX4_masterTold_10 : decode cX4_masterTold 10 = .ok (.invokevirtual 36, 3) := by decide +kernel
theorem dX4_masterTold_13 : decode cX4_masterTold 13 = .ok (.iadd, 1) := by decide +kernel
theorem dX4_masterTold_14 : decode cX4_masterTold 14 = .ok (.ireturn, 1) := by decide +kernel
theorem dX4_codeTold_0 : decode cX4_codeTold 0 = .ok (.aload_n 0, 1) := by decide +kernel
theorem dX4_codeTold_1 : decode cX4_codeTold 1 = .ok (.iload_n 1, 1) := by decide +kernel
theorem dX4_codeTold_2 : decode cX4_codeTold 2 = .ok (.invokevirtual 40, 3) := by decide +kernel
theorem dX4_codeTold_5 : decode cX4_codeTold 5 = .ok (.iconst 1, 1) := by decide +kernel
theorem dX4_codeTold_6 : decode cX4_codeTold 6 = .ok (.iadd, 1) := by decide +kernel
theorem dX4_codeTold_7 : decode cX4_codeTold 7 = .ok (.istore_n 2, 1) := by decide +kernel
theorem dX4_codeTold_8 : decode cX4_codeTold 8 = .ok (.iconst 0, 1) := by decide +kernel
theorem dX4_codeTold_9 : decode cX4_codeTold 9 = .ok (.istore_n 3, 1) := by decide +kernel
theorem dX4_codeTold_10 : decode cX4_codeTold 10 = .ok (.iconst 0, 1) := by decide +kernel
theorem dX4_codeTold_11 : decode cX4_codeTold 11 = .ok (.istore 4, 2) := by decide +kernel
theorem dX4_codeTold_13 : decode cX4_codeTold 13 = .ok (.iload 4, 2) := by decide +kernel
theorem dX4_codeTold_15 : decode cX4_codeTold 15 = .ok (.aload_n 0, 1) := by decide +kernel
theorem dX4_codeTold_16 : decode cX4_codeTold 16 = .ok (.invokevirtual 30, 3) := by decide +kernel
theorem dX4_codeTold_19 : decode cX4_codeTold 19 = .ok (.if_icmp .gt 49, 3) := by decide +kernel
theorem dX4_codeTold_22 : decode cX4_codeTold 22 = .ok (.aload_n 0, 1) := by decide +kernel
theorem dX4_codeTold_23 : decode cX4_codeTold 23 = .ok (.getfield 9, 3) := by decide +kernel
theorem dX4_codeTold_26 : decode cX4_codeTold 26 = .ok (.iload_n 2, 1) := by decide +kernel
theorem dX4_codeTold_27 : decode cX4_codeTold 27 = .ok (.iload 4, 2) := by decide +kernel
theorem dX4_codeTold_29 : decode cX4_codeTold 29 = .ok (.iadd, 1) := by decide +kernel
theorem dX4_codeTold_30 : decode cX4_codeTold 30 = .ok (.iaload, 1) := by decide +kernel
theorem dX4_codeTold_31 : decode cX4_codeTold 31 = .ok (.istore 5, 2) := by decide +kernel
theorem dX4_codeTold_33 : decode cX4_codeTold 33 = .ok (.bipush 10, 2) := by decide +kernel
theorem dX4_codeTold_35 : decode cX4_codeTold 35 = .ok (.iload_n 3, 1) := by decide +kernel
theorem dX4_codeTold_36 : decode cX4_codeTold 36 = .ok (.imul, 1) := by decide +kernel
theorem dX4_codeTold_37 : decode cX4_codeTold 37 = .ok (.iload 5, 2) := by decide +kernel
theorem dX4_codeTold_39 : decode cX4_codeTold 39 = .ok (.bipush 43, 2) := by decide +kernel
theorem dX4_codeTold_41 : decode cX4_codeTold 41 = .ok (.if_icmp .ne 7, 3) := by decide +kernel
theorem dX4_codeTold_44 : decode cX4_codeTold 44 = .ok (.iconst 1, 1) := by decide +kernel
theorem dX4_codeTold_45 : decode cX4_codeTold 45 = .ok (.goto 15, 3) := by decide +kernel
theorem dX4_codeTold_48 : decode cX4_codeTold 48 = .ok (.iload 5, 2) := by decide +kernel
theorem dX4_codeTold_50 : decode cX4_codeTold 50 = .ok (.bipush 45, 2) := by decide +kernel
theorem dX4_codeTold_52 : decode cX4_codeTold 52 = .ok (.if_icmp .ne 7, 3) := by decide +kernel
theorem dX4_codeTold_55 : decode cX4_codeTold 55 = .ok (.iconst 2, 1) := by decide +kernel
theorem dX4_codeTold_56 : decode cX4_codeTold 56 = .ok (.goto 4, 3) := by decide +kernel
theorem dX4_codeTold_59 : decode cX4_codeTold 59 = .ok (.iconst 0, 1) := by decide +kernel
theorem dX4_codeTold_60 : decode cX4_codeTold 60 = .ok (.iadd, 1) := by decide +kernel
theorem dX4_codeTold_61 : decode cX4_codeTold 61 = .ok (.istore_n 3, 1) := by decide +kernel
theorem dX4_codeTold_62 : decode cX4_codeTold 62 = .ok (.iinc 4 1, 3) := by decide +kernel
theorem dX4_codeTold_65 : decode cX4_codeTold 65 = .ok (.goto (-52), 3) := by decide +kernel
theorem dX4_codeTold_68 : decode cX4_codeTold 68 = .ok (.iload_n 3, 1) := by decide +kernel
theorem dX4_codeTold_69 : decode cX4_codeTold 69 = .ok (.ireturn, 1) := by decide +kernel
theorem dX4_readingTold_0 : decode cX4_readingTold 0 = .ok (.aload_n 0, 1) := by decide +kernel
theorem dX4_readingTold_1 : decode cX4_readingTold 1 = .ok (.iload_n 1, 1) := by decide +kernel
theorem dX4_readingTold_2 : decode cX4_readingTold 2 = .ok (.invokevirtual 40, 3) := by decide +kernel
theorem dX4_readingTold_5 : decode cX4_readingTold 5 = .ok (.aload_n 0, 1) := by decide +kernel
theorem dX4_readingTold_6 : decode cX4_readingTold 6 = .ok (.invokevirtual 30, 3) := by decide +kernel
theorem dX4_readingTold_9 : decode cX4_readingTold 9 = .ok (.iadd, 1) := by decide +kernel
theorem dX4_readingTold_10 : decode cX4_readingTold 10 = .ok (.iconst 2, 1) := by decide +kernel
theorem dX4_readingTold_11 : decode cX4_readingTold 11 = .ok (.iadd, 1) := by decide +kernel
theorem dX4_readingTold_12 : decode cX4_readingTold 12 = .ok (.istore_n 2, 1) := by decide +kernel
theorem dX4_readingTold_13 : decode cX4_readingTold 13 = .ok (.bipush 100, 2) := by decide +kernel
theorem dX4_readingTold_15 : decode cX4_readingTold 15 = .ok (.aload_n 0, 1) := by decide +kernel
theorem dX4_readingTold_16 : decode cX4_readingTold 16 = .ok (.iload_n 2, 1) := by decide +kernel
theorem dX4_readingTold_17 : decode cX4_readingTold 17 = .ok (.iconst 1, 1) := by decide +kernel
theorem dX4_readingTold_18 : decode cX4_readingTold 18 = .ok (.iadd, 1) := by decide +kernel
theorem dX4_readingTold_19 : decode cX4_readingTold 19 = .ok (.invokevirtual 36, 3) := by decide +kernel
theorem dX4_readingTold_22 : decode cX4_readingTold 22 = .ok (.imul, 1) := by decide +kernel
theorem dX4_readingTold_23 : decode cX4_readingTold 23 = .ok (.bipush 10, 2) := by decide +kernel
theorem dX4_readingTold_25 : decode cX4_readingTold 25 = .ok (.aload_n 0, 1) := by decide +kernel
theorem dX4_readingTold_26 : decode cX4_readingTold 26 = .ok (.iload_n 2, 1) := by decide +kernel
theorem dX4_readingTold_27 : decode cX4_readingTold 27 = .ok (.iconst 2, 1) := by decide +kernel
theorem dX4_readingTold_28 : decode cX4_readingTold 28 = .ok (.iadd, 1) := by decide +kernel
theorem dX4_readingTold_29 : decode cX4_readingTold 29 = .ok (.invokevirtual 36, 3) := by decide +kernel
theorem dX4_readingTold_32 : decode cX4_readingTold 32 = .ok (.imul, 1) := by decide +kernel
theorem dX4_readingTold_33 : decode cX4_readingTold 33 = .ok (.iadd, 1) := by decide +kernel
theorem dX4_readingTold_34 : decode cX4_readingTold 34 = .ok (.aload_n 0, 1) := by decide +kernel
theorem dX4_readingTold_35 : decode cX4_readingTold 35 = .ok (.iload_n 2, 1) := by decide +kernel
theorem dX4_readingTold_36 : decode cX4_readingTold 36 = .ok (.iconst 3, 1) := by decide +kernel
theorem dX4_readingTold_37 : decode cX4_readingTold 37 = .ok (.iadd, 1) := by decide +kernel
theorem dX4_readingTold_38 : decode cX4_readingTold 38 = .ok (.invokevirtual 36, 3) := by decide +kernel
theorem dX4_readingTold_41 : decode cX4_readingTold 41 = .ok (.iadd, 1) := by decide +kernel
theorem dX4_readingTold_42 : decode cX4_readingTold 42 = .ok (.istore_n 3, 1) := by decide +kernel
theorem dX4_readingTold_43 : decode cX4_readingTold 43 = .ok (.aload_n 0, 1) := by decide +kernel
theorem dX4_readingTold_44 : decode cX4_readingTold 44 = .ok (.getfield 9, 3) := by decide +kernel
theorem dX4_readingTold_47 : decode cX4_readingTold 47 = .ok (.iload_n 2, 1) := by decide +kernel
theorem dX4_readingTold_48 : decode cX4_readingTold 48 = .ok (.iaload, 1) := by decide +kernel
theorem dX4_readingTold_49 : decode cX4_readingTold 49 = .ok (.bipush 45, 2) := by decide +kernel
theorem dX4_readingTold_51 : decode cX4_readingTold 51 = .ok (.if_icmp .ne 8, 3) := by decide +kernel
theorem dX4_readingTold_54 : decode cX4_readingTold 54 = .ok (.iload_n 3, 1) := by decide +kernel
theorem dX4_readingTold_55 : decode cX4_readingTold 55 = .ok (.ineg, 1) := by decide +kernel
theorem dX4_readingTold_56 : decode cX4_readingTold 56 = .ok (.goto 4, 3) := by decide +kernel
theorem dX4_readingTold_59 : decode cX4_readingTold 59 = .ok (.iload_n 3, 1) := by decide +kernel
theorem dX4_readingTold_60 : decode cX4_readingTold 60 = .ok (.ireturn, 1) := by decide +kernel
theorem dX4_startOf_0 : decode cX4_startOf 0 = .ok (.iconst 4, 1) := by decide +kernel
theorem dX4_startOf_1 : decode cX4_startOf 1 = .ok (.iload_n 1, 1) := by decide +kernel
theorem dX4_startOf_2 : decode cX4_startOf 2 = .ok (.aload_n 0, 1) := by decide +kernel
theorem dX4_startOf_3 : decode cX4_startOf 3 = .ok (.invokevirtual 23, 3) := by decide +kernel
theorem dX4_startOf_6 : decode cX4_startOf 6 = .ok (.imul, 1) := by decide +kernel
theorem dX4_startOf_7 : decode cX4_startOf 7 = .ok (.iadd, 1) := by decide +kernel
theorem dX4_startOf_8 : decode cX4_startOf 8 = .ok (.ireturn, 1) := by decide +kernel
theorem dX4_figureAt_0 : decode cX4_figureAt 0 = .ok (.aload_n 0, 1) := by decide +kernel
theorem dX4_figureAt_1 : decode cX4_figureAt 1 = .ok (.getfield 9, 3) := by decide +kernel
theorem dX4_figureAt_4 : decode cX4_figureAt 4 = .ok (.iload_n 1, 1) := by decide +kernel
theorem dX4_figureAt_5 : decode cX4_figureAt 5 = .ok (.iaload, 1) := by decide +kernel
theorem dX4_figureAt_6 : decode cX4_figureAt 6 = .ok (.bipush 48, 2) := by decide +kernel
theorem dX4_figureAt_8 : decode cX4_figureAt 8 = .ok (.isub, 1) := by decide +kernel
theorem dX4_figureAt_9 : decode cX4_figureAt 9 = .ok (.ireturn, 1) := by decide +kernel
theorem dX5_init_0 : decode cX5_init 0 = .ok (.aload_n 0, 1) := by decide +kernel
theorem dX5_init_1 : decode cX5_init 1 = .ok (.invokespecial 1, 3) := by decide +kernel
theorem dX5_init_4 : decode cX5_init 4 = .ok (.aload_n 0, 1) := by decide +kernel
theorem dX5_init_5 : decode cX5_init 5 = .ok (.new 7, 3) := by decide +kernel
theorem dX5_init_8 : decode cX5_init 8 = .ok (.dup, 1) := by decide +kernel
theorem dX5_init_9 : decode cX5_init 9 = .ok (.invokespecial 9, 3) := by decide +kernel
theorem dX5_init_12 : decode cX5_init 12 = .ok (.putfield 10, 3) := by decide +kernel
theorem dX5_init_15 : decode cX5_init 15 = .ok (.aload_n 0, 1) := by decide +kernel
theorem dX5_init_16 : decode cX5_init 16 = .ok (.new 16, 3) := by decide +kernel
theorem dX5_init_19 : decode cX5_init 19 = .ok (.dup, 1) := by decide +kernel
theorem dX5_init_20 : decode cX5_init 20 = .ok (.invokespecial 18, 3) := by decide +kernel
theorem dX5_init_23 : decode cX5_init 23 = .ok (.putfield 19, 3) := by decide +kernel
theorem dX5_init_26 : decode cX5_init 26 = .ok (.aload_n 0, 1) := by decide +kernel
theorem dX5_init_27 : decode cX5_init 27 = .ok (.new 16, 3) := by decide +kernel
theorem dX5_init_30 : decode cX5_init 30 = .ok (.dup, 1) := by decide +kernel
theorem dX5_init_31 : decode cX5_init 31 = .ok (.invokespecial 18, 3) := by decide +kernel
theorem dX5_init_34 : decode cX5_init 34 = .ok (.putfield 23, 3) := by decide +kernel
theorem dX5_init_37 : decode cX5_init 37 = .ok (.aload_n 0, 1) := by decide +kernel
theorem dX5_init_38 : decode cX5_init 38 = .ok (.new 26, 3) := by decide +kernel
theorem dX5_init_41 : decode cX5_init 41 = .ok (.dup, 1) := by decide +kernel
theorem dX5_init_42 : decode cX5_init 42 = .ok (.invokespecial 28, 3) := by decide +kernel
theorem dX5_init_45 : decode cX5_init 45 = .ok (.putfield 29, 3) := by decide +kernel
theorem dX5_init_48 : decode cX5_init 48 = .ok (.aload_n 0, 1) := by decide +kernel
theorem dX5_init_49 : decode cX5_init 49 = .ok (.iconst 2, 1) := by decide +kernel
theorem dX5_init_50 : decode cX5_init 50 = .ok (.anewarray 16, 3) := by decide +kernel
theorem dX5_init_53 : decode cX5_init 53 = .ok (.putfield 33, 3) := by decide +kernel
theorem dX5_init_56 : decode cX5_init 56 = .ok (.aload_n 0, 1) := by decide +kernel
theorem dX5_init_57 : decode cX5_init 57 = .ok (.iconst 2, 1) := by decide +kernel
theorem dX5_init_58 : decode cX5_init 58 = .ok (.newarray .boolean, 2) := by decide +kernel
theorem dX5_init_60 : decode cX5_init 60 = .ok (.putfield 37, 3) := by decide +kernel
theorem dX5_init_63 : decode cX5_init 63 = .ok (.aload_n 0, 1) := by decide +kernel
theorem dX5_init_64 : decode cX5_init 64 = .ok (.new 41, 3) := by decide +kernel
theorem dX5_init_67 : decode cX5_init 67 = .ok (.dup, 1) := by decide +kernel
theorem dX5_init_68 : decode cX5_init 68 = .ok (.invokespecial 43, 3) := by decide +kernel
theorem dX5_init_71 : decode cX5_init 71 = .ok (.putfield 44, 3) := by decide +kernel
theorem dX5_init_74 : decode cX5_init 74 = .ok (.aload_n 0, 1) := by decide +kernel
theorem dX5_init_75 : decode cX5_init 75 = .ok (.new 48, 3) := by decide +kernel
theorem dX5_init_78 : decode cX5_init 78 = .ok (.dup, 1) := by decide +kernel
theorem dX5_init_79 : decode cX5_init 79 = .ok (.invokespecial 50, 3) := by decide +kernel
theorem dX5_init_82 : decode cX5_init 82 = .ok (.putfield 51, 3) := by decide +kernel
theorem dX5_init_85 : decode cX5_init 85 = .ok (.aload_n 0, 1) := by decide +kernel
theorem dX5_init_86 : decode cX5_init 86 = .ok (.lconst 0, 1) := by decide +kernel
theorem dX5_init_87 : decode cX5_init 87 = .ok (.putfield 55, 3) := by decide +kernel
theorem dX5_init_90 : decode cX5_init 90 = .ok (.iconst 0, 1) := by decide +kernel
theorem dX5_init_91 : decode cX5_init 91 = .ok (.istore_n 1, 1) := by decide +kernel
theorem dX5_init_92 : decode cX5_init 92 = .ok (.iload_n 1, 1) := by decide +kernel
theorem dX5_init_93 : decode cX5_init 93 = .ok (.iconst 2, 1) := by decide +kernel
theorem dX5_init_94 : decode cX5_init 94 = .ok (.if_icmp .ge 22, 3) := by decide +kernel
theorem dX5_init_97 : decode cX5_init 97 = .ok (.aload_n 0, 1) := by decide +kernel
theorem dX5_init_98 : decode cX5_init 98 = .ok (.getfield 33, 3) := by decide +kernel
theorem dX5_init_101 : decode cX5_init 101 = .ok (.iload_n 1, 1) := by decide +kernel
theorem dX5_init_102 : decode cX5_init 102 = .ok (.new 16, 3) := by decide +kernel
theorem dX5_init_105 : decode cX5_init 105 = .ok (.dup, 1) := by decide +kernel
theorem dX5_init_106 : decode cX5_init 106 = .ok (.invokespecial 18, 3) := by decide +kernel
theorem dX5_init_109 : decode cX5_init 109 = .ok (.aastore, 1) := by decide +kernel
theorem dX5_init_110 : decode cX5_init 110 = .ok (.iinc 1 1, 3) := by decide +kernel
theorem dX5_init_113 : decode cX5_init 113 = .ok (.goto (-21), 3) := by decide +kernel
theorem dX5_init_116 : decode cX5_init 116 = .ok (.return_, 1) := by decide +kernel
theorem dX5_write_0 : decode cX5_write 0 = .ok (.iload_n 1, 1) := by decide +kernel
theorem dX5_write_1 : decode cX5_write 1 = .ok (.ifCond .lt 10, 3) := by decide +kernel
theorem dX5_write_4 : decode cX5_write 4 = .ok (.iload_n 1, 1) := by decide +kernel
theorem dX5_write_5 : decode cX5_write 5 = .ok (.sipush 255, 3) := by decide +kernel
theorem dX5_write_8 : decode cX5_write 8 = .ok (.if_icmp .le 6, 3) := by decide +kernel
theorem dX5_write_11 : decode cX5_write 11 = .ok (.bipush (-2), 2) := by decide +kernel
theorem dX5_write_13 : decode cX5_write 13 = .ok (.ireturn, 1) := by decide +kernel
theorem dX5_write_14 : decode cX5_write 14 = .ok (.aload_n 0, 1) := by decide +kernel
theorem dX5_write_15 : decode cX5_write 15 = .ok (.getfield 10, 3) := by decide +kernel
theorem dX5_write_18 : decode cX5_write 18 = .ok (.getfield 59, 3) := by decide +kernel
theorem dX5_write_21 : decode cX5_write 21 = .ok (.bipush 90, 2) := by decide +kernel
theorem dX5_write_23 : decode cX5_write 23 = .ok (.if_icmp .lt 6, 3) := by decide +kernel
theorem dX5_write_26 : decode cX5_write 26 = .ok (.bipush (-4), 2) := by decide +kernel
theorem dX5_write_28 : decode cX5_write 28 = .ok (.ireturn, 1) := by decide +kernel
theorem dX5_write_29 : decode cX5_write 29 = .ok (.aload_n 0, 1) := by decide +kernel
theorem dX5_write_30 : decode cX5_write 30 = .ok (.getfield 10, 3) := by decide +kernel
theorem dX5_write_33 : decode cX5_write 33 = .ok (.getfield 63, 3) := by decide +kernel
theorem dX5_write_36 : decode cX5_write 36 = .ok (.aload_n 0, 1) := by decide +kernel
theorem dX5_write_37 : decode cX5_write 37 = .ok (.getfield 10, 3) := by decide +kernel
theorem dX5_write_40 : decode cX5_write 40 = .ok (.getfield 59, 3) := by decide +kernel
theorem dX5_write_43 : decode cX5_write 43 = .ok (.iload_n 1, 1) := by decide +kernel
theorem dX5_write_44 : decode cX5_write 44 = .ok (.iastore, 1) := by decide +kernel
theorem dX5_write_45 : decode cX5_write 45 = .ok (.aload_n 0, 1) := by decide +kernel
theorem dX5_write_46 : decode cX5_write 46 = .ok (.getfield 10, 3) := by decide +kernel
theorem dX5_write_49 : decode cX5_write 49 = .ok (.dup, 1) := by decide +kernel
theorem dX5_write_50 : decode cX5_write 50 = .ok (.getfield 59, 3) := by decide +kernel
