theorem dX6_laySquares_57 : decode cX6_laySquares 57 = .ok (.aload_n 0, 1) := by decide +kernel
theorem dX6_laySquares_58 : decode cX6_laySquares 58 = .ok (.lload_n 3, 1) := by decide +kernel
theorem dX6_laySquares_59 : decode cX6_laySquares 59 = .ok (.lload_n 1, 1) := by decide +kernel
theorem dX6_laySquares_60 : decode cX6_laySquares 60 = .ok (.invokevirtual 176, 3) := by decide +kernel
theorem dX6_laySquares_63 : decode cX6_laySquares 63 = .ok (.return_, 1) := by decide +kernel
theorem dX6_rank_0 : decode cX6_rank 0 = .ok (.aload_n 0, 1) := by decide +kernel
theorem dX6_rank_1 : decode cX6_rank 1 = .ok (.iconst 0, 1) := by decide +kernel
theorem dX6_rank_2 : decode cX6_rank 2 = .ok (.putfield 1, 3) := by decide +kernel
theorem dX6_rank_5 : decode cX6_rank 5 = .ok (.aload_n 0, 1) := by decide +kernel
theorem dX6_rank_6 : decode cX6_rank 6 = .ok (.aload_n 0, 1) := by decide +kernel
theorem dX6_rank_7 : decode cX6_rank 7 = .ok (.getfield 23, 3) := by decide +kernel
theorem dX6_rank_10 : decode cX6_rank 10 = .ok (.aload_n 0, 1) := by decide +kernel
theorem dX6_rank_11 : decode cX6_rank 11 = .ok (.getfield 23, 3) := by decide +kernel
theorem dX6_rank_14 : decode cX6_rank 14 = .ok (.invokestatic 180, 3) := by decide +kernel
theorem dX6_rank_17 : decode cX6_rank 17 = .ok (.iload_n 1, 1) := by decide +kernel
theorem dX6_rank_18 : decode cX6_rank 18 = .ok (.invokevirtual 184, 3) := by decide +kernel
theorem dX6_rank_21 : decode cX6_rank 21 = .ok (.ireturn, 1) := by decide +kernel
theorem dX6_noColumn_0 : decode cX6_noColumn 0 = .ok (.iload_n 1, 1) := by decide +kernel
theorem dX6_noColumn_1 : decode cX6_noColumn 1 = .ok (.i2l, 1) := by decide +kernel
theorem dX6_noColumn_2 : decode cX6_noColumn 2 = .ok (.lconst 0, 1) := by decide +kernel
theorem dX6_noColumn_3 : decode cX6_noColumn 3 = .ok (.iload_n 2, 1) := by decide +kernel
theorem dX6_noColumn_4 : decode cX6_noColumn 4 = .ok (.ifCond .eq 11, 3) := by decide +kernel
theorem dX6_noColumn_7 : decode cX6_noColumn 7 = .ok (.aload_n 0, 1) := by decide +kernel
theorem dX6_noColumn_8 : decode cX6_noColumn 8 = .ok (.getfield 17, 3) := by decide +kernel
theorem dX6_noColumn_11 : decode cX6_noColumn 11 = .ok (.i2l, 1) := by decide +kernel
theorem dX6_noColumn_12 : decode cX6_noColumn 12 = .ok (.goto 10, 3) := by decide +kernel
theorem dX6_noColumn_15 : decode cX6_noColumn 15 = .ok (.aload_n 0, 1) := by decide +kernel
theorem dX6_noColumn_16 : decode cX6_noColumn 16 = .ok (.getfield 17, 3) := by decide +kernel
theorem dX6_noColumn_19 : decode cX6_noColumn 19 = .ok (.iconst 1, 1) := by decide +kernel
theorem dX6_noColumn_20 : decode cX6_noColumn 20 = .ok (.isub, 1) := by decide +kernel
theorem dX6_noColumn_21 : decode cX6_noColumn 21 = .ok (.i2l, 1) := by decide +kernel
theorem dX6_noColumn_22 : decode cX6_noColumn 22 = .ok (.invokestatic 61, 3) := by decide +kernel
theorem dX6_noColumn_25 : decode cX6_noColumn 25 = .ok (.ifCond .ne 7, 3) := by decide +kernel
theorem dX6_noColumn_28 : decode cX6_noColumn 28 = .ok (.iconst 1, 1) := by decide +kernel
theorem dX6_noColumn_29 : decode cX6_noColumn 29 = .ok (.goto 4, 3) := by decide +kernel
theorem dX6_noColumn_32 : decode cX6_noColumn 32 = .ok (.iconst 0, 1) := by decide +kernel
theorem dX6_noColumn_33 : decode cX6_noColumn 33 = .ok (.ireturn, 1) := by decide +kernel
theorem dX6_value_0 : decode cX6_value 0 = .ok (.aload_n 0, 1) := by decide +kernel
theorem dX6_value_1 : decode cX6_value 1 = .ok (.iconst 0, 1) := by decide +kernel
theorem dX6_value_2 : decode cX6_value 2 = .ok (.putfield 1, 3) := by decide +kernel
theorem dX6_value_5 : decode cX6_value 5 = .ok (.aload_n 0, 1) := by decide +kernel
theorem dX6_value_6 : decode cX6_value 6 = .ok (.iload_n 1, 1) := by decide +kernel
theorem dX6_value_7 : decode cX6_value 7 = .ok (.iload_n 2, 1) := by decide +kernel
theorem dX6_value_8 : decode cX6_value 8 = .ok (.invokevirtual 188, 3) := by decide +kernel
theorem dX6_value_11 : decode cX6_value 11 = .ok (.ifCond .eq 7, 3) := by decide +kernel
theorem dX6_value_14 : decode cX6_value 14 = .ok (.ldc2_w 192, 3) := by decide +kernel
theorem dX6_value_17 : decode cX6_value 17 = .ok (.lreturn, 1) := by decide +kernel
theorem dX6_value_18 : decode cX6_value 18 = .ok (.aload_n 0, 1) := by decide +kernel
theorem dX6_value_19 : decode cX6_value 19 = .ok (.aload_n 0, 1) := by decide +kernel
theorem dX6_value_20 : decode cX6_value 20 = .ok (.getfield 23, 3) := by decide +kernel
theorem dX6_value_23 : decode cX6_value 23 = .ok (.aload_n 0, 1) := by decide +kernel
theorem dX6_value_24 : decode cX6_value 24 = .ok (.getfield 23, 3) := by decide +kernel
theorem dX6_value_27 : decode cX6_value 27 = .ok (.invokestatic 180, 3) := by decide +kernel
theorem dX6_value_30 : decode cX6_value 30 = .ok (.iload_n 2, 1) := by decide +kernel
theorem dX6_value_31 : decode cX6_value 31 = .ok (.invokevirtual 194, 3) := by decide +kernel
theorem dX6_value_34 : decode cX6_value 34 = .ok (.ifCond .ne 7, 3) := by decide +kernel
theorem dX6_value_37 : decode cX6_value 37 = .ok (.ldc2_w 198, 3) := by decide +kernel
theorem dX6_value_40 : decode cX6_value 40 = .ok (.lreturn, 1) := by decide +kernel
theorem dX6_value_41 : decode cX6_value 41 = .ok (.aload_n 0, 1) := by decide +kernel
theorem dX6_value_42 : decode cX6_value 42 = .ok (.aload_n 0, 1) := by decide +kernel
theorem dX6_value_43 : decode cX6_value 43 = .ok (.aload_n 0, 1) := by decide +kernel
theorem dX6_value_44 : decode cX6_value 44 = .ok (.invokevirtual 155, 3) := by decide +kernel
theorem dX6_value_47 : decode cX6_value 47 = .ok (.iload_n 1, 1) := by decide +kernel
theorem dX6_value_48 : decode cX6_value 48 = .ok (.invokevirtual 162, 3) := by decide +kernel
theorem dX6_value_51 : decode cX6_value 51 = .ok (.aload_n 0, 1) := by decide +kernel
theorem dX6_value_52 : decode cX6_value 52 = .ok (.aload_n 0, 1) := by decide +kernel
theorem dX6_value_53 : decode cX6_value 53 = .ok (.invokevirtual 155, 3) := by decide +kernel
theorem dX6_value_56 : decode cX6_value 56 = .ok (.bipush (-9), 2) := by decide +kernel
theorem dX6_value_58 : decode cX6_value 58 = .ok (.invokevirtual 162, 3) := by decide +kernel
theorem dX6_value_61 : decode cX6_value 61 = .ok (.invokevirtual 176, 3) := by decide +kernel
theorem dX6_value_64 : decode cX6_value 64 = .ok (.aload_n 0, 1) := by decide +kernel
theorem dX6_value_65 : decode cX6_value 65 = .ok (.iload_n 3, 1) := by decide +kernel
theorem dX6_value_66 : decode cX6_value 66 = .ok (.invokevirtual 200, 3) := by decide +kernel
theorem dX6_value_69 : decode cX6_value 69 = .ok (.lreturn, 1) := by decide +kernel
theorem dX6_spread_0 : decode cX6_spread 0 = .ok (.aload_n 0, 1) := by decide +kernel
theorem dX6_spread_1 : decode cX6_spread 1 = .ok (.iconst 0, 1) := by decide +kernel
theorem dX6_spread_2 : decode cX6_spread 2 = .ok (.putfield 1, 3) := by decide +kernel
theorem dX6_spread_5 : decode cX6_spread 5 = .ok (.aload_n 0, 1) := by decide +kernel
theorem dX6_spread_6 : decode cX6_spread 6 = .ok (.iload_n 1, 1) := by decide +kernel
theorem dX6_spread_7 : decode cX6_spread 7 = .ok (.iload_n 2, 1) := by decide +kernel
theorem dX6_spread_8 : decode cX6_spread 8 = .ok (.invokevirtual 188, 3) := by decide +kernel
theorem dX6_spread_11 : decode cX6_spread 11 = .ok (.ifCond .eq 7, 3) := by decide +kernel
theorem dX6_spread_14 : decode cX6_spread 14 = .ok (.ldc2_w 192, 3) := by decide +kernel
theorem dX6_spread_17 : decode cX6_spread 17 = .ok (.lreturn, 1) := by decide +kernel
theorem dX6_spread_18 : decode cX6_spread 18 = .ok (.aload_n 0, 1) := by decide +kernel
theorem dX6_spread_19 : decode cX6_spread 19 = .ok (.aload_n 0, 1) := by decide +kernel
theorem dX6_spread_20 : decode cX6_spread 20 = .ok (.getfield 23, 3) := by decide +kernel
theorem dX6_spread_23 : decode cX6_spread 23 = .ok (.aload_n 0, 1) := by decide +kernel
theorem dX6_spread_24 : decode cX6_spread 24 = .ok (.getfield 23, 3) := by decide +kernel
theorem dX6_spread_27 : decode cX6_spread 27 = .ok (.invokestatic 180, 3) := by decide +kernel
theorem dX6_spread_30 : decode cX6_spread 30 = .ok (.iload_n 2, 1) := by decide +kernel
theorem dX6_spread_31 : decode cX6_spread 31 = .ok (.invokevirtual 194, 3) := by decide +kernel
theorem dX6_spread_34 : decode cX6_spread 34 = .ok (.ifCond .ne 7, 3) := by decide +kernel
theorem dX6_spread_37 : decode cX6_spread 37 = .ok (.ldc2_w 198, 3) := by decide +kernel
theorem dX6_spread_40 : decode cX6_spread 40 = .ok (.lreturn, 1) := by decide +kernel
theorem dX6_spread_41 : decode cX6_spread 41 = .ok (.aload_n 0, 1) := by decide +kernel
theorem dX6_spread_42 : decode cX6_spread 42 = .ok (.aload_n 0, 1) := by decide +kernel
theorem dX6_spread_43 : decode cX6_spread 43 = .ok (.aload_n 0, 1) := by decide +kernel
theorem dX6_spread_44 : decode cX6_spread 44 = .ok (.invokevirtual 155, 3) := by decide +kernel
theorem dX6_spread_47 : decode cX6_spread 47 = .ok (.iconst 1, 1) := by decide +kernel
theorem dX6_spread_48 : decode cX6_spread 48 = .ok (.iload_n 1, 1) := by decide +kernel
theorem dX6_spread_49 : decode cX6_spread 49 = .ok (.ishl, 1) := by decide +kernel
theorem dX6_spread_50 : decode cX6_spread 50 = .ok (.iconst (-1), 1) := by decide +kernel
theorem dX6_spread_51 : decode cX6_spread 51 = .ok (.ixor, 1) := by decide +kernel
theorem dX6_spread_52 : decode cX6_spread 52 = .ok (.iand, 1) := by decide +kernel
theorem dX6_spread_53 : decode cX6_spread 53 = .ok (.bipush (-9), 2) := by decide +kernel
theorem dX6_spread_55 : decode cX6_spread 55 = .ok (.invokevirtual 162, 3) := by decide +kernel
theorem dX6_spread_58 : decode cX6_spread 58 = .ok (.aload_n 0, 1) := by decide +kernel
theorem dX6_spread_59 : decode cX6_spread 59 = .ok (.aload_n 0, 1) := by decide +kernel
theorem dX6_spread_60 : decode cX6_spread 60 = .ok (.invokevirtual 155, 3) := by decide +kernel
theorem dX6_spread_63 : decode cX6_spread 63 = .ok (.bipush (-9), 2) := by decide +kernel
theorem dX6_spread_65 : decode cX6_spread 65 = .ok (.invokevirtual 162, 3) := by decide +kernel
theorem dX6_spread_68 : decode cX6_spread 68 = .ok (.invokevirtual 176, 3) := by decide +kernel
theorem dX6_spread_71 : decode cX6_spread 71 = .ok (.aload_n 0, 1) := by decide +kernel
theorem dX6_spread_72 : decode cX6_spread 72 = .ok (.iload_n 3, 1) := by decide +kernel
theorem dX6_spread_73 : decode cX6_spread 73 = .ok (.invokevirtual 200, 3) := by decide +kernel
theorem dX6_spread_76 : decode cX6_spread 76 = .ok (.lreturn, 1) := by decide +kernel
theorem dX6_total_0 : decode cX6_total 0 = .ok (.aload_n 0, 1) := by decide +kernel
theorem dX6_total_1 : decode cX6_total 1 = .ok (.iconst 0, 1) := by decide +kernel
theorem dX6_total_2 : decode cX6_total 2 = .ok (.putfield 1, 3) := by decide +kernel
theorem dX6_total_5 : decode cX6_total 5 = .ok (.aload_n 0, 1) := by decide +kernel
theorem dX6_total_6 : decode cX6_total 6 = .ok (.aload_n 0, 1) := by decide +kernel
theorem dX6_total_7 : decode cX6_total 7 = .ok (.getfield 23, 3) := by decide +kernel
theorem dX6_total_10 : decode cX6_total 10 = .ok (.aload_n 0, 1) := by decide +kernel
theorem dX6_total_11 : decode cX6_total 11 = .ok (.getfield 23, 3) := by decide +kernel
theorem dX6_total_14 : decode cX6_total 14 = .ok (.invokestatic 180, 3) := by decide +kernel
theorem dX6_total_17 : decode cX6_total 17 = .ok (.iload_n 1, 1) := by decide +kernel
theorem dX6_total_18 : decode cX6_total 18 = .ok (.invokevirtual 194, 3) := by decide +kernel
theorem dX6_total_21 : decode cX6_total 21 = .ok (.ifCond .ne 7, 3) := by decide +kernel
theorem dX6_total_24 : decode cX6_total 24 = .ok (.ldc2_w 198, 3) := by decide +kernel
theorem dX6_total_27 : decode cX6_total 27 = .ok (.lreturn, 1) := by decide +kernel
theorem dX6_total_28 : decode cX6_total 28 = .ok (.aload_n 0, 1) := by decide +kernel
theorem dX6_total_29 : decode cX6_total 29 = .ok (.invokevirtual 204, 3) := by decide +kernel
theorem dX6_total_32 : decode cX6_total 32 = .ok (.aload_n 0, 1) := by decide +kernel
theorem dX6_total_33 : decode cX6_total 33 = .ok (.iload_n 2, 1) := by decide +kernel
theorem dX6_total_34 : decode cX6_total 34 = .ok (.invokevirtual 200, 3) := by decide +kernel
theorem dX6_total_37 : decode cX6_total 37 = .ok (.lreturn, 1) := by decide +kernel
theorem dX6_rest_0 : decode cX6_rest 0 = .ok (.aload_n 0, 1) := by decide +kernel
theorem dX6_rest_1 : decode cX6_rest 1 = .ok (.iconst 0, 1) := by decide +kernel
theorem dX6_rest_2 : decode cX6_rest 2 = .ok (.putfield 1, 3) := by decide +kernel
theorem dX6_rest_5 : decode cX6_rest 5 = .ok (.aload_n 0, 1) := by decide +kernel
theorem dX6_rest_6 : decode cX6_rest 6 = .ok (.iload_n 1, 1) := by decide +kernel
theorem dX6_rest_7 : decode cX6_rest 7 = .ok (.invokevirtual 102, 3) := by decide +kernel
theorem dX6_rest_10 : decode cX6_rest 10 = .ok (.ifCond .eq 7, 3) := by decide +kernel
theorem dX6_rest_13 : decode cX6_rest 13 = .ok (.ldc2_w 192, 3) := by decide +kernel
theorem dX6_rest_16 : decode cX6_rest 16 = .ok (.lreturn, 1) := by decide +kernel
theorem dX6_rest_17 : decode cX6_rest 17 = .ok (.aload_n 0, 1) := by decide +kernel
theorem dX6_rest_18 : decode cX6_rest 18 = .ok (.aload_n 0, 1) := by decide +kernel
theorem dX6_rest_19 : decode cX6_rest 19 = .ok (.getfield 23, 3) := by decide +kernel
theorem dX6_rest_22 : decode cX6_rest 22 = .ok (.aload_n 0, 1) := by decide +kernel
theorem dX6_rest_23 : decode cX6_rest 23 = .ok (.getfield 23, 3) := by decide +kernel
theorem dX6_rest_26 : decode cX6_rest 26 = .ok (.invokestatic 180, 3) := by decide +kernel
theorem dX6_rest_29 : decode cX6_rest 29 = .ok (.iload_n 2, 1) := by decide +kernel
theorem dX6_rest_30 : decode cX6_rest 30 = .ok (.invokevirtual 194, 3) := by decide +kernel
theorem dX6_rest_33 : decode cX6_rest 33 = .ok (.ifCond .ne 7, 3) := by decide +kernel
theorem dX6_rest_36 : decode cX6_rest 36 = .ok (.ldc2_w 198, 3) := by decide +kernel
theorem dX6_rest_39 : decode cX6_rest 39 = .ok (.lreturn, 1) := by decide +kernel
theorem dX6_rest_40 : decode cX6_rest 40 = .ok (.aload_n 0, 1) := by decide +kernel
theorem dX6_rest_41 : decode cX6_rest 41 = .ok (.aload_n 0, 1) := by decide +kernel
theorem dX6_rest_42 : decode cX6_rest 42 = .ok (.invokevirtual 155, 3) := by decide +kernel
theorem dX6_rest_45 : decode cX6_rest 45 = .ok (.bipush (-9), 2) := by decide +kernel
theorem dX6_rest_47 : decode cX6_rest 47 = .ok (.invokevirtual 162, 3) := by decide +kernel
theorem dX6_rest_50 : decode cX6_rest 50 = .ok (.lstore 4, 2) := by decide +kernel
theorem dX6_rest_52 : decode cX6_rest 52 = .ok (.lload 4, 2) := by decide +kernel
theorem dX6_rest_54 : decode cX6_rest 54 = .ok (.aload_n 0, 1) := by decide +kernel
theorem dX6_rest_55 : decode cX6_rest 55 = .ok (.getfield 23, 3) := by decide +kernel
theorem dX6_rest_58 : decode cX6_rest 58 = .ok (.iload_n 1, 1) := by decide +kernel
theorem dX6_rest_59 : decode cX6_rest 59 = .ok (.aload_n 0, 1) := by decide +kernel
theorem dX6_rest_60 : decode cX6_rest 60 = .ok (.aload_n 0, 1) := by decide +kernel
theorem dX6_rest_61 : decode cX6_rest 61 = .ok (.getfield 23, 3) := by decide +kernel
theorem dX6_rest_64 : decode cX6_rest 64 = .ok (.iconst 2, 1) := by decide +kernel
theorem dX6_rest_65 : decode cX6_rest 65 = .ok (.iload_n 1, 1) := by decide +kernel
theorem dX6_rest_66 : decode cX6_rest 66 = .ok (.iadd, 1) := by decide +kernel
theorem dX6_rest_67 : decode cX6_rest 67 = .ok (.iaload, 1) := by decide +kernel
theorem dX6_rest_68 : decode cX6_rest 68 = .ok (.iconst 0, 1) := by decide +kernel
theorem dX6_rest_69 : decode cX6_rest 69 = .ok (.invokevirtual 129, 3) := by decide +kernel
theorem dX6_rest_72 : decode cX6_rest 72 = .ok (.invokestatic 144, 3) := by decide +kernel
theorem dX6_rest_75 : decode cX6_rest 75 = .ok (.i2l, 1) := by decide +kernel
theorem dX6_rest_76 : decode cX6_rest 76 = .ok (.lmul, 1) := by decide +kernel
theorem dX6_rest_77 : decode cX6_rest 77 = .ok (.lstore 6, 2) := by decide +kernel
theorem dX6_rest_79 : decode cX6_rest 79 = .ok (.aload_n 0, 1) := by decide +kernel
theorem dX6_rest_80 : decode cX6_rest 80 = .ok (.aload_n 0, 1) := by decide +kernel
theorem dX6_rest_81 : decode cX6_rest 81 = .ok (.getfield 23, 3) := by decide +kernel
theorem dX6_rest_84 : decode cX6_rest 84 = .ok (.iload_n 1, 1) := by decide +kernel
theorem dX6_rest_85 : decode cX6_rest 85 = .ok (.iload_n 2, 1) := by decide +kernel
theorem dX6_rest_86 : decode cX6_rest 86 = .ok (.invokevirtual 140, 3) := by decide +kernel
theorem dX6_rest_89 : decode cX6_rest 89 = .ok (.iconst 0, 1) := by decide +kernel
theorem dX6_rest_90 : decode cX6_rest 90 = .ok (.istore 8, 2) := by decide +kernel
theorem dX6_rest_92 : decode cX6_rest 92 = .ok (.iload 8, 2) := by decide +kernel
theorem dX6_rest_94 : decode cX6_rest 94 = .ok (.aload_n 0, 1) := by decide +kernel
theorem dX6_rest_95 : decode cX6_rest 95 = .ok (.getfield 58, 3) := by decide +kernel
theorem dX6_rest_98 : decode cX6_rest 98 = .ok (.if_icmp .ge 33, 3) := by decide +kernel
theorem dX6_rest_101 : decode cX6_rest 101 = .ok (.lload 6, 2) := by decide +kernel
theorem dX6_rest_103 : decode cX6_rest 103 = .ok (.aload_n 0, 1) := by decide +kernel
theorem dX6_rest_104 : decode cX6_rest 104 = .ok (.getfield 55, 3) := by decide +kernel
theorem dX6_rest_107 : decode cX6_rest 107 = .ok (.iload 8, 2) := by decide +kernel
theorem dX6_rest_109 : decode cX6_rest 109 = .ok (.iaload, 1) := by decide +kernel
theorem dX6_rest_110 : decode cX6_rest 110 = .ok (.i2l, 1) := by decide +kernel
theorem dX6_rest_111 : decode cX6_rest 111 = .ok (.aload_n 0, 1) := by decide +kernel
theorem dX6_rest_112 : decode cX6_rest 112 = .ok (.aload_n 0, 1) := by decide +kernel
theorem dX6_rest_113 : decode cX6_rest 113 = .ok (.invokevirtual 155, 3) := by decide +kernel
theorem dX6_rest_116 : decode cX6_rest 116 = .ok (.iload 8, 2) := by decide +kernel
theorem dX6_rest_118 : decode cX6_rest 118 = .ok (.invokevirtual 162, 3) := by decide +kernel
theorem dX6_rest_121 : decode cX6_rest 121 = .ok (.lmul, 1) := by decide +kernel
theorem dX6_rest_122 : decode cX6_rest 122 = .ok (.lsub, 1) := by decide +kernel
theorem dX6_rest_123 : decode cX6_rest 123 = .ok (.lstore 6, 2) := by decide +kernel
theorem dX6_rest_125 : decode cX6_rest 125 = .ok (.iinc 8 1, 3) := by decide +kernel
theorem dX6_rest_128 : decode cX6_rest 128 = .ok (.goto (-36), 3) := by decide +kernel
theorem dX6_rest_131 : decode cX6_rest 131 = .ok (.aload_n 0, 1) := by decide +kernel
theorem dX6_rest_132 : decode cX6_rest 132 = .ok (.lload 6, 2) := by decide +kernel
theorem dX6_rest_134 : decode cX6_rest 134 = .ok (.lload 4, 2) := by decide +kernel
theorem dX6_rest_136 : decode cX6_rest 136 = .ok (.invokevirtual 176, 3) := by decide +kernel
theorem dX6_rest_139 : decode cX6_rest 139 = .ok (.aload_n 0, 1) := by decide +kernel
theorem dX6_rest_140 : decode cX6_rest 140 = .ok (.iload_n 3, 1) := by decide +kernel
theorem dX6_rest_141 : decode cX6_rest 141 = .ok (.invokevirtual 200, 3) := by decide +kernel
theorem dX6_rest_144 : decode cX6_rest 144 = .ok (.lreturn, 1) := by decide +kernel
theorem dX6_squares_0 : decode cX6_squares 0 = .ok (.aload_n 0, 1) := by decide +kernel
theorem dX6_squares_1 : decode cX6_squares 1 = .ok (.iconst 0, 1) := by decide +kernel
theorem dX6_squares_2 : decode cX6_squares 2 = .ok (.putfield 1, 3) := by decide +kernel
theorem dX6_squares_5 : decode cX6_squares 5 = .ok (.aload_n 0, 1) := by decide +kernel
theorem dX6_squares_6 : decode cX6_squares 6 = .ok (.aload_n 0, 1) := by decide +kernel
theorem dX6_squares_7 : decode cX6_squares 7 = .ok (.getfield 23, 3) := by decide +kernel
theorem dX6_squares_10 : decode cX6_squares 10 = .ok (.aload_n 0, 1) := by decide +kernel
theorem dX6_squares_11 : decode cX6_squares 11 = .ok (.getfield 23, 3) := by decide +kernel
theorem dX6_squares_14 : decode cX6_squares 14 = .ok (.invokestatic 180, 3) := by decide +kernel
theorem dX6_squares_17 : decode cX6_squares 17 = .ok (.iload_n 1, 1) := by decide +kernel
theorem dX6_squares_18 : decode cX6_squares 18 = .ok (.invokevirtual 194, 3) := by decide +kernel
theorem dX6_squares_21 : decode cX6_squares 21 = .ok (.ifCond .ne 7, 3) := by decide +kernel
theorem dX6_squares_24 : decode cX6_squares 24 = .ok (.ldc2_w 198, 3) := by decide +kernel
theorem dX6_squares_27 : decode cX6_squares 27 = .ok (.lreturn, 1) := by decide +kernel
theorem dX6_squares_28 : decode cX6_squares 28 = .ok (.aload_n 0, 1) := by decide +kernel
theorem dX6_squares_29 : decode cX6_squares 29 = .ok (.invokevirtual 207, 3) := by decide +kernel
theorem dX6_squares_32 : decode cX6_squares 32 = .ok (.aload_n 0, 1) := by decide +kernel
theorem dX6_squares_33 : decode cX6_squares 33 = .ok (.iload_n 2, 1) := by decide +kernel
theorem dX6_squares_34 : decode cX6_squares 34 = .ok (.invokevirtual 200, 3) := by decide +kernel
theorem dX6_squares_37 : decode cX6_squares 37 = .ok (.lreturn, 1) := by decide +kernel
theorem dX6_next_0 : decode cX6_next 0 = .ok (.aload_n 0, 1) := by decide +kernel
theorem dX6_next_1 : decode cX6_next 1 = .ok (.iconst 0, 1) := by decide +kernel
theorem dX6_next_2 : decode cX6_next 2 = .ok (.putfield 1, 3) := by decide +kernel
theorem dX6_next_5 : decode cX6_next 5 = .ok (.aload_n 0, 1) := by decide +kernel
theorem dX6_next_6 : decode cX6_next 6 = .ok (.getfield 23, 3) := by decide +kernel
theorem dX6_next_9 : decode cX6_next 9 = .ok (.iconst 1, 1) := by decide +kernel
theorem dX6_next_10 : decode cX6_next 10 = .ok (.iaload, 1) := by decide +kernel
theorem dX6_next_11 : decode cX6_next 11 = .ok (.bipush 8, 2) := by decide +kernel
theorem dX6_next_13 : decode cX6_next 13 = .ok (.if_icmp .ne 6, 3) := by decide +kernel
theorem dX6_next_16 : decode cX6_next 16 = .ok (.bipush (-4), 2) := by decide +kernel
theorem dX6_next_18 : decode cX6_next 18 = .ok (.ireturn, 1) := by decide +kernel
theorem dX6_next_19 : decode cX6_next 19 = .ok (.bipush (-9), 2) := by decide +kernel
theorem dX6_next_21 : decode cX6_next 21 = .ok (.istore_n 2, 1) := by decide +kernel
theorem dX6_next_22 : decode cX6_next 22 = .ok (.lconst 0, 1) := by decide +kernel
theorem dX6_next_23 : decode cX6_next 23 = .ok (.lstore_n 3, 1) := by decide +kernel
theorem dX6_next_24 : decode cX6_next 24 = .ok (.lconst 1, 1) := by decide +kernel
theorem dX6_next_25 : decode cX6_next 25 = .ok (.lstore 5, 2) := by decide +kernel
theorem dX6_next_27 : decode cX6_next 27 = .ok (.iconst 0, 1) := by decide +kernel
theorem dX6_next_28 : decode cX6_next 28 = .ok (.istore 7, 2) := by decide +kernel
theorem dX6_next_30 : decode cX6_next 30 = .ok (.iload 7, 2) := by decide +kernel
theorem dX6_next_32 : decode cX6_next 32 = .ok (.iconst 3, 1) := by decide +kernel
theorem dX6_next_33 : decode cX6_next 33 = .ok (.aload_n 0, 1) := by decide +kernel
theorem dX6_next_34 : decode cX6_next 34 = .ok (.getfield 17, 3) := by decide +kernel
theorem dX6_next_37 : decode cX6_next 37 = .ok (.iconst 1, 1) := by decide +kernel
theorem dX6_next_38 : decode cX6_next 38 = .ok (.iadd, 1) := by decide +kernel
theorem dX6_next_39 : decode cX6_next 39 = .ok (.invokestatic 106, 3) := by decide +kernel
theorem dX6_next_42 : decode cX6_next 42 = .ok (.if_icmp .ge 165, 3) := by decide +kernel
theorem dX6_next_45 : decode cX6_next 45 = .ok (.iconst 0, 1) := by decide +kernel
theorem dX6_next_46 : decode cX6_next 46 = .ok (.istore 8, 2) := by decide +kernel
theorem dX6_next_48 : decode cX6_next 48 = .ok (.iconst 0, 1) := by decide +kernel
theorem dX6_next_49 : decode cX6_next 49 = .ok (.istore 9, 2) := by decide +kernel
theorem dX6_next_51 : decode cX6_next 51 = .ok (.iload 9, 2) := by decide +kernel
theorem dX6_next_53 : decode cX6_next 53 = .ok (.aload_n 0, 1) := by decide +kernel
theorem dX6_next_54 : decode cX6_next 54 = .ok (.getfield 17, 3) := by decide +kernel
theorem dX6_next_57 : decode cX6_next 57 = .ok (.if_icmp .gt 33, 3) := by decide +kernel
theorem dX6_next_60 : decode cX6_next 60 = .ok (.iload 8, 2) := by decide +kernel
theorem dX6_next_62 : decode cX6_next 62 = .ok (.iload 7, 2) := by decide +kernel
theorem dX6_next_64 : decode cX6_next 64 = .ok (.iconst 3, 1) := by decide +kernel
theorem dX6_next_65 : decode cX6_next 65 = .ok (.iload 9, 2) := by decide +kernel
theorem dX6_next_67 : decode cX6_next 67 = .ok (.invokestatic 106, 3) := by decide +kernel
theorem dX6_next_70 : decode cX6_next 70 = .ok (.idiv, 1) := by decide +kernel
theorem dX6_next_71 : decode cX6_next 71 = .ok (.iconst 3, 1) := by decide +kernel
theorem dX6_next_72 : decode cX6_next 72 = .ok (.irem, 1) := by decide +kernel
theorem dX6_next_73 : decode cX6_next 73 = .ok (.bipush 10, 2) := by decide +kernel
theorem dX6_next_75 : decode cX6_next 75 = .ok (.iload 9, 2) := by decide +kernel
theorem dX6_next_77 : decode cX6_next 77 = .ok (.invokestatic 106, 3) := by decide +kernel
theorem dX6_next_80 : decode cX6_next 80 = .ok (.imul, 1) := by decide +kernel
theorem dX6_next_81 : decode cX6_next 81 = .ok (.iadd, 1) := by decide +kernel
theorem dX6_next_82 : decode cX6_next 82 = .ok (.istore 8, 2) := by decide +kernel
theorem dX6_next_84 : decode cX6_next 84 = .ok (.iinc 9 1, 3) := by decide +kernel
theorem dX6_next_87 : decode cX6_next 87 = .ok (.goto (-36), 3) := by decide +kernel
theorem dX6_next_90 : decode cX6_next 90 = .ok (.aload_n 0, 1) := by decide +kernel
theorem dX6_next_91 : decode cX6_next 91 = .ok (.getfield 23, 3) := by decide +kernel
theorem dX6_next_94 : decode cX6_next 94 = .ok (.aload_n 0, 1) := by decide +kernel
theorem dX6_next_95 : decode cX6_next 95 = .ok (.getfield 26, 3) := by decide +kernel
theorem dX6_next_98 : decode cX6_next 98 = .ok (.invokestatic 95, 3) := by decide +kernel
theorem dX6_next_101 : decode cX6_next 101 = .ok (.aload_n 0, 1) := by decide +kernel
theorem dX6_next_102 : decode cX6_next 102 = .ok (.getfield 26, 3) := by decide +kernel
theorem dX6_next_105 : decode cX6_next 105 = .ok (.iconst 2, 1) := by decide +kernel
theorem dX6_next_106 : decode cX6_next 106 = .ok (.aload_n 0, 1) := by decide +kernel
theorem dX6_next_107 : decode cX6_next 107 = .ok (.getfield 26, 3) := by decide +kernel
theorem dX6_next_110 : decode cX6_next 110 = .ok (.iconst 1, 1) := by decide +kernel
theorem dX6_next_111 : decode cX6_next 111 = .ok (.iaload, 1) := by decide +kernel
theorem dX6_next_112 : decode cX6_next 112 = .ok (.iadd, 1) := by decide +kernel
theorem dX6_next_113 : decode cX6_next 113 = .ok (.iload 8, 2) := by decide +kernel
theorem dX6_next_115 : decode cX6_next 115 = .ok (.iastore, 1) := by decide +kernel
theorem dX6_next_116 : decode cX6_next 116 = .ok (.aload_n 0, 1) := by decide +kernel
theorem dX6_next_117 : decode cX6_next 117 = .ok (.getfield 26, 3) := by decide +kernel
theorem dX6_next_120 : decode cX6_next 120 = .ok (.bipush 10, 2) := by decide +kernel
theorem dX6_next_122 : decode cX6_next 122 = .ok (.aload_n 0, 1) := by decide +kernel
theorem dX6_next_123 : decode cX6_next 123 = .ok (.getfield 26, 3) := by decide +kernel
theorem dX6_next_126 : decode cX6_next 126 = .ok (.iconst 1, 1) := by decide +kernel
theorem dX6_next_127 : decode cX6_next 127 = .ok (.iaload, 1) := by decide +kernel
theorem dX6_next_128 : decode cX6_next 128 = .ok (.iadd, 1) := by decide +kernel
theorem dX6_next_129 : decode cX6_next 129 = .ok (.iconst 0, 1) := by decide +kernel
theorem dX6_next_130 : decode cX6_next 130 = .ok (.iastore, 1) := by decide +kernel
theorem dX6_next_131 : decode cX6_next 131 = .ok (.aload_n 0, 1) := by decide +kernel
theorem dX6_next_132 : decode cX6_next 132 = .ok (.getfield 26, 3) := by decide +kernel
theorem dX6_next_135 : decode cX6_next 135 = .ok (.iconst 1, 1) := by decide +kernel
theorem dX6_next_136 : decode cX6_next 136 = .ok (.dup2, 1) := by decide +kernel
theorem dX6_next_137 : decode cX6_next 137 = .ok (.iaload, 1) := by decide +kernel
theorem dX6_next_138 : decode cX6_next 138 = .ok (.iconst 1, 1) := by decide +kernel
theorem dX6_next_139 : decode cX6_next 139 = .ok (.iadd, 1) := by decide +kernel
theorem dX6_next_140 : decode cX6_next 140 = .ok (.iastore, 1) := by decide +kernel
theorem dX6_next_141 : decode cX6_next 141 = .ok (.aload_n 0, 1) := by decide +kernel
theorem dX6_next_142 : decode cX6_next 142 = .ok (.aload_n 0, 1) := by decide +kernel
theorem dX6_next_143 : decode cX6_next 143 = .ok (.getfield 26, 3) := by decide +kernel
theorem dX6_next_146 : decode cX6_next 146 = .ok (.aload_n 0, 1) := by decide +kernel
theorem dX6_next_147 : decode cX6_next 147 = .ok (.getfield 26, 3) := by decide +kernel
theorem dX6_next_150 : decode cX6_next 150 = .ok (.invokestatic 180, 3) := by decide +kernel
theorem dX6_next_153 : decode cX6_next 153 = .ok (.iload_n 1, 1) := by decide +kernel
theorem dX6_next_154 : decode cX6_next 154 = .ok (.invokevirtual 194, 3) := by decide +kernel
theorem dX6_next_157 : decode cX6_next 157 = .ok (.ifCond .eq 44, 3) := by decide +kernel
theorem dX6_next_160 : decode cX6_next 160 = .ok (.aload_n 0, 1) := by decide +kernel
theorem dX6_next_161 : decode cX6_next 161 = .ok (.invokevirtual 204, 3) := by decide +kernel
theorem dX6_next_164 : decode cX6_next 164 = .ok (.iload_n 2, 1) := by decide +kernel
theorem dX6_next_165 : decode cX6_next 165 = .ok (.bipush (-9), 2) := by decide +kernel
theorem dX6_next_167 : decode cX6_next 167 = .ok (.if_icmp .eq 20, 3) := by decide +kernel
theorem dX6_next_170 : decode cX6_next 170 = .ok (.aload_n 0, 1) := by decide +kernel
theorem dX6_next_171 : decode cX6_next 171 = .ok (.getfield 170, 3) := by decide +kernel
theorem dX6_next_174 : decode cX6_next 174 = .ok (.lload 5, 2) := by decide +kernel
theorem dX6_next_176 : decode cX6_next 176 = .ok (.lmul, 1) := by decide +kernel
theorem dX6_next_177 : decode cX6_next 177 = .ok (.lload_n 3, 1) := by decide +kernel
theorem dX6_next_178 : decode cX6_next 178 = .ok (.aload_n 0, 1) := by decide +kernel
theorem dX6_next_179 : decode cX6_next 179 = .ok (.getfield 173, 3) := by decide +kernel
theorem dX6_next_182 : decode cX6_next 182 = .ok (.lmul, 1) := by decide +kernel
theorem dX6_next_183 : decode cX6_next 183 = .ok (.lcmp, 1) := by decide +kernel
theorem dX6_next_184 : decode cX6_next 184 = .ok (.ifCond .ge 17, 3) := by decide +kernel
theorem dX6_next_187 : decode cX6_next 187 = .ok (.iload 8, 2) := by decide +kernel
theorem dX6_next_189 : decode cX6_next 189 = .ok (.istore_n 2, 1) := by decide +kernel
theorem dX6_next_190 : decode cX6_next 190 = .ok (.aload_n 0, 1) := by decide +kernel
theorem dX6_next_191 : decode cX6_next 191 = .ok (.getfield 170, 3) := by decide +kernel
theorem dX6_next_194 : decode cX6_next 194 = .ok (.lstore_n 3, 1) := by decide +kernel
theorem dX6_next_195 : decode cX6_next 195 = .ok (.aload_n 0, 1) := by decide +kernel
theorem dX6_next_196 : decode cX6_next 196 = .ok (.getfield 173, 3) := by decide +kernel
theorem dX6_next_199 : decode cX6_next 199 = .ok (.lstore 5, 2) := by decide +kernel
theorem dX6_next_201 : decode cX6_next 201 = .ok (.iinc 7 1, 3) := by decide +kernel
theorem dX6_next_204 : decode cX6_next 204 = .ok (.goto (-174), 3) := by decide +kernel
theorem dX6_next_207 : decode cX6_next 207 = .ok (.iload_n 2, 1) := by decide +kernel
theorem dX6_next_208 : decode cX6_next 208 = .ok (.ireturn, 1) := by decide +kernel
theorem dX6_better_0 : decode cX6_better 0 = .ok (.aload_n 0, 1) := by decide +kernel
theorem dX6_better_1 : decode cX6_better 1 = .ok (.iconst 0, 1) := by decide +kernel
theorem dX6_better_2 : decode cX6_better 2 = .ok (.putfield 1, 3) := by decide +kernel
theorem dX6_better_5 : decode cX6_better 5 = .ok (.aload_n 0, 1) := by decide +kernel
theorem dX6_better_6 : decode cX6_better 6 = .ok (.aload_n 0, 1) := by decide +kernel
theorem dX6_better_7 : decode cX6_better 7 = .ok (.getfield 23, 3) := by decide +kernel
theorem dX6_better_10 : decode cX6_better 10 = .ok (.aload_n 0, 1) := by decide +kernel
theorem dX6_better_11 : decode cX6_better 11 = .ok (.getfield 23, 3) := by decide +kernel
theorem dX6_better_14 : decode cX6_better 14 = .ok (.invokestatic 180, 3) := by decide +kernel
theorem dX6_better_17 : decode cX6_better 17 = .ok (.iconst 1, 1) := by decide +kernel
theorem dX6_better_18 : decode cX6_better 18 = .ok (.invokevirtual 194, 3) := by decide +kernel
theorem dX6_better_21 : decode cX6_better 21 = .ok (.ifCond .ne 6, 3) := by decide +kernel
theorem dX6_better_24 : decode cX6_better 24 = .ok (.bipush (-3), 2) := by decide +kernel
theorem dX6_better_26 : decode cX6_better 26 = .ok (.ireturn, 1) := by decide +kernel
theorem dX6_better_27 : decode cX6_better 27 = .ok (.aload_n 0, 1) := by decide +kernel
theorem dX6_better_28 : decode cX6_better 28 = .ok (.invokevirtual 204, 3) := by decide +kernel
theorem dX6_better_31 : decode cX6_better 31 = .ok (.aload_n 0, 1) := by decide +kernel
theorem dX6_better_32 : decode cX6_better 32 = .ok (.getfield 170, 3) := by decide +kernel
theorem dX6_better_35 : decode cX6_better 35 = .ok (.lstore_n 1, 1) := by decide +kernel
theorem dX6_better_36 : decode cX6_better 36 = .ok (.aload_n 0, 1) := by decide +kernel
theorem dX6_better_37 : decode cX6_better 37 = .ok (.getfield 173, 3) := by decide +kernel
theorem dX6_better_40 : decode cX6_better 40 = .ok (.lstore_n 3, 1) := by decide +kernel
theorem dX6_better_41 : decode cX6_better 41 = .ok (.bipush (-9), 2) := by decide +kernel
theorem dX6_better_43 : decode cX6_better 43 = .ok (.istore 5, 2) := by decide +kernel
theorem dX6_better_45 : decode cX6_better 45 = .ok (.iconst 0, 1) := by decide +kernel
theorem dX6_better_46 : decode cX6_better 46 = .ok (.istore 6, 2) := by decide +kernel
theorem dX6_better_48 : decode cX6_better 48 = .ok (.iload 6, 2) := by decide +kernel
theorem dX6_better_50 : decode cX6_better 50 = .ok (.aload_n 0, 1) := by decide +kernel
theorem dX6_better_51 : decode cX6_better 51 = .ok (.getfield 23, 3) := by decide +kernel
theorem dX6_better_54 : decode cX6_better 54 = .ok (.iconst 1, 1) := by decide +kernel
theorem dX6_better_55 : decode cX6_better 55 = .ok (.iaload, 1) := by decide +kernel
theorem dX6_better_56 : decode cX6_better 56 = .ok (.if_icmp .ge 113, 3) := by decide +kernel
theorem dX6_better_59 : decode cX6_better 59 = .ok (.iload 6, 2) := by decide +kernel
theorem dX6_better_61 : decode cX6_better 61 = .ok (.iconst 1, 1) := by decide +kernel
theorem dX6_better_62 : decode cX6_better 62 = .ok (.iadd, 1) := by decide +kernel
theorem dX6_better_63 : decode cX6_better 63 = .ok (.istore 7, 2) := by decide +kernel
theorem dX6_better_65 : decode cX6_better 65 = .ok (.iload 7, 2) := by decide +kernel
theorem dX6_better_67 : decode cX6_better 67 = .ok (.aload_n 0, 1) := by decide +kernel
theorem dX6_better_68 : decode cX6_better 68 = .ok (.getfield 23, 3) := by decide +kernel
theorem dX6_better_71 : decode cX6_better 71 = .ok (.iconst 1, 1) := by decide +kernel
theorem dX6_better_72 : decode cX6_better 72 = .ok (.iaload, 1) := by decide +kernel
theorem dX6_better_73 : decode cX6_better 73 = .ok (.if_icmp .ge 90, 3) := by decide +kernel
theorem dX6_better_76 : decode cX6_better 76 = .ok (.aload_n 0, 1) := by decide +kernel
theorem dX6_better_77 : decode cX6_better 77 = .ok (.getfield 23, 3) := by decide +kernel
theorem dX6_better_80 : decode cX6_better 80 = .ok (.aload_n 0, 1) := by decide +kernel
theorem dX6_better_81 : decode cX6_better 81 = .ok (.getfield 26, 3) := by decide +kernel
theorem dX6_better_84 : decode cX6_better 84 = .ok (.invokestatic 95, 3) := by decide +kernel
theorem dX6_better_87 : decode cX6_better 87 = .ok (.aload_n 0, 1) := by decide +kernel
theorem dX6_better_88 : decode cX6_better 88 = .ok (.getfield 26, 3) := by decide +kernel
theorem dX6_better_91 : decode cX6_better 91 = .ok (.iload 6, 2) := by decide +kernel
theorem dX6_better_93 : decode cX6_better 93 = .ok (.iload 7, 2) := by decide +kernel
theorem dX6_better_95 : decode cX6_better 95 = .ok (.invokestatic 123, 3) := by decide +kernel
theorem dX6_better_98 : decode cX6_better 98 = .ok (.aload_n 0, 1) := by decide +kernel
theorem dX6_better_99 : decode cX6_better 99 = .ok (.aload_n 0, 1) := by decide +kernel
theorem dX6_better_100 : decode cX6_better 100 = .ok (.getfield 26, 3) := by decide +kernel
theorem dX6_better_103 : decode cX6_better 103 = .ok (.aload_n 0, 1) := by decide +kernel
theorem dX6_better_104 : decode cX6_better 104 = .ok (.getfield 26, 3) := by decide +kernel
theorem dX6_better_107 : decode cX6_better 107 = .ok (.invokestatic 180, 3) := by decide +kernel
theorem dX6_better_110 : decode cX6_better 110 = .ok (.iconst 1, 1) := by decide +kernel
theorem dX6_better_111 : decode cX6_better 111 = .ok (.invokevirtual 194, 3) := by decide +kernel
theorem dX6_better_114 : decode cX6_better 114 = .ok (.ifCond .eq 43, 3) := by decide +kernel
theorem dX6_better_117 : decode cX6_better 117 = .ok (.aload_n 0, 1) := by decide +kernel
theorem dX6_better_118 : decode cX6_better 118 = .ok (.invokevirtual 204, 3) := by decide +kernel
theorem dX6_better_121 : decode cX6_better 121 = .ok (.aload_n 0, 1) := by decide +kernel
theorem dX6_better_122 : decode cX6_better 122 = .ok (.getfield 170, 3) := by decide +kernel
theorem dX6_better_125 : decode cX6_better 125 = .ok (.lload_n 3, 1) := by decide +kernel
theorem dX6_better_126 : decode cX6_better 126 = .ok (.lmul, 1) := by decide +kernel
theorem dX6_better_127 : decode cX6_better 127 = .ok (.lload_n 1, 1) := by decide +kernel
theorem dX6_better_128 : decode cX6_better 128 = .ok (.aload_n 0, 1) := by decide +kernel
theorem dX6_better_129 : decode cX6_better 129 = .ok (.getfield 173, 3) := by decide +kernel
theorem dX6_better_132 : decode cX6_better 132 = .ok (.lmul, 1) := by decide +kernel
theorem dX6_better_133 : decode cX6_better 133 = .ok (.lcmp, 1) := by decide +kernel
theorem dX6_better_134 : decode cX6_better 134 = .ok (.ifCond .ge 23, 3) := by decide +kernel
theorem dX6_better_137 : decode cX6_better 137 = .ok (.bipush 10, 2) := by decide +kernel
theorem dX6_better_139 : decode cX6_better 139 = .ok (.iload 6, 2) := by decide +kernel
theorem dX6_better_141 : decode cX6_better 141 = .ok (.imul, 1) := by decide +kernel
theorem dX6_better_142 : decode cX6_better 142 = .ok (.iload 7, 2) := by decide +kernel
theorem dX6_better_144 : decode cX6_better 144 = .ok (.iadd, 1) := by decide +kernel
theorem dX6_better_145 : decode cX6_better 145 = .ok (.istore 5, 2) := by decide +kernel
theorem dX6_better_147 : decode cX6_better 147 = .ok (.aload_n 0, 1) := by decide +kernel
theorem dX6_better_148 : decode cX6_better 148 = .ok (.getfield 170, 3) := by decide +kernel
theorem dX6_better_151 : decode cX6_better 151 = .ok (.lstore_n 1, 1) := by decide +kernel
theorem dX6_better_152 : decode cX6_better 152 = .ok (.aload_n 0, 1) := by decide +kernel
theorem dX6_better_153 : decode cX6_better 153 = .ok (.getfield 173, 3) := by decide +kernel
theorem dX6_better_156 : decode cX6_better 156 = .ok (.lstore_n 3, 1) := by decide +kernel
theorem dX6_better_157 : decode cX6_better 157 = .ok (.iinc 7 1, 3) := by decide +kernel
theorem dX6_better_160 : decode cX6_better 160 = .ok (.goto (-95), 3) := by decide +kernel
theorem dX6_better_163 : decode cX6_better 163 = .ok (.iinc 6 1, 3) := by decide +kernel
theorem dX6_better_166 : decode cX6_better 166 = .ok (.goto (-118), 3) := by decide +kernel
theorem dX6_better_169 : decode cX6_better 169 = .ok (.iload 5, 2) := by decide +kernel
theorem dX6_better_171 : decode cX6_better 171 = .ok (.ireturn, 1) := by decide +kernel
theorem dX6_doubtfulOf_0 : decode cX6_doubtfulOf 0 = .ok (.bipush (-9), 2) := by decide +kernel
theorem dX6_doubtfulOf_2 : decode cX6_doubtfulOf 2 = .ok (.istore_n 3, 1) := by decide +kernel
theorem dX6_doubtfulOf_3 : decode cX6_doubtfulOf 3 = .ok (.lconst 0, 1) := by decide +kernel
theorem dX6_doubtfulOf_4 : decode cX6_doubtfulOf 4 = .ok (.lstore 4, 2) := by decide +kernel
theorem dX6_doubtfulOf_6 : decode cX6_doubtfulOf 6 = .ok (.lconst 1, 1) := by decide +kernel
theorem dX6_doubtfulOf_7 : decode cX6_doubtfulOf 7 = .ok (.lstore 6, 2) := by decide +kernel
theorem dX6_doubtfulOf_9 : decode cX6_doubtfulOf 9 = .ok (.iconst 0, 1) := by decide +kernel
theorem dX6_doubtfulOf_10 : decode cX6_doubtfulOf 10 = .ok (.istore 8, 2) := by decide +kernel
theorem dX6_doubtfulOf_12 : decode cX6_doubtfulOf 12 = .ok (.iload 8, 2) := by decide +kernel
theorem dX6_doubtfulOf_14 : decode cX6_doubtfulOf 14 = .ok (.aload_n 1, 1) := by decide +kernel
theorem dX6_doubtfulOf_15 : decode cX6_doubtfulOf 15 = .ok (.iconst 1, 1) := by decide +kernel
theorem dX6_doubtfulOf_16 : decode cX6_doubtfulOf 16 = .ok (.iaload, 1) := by decide +kernel
theorem dX6_doubtfulOf_17 : decode cX6_doubtfulOf 17 = .ok (.if_icmp .ge 72, 3) := by decide +kernel
theorem dX6_doubtfulOf_20 : decode cX6_doubtfulOf 20 = .ok (.aload_n 0, 1) := by decide +kernel
theorem dX6_doubtfulOf_21 : decode cX6_doubtfulOf 21 = .ok (.aload_n 1, 1) := by decide +kernel
theorem dX6_doubtfulOf_22 : decode cX6_doubtfulOf 22 = .ok (.aload_n 1, 1) := by decide +kernel
theorem dX6_doubtfulOf_23 : decode cX6_doubtfulOf 23 = .ok (.invokestatic 180, 3) := by decide +kernel
theorem dX6_doubtfulOf_26 : decode cX6_doubtfulOf 26 = .ok (.iconst 1, 1) := by decide +kernel
theorem dX6_doubtfulOf_27 : decode cX6_doubtfulOf 27 = .ok (.iload 8, 2) := by decide +kernel
theorem dX6_doubtfulOf_29 : decode cX6_doubtfulOf 29 = .ok (.ishl, 1) := by decide +kernel
theorem dX6_doubtfulOf_30 : decode cX6_doubtfulOf 30 = .ok (.iconst (-1), 1) := by decide +kernel
theorem dX6_doubtfulOf_31 : decode cX6_doubtfulOf 31 = .ok (.ixor, 1) := by decide +kernel
theorem dX6_doubtfulOf_32 : decode cX6_doubtfulOf 32 = .ok (.iand, 1) := by decide +kernel
theorem dX6_doubtfulOf_33 : decode cX6_doubtfulOf 33 = .ok (.iload_n 2, 1) := by decide +kernel
theorem dX6_doubtfulOf_34 : decode cX6_doubtfulOf 34 = .ok (.invokevirtual 194, 3) := by decide +kernel
theorem dX6_doubtfulOf_37 : decode cX6_doubtfulOf 37 = .ok (.ifCond .eq 46, 3) := by decide +kernel
theorem dX6_doubtfulOf_40 : decode cX6_doubtfulOf 40 = .ok (.aload_n 0, 1) := by decide +kernel
theorem dX6_doubtfulOf_41 : decode cX6_doubtfulOf 41 = .ok (.invokevirtual 207, 3) := by decide +kernel
theorem dX6_doubtfulOf_44 : decode cX6_doubtfulOf 44 = .ok (.iload_n 3, 1) := by decide +kernel
theorem dX6_doubtfulOf_45 : decode cX6_doubtfulOf 45 = .ok (.bipush (-9), 2) := by decide +kernel
theorem dX6_doubtfulOf_47 : decode cX6_doubtfulOf 47 = .ok (.if_icmp .eq 21, 3) := by decide +kernel
theorem dX6_doubtfulOf_50 : decode cX6_doubtfulOf 50 = .ok (.aload_n 0, 1) := by decide +kernel
theorem dX6_doubtfulOf_51 : decode cX6_doubtfulOf 51 = .ok (.getfield 170, 3) := by decide +kernel
theorem dX6_doubtfulOf_54 : decode cX6_doubtfulOf 54 = .ok (.lload 6, 2) := by decide +kernel
theorem dX6_doubtfulOf_56 : decode cX6_doubtfulOf 56 = .ok (.lmul, 1) := by decide +kernel
theorem dX6_doubtfulOf_57 : decode cX6_doubtfulOf 57 = .ok (.lload 4, 2) := by decide +kernel
theorem dX6_doubtfulOf_59 : decode cX6_doubtfulOf 59 = .ok (.aload_n 0, 1) := by decide +kernel
theorem dX6_doubtfulOf_60 : decode cX6_doubtfulOf 60 = .ok (.getfield 173, 3) := by decide +kernel
theorem dX6_doubtfulOf_63 : decode cX6_doubtfulOf 63 = .ok (.lmul, 1) := by decide +kernel
theorem dX6_doubtfulOf_64 : decode cX6_doubtfulOf 64 = .ok (.lcmp, 1) := by decide +kernel
theorem dX6_doubtfulOf_65 : decode cX6_doubtfulOf 65 = .ok (.ifCond .ge 18, 3) := by decide +kernel
theorem dX6_doubtfulOf_68 : decode cX6_doubtfulOf 68 = .ok (.iload 8, 2) := by decide +kernel
theorem dX6_doubtfulOf_70 : decode cX6_doubtfulOf 70 = .ok (.istore_n 3, 1) := by decide +kernel
theorem dX6_doubtfulOf_71 : decode cX6_doubtfulOf 71 = .ok (.aload_n 0, 1) := by decide +kernel
theorem dX6_doubtfulOf_72 : decode cX6_doubtfulOf 72 = .ok (.getfield 170, 3) := by decide +kernel
theorem dX6_doubtfulOf_75 : decode cX6_doubtfulOf 75 = .ok (.lstore 4, 2) := by decide +kernel
theorem dX6_doubtfulOf_77 : decode cX6_doubtfulOf 77 = .ok (.aload_n 0, 1) := by decide +kernel
theorem dX6_doubtfulOf_78 : decode cX6_doubtfulOf 78 = .ok (.getfield 173, 3) := by decide +kernel
theorem dX6_doubtfulOf_81 : decode cX6_doubtfulOf 81 = .ok (.lstore 6, 2) := by decide +kernel
theorem dX6_doubtfulOf_83 : decode cX6_doubtfulOf 83 = .ok (.iinc 8 1, 3) := by decide +kernel
theorem dX6_doubtfulOf_86 : decode cX6_doubtfulOf 86 = .ok (.goto (-74), 3) := by decide +kernel
theorem dX6_doubtfulOf_89 : decode cX6_doubtfulOf 89 = .ok (.iload_n 3, 1) := by decide +kernel
theorem dX6_doubtfulOf_90 : decode cX6_doubtfulOf 90 = .ok (.ireturn, 1) := by decide +kernel
theorem dX6_doubtful_0 : decode cX6_doubtful 0 = .ok (.aload_n 0, 1) := by decide +kernel
theorem dX6_doubtful_1 : decode cX6_doubtful 1 = .ok (.iconst 0, 1) := by decide +kernel
theorem dX6_doubtful_2 : decode cX6_doubtful 2 = .ok (.putfield 1, 3) := by decide +kernel
theorem dX6_doubtful_5 : decode cX6_doubtful 5 = .ok (.aload_n 0, 1) := by decide +kernel
theorem dX6_doubtful_6 : decode cX6_doubtful 6 = .ok (.aload_n 0, 1) := by decide +kernel
theorem dX6_doubtful_7 : decode cX6_doubtful 7 = .ok (.getfield 23, 3) := by decide +kernel
theorem dX6_doubtful_10 : decode cX6_doubtful 10 = .ok (.iload_n 1, 1) := by decide +kernel
theorem dX6_doubtful_11 : decode cX6_doubtful 11 = .ok (.invokevirtual 210, 3) := by decide +kernel
theorem dX6_doubtful_14 : decode cX6_doubtful 14 = .ok (.ireturn, 1) := by decide +kernel
theorem dX6_wrong_0 : decode cX6_wrong 0 = .ok (.aload_n 0, 1) := by decide +kernel
theorem dX6_wrong_1 : decode cX6_wrong 1 = .ok (.iconst 0, 1) := by decide +kernel
theorem dX6_wrong_2 : decode cX6_wrong 2 = .ok (.putfield 1, 3) := by decide +kernel
theorem dX6_wrong_5 : decode cX6_wrong 5 = .ok (.iconst 0, 1) := by decide +kernel
theorem dX6_wrong_6 : decode cX6_wrong 6 = .ok (.istore_n 2, 1) := by decide +kernel
theorem dX6_wrong_7 : decode cX6_wrong 7 = .ok (.iconst 0, 1) := by decide +kernel
theorem dX6_wrong_8 : decode cX6_wrong 8 = .ok (.istore_n 3, 1) := by decide +kernel
theorem dX6_wrong_9 : decode cX6_wrong 9 = .ok (.iload_n 3, 1) := by decide +kernel
theorem dX6_wrong_10 : decode cX6_wrong 10 = .ok (.aload_n 0, 1) := by decide +kernel
theorem dX6_wrong_11 : decode cX6_wrong 11 = .ok (.getfield 23, 3) := by decide +kernel
theorem dX6_wrong_14 : decode cX6_wrong 14 = .ok (.iconst 1, 1) := by decide +kernel
theorem dX6_wrong_15 : decode cX6_wrong 15 = .ok (.iaload, 1) := by decide +kernel
theorem dX6_wrong_16 : decode cX6_wrong 16 = .ok (.if_icmp .ge 57, 3) := by decide +kernel
theorem dX6_wrong_19 : decode cX6_wrong 19 = .ok (.aload_n 0, 1) := by decide +kernel
theorem dX6_wrong_20 : decode cX6_wrong 20 = .ok (.aload_n 0, 1) := by decide +kernel
theorem dX6_wrong_21 : decode cX6_wrong 21 = .ok (.getfield 23, 3) := by decide +kernel
theorem dX6_wrong_24 : decode cX6_wrong 24 = .ok (.aload_n 0, 1) := by decide +kernel
theorem dX6_wrong_25 : decode cX6_wrong 25 = .ok (.getfield 23, 3) := by decide +kernel
theorem dX6_wrong_28 : decode cX6_wrong 28 = .ok (.invokestatic 180, 3) := by decide +kernel
theorem dX6_wrong_31 : decode cX6_wrong 31 = .ok (.iconst 1, 1) := by decide +kernel
theorem dX6_wrong_32 : decode cX6_wrong 32 = .ok (.iload_n 3, 1) := by decide +kernel
theorem dX6_wrong_33 : decode cX6_wrong 33 = .ok (.ishl, 1) := by decide +kernel
theorem dX6_wrong_34 : decode cX6_wrong 34 = .ok (.iconst (-1), 1) := by decide +kernel
theorem dX6_wrong_35 : decode cX6_wrong 35 = .ok (.ixor, 1) := by decide +kernel
theorem dX6_wrong_36 : decode cX6_wrong 36 = .ok (.iand, 1) := by decide +kernel
theorem dX6_wrong_37 : decode cX6_wrong 37 = .ok (.iload_n 1, 1) := by decide +kernel
theorem dX6_wrong_38 : decode cX6_wrong 38 = .ok (.invokevirtual 194, 3) := by decide +kernel
theorem dX6_wrong_41 : decode cX6_wrong 41 = .ok (.ifCond .eq 26, 3) := by decide +kernel
theorem dX6_wrong_44 : decode cX6_wrong 44 = .ok (.aload_n 0, 1) := by decide +kernel
theorem dX6_wrong_45 : decode cX6_wrong 45 = .ok (.invokevirtual 207, 3) := by decide +kernel
theorem dX6_wrong_48 : decode cX6_wrong 48 = .ok (.iload_n 2, 1) := by decide +kernel
theorem dX6_wrong_49 : decode cX6_wrong 49 = .ok (.aload_n 0, 1) := by decide +kernel
theorem dX6_wrong_50 : decode cX6_wrong 50 = .ok (.getfield 170, 3) := by decide +kernel
theorem dX6_wrong_53 : decode cX6_wrong 53 = .ok (.lconst 0, 1) := by decide +kernel
theorem dX6_wrong_54 : decode cX6_wrong 54 = .ok (.lcmp, 1) := by decide +kernel
theorem dX6_wrong_55 : decode cX6_wrong 55 = .ok (.ifCond .ne 9, 3) := by decide +kernel
theorem dX6_wrong_58 : decode cX6_wrong 58 = .ok (.iconst 1, 1) := by decide +kernel
theorem dX6_wrong_59 : decode cX6_wrong 59 = .ok (.iload_n 3, 1) := by decide +kernel
theorem dX6_wrong_60 : decode cX6_wrong 60 = .ok (.ishl, 1) := by decide +kernel
theorem dX6_wrong_61 : decode cX6_wrong 61 = .ok (.goto 4, 3) := by decide +kernel
theorem dX6_wrong_64 : decode cX6_wrong 64 = .ok (.iconst 0, 1) := by decide +kernel
theorem dX6_wrong_65 : decode cX6_wrong 65 = .ok (.ior, 1) := by decide +kernel
theorem dX6_wrong_66 : decode cX6_wrong 66 = .ok (.istore_n 2, 1) := by decide +kernel
theorem dX6_wrong_67 : decode cX6_wrong 67 = .ok (.iinc 3 1, 3) := by decide +kernel
theorem dX6_wrong_70 : decode cX6_wrong 70 = .ok (.goto (-61), 3) := by decide +kernel
theorem dX6_wrong_73 : decode cX6_wrong 73 = .ok (.iload_n 2, 1) := by decide +kernel
theorem dX6_wrong_74 : decode cX6_wrong 74 = .ok (.ireturn, 1) := by decide +kernel
theorem dX6_isWorth_0 : decode cX6_isWorth 0 = .ok (.aload_n 0, 1) := by decide +kernel
theorem dX6_isWorth_1 : decode cX6_isWorth 1 = .ok (.iload_n 1, 1) := by decide +kernel
theorem dX6_isWorth_2 : decode cX6_isWorth 2 = .ok (.iconst 0, 1) := by decide +kernel
theorem dX6_isWorth_3 : decode cX6_isWorth 3 = .ok (.invokevirtual 188, 3) := by decide +kernel
theorem dX6_isWorth_6 : decode cX6_isWorth 6 = .ok (.ifCond .ne 22, 3) := by decide +kernel
theorem dX6_isWorth_9 : decode cX6_isWorth 9 = .ok (.aload_n 0, 1) := by decide +kernel
theorem dX6_isWorth_10 : decode cX6_isWorth 10 = .ok (.aload_n 0, 1) := by decide +kernel
theorem dX6_isWorth_11 : decode cX6_isWorth 11 = .ok (.getfield 26, 3) := by decide +kernel
theorem dX6_isWorth_14 : decode cX6_isWorth 14 = .ok (.aload_n 0, 1) := by decide +kernel
theorem dX6_isWorth_15 : decode cX6_isWorth 15 = .ok (.getfield 26, 3) := by decide +kernel
theorem dX6_isWorth_18 : decode cX6_isWorth 18 = .ok (.invokestatic 180, 3) := by decide +kernel
theorem dX6_isWorth_21 : decode cX6_isWorth 21 = .ok (.iconst 0, 1) := by decide +kernel
theorem dX6_isWorth_22 : decode cX6_isWorth 22 = .ok (.invokevirtual 194, 3) := by decide +kernel
theorem dX6_isWorth_25 : decode cX6_isWorth 25 = .ok (.ifCond .ne 5, 3) := by decide +kernel
theorem dX6_isWorth_28 : decode cX6_isWorth 28 = .ok (.iconst 0, 1) := by decide +kernel
theorem dX6_isWorth_29 : decode cX6_isWorth 29 = .ok (.ireturn, 1) := by decide +kernel
theorem dX6_isWorth_30 : decode cX6_isWorth 30 = .ok (.aload_n 0, 1) := by decide +kernel
theorem dX6_isWorth_31 : decode cX6_isWorth 31 = .ok (.aload_n 0, 1) := by decide +kernel
theorem dX6_isWorth_32 : decode cX6_isWorth 32 = .ok (.aload_n 0, 1) := by decide +kernel
theorem dX6_isWorth_33 : decode cX6_isWorth 33 = .ok (.invokevirtual 155, 3) := by decide +kernel
theorem dX6_isWorth_36 : decode cX6_isWorth 36 = .ok (.iload_n 1, 1) := by decide +kernel
theorem dX6_isWorth_37 : decode cX6_isWorth 37 = .ok (.invokevirtual 162, 3) := by decide +kernel
theorem dX6_isWorth_40 : decode cX6_isWorth 40 = .ok (.aload_n 0, 1) := by decide +kernel
theorem dX6_isWorth_41 : decode cX6_isWorth 41 = .ok (.aload_n 0, 1) := by decide +kernel
theorem dX6_isWorth_42 : decode cX6_isWorth 42 = .ok (.invokevirtual 155, 3) := by decide +kernel
theorem dX6_isWorth_45 : decode cX6_isWorth 45 = .ok (.bipush (-9), 2) := by decide +kernel
theorem dX6_isWorth_47 : decode cX6_isWorth 47 = .ok (.invokevirtual 162, 3) := by decide +kernel
theorem dX6_isWorth_50 : decode cX6_isWorth 50 = .ok (.invokevirtual 176, 3) := by decide +kernel
theorem dX6_isWorth_53 : decode cX6_isWorth 53 = .ok (.aload_n 0, 1) := by decide +kernel
theorem dX6_isWorth_54 : decode cX6_isWorth 54 = .ok (.getfield 173, 3) := by decide +kernel
theorem dX6_isWorth_57 : decode cX6_isWorth 57 = .ok (.lconst 1, 1) := by decide +kernel
theorem dX6_isWorth_58 : decode cX6_isWorth 58 = .ok (.lcmp, 1) := by decide +kernel
theorem dX6_isWorth_59 : decode cX6_isWorth 59 = .ok (.ifCond .ne 17, 3) := by decide +kernel
theorem dX6_isWorth_62 : decode cX6_isWorth 62 = .ok (.aload_n 0, 1) := by decide +kernel
theorem dX6_isWorth_63 : decode cX6_isWorth 63 = .ok (.getfield 170, 3) := by decide +kernel
theorem dX6_isWorth_66 : decode cX6_isWorth 66 = .ok (.iload_n 2, 1) := by decide +kernel
theorem dX6_isWorth_67 : decode cX6_isWorth 67 = .ok (.i2l, 1) := by decide +kernel
theorem dX6_isWorth_68 : decode cX6_isWorth 68 = .ok (.lcmp, 1) := by decide +kernel
theorem dX6_isWorth_69 : decode cX6_isWorth 69 = .ok (.ifCond .ne 7, 3) := by decide +kernel
theorem dX6_isWorth_72 : decode cX6_isWorth 72 = .ok (.iconst 1, 1) := by decide +kernel
theorem dX6_isWorth_73 : decode cX6_isWorth 73 = .ok (.goto 4, 3) := by decide +kernel
theorem dX6_isWorth_76 : decode cX6_isWorth 76 = .ok (.iconst 0, 1) := by decide +kernel
theorem dX6_isWorth_77 : decode cX6_isWorth 77 = .ok (.ireturn, 1) := by decide +kernel
theorem dX6_does_0 : decode cX6_does 0 = .ok (.aload_n 0, 1) := by decide +kernel
theorem dX6_does_1 : decode cX6_does 1 = .ok (.getfield 26, 3) := by decide +kernel
theorem dX6_does_4 : decode cX6_does 4 = .ok (.iconst 1, 1) := by decide +kernel
theorem dX6_does_5 : decode cX6_does 5 = .ok (.iaload, 1) := by decide +kernel
theorem dX6_does_6 : decode cX6_does 6 = .ok (.istore 4, 2) := by decide +kernel
theorem dX6_does_8 : decode cX6_does 8 = .ok (.iload_n 1, 1) := by decide +kernel
theorem dX6_does_9 : decode cX6_does 9 = .ok (.tableswitch 188 1 6 #[39, 85, 107, 114, 144, 173], 39) := by decide +kernel
theorem dX6_does_48 : decode cX6_does 48 = .ok (.iload_n 2, 1) := by decide +kernel
theorem dX6_does_49 : decode cX6_does 49 = .ok (.iload 4, 2) := by decide +kernel
theorem dX6_does_51 : decode cX6_does 51 = .ok (.if_icmp .ge 27, 3) := by decide +kernel
theorem dX6_does_54 : decode cX6_does 54 = .ok (.iload_n 3, 1) := by decide +kernel
theorem dX6_does_55 : decode cX6_does 55 = .ok (.bipush 10, 2) := by decide +kernel
theorem dX6_does_57 : decode cX6_does 57 = .ok (.idiv, 1) := by decide +kernel
theorem dX6_does_58 : decode cX6_does 58 = .ok (.iload 4, 2) := by decide +kernel
theorem dX6_does_60 : decode cX6_does 60 = .ok (.if_icmp .ge 18, 3) := by decide +kernel
theorem dX6_does_63 : decode cX6_does 63 = .ok (.iload_n 2, 1) := by decide +kernel
theorem dX6_does_64 : decode cX6_does 64 = .ok (.iload_n 3, 1) := by decide +kernel
theorem dX6_does_65 : decode cX6_does 65 = .ok (.bipush 10, 2) := by decide +kernel
theorem dX6_does_67 : decode cX6_does 67 = .ok (.idiv, 1) := by decide +kernel
theorem dX6_does_68 : decode cX6_does 68 = .ok (.if_icmp .eq 10, 3) := by decide +kernel
theorem dX6_does_71 : decode cX6_does 71 = .ok (.iload_n 3, 1) := by decide +kernel
theorem dX6_does_72 : decode cX6_does 72 = .ok (.bipush 10, 2) := by decide +kernel
theorem dX6_does_74 : decode cX6_does 74 = .ok (.irem, 1) := by decide +kernel
theorem dX6_does_75 : decode cX6_does 75 = .ok (.ifCond .eq 5, 3) := by decide +kernel
theorem dX6_does_78 : decode cX6_does 78 = .ok (.iconst 0, 1) := by decide +kernel
theorem dX6_does_79 : decode cX6_does 79 = .ok (.ireturn, 1) := by decide +kernel
theorem dX6_does_80 : decode cX6_does 80 = .ok (.aload_n 0, 1) := by decide +kernel
theorem dX6_does_81 : decode cX6_does 81 = .ok (.getfield 26, 3) := by decide +kernel
theorem dX6_does_84 : decode cX6_does 84 = .ok (.iload_n 2, 1) := by decide +kernel
theorem dX6_does_85 : decode cX6_does 85 = .ok (.iload_n 3, 1) := by decide +kernel
theorem dX6_does_86 : decode cX6_does 86 = .ok (.bipush 10, 2) := by decide +kernel
theorem dX6_does_88 : decode cX6_does 88 = .ok (.idiv, 1) := by decide +kernel
theorem dX6_does_89 : decode cX6_does 89 = .ok (.invokestatic 123, 3) := by decide +kernel
theorem dX6_does_92 : decode cX6_does 92 = .ok (.iconst 1, 1) := by decide +kernel
theorem dX6_does_93 : decode cX6_does 93 = .ok (.ireturn, 1) := by decide +kernel
theorem dX6_does_94 : decode cX6_does 94 = .ok (.iload_n 2, 1) := by decide +kernel
theorem dX6_does_95 : decode cX6_does 95 = .ok (.iload 4, 2) := by decide +kernel
theorem dX6_does_97 : decode cX6_does 97 = .ok (.if_icmp .ge 7, 3) := by decide +kernel
theorem dX6_does_100 : decode cX6_does 100 = .ok (.iload_n 3, 1) := by decide +kernel
theorem dX6_does_101 : decode cX6_does 101 = .ok (.ifCond .eq 5, 3) := by decide +kernel
theorem dX6_does_104 : decode cX6_does 104 = .ok (.iconst 0, 1) := by decide +kernel
theorem dX6_does_105 : decode cX6_does 105 = .ok (.ireturn, 1) := by decide +kernel
theorem dX6_does_106 : decode cX6_does 106 = .ok (.aload_n 0, 1) := by decide +kernel
theorem dX6_does_107 : decode cX6_does 107 = .ok (.getfield 26, 3) := by decide +kernel
theorem dX6_does_110 : decode cX6_does 110 = .ok (.iload_n 2, 1) := by decide +kernel
theorem dX6_does_111 : decode cX6_does 111 = .ok (.invokestatic 119, 3) := by decide +kernel
theorem dX6_does_114 : decode cX6_does 114 = .ok (.iconst 1, 1) := by decide +kernel
theorem dX6_does_115 : decode cX6_does 115 = .ok (.ireturn, 1) := by decide +kernel
theorem dX6_does_116 : decode cX6_does 116 = .ok (.aload_n 0, 1) := by decide +kernel
theorem dX6_does_117 : decode cX6_does 117 = .ok (.iload_n 2, 1) := by decide +kernel
theorem dX6_does_118 : decode cX6_does 118 = .ok (.iload_n 3, 1) := by decide +kernel
theorem dX6_does_119 : decode cX6_does 119 = .ok (.invokevirtual 214, 3) := by decide +kernel
theorem dX6_does_122 : decode cX6_does 122 = .ok (.ireturn, 1) := by decide +kernel
theorem dX6_does_123 : decode cX6_does 123 = .ok (.iload_n 3, 1) := by decide +kernel
theorem dX6_does_124 : decode cX6_does 124 = .ok (.ifCond .ne 27, 3) := by decide +kernel
theorem dX6_does_127 : decode cX6_does 127 = .ok (.aload_n 0, 1) := by decide +kernel
theorem dX6_does_128 : decode cX6_does 128 = .ok (.aload_n 0, 1) := by decide +kernel
theorem dX6_does_129 : decode cX6_does 129 = .ok (.getfield 26, 3) := by decide +kernel
theorem dX6_does_132 : decode cX6_does 132 = .ok (.aload_n 0, 1) := by decide +kernel
theorem dX6_does_133 : decode cX6_does 133 = .ok (.getfield 26, 3) := by decide +kernel
theorem dX6_does_136 : decode cX6_does 136 = .ok (.invokestatic 180, 3) := by decide +kernel
theorem dX6_does_139 : decode cX6_does 139 = .ok (.iconst 0, 1) := by decide +kernel
theorem dX6_does_140 : decode cX6_does 140 = .ok (.invokevirtual 184, 3) := by decide +kernel
theorem dX6_does_143 : decode cX6_does 143 = .ok (.iload_n 2, 1) := by decide +kernel
theorem dX6_does_144 : decode cX6_does 144 = .ok (.if_icmp .ne 7, 3) := by decide +kernel
theorem dX6_does_147 : decode cX6_does 147 = .ok (.iconst 1, 1) := by decide +kernel
theorem dX6_does_148 : decode cX6_does 148 = .ok (.goto 4, 3) := by decide +kernel
theorem dX6_does_151 : decode cX6_does 151 = .ok (.iconst 0, 1) := by decide +kernel
theorem dX6_does_152 : decode cX6_does 152 = .ok (.ireturn, 1) := by decide +kernel
theorem dX6_does_153 : decode cX6_does 153 = .ok (.iload_n 2, 1) := by decide +kernel
theorem dX6_does_154 : decode cX6_does 154 = .ok (.iload 4, 2) := by decide +kernel
theorem dX6_does_156 : decode cX6_does 156 = .ok (.if_icmp .ge 24, 3) := by decide +kernel
theorem dX6_does_159 : decode cX6_does 159 = .ok (.iload_n 3, 1) := by decide +kernel
theorem dX6_does_160 : decode cX6_does 160 = .ok (.ifCond .ne 20, 3) := by decide +kernel
theorem dX6_does_163 : decode cX6_does 163 = .ok (.aload_n 0, 1) := by decide +kernel
theorem dX6_does_164 : decode cX6_does 164 = .ok (.aload_n 0, 1) := by decide +kernel
theorem dX6_does_165 : decode cX6_does 165 = .ok (.getfield 26, 3) := by decide +kernel
theorem dX6_does_168 : decode cX6_does 168 = .ok (.iconst 0, 1) := by decide +kernel
theorem dX6_does_169 : decode cX6_does 169 = .ok (.invokevirtual 210, 3) := by decide +kernel
theorem dX6_does_172 : decode cX6_does 172 = .ok (.iload_n 2, 1) := by decide +kernel
theorem dX6_does_173 : decode cX6_does 173 = .ok (.if_icmp .ne 7, 3) := by decide +kernel
theorem dX6_does_176 : decode cX6_does 176 = .ok (.iconst 1, 1) := by decide +kernel
theorem dX6_does_177 : decode cX6_does 177 = .ok (.goto 4, 3) := by decide +kernel
theorem dX6_does_180 : decode cX6_does 180 = .ok (.iconst 0, 1) := by decide +kernel
theorem dX6_does_181 : decode cX6_does 181 = .ok (.ireturn, 1) := by decide +kernel
theorem dX6_does_182 : decode cX6_does 182 = .ok (.iload_n 2, 1) := by decide +kernel
theorem dX6_does_183 : decode cX6_does 183 = .ok (.ifCond .eq 5, 3) := by decide +kernel
theorem dX6_does_186 : decode cX6_does 186 = .ok (.iconst 0, 1) := by decide +kernel
theorem dX6_does_187 : decode cX6_does 187 = .ok (.ireturn, 1) := by decide +kernel
theorem dX6_does_188 : decode cX6_does 188 = .ok (.aload_n 0, 1) := by decide +kernel
theorem dX6_does_189 : decode cX6_does 189 = .ok (.getfield 26, 3) := by decide +kernel
theorem dX6_does_192 : decode cX6_does 192 = .ok (.iconst 0, 1) := by decide +kernel
theorem dX6_does_193 : decode cX6_does 193 = .ok (.iload_n 3, 1) := by decide +kernel
theorem dX6_does_194 : decode cX6_does 194 = .ok (.iastore, 1) := by decide +kernel
theorem dX6_does_195 : decode cX6_does 195 = .ok (.iconst 1, 1) := by decide +kernel
theorem dX6_does_196 : decode cX6_does 196 = .ok (.ireturn, 1) := by decide +kernel
theorem dX6_does_197 : decode cX6_does 197 = .ok (.iconst 0, 1) := by decide +kernel
theorem dX6_does_198 : decode cX6_does 198 = .ok (.ireturn, 1) := by decide +kernel
theorem dX6_longPower_0 : decode cX6_longPower 0 = .ok (.lconst 1, 1) := by decide +kernel
theorem dX6_longPower_1 : decode cX6_longPower 1 = .ok (.lstore_n 3, 1) := by decide +kernel
theorem dX6_longPower_2 : decode cX6_longPower 2 = .ok (.iconst 0, 1) := by decide +kernel
theorem dX6_longPower_3 : decode cX6_longPower 3 = .ok (.istore 5, 2) := by decide +kernel
theorem dX6_longPower_5 : decode cX6_longPower 5 = .ok (.iload 5, 2) := by decide +kernel
theorem dX6_longPower_7 : decode cX6_longPower 7 = .ok (.iload_n 2, 1) := by decide +kernel
theorem dX6_longPower_8 : decode cX6_longPower 8 = .ok (.if_icmp .ge 13, 3) := by decide +kernel
theorem dX6_longPower_11 : decode cX6_longPower 11 = .ok (.lload_n 3, 1) := by decide +kernel
theorem dX6_longPower_12 : decode cX6_longPower 12 = .ok (.lload_n 0, 1) := by decide +kernel
theorem dX6_longPower_13 : decode cX6_longPower 13 = .ok (.lmul, 1) := by decide +kernel
theorem dX6_longPower_14 : decode cX6_longPower 14 = .ok (.lstore_n 3, 1) := by decide +kernel
theorem dX6_longPower_15 : decode cX6_longPower 15 = .ok (.iinc 5 1, 3) := by decide +kernel
theorem dX6_longPower_18 : decode cX6_longPower 18 = .ok (.goto (-13), 3) := by decide +kernel
theorem dX6_longPower_21 : decode cX6_longPower 21 = .ok (.lload_n 3, 1) := by decide +kernel
theorem dX6_longPower_22 : decode cX6_longPower 22 = .ok (.lreturn, 1) := by decide +kernel
theorem dX6_judge_0 : decode cX6_judge 0 = .ok (.aload_n 0, 1) := by decide +kernel
theorem dX6_judge_1 : decode cX6_judge 1 = .ok (.iconst 0, 1) := by decide +kernel
theorem dX6_judge_2 : decode cX6_judge 2 = .ok (.putfield 1, 3) := by decide +kernel
theorem dX6_judge_5 : decode cX6_judge 5 = .ok (.iload_n 1, 1) := by decide +kernel
theorem dX6_judge_6 : decode cX6_judge 6 = .ok (.i2l, 1) := by decide +kernel
theorem dX6_judge_7 : decode cX6_judge 7 = .ok (.lconst 1, 1) := by decide +kernel
theorem dX6_judge_8 : decode cX6_judge 8 = .ok (.ldc2_w 217, 3) := by decide +kernel
theorem dX6_judge_11 : decode cX6_judge 11 = .ok (.invokestatic 61, 3) := by decide +kernel
theorem dX6_judge_14 : decode cX6_judge 14 = .ok (.ifCond .eq 20, 3) := by decide +kernel
theorem dX6_judge_17 : decode cX6_judge 17 = .ok (.lload_n 2, 1) := by decide +kernel
theorem dX6_judge_18 : decode cX6_judge 18 = .ok (.lconst 0, 1) := by decide +kernel
theorem dX6_judge_19 : decode cX6_judge 19 = .ok (.ldc2_w 219, 3) := by decide +kernel
theorem dX6_judge_22 : decode cX6_judge 22 = .ok (.iload_n 1, 1) := by decide +kernel
theorem dX6_judge_23 : decode cX6_judge 23 = .ok (.invokestatic 221, 3) := by decide +kernel
theorem dX6_judge_26 : decode cX6_judge 26 = .ok (.lconst 1, 1) := by decide +kernel
theorem dX6_judge_27 : decode cX6_judge 27 = .ok (.lsub, 1) := by decide +kernel
theorem dX6_judge_28 : decode cX6_judge 28 = .ok (.invokestatic 61, 3) := by decide +kernel
theorem dX6_judge_31 : decode cX6_judge 31 = .ok (.ifCond .ne 6, 3) := by decide +kernel
theorem dX6_judge_34 : decode cX6_judge 34 = .ok (.bipush (-2), 2) := by decide +kernel
theorem dX6_judge_36 : decode cX6_judge 36 = .ok (.ireturn, 1) := by decide +kernel
theorem dX6_judge_37 : decode cX6_judge 37 = .ok (.aload_n 0, 1) := by decide +kernel
theorem dX6_judge_38 : decode cX6_judge 38 = .ok (.getfield 23, 3) := by decide +kernel
theorem dX6_judge_41 : decode cX6_judge 41 = .ok (.aload_n 0, 1) := by decide +kernel
theorem dX6_judge_42 : decode cX6_judge 42 = .ok (.getfield 26, 3) := by decide +kernel
theorem dX6_judge_45 : decode cX6_judge 45 = .ok (.invokestatic 95, 3) := by decide +kernel
theorem dX6_judge_48 : decode cX6_judge 48 = .ok (.iconst 0, 1) := by decide +kernel
theorem dX6_judge_49 : decode cX6_judge 49 = .ok (.istore 4, 2) := by decide +kernel
theorem dX6_judge_51 : decode cX6_judge 51 = .ok (.iload 4, 2) := by decide +kernel
theorem dX6_judge_53 : decode cX6_judge 53 = .ok (.iload_n 1, 1) := by decide +kernel
theorem dX6_judge_54 : decode cX6_judge 54 = .ok (.if_icmp .ge 59, 3) := by decide +kernel
theorem dX6_judge_57 : decode cX6_judge 57 = .ok (.lload_n 2, 1) := by decide +kernel
theorem dX6_judge_58 : decode cX6_judge 58 = .ok (.ldc2_w 219, 3) := by decide +kernel
theorem dX6_judge_61 : decode cX6_judge 61 = .ok (.iload_n 1, 1) := by decide +kernel
theorem dX6_judge_62 : decode cX6_judge 62 = .ok (.iconst 1, 1) := by decide +kernel
theorem dX6_judge_63 : decode cX6_judge 63 = .ok (.isub, 1) := by decide +kernel
theorem dX6_judge_64 : decode cX6_judge 64 = .ok (.iload 4, 2) := by decide +kernel
theorem dX6_judge_66 : decode cX6_judge 66 = .ok (.isub, 1) := by decide +kernel
theorem dX6_judge_67 : decode cX6_judge 67 = .ok (.invokestatic 221, 3) := by decide +kernel
theorem dX6_judge_70 : decode cX6_judge 70 = .ok (.ldiv, 1) := by decide +kernel
theorem dX6_judge_71 : decode cX6_judge 71 = .ok (.ldc2_w 219, 3) := by decide +kernel
theorem dX6_judge_74 : decode cX6_judge 74 = .ok (.lrem, 1) := by decide +kernel
theorem dX6_judge_75 : decode cX6_judge 75 = .ok (.l2i, 1) := by decide +kernel
theorem dX6_judge_76 : decode cX6_judge 76 = .ok (.istore 5, 2) := by decide +kernel
theorem dX6_judge_78 : decode cX6_judge 78 = .ok (.aload_n 0, 1) := by decide +kernel
theorem dX6_judge_79 : decode cX6_judge 79 = .ok (.iload 5, 2) := by decide +kernel
theorem dX6_judge_81 : decode cX6_judge 81 = .ok (.sipush 1000, 3) := by decide +kernel
theorem dX6_judge_84 : decode cX6_judge 84 = .ok (.idiv, 1) := by decide +kernel
theorem dX6_judge_85 : decode cX6_judge 85 = .ok (.iload 5, 2) := by decide +kernel
theorem dX6_judge_87 : decode cX6_judge 87 = .ok (.bipush 100, 2) := by decide +kernel
theorem dX6_judge_89 : decode cX6_judge 89 = .ok (.idiv, 1) := by decide +kernel
theorem dX6_judge_90 : decode cX6_judge 90 = .ok (.bipush 10, 2) := by decide +kernel
theorem dX6_judge_92 : decode cX6_judge 92 = .ok (.irem, 1) := by decide +kernel
theorem dX6_judge_93 : decode cX6_judge 93 = .ok (.iload 5, 2) := by decide +kernel
theorem dX6_judge_95 : decode cX6_judge 95 = .ok (.bipush 100, 2) := by decide +kernel
theorem dX6_judge_97 : decode cX6_judge 97 = .ok (.irem, 1) := by decide +kernel
theorem dX6_judge_98 : decode cX6_judge 98 = .ok (.invokevirtual 225, 3) := by decide +kernel
theorem dX6_judge_101 : decode cX6_judge 101 = .ok (.ifCond .ne 6, 3) := by decide +kernel
theorem dX6_judge_104 : decode cX6_judge 104 = .ok (.iload 4, 2) := by decide +kernel
theorem dX6_judge_106 : decode cX6_judge 106 = .ok (.ireturn, 1) := by decide +kernel
theorem dX6_judge_107 : decode cX6_judge 107 = .ok (.iinc 4 1, 3) := by decide +kernel
theorem dX6_judge_110 : decode cX6_judge 110 = .ok (.goto (-59), 3) := by decide +kernel
theorem dX6_judge_113 : decode cX6_judge 113 = .ok (.bipush (-9), 2) := by decide +kernel
theorem dX6_judge_115 : decode cX6_judge 115 = .ok (.ireturn, 1) := by decide +kernel
theorem dX6_factorial_0 : decode cX6_factorial 0 = .ok (.iconst 1, 1) := by decide +kernel
theorem dX6_factorial_1 : decode cX6_factorial 1 = .ok (.istore_n 1, 1) := by decide +kernel
theorem dX6_factorial_2 : decode cX6_factorial 2 = .ok (.iconst 2, 1) := by decide +kernel
theorem dX6_factorial_3 : decode cX6_factorial 3 = .ok (.istore_n 2, 1) := by decide +kernel
theorem dX6_factorial_4 : decode cX6_factorial 4 = .ok (.iload_n 2, 1) := by decide +kernel
theorem dX6_factorial_5 : decode cX6_factorial 5 = .ok (.iload_n 0, 1) := by decide +kernel
theorem dX6_factorial_6 : decode cX6_factorial 6 = .ok (.if_icmp .gt 13, 3) := by decide +kernel
theorem dX6_factorial_9 : decode cX6_factorial 9 = .ok (.iload_n 1, 1) := by decide +kernel
theorem dX6_factorial_10 : decode cX6_factorial 10 = .ok (.iload_n 2, 1) := by decide +kernel
theorem dX6_factorial_11 : decode cX6_factorial 11 = .ok (.imul, 1) := by decide +kernel
theorem dX6_factorial_12 : decode cX6_factorial 12 = .ok (.istore_n 1, 1) := by decide +kernel
theorem dX6_factorial_13 : decode cX6_factorial 13 = .ok (.iinc 2 1, 3) := by decide +kernel
theorem dX6_factorial_16 : decode cX6_factorial 16 = .ok (.goto (-12), 3) := by decide +kernel
theorem dX6_factorial_19 : decode cX6_factorial 19 = .ok (.iload_n 1, 1) := by decide +kernel
theorem dX6_factorial_20 : decode cX6_factorial 20 = .ok (.ireturn, 1) := by decide +kernel
theorem dX6_share_0 : decode cX6_share 0 = .ok (.aload_n 0, 1) := by decide +kernel
theorem dX6_share_1 : decode cX6_share 1 = .ok (.iconst 0, 1) := by decide +kernel
theorem dX6_share_2 : decode cX6_share 2 = .ok (.putfield 1, 3) := by decide +kernel
theorem dX6_share_5 : decode cX6_share 5 = .ok (.aload_n 0, 1) := by decide +kernel
theorem dX6_share_6 : decode cX6_share 6 = .ok (.iload_n 1, 1) := by decide +kernel
theorem dX6_share_7 : decode cX6_share 7 = .ok (.invokevirtual 102, 3) := by decide +kernel
theorem dX6_share_10 : decode cX6_share 10 = .ok (.ifCond .eq 5, 3) := by decide +kernel
theorem dX6_share_13 : decode cX6_share 13 = .ok (.iconst (-1), 1) := by decide +kernel
theorem dX6_share_14 : decode cX6_share 14 = .ok (.ireturn, 1) := by decide +kernel
theorem dX6_share_15 : decode cX6_share 15 = .ok (.aload_n 0, 1) := by decide +kernel
theorem dX6_share_16 : decode cX6_share 16 = .ok (.getfield 23, 3) := by decide +kernel
theorem dX6_share_19 : decode cX6_share 19 = .ok (.iconst 1, 1) := by decide +kernel
theorem dX6_share_20 : decode cX6_share 20 = .ok (.iaload, 1) := by decide +kernel
theorem dX6_share_21 : decode cX6_share 21 = .ok (.istore 4, 2) := by decide +kernel
theorem dX6_share_23 : decode cX6_share 23 = .ok (.lconst 0, 1) := by decide +kernel
theorem dX6_share_24 : decode cX6_share 24 = .ok (.lstore 5, 2) := by decide +kernel
theorem dX6_share_26 : decode cX6_share 26 = .ok (.iconst 0, 1) := by decide +kernel
theorem dX6_share_27 : decode cX6_share 27 = .ok (.istore 7, 2) := by decide +kernel
theorem dX6_share_29 : decode cX6_share 29 = .ok (.iload 7, 2) := by decide +kernel
theorem dX6_share_31 : decode cX6_share 31 = .ok (.iconst 1, 1) := by decide +kernel
theorem dX6_share_32 : decode cX6_share 32 = .ok (.iload 4, 2) := by decide +kernel
theorem dX6_share_34 : decode cX6_share 34 = .ok (.ishl, 1) := by decide +kernel
theorem dX6_share_35 : decode cX6_share 35 = .ok (.if_icmp .ge 81, 3) := by decide +kernel
theorem dX6_share_38 : decode cX6_share 38 = .ok (.iload 7, 2) := by decide +kernel
theorem dX6_share_40 : decode cX6_share 40 = .ok (.iload_n 1, 1) := by decide +kernel
theorem dX6_share_41 : decode cX6_share 41 = .ok (.invokestatic 136, 3) := by decide +kernel
theorem dX6_share_44 : decode cX6_share 44 = .ok (.ifCond .ne 66, 3) := by decide +kernel
theorem dX6_share_47 : decode cX6_share 47 = .ok (.iload 7, 2) := by decide +kernel
theorem dX6_share_49 : decode cX6_share 49 = .ok (.invokestatic 158, 3) := by decide +kernel
theorem dX6_share_52 : decode cX6_share 52 = .ok (.istore 8, 2) := by decide +kernel
theorem dX6_share_54 : decode cX6_share 54 = .ok (.aload_n 0, 1) := by decide +kernel
theorem dX6_share_55 : decode cX6_share 55 = .ok (.aload_n 0, 1) := by decide +kernel
theorem dX6_share_56 : decode cX6_share 56 = .ok (.getfield 23, 3) := by decide +kernel
theorem dX6_share_59 : decode cX6_share 59 = .ok (.iload 7, 2) := by decide +kernel
theorem dX6_share_61 : decode cX6_share 61 = .ok (.iconst 1, 1) := by decide +kernel
theorem dX6_share_62 : decode cX6_share 62 = .ok (.iload_n 1, 1) := by decide +kernel
theorem dX6_share_63 : decode cX6_share 63 = .ok (.ishl, 1) := by decide +kernel
theorem dX6_share_64 : decode cX6_share 64 = .ok (.ior, 1) := by decide +kernel
theorem dX6_share_65 : decode cX6_share 65 = .ok (.iload_n 2, 1) := by decide +kernel
theorem dX6_share_66 : decode cX6_share 66 = .ok (.invokevirtual 184, 3) := by decide +kernel
theorem dX6_share_69 : decode cX6_share 69 = .ok (.aload_n 0, 1) := by decide +kernel
theorem dX6_share_70 : decode cX6_share 70 = .ok (.aload_n 0, 1) := by decide +kernel
theorem dX6_share_71 : decode cX6_share 71 = .ok (.getfield 23, 3) := by decide +kernel
theorem dX6_share_74 : decode cX6_share 74 = .ok (.iload 7, 2) := by decide +kernel
theorem dX6_share_76 : decode cX6_share 76 = .ok (.iload_n 2, 1) := by decide +kernel
theorem dX6_share_77 : decode cX6_share 77 = .ok (.invokevirtual 184, 3) := by decide +kernel
theorem dX6_share_80 : decode cX6_share 80 = .ok (.isub, 1) := by decide +kernel
theorem dX6_share_81 : decode cX6_share 81 = .ok (.istore 9, 2) := by decide +kernel
theorem dX6_share_83 : decode cX6_share 83 = .ok (.lload 5, 2) := by decide +kernel
theorem dX6_share_85 : decode cX6_share 85 = .ok (.iload 8, 2) := by decide +kernel
theorem dX6_share_87 : decode cX6_share 87 = .ok (.invokestatic 229, 3) := by decide +kernel
theorem dX6_share_90 : decode cX6_share 90 = .ok (.i2l, 1) := by decide +kernel
theorem dX6_share_91 : decode cX6_share 91 = .ok (.iload 4, 2) := by decide +kernel
theorem dX6_share_93 : decode cX6_share 93 = .ok (.iconst 1, 1) := by decide +kernel
theorem dX6_share_94 : decode cX6_share 94 = .ok (.isub, 1) := by decide +kernel
theorem dX6_share_95 : decode cX6_share 95 = .ok (.iload 8, 2) := by decide +kernel
theorem dX6_share_97 : decode cX6_share 97 = .ok (.isub, 1) := by decide +kernel
theorem dX6_share_98 : decode cX6_share 98 = .ok (.invokestatic 229, 3) := by decide +kernel
theorem dX6_share_101 : decode cX6_share 101 = .ok (.i2l, 1) := by decide +kernel
theorem dX6_share_102 : decode cX6_share 102 = .ok (.lmul, 1) := by decide +kernel
theorem dX6_share_103 : decode cX6_share 103 = .ok (.iload 9, 2) := by decide +kernel
theorem dX6_share_105 : decode cX6_share 105 = .ok (.i2l, 1) := by decide +kernel
theorem dX6_share_106 : decode cX6_share 106 = .ok (.lmul, 1) := by decide +kernel
theorem dX6_share_107 : decode cX6_share 107 = .ok (.ladd, 1) := by decide +kernel
theorem dX6_share_108 : decode cX6_share 108 = .ok (.lstore 5, 2) := by decide +kernel
theorem dX6_share_110 : decode cX6_share 110 = .ok (.iinc 7 1, 3) := by decide +kernel
theorem dX6_share_113 : decode cX6_share 113 = .ok (.goto (-84), 3) := by decide +kernel
theorem dX6_share_116 : decode cX6_share 116 = .ok (.aload_n 0, 1) := by decide +kernel
theorem dX6_share_117 : decode cX6_share 117 = .ok (.lload 5, 2) := by decide +kernel
theorem dX6_share_119 : decode cX6_share 119 = .ok (.iload 4, 2) := by decide +kernel
theorem dX6_share_121 : decode cX6_share 121 = .ok (.invokestatic 229, 3) := by decide +kernel
theorem dX6_share_124 : decode cX6_share 124 = .ok (.i2l, 1) := by decide +kernel
theorem dX6_share_125 : decode cX6_share 125 = .ok (.invokevirtual 176, 3) := by decide +kernel
theorem dX6_share_128 : decode cX6_share 128 = .ok (.aload_n 0, 1) := by decide +kernel
theorem dX6_share_129 : decode cX6_share 129 = .ok (.iload_n 3, 1) := by decide +kernel
theorem dX6_share_130 : decode cX6_share 130 = .ok (.invokevirtual 200, 3) := by decide +kernel
theorem dX6_share_133 : decode cX6_share 133 = .ok (.l2i, 1) := by decide +kernel
theorem dX6_share_134 : decode cX6_share 134 = .ok (.ireturn, 1) := by decide +kernel
theorem dX6_lost_0 : decode cX6_lost 0 = .ok (.aload_n 0, 1) := by decide +kernel
theorem dX6_lost_1 : decode cX6_lost 1 = .ok (.iconst 0, 1) := by decide +kernel
theorem dX6_lost_2 : decode cX6_lost 2 = .ok (.putfield 1, 3) := by decide +kernel
theorem dX6_lost_5 : decode cX6_lost 5 = .ok (.iload_n 1, 1) := by decide +kernel
theorem dX6_lost_6 : decode cX6_lost 6 = .ok (.i2l, 1) := by decide +kernel
theorem dX6_lost_7 : decode cX6_lost 7 = .ok (.lconst 0, 1) := by decide +kernel
theorem dX6_lost_8 : decode cX6_lost 8 = .ok (.ldc2_w 232, 3) := by decide +kernel
theorem dX6_lost_11 : decode cX6_lost 11 = .ok (.invokestatic 61, 3) := by decide +kernel
theorem dX6_lost_14 : decode cX6_lost 14 = .ok (.ifCond .ne 6, 3) := by decide +kernel
theorem dX6_lost_17 : decode cX6_lost 17 = .ok (.bipush (-2), 2) := by decide +kernel
theorem dX6_lost_19 : decode cX6_lost 19 = .ok (.ireturn, 1) := by decide +kernel
theorem dX6_lost_20 : decode cX6_lost 20 = .ok (.aload_n 0, 1) := by decide +kernel
theorem dX6_lost_21 : decode cX6_lost 21 = .ok (.getfield 23, 3) := by decide +kernel
theorem dX6_lost_24 : decode cX6_lost 24 = .ok (.iconst 1, 1) := by decide +kernel
theorem dX6_lost_25 : decode cX6_lost 25 = .ok (.iaload, 1) := by decide +kernel
theorem dX6_lost_26 : decode cX6_lost 26 = .ok (.istore 4, 2) := by decide +kernel
theorem dX6_lost_28 : decode cX6_lost 28 = .ok (.lconst 0, 1) := by decide +kernel
theorem dX6_lost_29 : decode cX6_lost 29 = .ok (.lstore 5, 2) := by decide +kernel
theorem dX6_lost_31 : decode cX6_lost 31 = .ok (.iconst 0, 1) := by decide +kernel
theorem dX6_lost_32 : decode cX6_lost 32 = .ok (.istore 7, 2) := by decide +kernel
theorem dX6_lost_34 : decode cX6_lost 34 = .ok (.iload 7, 2) := by decide +kernel
theorem dX6_lost_36 : decode cX6_lost 36 = .ok (.iconst 1, 1) := by decide +kernel
theorem dX6_lost_37 : decode cX6_lost 37 = .ok (.iload 4, 2) := by decide +kernel
theorem dX6_lost_39 : decode cX6_lost 39 = .ok (.ishl, 1) := by decide +kernel
theorem dX6_lost_40 : decode cX6_lost 40 = .ok (.if_icmp .ge 59, 3) := by decide +kernel
theorem dX6_lost_43 : decode cX6_lost 43 = .ok (.iload 7, 2) := by decide +kernel
theorem dX6_lost_45 : decode cX6_lost 45 = .ok (.invokestatic 158, 3) := by decide +kernel
theorem dX6_lost_48 : decode cX6_lost 48 = .ok (.istore 8, 2) := by decide +kernel
theorem dX6_lost_50 : decode cX6_lost 50 = .ok (.lload 5, 2) := by decide +kernel
theorem dX6_lost_52 : decode cX6_lost 52 = .ok (.aload_n 0, 1) := by decide +kernel
theorem dX6_lost_53 : decode cX6_lost 53 = .ok (.aload_n 0, 1) := by decide +kernel
theorem dX6_lost_54 : decode cX6_lost 54 = .ok (.getfield 23, 3) := by decide +kernel
theorem dX6_lost_57 : decode cX6_lost 57 = .ok (.iload 7, 2) := by decide +kernel
theorem dX6_lost_59 : decode cX6_lost 59 = .ok (.iload_n 2, 1) := by decide +kernel
theorem dX6_lost_60 : decode cX6_lost 60 = .ok (.invokevirtual 194, 3) := by decide +kernel
theorem dX6_lost_63 : decode cX6_lost 63 = .ok (.ifCond .eq 26, 3) := by decide +kernel
theorem dX6_lost_66 : decode cX6_lost 66 = .ok (.iload_n 1, 1) := by decide +kernel
theorem dX6_lost_67 : decode cX6_lost 67 = .ok (.iload 4, 2) := by decide +kernel
theorem dX6_lost_69 : decode cX6_lost 69 = .ok (.iload 8, 2) := by decide +kernel
theorem dX6_lost_71 : decode cX6_lost 71 = .ok (.isub, 1) := by decide +kernel
theorem dX6_lost_72 : decode cX6_lost 72 = .ok (.invokestatic 106, 3) := by decide +kernel
theorem dX6_lost_75 : decode cX6_lost 75 = .ok (.bipush 10, 2) := by decide +kernel
theorem dX6_lost_77 : decode cX6_lost 77 = .ok (.iload_n 1, 1) := by decide +kernel
theorem dX6_lost_78 : decode cX6_lost 78 = .ok (.isub, 1) := by decide +kernel
theorem dX6_lost_79 : decode cX6_lost 79 = .ok (.iload 8, 2) := by decide +kernel
theorem dX6_lost_81 : decode cX6_lost 81 = .ok (.invokestatic 106, 3) := by decide +kernel
theorem dX6_lost_84 : decode cX6_lost 84 = .ok (.imul, 1) := by decide +kernel
theorem dX6_lost_85 : decode cX6_lost 85 = .ok (.i2l, 1) := by decide +kernel
theorem dX6_lost_86 : decode cX6_lost 86 = .ok (.goto 4, 3) := by decide +kernel
theorem dX6_lost_89 : decode cX6_lost 89 = .ok (.lconst 0, 1) := by decide +kernel
theorem dX6_lost_90 : decode cX6_lost 90 = .ok (.ladd, 1) := by decide +kernel
theorem dX6_lost_91 : decode cX6_lost 91 = .ok (.lstore 5, 2) := by decide +kernel
theorem dX6_lost_93 : decode cX6_lost 93 = .ok (.iinc 7 1, 3) := by decide +kernel
theorem dX6_lost_96 : decode cX6_lost 96 = .ok (.goto (-62), 3) := by decide +kernel
theorem dX6_lost_99 : decode cX6_lost 99 = .ok (.aload_n 0, 1) := by decide +kernel
theorem dX6_lost_100 : decode cX6_lost 100 = .ok (.lload 5, 2) := by decide +kernel
theorem dX6_lost_102 : decode cX6_lost 102 = .ok (.bipush 10, 2) := by decide +kernel
theorem dX6_lost_104 : decode cX6_lost 104 = .ok (.iload 4, 2) := by decide +kernel
theorem dX6_lost_106 : decode cX6_lost 106 = .ok (.invokestatic 106, 3) := by decide +kernel
theorem dX6_lost_109 : decode cX6_lost 109 = .ok (.i2l, 1) := by decide +kernel
theorem dX6_lost_110 : decode cX6_lost 110 = .ok (.invokevirtual 176, 3) := by decide +kernel
theorem dX6_lost_113 : decode cX6_lost 113 = .ok (.aload_n 0, 1) := by decide +kernel
theorem dX6_lost_114 : decode cX6_lost 114 = .ok (.iload_n 3, 1) := by decide +kernel
theorem dX6_lost_115 : decode cX6_lost 115 = .ok (.invokevirtual 200, 3) := by decide +kernel
theorem dX6_lost_118 : decode cX6_lost 118 = .ok (.l2i, 1) := by decide +kernel
theorem dX6_lost_119 : decode cX6_lost 119 = .ok (.ireturn, 1) := by decide +kernel
theorem dX6_seed_0 : decode cX6_seed 0 = .ok (.aload_n 0, 1) := by decide +kernel
theorem dX6_seed_1 : decode cX6_seed 1 = .ok (.iconst 0, 1) := by decide +kernel
theorem dX6_seed_2 : decode cX6_seed 2 = .ok (.putfield 1, 3) := by decide +kernel
theorem dX6_seed_5 : decode cX6_seed 5 = .ok (.aload_n 0, 1) := by decide +kernel
theorem dX6_seed_6 : decode cX6_seed 6 = .ok (.getfield 234, 3) := by decide +kernel
theorem dX6_seed_9 : decode cX6_seed 9 = .ok (.lstore_n 3, 1) := by decide +kernel
theorem dX6_seed_10 : decode cX6_seed 10 = .ok (.aload_n 0, 1) := by decide +kernel
theorem dX6_seed_11 : decode cX6_seed 11 = .ok (.lload_n 1, 1) := by decide +kernel
theorem dX6_seed_12 : decode cX6_seed 12 = .ok (.putfield 234, 3) := by decide +kernel
theorem dX6_seed_15 : decode cX6_seed 15 = .ok (.lload_n 3, 1) := by decide +kernel
theorem dX6_seed_16 : decode cX6_seed 16 = .ok (.lreturn, 1) := by decide +kernel
theorem dX6_drawn_0 : decode cX6_drawn 0 = .ok (.aload_n 0, 1) := by decide +kernel
theorem dX6_drawn_1 : decode cX6_drawn 1 = .ok (.iconst 0, 1) := by decide +kernel
theorem dX6_drawn_2 : decode cX6_drawn 2 = .ok (.putfield 1, 3) := by decide +kernel
theorem dX6_drawn_5 : decode cX6_drawn 5 = .ok (.iload_n 1, 1) := by decide +kernel
theorem dX6_drawn_6 : decode cX6_drawn 6 = .ok (.i2l, 1) := by decide +kernel
theorem dX6_drawn_7 : decode cX6_drawn 7 = .ok (.lconst 1, 1) := by decide +kernel
theorem dX6_drawn_8 : decode cX6_drawn 8 = .ok (.ldc2_w 237, 3) := by decide +kernel
theorem dX6_drawn_11 : decode cX6_drawn 11 = .ok (.invokestatic 61, 3) := by decide +kernel
theorem dX6_drawn_14 : decode cX6_drawn 14 = .ok (.ifCond .ne 6, 3) := by decide +kernel
theorem dX6_drawn_17 : decode cX6_drawn 17 = .ok (.bipush (-2), 2) := by decide +kernel
theorem dX6_drawn_19 : decode cX6_drawn 19 = .ok (.ireturn, 1) := by decide +kernel
theorem dX6_drawn_20 : decode cX6_drawn 20 = .ok (.aload_n 0, 1) := by decide +kernel
theorem dX6_drawn_21 : decode cX6_drawn 21 = .ok (.aload_n 0, 1) := by decide +kernel
theorem dX6_drawn_22 : decode cX6_drawn 22 = .ok (.getfield 23, 3) := by decide +kernel
theorem dX6_drawn_25 : decode cX6_drawn 25 = .ok (.iconst 0, 1) := by decide +kernel
theorem dX6_drawn_26 : decode cX6_drawn 26 = .ok (.invokevirtual 210, 3) := by decide +kernel
theorem dX6_drawn_29 : decode cX6_drawn 29 = .ok (.istore_n 2, 1) := by decide +kernel
theorem dX6_drawn_30 : decode cX6_drawn 30 = .ok (.iconst 0, 1) := by decide +kernel
theorem dX6_drawn_31 : decode cX6_drawn 31 = .ok (.istore_n 3, 1) := by decide +kernel
theorem dX6_drawn_32 : decode cX6_drawn 32 = .ok (.iconst 0, 1) := by decide +kernel
theorem dX6_drawn_33 : decode cX6_drawn 33 = .ok (.istore 4, 2) := by decide +kernel
theorem dX6_drawn_35 : decode cX6_drawn 35 = .ok (.iload 4, 2) := by decide +kernel
theorem dX6_drawn_37 : decode cX6_drawn 37 = .ok (.iload_n 1, 1) := by decide +kernel
theorem dX6_drawn_38 : decode cX6_drawn 38 = .ok (.if_icmp .ge 125, 3) := by decide +kernel
theorem dX6_drawn_41 : decode cX6_drawn 41 = .ok (.aload_n 0, 1) := by decide +kernel
theorem dX6_drawn_42 : decode cX6_drawn 42 = .ok (.aload_n 0, 1) := by decide +kernel
theorem dX6_drawn_43 : decode cX6_drawn 43 = .ok (.getfield 234, 3) := by decide +kernel
theorem dX6_drawn_46 : decode cX6_drawn 46 = .ok (.ldc2_w 239, 3) := by decide +kernel
theorem dX6_drawn_49 : decode cX6_drawn 49 = .ok (.lmul, 1) := by decide +kernel
theorem dX6_drawn_50 : decode cX6_drawn 50 = .ok (.ldc2_w 241, 3) := by decide +kernel
theorem dX6_drawn_53 : decode cX6_drawn 53 = .ok (.ladd, 1) := by decide +kernel
theorem dX6_drawn_54 : decode cX6_drawn 54 = .ok (.putfield 234, 3) := by decide +kernel
theorem dX6_drawn_57 : decode cX6_drawn 57 = .ok (.aload_n 0, 1) := by decide +kernel
theorem dX6_drawn_58 : decode cX6_drawn 58 = .ok (.getfield 234, 3) := by decide +kernel
theorem dX6_drawn_61 : decode cX6_drawn 61 = .ok (.bipush 33, 2) := by decide +kernel
theorem dX6_drawn_63 : decode cX6_drawn 63 = .ok (.lushr, 1) := by decide +kernel
theorem dX6_drawn_64 : decode cX6_drawn 64 = .ok (.l2i, 1) := by decide +kernel
theorem dX6_drawn_65 : decode cX6_drawn 65 = .ok (.istore 5, 2) := by decide +kernel
theorem dX6_drawn_67 : decode cX6_drawn 67 = .ok (.aload_n 0, 1) := by decide +kernel
theorem dX6_drawn_68 : decode cX6_drawn 68 = .ok (.getfield 23, 3) := by decide +kernel
theorem dX6_drawn_71 : decode cX6_drawn 71 = .ok (.aload_n 0, 1) := by decide +kernel
theorem dX6_drawn_72 : decode cX6_drawn 72 = .ok (.getfield 29, 3) := by decide +kernel
theorem dX6_drawn_75 : decode cX6_drawn 75 = .ok (.invokestatic 95, 3) := by decide +kernel
theorem dX6_drawn_78 : decode cX6_drawn 78 = .ok (.iconst 0, 1) := by decide +kernel
theorem dX6_drawn_79 : decode cX6_drawn 79 = .ok (.istore 6, 2) := by decide +kernel
theorem dX6_drawn_81 : decode cX6_drawn 81 = .ok (.iload 6, 2) := by decide +kernel
theorem dX6_drawn_83 : decode cX6_drawn 83 = .ok (.aload_n 0, 1) := by decide +kernel
theorem dX6_drawn_84 : decode cX6_drawn 84 = .ok (.getfield 29, 3) := by decide +kernel
theorem dX6_drawn_87 : decode cX6_drawn 87 = .ok (.iconst 1, 1) := by decide +kernel
theorem dX6_drawn_88 : decode cX6_drawn 88 = .ok (.iaload, 1) := by decide +kernel
theorem dX6_drawn_89 : decode cX6_drawn 89 = .ok (.if_icmp .ge 47, 3) := by decide +kernel
theorem dX6_drawn_92 : decode cX6_drawn 92 = .ok (.iload 5, 2) := by decide +kernel
theorem dX6_drawn_94 : decode cX6_drawn 94 = .ok (.iconst 2, 1) := by decide +kernel
theorem dX6_drawn_95 : decode cX6_drawn 95 = .ok (.iload 6, 2) := by decide +kernel
theorem dX6_drawn_97 : decode cX6_drawn 97 = .ok (.imul, 1) := by decide +kernel
theorem dX6_drawn_98 : decode cX6_drawn 98 = .ok (.ishr, 1) := by decide +kernel
theorem dX6_drawn_99 : decode cX6_drawn 99 = .ok (.iconst 3, 1) := by decide +kernel
theorem dX6_drawn_100 : decode cX6_drawn 100 = .ok (.iand, 1) := by decide +kernel
theorem dX6_drawn_101 : decode cX6_drawn 101 = .ok (.iconst 1, 1) := by decide +kernel
theorem dX6_drawn_102 : decode cX6_drawn 102 = .ok (.isub, 1) := by decide +kernel
theorem dX6_drawn_103 : decode cX6_drawn 103 = .ok (.istore 7, 2) := by decide +kernel
theorem dX6_drawn_105 : decode cX6_drawn 105 = .ok (.aload_n 0, 1) := by decide +kernel
theorem dX6_drawn_106 : decode cX6_drawn 106 = .ok (.getfield 29, 3) := by decide +kernel
theorem dX6_drawn_109 : decode cX6_drawn 109 = .ok (.bipush 10, 2) := by decide +kernel
theorem dX6_drawn_111 : decode cX6_drawn 111 = .ok (.iload 6, 2) := by decide +kernel
theorem dX6_drawn_113 : decode cX6_drawn 113 = .ok (.iadd, 1) := by decide +kernel
theorem dX6_drawn_114 : decode cX6_drawn 114 = .ok (.dup2, 1) := by decide +kernel
theorem dX6_drawn_115 : decode cX6_drawn 115 = .ok (.iaload, 1) := by decide +kernel
theorem dX6_drawn_116 : decode cX6_drawn 116 = .ok (.iload 7, 2) := by decide +kernel
theorem dX6_drawn_118 : decode cX6_drawn 118 = .ok (.iconst 2, 1) := by decide +kernel
theorem dX6_drawn_119 : decode cX6_drawn 119 = .ok (.if_icmp .ne 7, 3) := by decide +kernel
theorem dX6_drawn_122 : decode cX6_drawn 122 = .ok (.iconst 0, 1) := by decide +kernel
theorem dX6_drawn_123 : decode cX6_drawn 123 = .ok (.goto 5, 3) := by decide +kernel
theorem dX6_drawn_126 : decode cX6_drawn 126 = .ok (.iload 7, 2) := by decide +kernel
theorem dX6_drawn_128 : decode cX6_drawn 128 = .ok (.iadd, 1) := by decide +kernel
theorem dX6_drawn_129 : decode cX6_drawn 129 = .ok (.iastore, 1) := by decide +kernel
theorem dX6_drawn_130 : decode cX6_drawn 130 = .ok (.iinc 6 1, 3) := by decide +kernel
theorem dX6_drawn_133 : decode cX6_drawn 133 = .ok (.goto (-52), 3) := by decide +kernel
theorem dX6_drawn_136 : decode cX6_drawn 136 = .ok (.iload_n 3, 1) := by decide +kernel
theorem dX6_drawn_137 : decode cX6_drawn 137 = .ok (.aload_n 0, 1) := by decide +kernel
theorem dX6_drawn_138 : decode cX6_drawn 138 = .ok (.aload_n 0, 1) := by decide +kernel
theorem dX6_drawn_139 : decode cX6_drawn 139 = .ok (.getfield 29, 3) := by decide +kernel
theorem dX6_drawn_142 : decode cX6_drawn 142 = .ok (.iconst 0, 1) := by decide +kernel
theorem dX6_drawn_143 : decode cX6_drawn 143 = .ok (.invokevirtual 210, 3) := by decide +kernel
theorem dX6_drawn_146 : decode cX6_drawn 146 = .ok (.iload_n 2, 1) := by decide +kernel
theorem dX6_drawn_147 : decode cX6_drawn 147 = .ok (.if_icmp .ne 7, 3) := by decide +kernel
theorem dX6_drawn_150 : decode cX6_drawn 150 = .ok (.iconst 1, 1) := by decide +kernel
theorem dX6_drawn_151 : decode cX6_drawn 151 = .ok (.goto 4, 3) := by decide +kernel
theorem dX6_drawn_154 : decode cX6_drawn 154 = .ok (.iconst 0, 1) := by decide +kernel
theorem dX6_drawn_155 : decode cX6_drawn 155 = .ok (.iadd, 1) := by decide +kernel
theorem dX6_drawn_156 : decode cX6_drawn 156 = .ok (.istore_n 3, 1) := by decide +kernel
theorem dX6_drawn_157 : decode cX6_drawn 157 = .ok (.iinc 4 1, 3) := by decide +kernel
theorem dX6_drawn_160 : decode cX6_drawn 160 = .ok (.goto (-125), 3) := by decide +kernel
theorem dX6_drawn_163 : decode cX6_drawn 163 = .ok (.iload_n 3, 1) := by decide +kernel
theorem dX6_drawn_164 : decode cX6_drawn 164 = .ok (.ireturn, 1) := by decide +kernel
theorem dX6_keep_0 : decode cX6_keep 0 = .ok (.aload_n 0, 1) := by decide +kernel
theorem dX6_keep_1 : decode cX6_keep 1 = .ok (.iconst 0, 1) := by decide +kernel
theorem dX6_keep_2 : decode cX6_keep 2 = .ok (.putfield 1, 3) := by decide +kernel
theorem dX6_keep_5 : decode cX6_keep 5 = .ok (.iload_n 1, 1) := by decide +kernel
theorem dX6_keep_6 : decode cX6_keep 6 = .ok (.i2l, 1) := by decide +kernel
theorem dX6_keep_7 : decode cX6_keep 7 = .ok (.lconst 0, 1) := by decide +kernel
theorem dX6_keep_8 : decode cX6_keep 8 = .ok (.lconst 1, 1) := by decide +kernel
theorem dX6_keep_9 : decode cX6_keep 9 = .ok (.invokestatic 61, 3) := by decide +kernel
theorem dX6_keep_12 : decode cX6_keep 12 = .ok (.ifCond .ne 5, 3) := by decide +kernel
theorem dX6_keep_15 : decode cX6_keep 15 = .ok (.iconst (-1), 1) := by decide +kernel
theorem dX6_keep_16 : decode cX6_keep 16 = .ok (.ireturn, 1) := by decide +kernel
theorem dX6_keep_17 : decode cX6_keep 17 = .ok (.aload_n 0, 1) := by decide +kernel
theorem dX6_keep_18 : decode cX6_keep 18 = .ok (.getfield 38, 3) := by decide +kernel
theorem dX6_keep_21 : decode cX6_keep 21 = .ok (.iload_n 1, 1) := by decide +kernel
theorem dX6_keep_22 : decode cX6_keep 22 = .ok (.iconst 1, 1) := by decide +kernel
theorem dX6_keep_23 : decode cX6_keep 23 = .ok (.bastore, 1) := by decide +kernel
theorem dX6_keep_24 : decode cX6_keep 24 = .ok (.iconst 0, 1) := by decide +kernel
theorem dX6_keep_25 : decode cX6_keep 25 = .ok (.istore_n 2, 1) := by decide +kernel
theorem dX6_keep_26 : decode cX6_keep 26 = .ok (.iload_n 2, 1) := by decide +kernel
theorem dX6_keep_27 : decode cX6_keep 27 = .ok (.bipush 18, 2) := by decide +kernel
theorem dX6_keep_29 : decode cX6_keep 29 = .ok (.if_icmp .ge 26, 3) := by decide +kernel
theorem dX6_keep_32 : decode cX6_keep 32 = .ok (.aload_n 0, 1) := by decide +kernel
theorem dX6_keep_33 : decode cX6_keep 33 = .ok (.getfield 35, 3) := by decide +kernel
theorem dX6_keep_36 : decode cX6_keep 36 = .ok (.bipush 18, 2) := by decide +kernel
theorem dX6_keep_38 : decode cX6_keep 38 = .ok (.iload_n 1, 1) := by decide +kernel
theorem dX6_keep_39 : decode cX6_keep 39 = .ok (.imul, 1) := by decide +kernel
theorem dX6_keep_40 : decode cX6_keep 40 = .ok (.iload_n 2, 1) := by decide +kernel
theorem dX6_keep_41 : decode cX6_keep 41 = .ok (.iadd, 1) := by decide +kernel
theorem dX6_keep_42 : decode cX6_keep 42 = .ok (.aload_n 0, 1) := by decide +kernel
theorem dX6_keep_43 : decode cX6_keep 43 = .ok (.getfield 23, 3) := by decide +kernel
theorem dX6_keep_46 : decode cX6_keep 46 = .ok (.iload_n 2, 1) := by decide +kernel
theorem dX6_keep_47 : decode cX6_keep 47 = .ok (.iaload, 1) := by decide +kernel
theorem dX6_keep_48 : decode cX6_keep 48 = .ok (.iastore, 1) := by decide +kernel
theorem dX6_keep_49 : decode cX6_keep 49 = .ok (.iinc 2 1, 3) := by decide +kernel
theorem dX6_keep_52 : decode cX6_keep 52 = .ok (.goto (-26), 3) := by decide +kernel
theorem dX6_keep_55 : decode cX6_keep 55 = .ok (.aload_n 0, 1) := by decide +kernel
theorem dX6_keep_56 : decode cX6_keep 56 = .ok (.getfield 23, 3) := by decide +kernel
theorem dX6_keep_59 : decode cX6_keep 59 = .ok (.iconst 1, 1) := by decide +kernel
theorem dX6_keep_60 : decode cX6_keep 60 = .ok (.iaload, 1) := by decide +kernel
theorem dX6_keep_61 : decode cX6_keep 61 = .ok (.ireturn, 1) := by decide +kernel
theorem dX6_again_0 : decode cX6_again 0 = .ok (.aload_n 0, 1) := by decide +kernel
theorem dX6_again_1 : decode cX6_again 1 = .ok (.iconst 0, 1) := by decide +kernel
theorem dX6_again_2 : decode cX6_again 2 = .ok (.putfield 1, 3) := by decide +kernel
theorem dX6_again_5 : decode cX6_again 5 = .ok (.iload_n 1, 1) := by decide +kernel
theorem dX6_again_6 : decode cX6_again 6 = .ok (.i2l, 1) := by decide +kernel
theorem dX6_again_7 : decode cX6_again 7 = .ok (.lconst 0, 1) := by decide +kernel
theorem dX6_again_8 : decode cX6_again 8 = .ok (.lconst 1, 1) := by decide +kernel
theorem dX6_again_9 : decode cX6_again 9 = .ok (.invokestatic 61, 3) := by decide +kernel
theorem dX6_again_12 : decode cX6_again 12 = .ok (.ifCond .ne 5, 3) := by decide +kernel
theorem dX6_again_15 : decode cX6_again 15 = .ok (.iconst (-1), 1) := by decide +kernel
theorem dX6_again_16 : decode cX6_again 16 = .ok (.ireturn, 1) := by decide +kernel
theorem dX6_again_17 : decode cX6_again 17 = .ok (.aload_n 0, 1) := by decide +kernel
theorem dX6_again_18 : decode cX6_again 18 = .ok (.getfield 38, 3) := by decide +kernel
theorem dX6_again_21 : decode cX6_again 21 = .ok (.iload_n 1, 1) := by decide +kernel
theorem dX6_again_22 : decode cX6_again 22 = .ok (.baload, 1) := by decide +kernel
theorem dX6_again_23 : decode cX6_again 23 = .ok (.ifCond .ne 6, 3) := by decide +kernel
theorem dX6_again_26 : decode cX6_again 26 = .ok (.bipush (-3), 2) := by decide +kernel
theorem dX6_again_28 : decode cX6_again 28 = .ok (.ireturn, 1) := by decide +kernel
theorem dX6_again_29 : decode cX6_again 29 = .ok (.iconst 0, 1) := by decide +kernel
theorem dX6_again_30 : decode cX6_again 30 = .ok (.istore_n 2, 1) := by decide +kernel
theorem dX6_again_31 : decode cX6_again 31 = .ok (.iload_n 2, 1) := by decide +kernel
theorem dX6_again_32 : decode cX6_again 32 = .ok (.bipush 18, 2) := by decide +kernel
theorem dX6_again_34 : decode cX6_again 34 = .ok (.if_icmp .ge 26, 3) := by decide +kernel
theorem dX6_again_37 : decode cX6_again 37 = .ok (.aload_n 0, 1) := by decide +kernel
theorem dX6_again_38 : decode cX6_again 38 = .ok (.getfield 23, 3) := by decide +kernel
theorem dX6_again_41 : decode cX6_again 41 = .ok (.iload_n 2, 1) := by decide +kernel
theorem dX6_again_42 : decode cX6_again 42 = .ok (.aload_n 0, 1) := by decide +kernel
theorem dX6_again_43 : decode cX6_again 43 = .ok (.getfield 35, 3) := by decide +kernel
theorem dX6_again_46 : decode cX6_again 46 = .ok (.bipush 18, 2) := by decide +kernel
theorem dX6_again_48 : decode cX6_again 48 = .ok (.iload_n 1, 1) := by decide +kernel
theorem dX6_again_49 : decode cX6_again 49 = .ok (.imul, 1) := by decide +kernel
theorem dX6_again_50 : decode cX6_again 50 = .ok (.iload_n 2, 1) := by decide +kernel
theorem dX6_again_51 : decode cX6_again 51 = .ok (.iadd, 1) := by decide +kernel
theorem dX6_again_52 : decode cX6_again 52 = .ok (.iaload, 1) := by decide +kernel
theorem dX6_again_53 : decode cX6_again 53 = .ok (.iastore, 1) := by decide +kernel
theorem dX6_again_54 : decode cX6_again 54 = .ok (.iinc 2 1, 3) := by decide +kernel
theorem dX6_again_57 : decode cX6_again 57 = .ok (.goto (-26), 3) := by decide +kernel
theorem dX6_again_60 : decode cX6_again 60 = .ok (.aload_n 0, 1) := by decide +kernel
theorem dX6_again_61 : decode cX6_again 61 = .ok (.iconst 0, 1) := by decide +kernel
theorem dX6_again_62 : decode cX6_again 62 = .ok (.putfield 99, 3) := by decide +kernel
theorem dX6_again_65 : decode cX6_again 65 = .ok (.aload_n 0, 1) := by decide +kernel
theorem dX6_again_66 : decode cX6_again 66 = .ok (.getfield 23, 3) := by decide +kernel
theorem dX6_again_69 : decode cX6_again 69 = .ok (.iconst 1, 1) := by decide +kernel
theorem dX6_again_70 : decode cX6_again 70 = .ok (.iaload, 1) := by decide +kernel
theorem dX6_again_71 : decode cX6_again 71 = .ok (.ireturn, 1) := by decide +kernel
theorem dX6_count_0 : decode cX6_count 0 = .ok (.aload_n 0, 1) := by decide +kernel
theorem dX6_count_1 : decode cX6_count 1 = .ok (.iconst 0, 1) := by decide +kernel
theorem dX6_count_2 : decode cX6_count 2 = .ok (.putfield 1, 3) := by decide +kernel
theorem dX6_count_5 : decode cX6_count 5 = .ok (.iload_n 1, 1) := by decide +kernel
theorem dX6_count_6 : decode cX6_count 6 = .ok (.tableswitch 63 0 4 #[34, 39, 44, 51, 58], 34) := by decide +kernel
theorem dX6_count_40 : decode cX6_count 40 = .ok (.aload_n 0, 1) := by decide +kernel
theorem dX6_count_41 : decode cX6_count 41 = .ok (.getfield 67, 3) := by decide +kernel
theorem dX6_count_44 : decode cX6_count 44 = .ok (.ireturn, 1) := by decide +kernel
theorem dX6_count_45 : decode cX6_count 45 = .ok (.aload_n 0, 1) := by decide +kernel
theorem dX6_count_46 : decode cX6_count 46 = .ok (.getfield 17, 3) := by decide +kernel
theorem dX6_count_49 : decode cX6_count 49 = .ok (.ireturn, 1) := by decide +kernel
theorem dX6_count_50 : decode cX6_count 50 = .ok (.aload_n 0, 1) := by decide +kernel
theorem dX6_count_51 : decode cX6_count 51 = .ok (.getfield 23, 3) := by decide +kernel
theorem dX6_count_54 : decode cX6_count 54 = .ok (.iconst 0, 1) := by decide +kernel
theorem dX6_count_55 : decode cX6_count 55 = .ok (.iaload, 1) := by decide +kernel
theorem dX6_count_56 : decode cX6_count 56 = .ok (.ireturn, 1) := by decide +kernel
theorem dX6_count_57 : decode cX6_count 57 = .ok (.aload_n 0, 1) := by decide +kernel
theorem dX6_count_58 : decode cX6_count 58 = .ok (.getfield 23, 3) := by decide +kernel
theorem dX6_count_61 : decode cX6_count 61 = .ok (.iconst 1, 1) := by decide +kernel
theorem dX6_count_62 : decode cX6_count 62 = .ok (.iaload, 1) := by decide +kernel
theorem dX6_count_63 : decode cX6_count 63 = .ok (.ireturn, 1) := by decide +kernel
theorem dX6_count_64 : decode cX6_count 64 = .ok (.aload_n 0, 1) := by decide +kernel
theorem dX6_count_65 : decode cX6_count 65 = .ok (.getfield 99, 3) := by decide +kernel
theorem dX6_count_68 : decode cX6_count 68 = .ok (.ireturn, 1) := by decide +kernel
theorem dX6_count_69 : decode cX6_count 69 = .ok (.bipush (-2), 2) := by decide +kernel
theorem dX6_count_71 : decode cX6_count 71 = .ok (.ireturn, 1) := by decide +kernel
theorem dJ6_bitCount_0f7a4_0 : decode cJ6_bitCount_0f7a4 0 = .ok (.iload_n 0, 1) := by decide +kernel
theorem dJ6_bitCount_0f7a4_1 : decode cJ6_bitCount_0f7a4 1 = .ok (.iload_n 0, 1) := by decide +kernel
theorem dJ6_bitCount_0f7a4_2 : decode cJ6_bitCount_0f7a4 2 = .ok (.iconst 1, 1) := by decide +kernel
theorem dJ6_bitCount_0f7a4_3 : decode cJ6_bitCount_0f7a4 3 = .ok (.iushr, 1) := by decide +kernel
theorem dJ6_bitCount_0f7a4_4 : decode cJ6_bitCount_0f7a4 4 = .ok (.ldc_w 265, 3) := by decide +kernel
theorem dJ6_bitCount_0f7a4_7 : decode cJ6_bitCount_0f7a4 7 = .ok (.iand, 1) := by decide +kernel
theorem dJ6_bitCount_0f7a4_8 : decode cJ6_bitCount_0f7a4 8 = .ok (.isub, 1) := by decide +kernel
theorem dJ6_bitCount_0f7a4_9 : decode cJ6_bitCount_0f7a4 9 = .ok (.istore_n 0, 1) := by decide +kernel
theorem dJ6_bitCount_0f7a4_10 : decode cJ6_bitCount_0f7a4 10 = .ok (.iload_n 0, 1) := by decide +kernel
theorem dJ6_bitCount_0f7a4_11 : decode cJ6_bitCount_0f7a4 11 = .ok (.ldc_w 266, 3) := by decide +kernel
theorem dJ6_bitCount_0f7a4_14 : decode cJ6_bitCount_0f7a4 14 = .ok (.iand, 1) := by decide +kernel
theorem dJ6_bitCount_0f7a4_15 : decode cJ6_bitCount_0f7a4 15 = .ok (.iload_n 0, 1) := by decide +kernel
theorem dJ6_bitCount_0f7a4_16 : decode cJ6_bitCount_0f7a4 16 = .ok (.iconst 2, 1) := by decide +kernel
theorem dJ6_bitCount_0f7a4_17 : decode cJ6_bitCount_0f7a4 17 = .ok (.iushr, 1) := by decide +kernel
theorem dJ6_bitCount_0f7a4_18 : decode cJ6_bitCount_0f7a4 18 = .ok (.ldc_w 266, 3) := by decide +kernel
theorem dJ6_bitCount_0f7a4_21 : decode cJ6_bitCount_0f7a4 21 = .ok (.iand, 1) := by decide +kernel
theorem dJ6_bitCount_0f7a4_22 : decode cJ6_bitCount_0f7a4 22 = .ok (.iadd, 1) := by decide +kernel
theorem dJ6_bitCount_0f7a4_23 : decode cJ6_bitCount_0f7a4 23 = .ok (.istore_n 0, 1) := by decide +kernel
theorem dJ6_bitCount_0f7a4_24 : decode cJ6_bitCount_0f7a4 24 = .ok (.iload_n 0, 1) := by decide +kernel
theorem dJ6_bitCount_0f7a4_25 : decode cJ6_bitCount_0f7a4 25 = .ok (.iload_n 0, 1) := by decide +kernel
theorem dJ6_bitCount_0f7a4_26 : decode cJ6_bitCount_0f7a4 26 = .ok (.iconst 4, 1) := by decide +kernel
theorem dJ6_bitCount_0f7a4_27 : decode cJ6_bitCount_0f7a4 27 = .ok (.iushr, 1) := by decide +kernel
theorem dJ6_bitCount_0f7a4_28 : decode cJ6_bitCount_0f7a4 28 = .ok (.iadd, 1) := by decide +kernel
theorem dJ6_bitCount_0f7a4_29 : decode cJ6_bitCount_0f7a4 29 = .ok (.ldc_w 267, 3) := by decide +kernel
theorem dJ6_bitCount_0f7a4_32 : decode cJ6_bitCount_0f7a4 32 = .ok (.iand, 1) := by decide +kernel
theorem dJ6_bitCount_0f7a4_33 : decode cJ6_bitCount_0f7a4 33 = .ok (.istore_n 0, 1) := by decide +kernel
theorem dJ6_bitCount_0f7a4_34 : decode cJ6_bitCount_0f7a4 34 = .ok (.iload_n 0, 1) := by decide +kernel
theorem dJ6_bitCount_0f7a4_35 : decode cJ6_bitCount_0f7a4 35 = .ok (.iload_n 0, 1) := by decide +kernel
theorem dJ6_bitCount_0f7a4_36 : decode cJ6_bitCount_0f7a4 36 = .ok (.bipush 8, 2) := by decide +kernel
theorem dJ6_bitCount_0f7a4_38 : decode cJ6_bitCount_0f7a4 38 = .ok (.iushr, 1) := by decide +kernel
theorem dJ6_bitCount_0f7a4_39 : decode cJ6_bitCount_0f7a4 39 = .ok (.iadd, 1) := by decide +kernel
theorem dJ6_bitCount_0f7a4_40 : decode cJ6_bitCount_0f7a4 40 = .ok (.istore_n 0, 1) := by decide +kernel
theorem dJ6_bitCount_0f7a4_41 : decode cJ6_bitCount_0f7a4 41 = .ok (.iload_n 0, 1) := by decide +kernel
theorem dJ6_bitCount_0f7a4_42 : decode cJ6_bitCount_0f7a4 42 = .ok (.iload_n 0, 1) := by decide +kernel
theorem dJ6_bitCount_0f7a4_43 : decode cJ6_bitCount_0f7a4 43 = .ok (.bipush 16, 2) := by decide +kernel
theorem dJ6_bitCount_0f7a4_45 : decode cJ6_bitCount_0f7a4 45 = .ok (.iushr, 1) := by decide +kernel
theorem dJ6_bitCount_0f7a4_46 : decode cJ6_bitCount_0f7a4 46 = .ok (.iadd, 1) := by decide +kernel
theorem dJ6_bitCount_0f7a4_47 : decode cJ6_bitCount_0f7a4 47 = .ok (.istore_n 0, 1) := by decide +kernel
theorem dJ6_bitCount_0f7a4_48 : decode cJ6_bitCount_0f7a4 48 = .ok (.iload_n 0, 1) := by decide +kernel
theorem dJ6_bitCount_0f7a4_49 : decode cJ6_bitCount_0f7a4 49 = .ok (.bipush 63, 2) := by decide +kernel
theorem dJ6_bitCount_0f7a4_51 : decode cJ6_bitCount_0f7a4 51 = .ok (.iand, 1) := by decide +kernel
theorem dJ6_bitCount_0f7a4_52 : decode cJ6_bitCount_0f7a4 52 = .ok (.ireturn, 1) := by decide +kernel
