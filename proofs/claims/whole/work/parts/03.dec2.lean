theorem dX6_write_26 : decode cX6_write 26 = .ok (.if_icmp .ne 6, 3) := by decide +kernel
theorem dX6_write_29 : decode cX6_write 29 = .ok (.bipush (-4), 2) := by decide +kernel
theorem dX6_write_31 : decode cX6_write 31 = .ok (.ireturn, 1) := by decide +kernel
theorem dX6_write_32 : decode cX6_write 32 = .ok (.aload_n 0, 1) := by decide +kernel
theorem dX6_write_33 : decode cX6_write 33 = .ok (.getfield 13, 3) := by decide +kernel
theorem dX6_write_36 : decode cX6_write 36 = .ok (.aload_n 0, 1) := by decide +kernel
theorem dX6_write_37 : decode cX6_write 37 = .ok (.getfield 67, 3) := by decide +kernel
theorem dX6_write_40 : decode cX6_write 40 = .ok (.iload_n 1, 1) := by decide +kernel
theorem dX6_write_41 : decode cX6_write 41 = .ok (.iastore, 1) := by decide +kernel
theorem dX6_write_42 : decode cX6_write 42 = .ok (.aload_n 0, 1) := by decide +kernel
theorem dX6_write_43 : decode cX6_write 43 = .ok (.dup, 1) := by decide +kernel
theorem dX6_write_44 : decode cX6_write 44 = .ok (.getfield 67, 3) := by decide +kernel
theorem dX6_write_47 : decode cX6_write 47 = .ok (.iconst 1, 1) := by decide +kernel
theorem dX6_write_48 : decode cX6_write 48 = .ok (.iadd, 1) := by decide +kernel
theorem dX6_write_49 : decode cX6_write 49 = .ok (.putfield 67, 3) := by decide +kernel
theorem dX6_write_52 : decode cX6_write 52 = .ok (.aload_n 0, 1) := by decide +kernel
theorem dX6_write_53 : decode cX6_write 53 = .ok (.getfield 67, 3) := by decide +kernel
theorem dX6_write_56 : decode cX6_write 56 = .ok (.ireturn, 1) := by decide +kernel
theorem dX6_wipe_0 : decode cX6_wipe 0 = .ok (.aload_n 0, 1) := by decide +kernel
theorem dX6_wipe_1 : decode cX6_wipe 1 = .ok (.iconst 0, 1) := by decide +kernel
theorem dX6_wipe_2 : decode cX6_wipe 2 = .ok (.putfield 1, 3) := by decide +kernel
theorem dX6_wipe_5 : decode cX6_wipe 5 = .ok (.aload_n 0, 1) := by decide +kernel
theorem dX6_wipe_6 : decode cX6_wipe 6 = .ok (.getfield 67, 3) := by decide +kernel
theorem dX6_wipe_9 : decode cX6_wipe 9 = .ok (.istore_n 1, 1) := by decide +kernel
theorem dX6_wipe_10 : decode cX6_wipe 10 = .ok (.aload_n 0, 1) := by decide +kernel
theorem dX6_wipe_11 : decode cX6_wipe 11 = .ok (.iconst 0, 1) := by decide +kernel
theorem dX6_wipe_12 : decode cX6_wipe 12 = .ok (.putfield 67, 3) := by decide +kernel
theorem dX6_wipe_15 : decode cX6_wipe 15 = .ok (.iload_n 1, 1) := by decide +kernel
theorem dX6_wipe_16 : decode cX6_wipe 16 = .ok (.ireturn, 1) := by decide +kernel
theorem dX6_figure_0 : decode cX6_figure 0 = .ok (.aload_n 0, 1) := by decide +kernel
theorem dX6_figure_1 : decode cX6_figure 1 = .ok (.getfield 70, 3) := by decide +kernel
theorem dX6_figure_4 : decode cX6_figure 4 = .ok (.aload_n 0, 1) := by decide +kernel
theorem dX6_figure_5 : decode cX6_figure 5 = .ok (.getfield 67, 3) := by decide +kernel
theorem dX6_figure_8 : decode cX6_figure 8 = .ok (.if_icmp .ge 18, 3) := by decide +kernel
theorem dX6_figure_11 : decode cX6_figure 11 = .ok (.aload_n 0, 1) := by decide +kernel
theorem dX6_figure_12 : decode cX6_figure 12 = .ok (.getfield 13, 3) := by decide +kernel
theorem dX6_figure_15 : decode cX6_figure 15 = .ok (.aload_n 0, 1) := by decide +kernel
theorem dX6_figure_16 : decode cX6_figure 16 = .ok (.getfield 70, 3) := by decide +kernel
theorem dX6_figure_19 : decode cX6_figure 19 = .ok (.iaload, 1) := by decide +kernel
theorem dX6_figure_20 : decode cX6_figure 20 = .ok (.bipush 48, 2) := by decide +kernel
theorem dX6_figure_22 : decode cX6_figure 22 = .ok (.isub, 1) := by decide +kernel
theorem dX6_figure_23 : decode cX6_figure 23 = .ok (.goto 5, 3) := by decide +kernel
theorem dX6_figure_26 : decode cX6_figure 26 = .ok (.bipush (-9), 2) := by decide +kernel
theorem dX6_figure_28 : decode cX6_figure 28 = .ok (.istore_n 3, 1) := by decide +kernel
theorem dX6_figure_29 : decode cX6_figure 29 = .ok (.iload_n 3, 1) := by decide +kernel
theorem dX6_figure_30 : decode cX6_figure 30 = .ok (.i2l, 1) := by decide +kernel
theorem dX6_figure_31 : decode cX6_figure 31 = .ok (.iload_n 1, 1) := by decide +kernel
theorem dX6_figure_32 : decode cX6_figure 32 = .ok (.i2l, 1) := by decide +kernel
theorem dX6_figure_33 : decode cX6_figure 33 = .ok (.iload_n 2, 1) := by decide +kernel
theorem dX6_figure_34 : decode cX6_figure 34 = .ok (.i2l, 1) := by decide +kernel
theorem dX6_figure_35 : decode cX6_figure 35 = .ok (.invokestatic 61, 3) := by decide +kernel
theorem dX6_figure_38 : decode cX6_figure 38 = .ok (.ifCond .ne 6, 3) := by decide +kernel
theorem dX6_figure_41 : decode cX6_figure 41 = .ok (.bipush (-9), 2) := by decide +kernel
theorem dX6_figure_43 : decode cX6_figure 43 = .ok (.ireturn, 1) := by decide +kernel
theorem dX6_figure_44 : decode cX6_figure 44 = .ok (.aload_n 0, 1) := by decide +kernel
theorem dX6_figure_45 : decode cX6_figure 45 = .ok (.dup, 1) := by decide +kernel
theorem dX6_figure_46 : decode cX6_figure 46 = .ok (.getfield 70, 3) := by decide +kernel
theorem dX6_figure_49 : decode cX6_figure 49 = .ok (.iconst 1, 1) := by decide +kernel
theorem dX6_figure_50 : decode cX6_figure 50 = .ok (.iadd, 1) := by decide +kernel
theorem dX6_figure_51 : decode cX6_figure 51 = .ok (.putfield 70, 3) := by decide +kernel
theorem dX6_figure_54 : decode cX6_figure 54 = .ok (.iload_n 3, 1) := by decide +kernel
theorem dX6_figure_55 : decode cX6_figure 55 = .ok (.ireturn, 1) := by decide +kernel
theorem dX6_sign_0 : decode cX6_sign 0 = .ok (.aload_n 0, 1) := by decide +kernel
theorem dX6_sign_1 : decode cX6_sign 1 = .ok (.getfield 70, 3) := by decide +kernel
theorem dX6_sign_4 : decode cX6_sign 4 = .ok (.aload_n 0, 1) := by decide +kernel
theorem dX6_sign_5 : decode cX6_sign 5 = .ok (.getfield 67, 3) := by decide +kernel
theorem dX6_sign_8 : decode cX6_sign 8 = .ok (.if_icmp .ge 15, 3) := by decide +kernel
theorem dX6_sign_11 : decode cX6_sign 11 = .ok (.aload_n 0, 1) := by decide +kernel
theorem dX6_sign_12 : decode cX6_sign 12 = .ok (.getfield 13, 3) := by decide +kernel
theorem dX6_sign_15 : decode cX6_sign 15 = .ok (.aload_n 0, 1) := by decide +kernel
theorem dX6_sign_16 : decode cX6_sign 16 = .ok (.getfield 70, 3) := by decide +kernel
theorem dX6_sign_19 : decode cX6_sign 19 = .ok (.iaload, 1) := by decide +kernel
theorem dX6_sign_20 : decode cX6_sign 20 = .ok (.goto 4, 3) := by decide +kernel
theorem dX6_sign_23 : decode cX6_sign 23 = .ok (.iconst 0, 1) := by decide +kernel
theorem dX6_sign_24 : decode cX6_sign 24 = .ok (.istore_n 2, 1) := by decide +kernel
theorem dX6_sign_25 : decode cX6_sign 25 = .ok (.iload_n 2, 1) := by decide +kernel
theorem dX6_sign_26 : decode cX6_sign 26 = .ok (.bipush 43, 2) := by decide +kernel
theorem dX6_sign_28 : decode cX6_sign 28 = .ok (.if_icmp .ne 7, 3) := by decide +kernel
theorem dX6_sign_31 : decode cX6_sign 31 = .ok (.iconst 1, 1) := by decide +kernel
theorem dX6_sign_32 : decode cX6_sign 32 = .ok (.goto 29, 3) := by decide +kernel
theorem dX6_sign_35 : decode cX6_sign 35 = .ok (.iload_n 2, 1) := by decide +kernel
theorem dX6_sign_36 : decode cX6_sign 36 = .ok (.bipush 45, 2) := by decide +kernel
theorem dX6_sign_38 : decode cX6_sign 38 = .ok (.if_icmp .ne 7, 3) := by decide +kernel
theorem dX6_sign_41 : decode cX6_sign 41 = .ok (.iconst 2, 1) := by decide +kernel
theorem dX6_sign_42 : decode cX6_sign 42 = .ok (.goto 19, 3) := by decide +kernel
theorem dX6_sign_45 : decode cX6_sign 45 = .ok (.iload_n 2, 1) := by decide +kernel
theorem dX6_sign_46 : decode cX6_sign 46 = .ok (.bipush 48, 2) := by decide +kernel
theorem dX6_sign_48 : decode cX6_sign 48 = .ok (.if_icmp .ne 11, 3) := by decide +kernel
theorem dX6_sign_51 : decode cX6_sign 51 = .ok (.iload_n 1, 1) := by decide +kernel
theorem dX6_sign_52 : decode cX6_sign 52 = .ok (.ifCond .eq 7, 3) := by decide +kernel
theorem dX6_sign_55 : decode cX6_sign 55 = .ok (.iconst 0, 1) := by decide +kernel
theorem dX6_sign_56 : decode cX6_sign 56 = .ok (.goto 5, 3) := by decide +kernel
theorem dX6_sign_59 : decode cX6_sign 59 = .ok (.bipush (-9), 2) := by decide +kernel
theorem dX6_sign_61 : decode cX6_sign 61 = .ok (.istore_n 3, 1) := by decide +kernel
theorem dX6_sign_62 : decode cX6_sign 62 = .ok (.aload_n 0, 1) := by decide +kernel
theorem dX6_sign_63 : decode cX6_sign 63 = .ok (.dup, 1) := by decide +kernel
theorem dX6_sign_64 : decode cX6_sign 64 = .ok (.getfield 70, 3) := by decide +kernel
theorem dX6_sign_67 : decode cX6_sign 67 = .ok (.iload_n 3, 1) := by decide +kernel
theorem dX6_sign_68 : decode cX6_sign 68 = .ok (.bipush (-9), 2) := by decide +kernel
theorem dX6_sign_70 : decode cX6_sign 70 = .ok (.if_icmp .ne 7, 3) := by decide +kernel
theorem dX6_sign_73 : decode cX6_sign 73 = .ok (.iconst 0, 1) := by decide +kernel
theorem dX6_sign_74 : decode cX6_sign 74 = .ok (.goto 4, 3) := by decide +kernel
theorem dX6_sign_77 : decode cX6_sign 77 = .ok (.iconst 1, 1) := by decide +kernel
theorem dX6_sign_78 : decode cX6_sign 78 = .ok (.iadd, 1) := by decide +kernel
theorem dX6_sign_79 : decode cX6_sign 79 = .ok (.putfield 70, 3) := by decide +kernel
theorem dX6_sign_82 : decode cX6_sign 82 = .ok (.iload_n 3, 1) := by decide +kernel
theorem dX6_sign_83 : decode cX6_sign 83 = .ok (.ireturn, 1) := by decide +kernel
theorem dX6_readHead_0 : decode cX6_readHead 0 = .ok (.aload_n 0, 1) := by decide +kernel
theorem dX6_readHead_1 : decode cX6_readHead 1 = .ok (.getfield 67, 3) := by decide +kernel
theorem dX6_readHead_4 : decode cX6_readHead 4 = .ok (.ifCond .eq 14, 3) := by decide +kernel
theorem dX6_readHead_7 : decode cX6_readHead 7 = .ok (.aload_n 0, 1) := by decide +kernel
theorem dX6_readHead_8 : decode cX6_readHead 8 = .ok (.getfield 13, 3) := by decide +kernel
theorem dX6_readHead_11 : decode cX6_readHead 11 = .ok (.iconst 0, 1) := by decide +kernel
theorem dX6_readHead_12 : decode cX6_readHead 12 = .ok (.iaload, 1) := by decide +kernel
theorem dX6_readHead_13 : decode cX6_readHead 13 = .ok (.bipush 66, 2) := by decide +kernel
theorem dX6_readHead_15 : decode cX6_readHead 15 = .ok (.if_icmp .eq 5, 3) := by decide +kernel
theorem dX6_readHead_18 : decode cX6_readHead 18 = .ok (.iconst 0, 1) := by decide +kernel
theorem dX6_readHead_19 : decode cX6_readHead 19 = .ok (.ireturn, 1) := by decide +kernel
theorem dX6_readHead_20 : decode cX6_readHead 20 = .ok (.aload_n 0, 1) := by decide +kernel
theorem dX6_readHead_21 : decode cX6_readHead 21 = .ok (.iconst 1, 1) := by decide +kernel
theorem dX6_readHead_22 : decode cX6_readHead 22 = .ok (.putfield 70, 3) := by decide +kernel
theorem dX6_readHead_25 : decode cX6_readHead 25 = .ok (.aload_n 0, 1) := by decide +kernel
theorem dX6_readHead_26 : decode cX6_readHead 26 = .ok (.aload_n 0, 1) := by decide +kernel
theorem dX6_readHead_27 : decode cX6_readHead 27 = .ok (.iconst 1, 1) := by decide +kernel
theorem dX6_readHead_28 : decode cX6_readHead 28 = .ok (.iconst 4, 1) := by decide +kernel
theorem dX6_readHead_29 : decode cX6_readHead 29 = .ok (.invokevirtual 73, 3) := by decide +kernel
theorem dX6_readHead_32 : decode cX6_readHead 32 = .ok (.putfield 77, 3) := by decide +kernel
theorem dX6_readHead_35 : decode cX6_readHead 35 = .ok (.aload_n 0, 1) := by decide +kernel
theorem dX6_readHead_36 : decode cX6_readHead 36 = .ok (.getfield 77, 3) := by decide +kernel
theorem dX6_readHead_39 : decode cX6_readHead 39 = .ok (.bipush (-9), 2) := by decide +kernel
theorem dX6_readHead_41 : decode cX6_readHead 41 = .ok (.if_icmp .ne 8, 3) := by decide +kernel
theorem dX6_readHead_44 : decode cX6_readHead 44 = .ok (.bipush (-9), 2) := by decide +kernel
theorem dX6_readHead_46 : decode cX6_readHead 46 = .ok (.goto 10, 3) := by decide +kernel
theorem dX6_readHead_49 : decode cX6_readHead 49 = .ok (.aload_n 0, 1) := by decide +kernel
theorem dX6_readHead_50 : decode cX6_readHead 50 = .ok (.iconst 0, 1) := by decide +kernel
theorem dX6_readHead_51 : decode cX6_readHead 51 = .ok (.bipush 9, 2) := by decide +kernel
theorem dX6_readHead_53 : decode cX6_readHead 53 = .ok (.invokevirtual 73, 3) := by decide +kernel
theorem dX6_readHead_56 : decode cX6_readHead 56 = .ok (.istore_n 1, 1) := by decide +kernel
theorem dX6_readHead_57 : decode cX6_readHead 57 = .ok (.iload_n 1, 1) := by decide +kernel
theorem dX6_readHead_58 : decode cX6_readHead 58 = .ok (.bipush (-9), 2) := by decide +kernel
theorem dX6_readHead_60 : decode cX6_readHead 60 = .ok (.if_icmp .ne 8, 3) := by decide +kernel
theorem dX6_readHead_63 : decode cX6_readHead 63 = .ok (.bipush (-9), 2) := by decide +kernel
theorem dX6_readHead_65 : decode cX6_readHead 65 = .ok (.goto 10, 3) := by decide +kernel
theorem dX6_readHead_68 : decode cX6_readHead 68 = .ok (.aload_n 0, 1) := by decide +kernel
theorem dX6_readHead_69 : decode cX6_readHead 69 = .ok (.iconst 0, 1) := by decide +kernel
theorem dX6_readHead_70 : decode cX6_readHead 70 = .ok (.bipush 9, 2) := by decide +kernel
theorem dX6_readHead_72 : decode cX6_readHead 72 = .ok (.invokevirtual 73, 3) := by decide +kernel
theorem dX6_readHead_75 : decode cX6_readHead 75 = .ok (.istore_n 2, 1) := by decide +kernel
theorem dX6_readHead_76 : decode cX6_readHead 76 = .ok (.aload_n 0, 1) := by decide +kernel
theorem dX6_readHead_77 : decode cX6_readHead 77 = .ok (.getfield 20, 3) := by decide +kernel
theorem dX6_readHead_80 : decode cX6_readHead 80 = .ok (.iconst 0, 1) := by decide +kernel
theorem dX6_readHead_81 : decode cX6_readHead 81 = .ok (.bipush 10, 2) := by decide +kernel
theorem dX6_readHead_83 : decode cX6_readHead 83 = .ok (.iload_n 1, 1) := by decide +kernel
theorem dX6_readHead_84 : decode cX6_readHead 84 = .ok (.imul, 1) := by decide +kernel
theorem dX6_readHead_85 : decode cX6_readHead 85 = .ok (.iload_n 2, 1) := by decide +kernel
theorem dX6_readHead_86 : decode cX6_readHead 86 = .ok (.iadd, 1) := by decide +kernel
theorem dX6_readHead_87 : decode cX6_readHead 87 = .ok (.iastore, 1) := by decide +kernel
theorem dX6_readHead_88 : decode cX6_readHead 88 = .ok (.iload_n 2, 1) := by decide +kernel
theorem dX6_readHead_89 : decode cX6_readHead 89 = .ok (.bipush (-9), 2) := by decide +kernel
theorem dX6_readHead_91 : decode cX6_readHead 91 = .ok (.if_icmp .eq 7, 3) := by decide +kernel
theorem dX6_readHead_94 : decode cX6_readHead 94 = .ok (.iconst 1, 1) := by decide +kernel
theorem dX6_readHead_95 : decode cX6_readHead 95 = .ok (.goto 4, 3) := by decide +kernel
theorem dX6_readHead_98 : decode cX6_readHead 98 = .ok (.iconst 0, 1) := by decide +kernel
theorem dX6_readHead_99 : decode cX6_readHead 99 = .ok (.ireturn, 1) := by decide +kernel
theorem dX6_readWeighing_0 : decode cX6_readWeighing 0 = .ok (.aload_n 0, 1) := by decide +kernel
theorem dX6_readWeighing_1 : decode cX6_readWeighing 1 = .ok (.getfield 13, 3) := by decide +kernel
theorem dX6_readWeighing_4 : decode cX6_readWeighing 4 = .ok (.aload_n 0, 1) := by decide +kernel
theorem dX6_readWeighing_5 : decode cX6_readWeighing 5 = .ok (.getfield 70, 3) := by decide +kernel
theorem dX6_readWeighing_8 : decode cX6_readWeighing 8 = .ok (.iaload, 1) := by decide +kernel
theorem dX6_readWeighing_9 : decode cX6_readWeighing 9 = .ok (.bipush 119, 2) := by decide +kernel
theorem dX6_readWeighing_11 : decode cX6_readWeighing 11 = .ok (.if_icmp .ne 14, 3) := by decide +kernel
theorem dX6_readWeighing_14 : decode cX6_readWeighing 14 = .ok (.aload_n 0, 1) := by decide +kernel
theorem dX6_readWeighing_15 : decode cX6_readWeighing 15 = .ok (.getfield 20, 3) := by decide +kernel
theorem dX6_readWeighing_18 : decode cX6_readWeighing 18 = .ok (.iconst 1, 1) := by decide +kernel
theorem dX6_readWeighing_19 : decode cX6_readWeighing 19 = .ok (.iaload, 1) := by decide +kernel
theorem dX6_readWeighing_20 : decode cX6_readWeighing 20 = .ok (.bipush 8, 2) := by decide +kernel
theorem dX6_readWeighing_22 : decode cX6_readWeighing 22 = .ok (.if_icmp .ne 5, 3) := by decide +kernel
theorem dX6_readWeighing_25 : decode cX6_readWeighing 25 = .ok (.iconst 0, 1) := by decide +kernel
theorem dX6_readWeighing_26 : decode cX6_readWeighing 26 = .ok (.ireturn, 1) := by decide +kernel
theorem dX6_readWeighing_27 : decode cX6_readWeighing 27 = .ok (.aload_n 0, 1) := by decide +kernel
theorem dX6_readWeighing_28 : decode cX6_readWeighing 28 = .ok (.dup, 1) := by decide +kernel
theorem dX6_readWeighing_29 : decode cX6_readWeighing 29 = .ok (.getfield 70, 3) := by decide +kernel
theorem dX6_readWeighing_32 : decode cX6_readWeighing 32 = .ok (.iconst 1, 1) := by decide +kernel
theorem dX6_readWeighing_33 : decode cX6_readWeighing 33 = .ok (.iadd, 1) := by decide +kernel
theorem dX6_readWeighing_34 : decode cX6_readWeighing 34 = .ok (.putfield 70, 3) := by decide +kernel
theorem dX6_readWeighing_37 : decode cX6_readWeighing 37 = .ok (.iconst 0, 1) := by decide +kernel
theorem dX6_readWeighing_38 : decode cX6_readWeighing 38 = .ok (.istore_n 1, 1) := by decide +kernel
theorem dX6_readWeighing_39 : decode cX6_readWeighing 39 = .ok (.iconst 0, 1) := by decide +kernel
theorem dX6_readWeighing_40 : decode cX6_readWeighing 40 = .ok (.istore_n 2, 1) := by decide +kernel
theorem dX6_readWeighing_41 : decode cX6_readWeighing 41 = .ok (.iload_n 2, 1) := by decide +kernel
theorem dX6_readWeighing_42 : decode cX6_readWeighing 42 = .ok (.aload_n 0, 1) := by decide +kernel
theorem dX6_readWeighing_43 : decode cX6_readWeighing 43 = .ok (.getfield 77, 3) := by decide +kernel
theorem dX6_readWeighing_46 : decode cX6_readWeighing 46 = .ok (.if_icmp .gt 30, 3) := by decide +kernel
theorem dX6_readWeighing_49 : decode cX6_readWeighing 49 = .ok (.aload_n 0, 1) := by decide +kernel
theorem dX6_readWeighing_50 : decode cX6_readWeighing 50 = .ok (.iconst 1, 1) := by decide +kernel
theorem dX6_readWeighing_51 : decode cX6_readWeighing 51 = .ok (.invokevirtual 80, 3) := by decide +kernel
theorem dX6_readWeighing_54 : decode cX6_readWeighing 54 = .ok (.istore_n 3, 1) := by decide +kernel
theorem dX6_readWeighing_55 : decode cX6_readWeighing 55 = .ok (.iload_n 3, 1) := by decide +kernel
theorem dX6_readWeighing_56 : decode cX6_readWeighing 56 = .ok (.bipush (-9), 2) := by decide +kernel
theorem dX6_readWeighing_58 : decode cX6_readWeighing 58 = .ok (.if_icmp .ne 5, 3) := by decide +kernel
theorem dX6_readWeighing_61 : decode cX6_readWeighing 61 = .ok (.iconst 0, 1) := by decide +kernel
theorem dX6_readWeighing_62 : decode cX6_readWeighing 62 = .ok (.ireturn, 1) := by decide +kernel
theorem dX6_readWeighing_63 : decode cX6_readWeighing 63 = .ok (.bipush 10, 2) := by decide +kernel
theorem dX6_readWeighing_65 : decode cX6_readWeighing 65 = .ok (.iload_n 1, 1) := by decide +kernel
theorem dX6_readWeighing_66 : decode cX6_readWeighing 66 = .ok (.imul, 1) := by decide +kernel
theorem dX6_readWeighing_67 : decode cX6_readWeighing 67 = .ok (.iload_n 3, 1) := by decide +kernel
theorem dX6_readWeighing_68 : decode cX6_readWeighing 68 = .ok (.iadd, 1) := by decide +kernel
theorem dX6_readWeighing_69 : decode cX6_readWeighing 69 = .ok (.istore_n 1, 1) := by decide +kernel
theorem dX6_readWeighing_70 : decode cX6_readWeighing 70 = .ok (.iinc 2 1, 3) := by decide +kernel
theorem dX6_readWeighing_73 : decode cX6_readWeighing 73 = .ok (.goto (-32), 3) := by decide +kernel
theorem dX6_readWeighing_76 : decode cX6_readWeighing 76 = .ok (.aload_n 0, 1) := by decide +kernel
theorem dX6_readWeighing_77 : decode cX6_readWeighing 77 = .ok (.iconst 0, 1) := by decide +kernel
theorem dX6_readWeighing_78 : decode cX6_readWeighing 78 = .ok (.invokevirtual 80, 3) := by decide +kernel
theorem dX6_readWeighing_81 : decode cX6_readWeighing 81 = .ok (.istore_n 2, 1) := by decide +kernel
theorem dX6_readWeighing_82 : decode cX6_readWeighing 82 = .ok (.iload_n 2, 1) := by decide +kernel
theorem dX6_readWeighing_83 : decode cX6_readWeighing 83 = .ok (.bipush (-9), 2) := by decide +kernel
theorem dX6_readWeighing_85 : decode cX6_readWeighing 85 = .ok (.if_icmp .ne 5, 3) := by decide +kernel
theorem dX6_readWeighing_88 : decode cX6_readWeighing 88 = .ok (.iconst 0, 1) := by decide +kernel
theorem dX6_readWeighing_89 : decode cX6_readWeighing 89 = .ok (.ireturn, 1) := by decide +kernel
theorem dX6_readWeighing_90 : decode cX6_readWeighing 90 = .ok (.iconst 0, 1) := by decide +kernel
theorem dX6_readWeighing_91 : decode cX6_readWeighing 91 = .ok (.istore_n 3, 1) := by decide +kernel
theorem dX6_readWeighing_92 : decode cX6_readWeighing 92 = .ok (.iconst 0, 1) := by decide +kernel
theorem dX6_readWeighing_93 : decode cX6_readWeighing 93 = .ok (.istore 4, 2) := by decide +kernel
theorem dX6_readWeighing_95 : decode cX6_readWeighing 95 = .ok (.iload 4, 2) := by decide +kernel
theorem dX6_readWeighing_97 : decode cX6_readWeighing 97 = .ok (.iconst 3, 1) := by decide +kernel
theorem dX6_readWeighing_98 : decode cX6_readWeighing 98 = .ok (.if_icmp .ge 35, 3) := by decide +kernel
theorem dX6_readWeighing_101 : decode cX6_readWeighing 101 = .ok (.aload_n 0, 1) := by decide +kernel
theorem dX6_readWeighing_102 : decode cX6_readWeighing 102 = .ok (.iconst 0, 1) := by decide +kernel
theorem dX6_readWeighing_103 : decode cX6_readWeighing 103 = .ok (.bipush 9, 2) := by decide +kernel
theorem dX6_readWeighing_105 : decode cX6_readWeighing 105 = .ok (.invokevirtual 73, 3) := by decide +kernel
theorem dX6_readWeighing_108 : decode cX6_readWeighing 108 = .ok (.istore 5, 2) := by decide +kernel
theorem dX6_readWeighing_110 : decode cX6_readWeighing 110 = .ok (.iload 5, 2) := by decide +kernel
theorem dX6_readWeighing_112 : decode cX6_readWeighing 112 = .ok (.bipush (-9), 2) := by decide +kernel
theorem dX6_readWeighing_114 : decode cX6_readWeighing 114 = .ok (.if_icmp .ne 5, 3) := by decide +kernel
theorem dX6_readWeighing_117 : decode cX6_readWeighing 117 = .ok (.iconst 0, 1) := by decide +kernel
theorem dX6_readWeighing_118 : decode cX6_readWeighing 118 = .ok (.ireturn, 1) := by decide +kernel
theorem dX6_readWeighing_119 : decode cX6_readWeighing 119 = .ok (.bipush 10, 2) := by decide +kernel
theorem dX6_readWeighing_121 : decode cX6_readWeighing 121 = .ok (.iload_n 3, 1) := by decide +kernel
theorem dX6_readWeighing_122 : decode cX6_readWeighing 122 = .ok (.imul, 1) := by decide +kernel
theorem dX6_readWeighing_123 : decode cX6_readWeighing 123 = .ok (.iload 5, 2) := by decide +kernel
theorem dX6_readWeighing_125 : decode cX6_readWeighing 125 = .ok (.iadd, 1) := by decide +kernel
theorem dX6_readWeighing_126 : decode cX6_readWeighing 126 = .ok (.istore_n 3, 1) := by decide +kernel
theorem dX6_readWeighing_127 : decode cX6_readWeighing 127 = .ok (.iinc 4 1, 3) := by decide +kernel
theorem dX6_readWeighing_130 : decode cX6_readWeighing 130 = .ok (.goto (-35), 3) := by decide +kernel
theorem dX6_readWeighing_133 : decode cX6_readWeighing 133 = .ok (.aload_n 0, 1) := by decide +kernel
theorem dX6_readWeighing_134 : decode cX6_readWeighing 134 = .ok (.getfield 20, 3) := by decide +kernel
theorem dX6_readWeighing_137 : decode cX6_readWeighing 137 = .ok (.iconst 2, 1) := by decide +kernel
theorem dX6_readWeighing_138 : decode cX6_readWeighing 138 = .ok (.aload_n 0, 1) := by decide +kernel
theorem dX6_readWeighing_139 : decode cX6_readWeighing 139 = .ok (.getfield 20, 3) := by decide +kernel
theorem dX6_readWeighing_142 : decode cX6_readWeighing 142 = .ok (.iconst 1, 1) := by decide +kernel
theorem dX6_readWeighing_143 : decode cX6_readWeighing 143 = .ok (.iaload, 1) := by decide +kernel
theorem dX6_readWeighing_144 : decode cX6_readWeighing 144 = .ok (.iadd, 1) := by decide +kernel
theorem dX6_readWeighing_145 : decode cX6_readWeighing 145 = .ok (.iload_n 1, 1) := by decide +kernel
theorem dX6_readWeighing_146 : decode cX6_readWeighing 146 = .ok (.iastore, 1) := by decide +kernel
theorem dX6_readWeighing_147 : decode cX6_readWeighing 147 = .ok (.aload_n 0, 1) := by decide +kernel
theorem dX6_readWeighing_148 : decode cX6_readWeighing 148 = .ok (.getfield 20, 3) := by decide +kernel
theorem dX6_readWeighing_151 : decode cX6_readWeighing 151 = .ok (.bipush 10, 2) := by decide +kernel
theorem dX6_readWeighing_153 : decode cX6_readWeighing 153 = .ok (.aload_n 0, 1) := by decide +kernel
theorem dX6_readWeighing_154 : decode cX6_readWeighing 154 = .ok (.getfield 20, 3) := by decide +kernel
theorem dX6_readWeighing_157 : decode cX6_readWeighing 157 = .ok (.iconst 1, 1) := by decide +kernel
theorem dX6_readWeighing_158 : decode cX6_readWeighing 158 = .ok (.iaload, 1) := by decide +kernel
theorem dX6_readWeighing_159 : decode cX6_readWeighing 159 = .ok (.iadd, 1) := by decide +kernel
theorem dX6_readWeighing_160 : decode cX6_readWeighing 160 = .ok (.iload_n 2, 1) := by decide +kernel
theorem dX6_readWeighing_161 : decode cX6_readWeighing 161 = .ok (.iconst 1, 1) := by decide +kernel
theorem dX6_readWeighing_162 : decode cX6_readWeighing 162 = .ok (.if_icmp .ne 7, 3) := by decide +kernel
theorem dX6_readWeighing_165 : decode cX6_readWeighing 165 = .ok (.iload_n 3, 1) := by decide +kernel
theorem dX6_readWeighing_166 : decode cX6_readWeighing 166 = .ok (.goto 5, 3) := by decide +kernel
theorem dX6_readWeighing_169 : decode cX6_readWeighing 169 = .ok (.iload_n 3, 1) := by decide +kernel
theorem dX6_readWeighing_170 : decode cX6_readWeighing 170 = .ok (.ineg, 1) := by decide +kernel
theorem dX6_readWeighing_171 : decode cX6_readWeighing 171 = .ok (.iastore, 1) := by decide +kernel
theorem dX6_readWeighing_172 : decode cX6_readWeighing 172 = .ok (.aload_n 0, 1) := by decide +kernel
theorem dX6_readWeighing_173 : decode cX6_readWeighing 173 = .ok (.getfield 20, 3) := by decide +kernel
theorem dX6_readWeighing_176 : decode cX6_readWeighing 176 = .ok (.iconst 1, 1) := by decide +kernel
theorem dX6_readWeighing_177 : decode cX6_readWeighing 177 = .ok (.dup2, 1) := by decide +kernel
theorem dX6_readWeighing_178 : decode cX6_readWeighing 178 = .ok (.iaload, 1) := by decide +kernel
theorem dX6_readWeighing_179 : decode cX6_readWeighing 179 = .ok (.iconst 1, 1) := by decide +kernel
theorem dX6_readWeighing_180 : decode cX6_readWeighing 180 = .ok (.iadd, 1) := by decide +kernel
theorem dX6_readWeighing_181 : decode cX6_readWeighing 181 = .ok (.iastore, 1) := by decide +kernel
theorem dX6_readWeighing_182 : decode cX6_readWeighing 182 = .ok (.iconst 1, 1) := by decide +kernel
theorem dX6_readWeighing_183 : decode cX6_readWeighing 183 = .ok (.ireturn, 1) := by decide +kernel
theorem dX6_readRoom_0 : decode cX6_readRoom 0 = .ok (.aload_n 0, 1) := by decide +kernel
theorem dX6_readRoom_1 : decode cX6_readRoom 1 = .ok (.iconst 0, 1) := by decide +kernel
theorem dX6_readRoom_2 : decode cX6_readRoom 2 = .ok (.putfield 70, 3) := by decide +kernel
theorem dX6_readRoom_5 : decode cX6_readRoom 5 = .ok (.iconst 0, 1) := by decide +kernel
theorem dX6_readRoom_6 : decode cX6_readRoom 6 = .ok (.istore_n 1, 1) := by decide +kernel
theorem dX6_readRoom_7 : decode cX6_readRoom 7 = .ok (.iload_n 1, 1) := by decide +kernel
theorem dX6_readRoom_8 : decode cX6_readRoom 8 = .ok (.bipush 18, 2) := by decide +kernel
theorem dX6_readRoom_10 : decode cX6_readRoom 10 = .ok (.if_icmp .ge 16, 3) := by decide +kernel
theorem dX6_readRoom_13 : decode cX6_readRoom 13 = .ok (.aload_n 0, 1) := by decide +kernel
theorem dX6_readRoom_14 : decode cX6_readRoom 14 = .ok (.getfield 20, 3) := by decide +kernel
theorem dX6_readRoom_17 : decode cX6_readRoom 17 = .ok (.iload_n 1, 1) := by decide +kernel
theorem dX6_readRoom_18 : decode cX6_readRoom 18 = .ok (.iconst 0, 1) := by decide +kernel
theorem dX6_readRoom_19 : decode cX6_readRoom 19 = .ok (.iastore, 1) := by decide +kernel
theorem dX6_readRoom_20 : decode cX6_readRoom 20 = .ok (.iinc 1 1, 3) := by decide +kernel
theorem dX6_readRoom_23 : decode cX6_readRoom 23 = .ok (.goto (-16), 3) := by decide +kernel
theorem dX6_readRoom_26 : decode cX6_readRoom 26 = .ok (.aload_n 0, 1) := by decide +kernel
theorem dX6_readRoom_27 : decode cX6_readRoom 27 = .ok (.invokevirtual 84, 3) := by decide +kernel
theorem dX6_readRoom_30 : decode cX6_readRoom 30 = .ok (.ifCond .ne 8, 3) := by decide +kernel
theorem dX6_readRoom_33 : decode cX6_readRoom 33 = .ok (.aload_n 0, 1) := by decide +kernel
theorem dX6_readRoom_34 : decode cX6_readRoom 34 = .ok (.getfield 70, 3) := by decide +kernel
theorem dX6_readRoom_37 : decode cX6_readRoom 37 = .ok (.ireturn, 1) := by decide +kernel
theorem dX6_readRoom_38 : decode cX6_readRoom 38 = .ok (.aload_n 0, 1) := by decide +kernel
theorem dX6_readRoom_39 : decode cX6_readRoom 39 = .ok (.getfield 70, 3) := by decide +kernel
theorem dX6_readRoom_42 : decode cX6_readRoom 42 = .ok (.aload_n 0, 1) := by decide +kernel
theorem dX6_readRoom_43 : decode cX6_readRoom 43 = .ok (.getfield 67, 3) := by decide +kernel
theorem dX6_readRoom_46 : decode cX6_readRoom 46 = .ok (.if_icmp .ge 15, 3) := by decide +kernel
theorem dX6_readRoom_49 : decode cX6_readRoom 49 = .ok (.aload_n 0, 1) := by decide +kernel
theorem dX6_readRoom_50 : decode cX6_readRoom 50 = .ok (.invokevirtual 88, 3) := by decide +kernel
theorem dX6_readRoom_53 : decode cX6_readRoom 53 = .ok (.ifCond .ne (-15), 3) := by decide +kernel
theorem dX6_readRoom_56 : decode cX6_readRoom 56 = .ok (.aload_n 0, 1) := by decide +kernel
theorem dX6_readRoom_57 : decode cX6_readRoom 57 = .ok (.getfield 70, 3) := by decide +kernel
theorem dX6_readRoom_60 : decode cX6_readRoom 60 = .ok (.ireturn, 1) := by decide +kernel
theorem dX6_readRoom_61 : decode cX6_readRoom 61 = .ok (.bipush (-9), 2) := by decide +kernel
theorem dX6_readRoom_63 : decode cX6_readRoom 63 = .ok (.ireturn, 1) := by decide +kernel
theorem dX6_fault_0 : decode cX6_fault 0 = .ok (.aload_n 0, 1) := by decide +kernel
theorem dX6_fault_1 : decode cX6_fault 1 = .ok (.iconst 0, 1) := by decide +kernel
theorem dX6_fault_2 : decode cX6_fault 2 = .ok (.putfield 1, 3) := by decide +kernel
theorem dX6_fault_5 : decode cX6_fault 5 = .ok (.aload_n 0, 1) := by decide +kernel
theorem dX6_fault_6 : decode cX6_fault 6 = .ok (.invokevirtual 91, 3) := by decide +kernel
theorem dX6_fault_9 : decode cX6_fault 9 = .ok (.ireturn, 1) := by decide +kernel
theorem dX6_room_0 : decode cX6_room 0 = .ok (.aload_n 0, 1) := by decide +kernel
theorem dX6_room_1 : decode cX6_room 1 = .ok (.iconst 0, 1) := by decide +kernel
theorem dX6_room_2 : decode cX6_room 2 = .ok (.putfield 1, 3) := by decide +kernel
theorem dX6_room_5 : decode cX6_room 5 = .ok (.aload_n 0, 1) := by decide +kernel
theorem dX6_room_6 : decode cX6_room 6 = .ok (.invokevirtual 91, 3) := by decide +kernel
theorem dX6_room_9 : decode cX6_room 9 = .ok (.bipush (-9), 2) := by decide +kernel
theorem dX6_room_11 : decode cX6_room 11 = .ok (.if_icmp .eq 6, 3) := by decide +kernel
theorem dX6_room_14 : decode cX6_room 14 = .ok (.bipush (-3), 2) := by decide +kernel
theorem dX6_room_16 : decode cX6_room 16 = .ok (.ireturn, 1) := by decide +kernel
theorem dX6_room_17 : decode cX6_room 17 = .ok (.aload_n 0, 1) := by decide +kernel
theorem dX6_room_18 : decode cX6_room 18 = .ok (.aload_n 0, 1) := by decide +kernel
theorem dX6_room_19 : decode cX6_room 19 = .ok (.getfield 77, 3) := by decide +kernel
theorem dX6_room_22 : decode cX6_room 22 = .ok (.putfield 17, 3) := by decide +kernel
theorem dX6_room_25 : decode cX6_room 25 = .ok (.aload_n 0, 1) := by decide +kernel
theorem dX6_room_26 : decode cX6_room 26 = .ok (.getfield 20, 3) := by decide +kernel
theorem dX6_room_29 : decode cX6_room 29 = .ok (.aload_n 0, 1) := by decide +kernel
theorem dX6_room_30 : decode cX6_room 30 = .ok (.getfield 23, 3) := by decide +kernel
theorem dX6_room_33 : decode cX6_room 33 = .ok (.invokestatic 95, 3) := by decide +kernel
theorem dX6_room_36 : decode cX6_room 36 = .ok (.aload_n 0, 1) := by decide +kernel
theorem dX6_room_37 : decode cX6_room 37 = .ok (.iconst 0, 1) := by decide +kernel
theorem dX6_room_38 : decode cX6_room 38 = .ok (.putfield 99, 3) := by decide +kernel
theorem dX6_room_41 : decode cX6_room 41 = .ok (.aload_n 0, 1) := by decide +kernel
theorem dX6_room_42 : decode cX6_room 42 = .ok (.getfield 38, 3) := by decide +kernel
theorem dX6_room_45 : decode cX6_room 45 = .ok (.iconst 0, 1) := by decide +kernel
theorem dX6_room_46 : decode cX6_room 46 = .ok (.iconst 0, 1) := by decide +kernel
theorem dX6_room_47 : decode cX6_room 47 = .ok (.bastore, 1) := by decide +kernel
theorem dX6_room_48 : decode cX6_room 48 = .ok (.aload_n 0, 1) := by decide +kernel
theorem dX6_room_49 : decode cX6_room 49 = .ok (.getfield 38, 3) := by decide +kernel
theorem dX6_room_52 : decode cX6_room 52 = .ok (.iconst 1, 1) := by decide +kernel
theorem dX6_room_53 : decode cX6_room 53 = .ok (.iconst 0, 1) := by decide +kernel
theorem dX6_room_54 : decode cX6_room 54 = .ok (.bastore, 1) := by decide +kernel
theorem dX6_room_55 : decode cX6_room 55 = .ok (.aload_n 0, 1) := by decide +kernel
theorem dX6_room_56 : decode cX6_room 56 = .ok (.getfield 23, 3) := by decide +kernel
theorem dX6_room_59 : decode cX6_room 59 = .ok (.iconst 1, 1) := by decide +kernel
theorem dX6_room_60 : decode cX6_room 60 = .ok (.iaload, 1) := by decide +kernel
theorem dX6_room_61 : decode cX6_room 61 = .ok (.ireturn, 1) := by decide +kernel
theorem dX6_code_0 : decode cX6_code 0 = .ok (.aload_n 0, 1) := by decide +kernel
theorem dX6_code_1 : decode cX6_code 1 = .ok (.iconst 0, 1) := by decide +kernel
theorem dX6_code_2 : decode cX6_code 2 = .ok (.putfield 1, 3) := by decide +kernel
theorem dX6_code_5 : decode cX6_code 5 = .ok (.aload_n 0, 1) := by decide +kernel
theorem dX6_code_6 : decode cX6_code 6 = .ok (.iload_n 1, 1) := by decide +kernel
theorem dX6_code_7 : decode cX6_code 7 = .ok (.invokevirtual 102, 3) := by decide +kernel
theorem dX6_code_10 : decode cX6_code 10 = .ok (.ifCond .eq 7, 3) := by decide +kernel
theorem dX6_code_13 : decode cX6_code 13 = .ok (.iconst (-1), 1) := by decide +kernel
theorem dX6_code_14 : decode cX6_code 14 = .ok (.goto 11, 3) := by decide +kernel
theorem dX6_code_17 : decode cX6_code 17 = .ok (.aload_n 0, 1) := by decide +kernel
theorem dX6_code_18 : decode cX6_code 18 = .ok (.getfield 23, 3) := by decide +kernel
theorem dX6_code_21 : decode cX6_code 21 = .ok (.iconst 2, 1) := by decide +kernel
theorem dX6_code_22 : decode cX6_code 22 = .ok (.iload_n 1, 1) := by decide +kernel
theorem dX6_code_23 : decode cX6_code 23 = .ok (.iadd, 1) := by decide +kernel
theorem dX6_code_24 : decode cX6_code 24 = .ok (.iaload, 1) := by decide +kernel
theorem dX6_code_25 : decode cX6_code 25 = .ok (.ireturn, 1) := by decide +kernel
theorem dX6_reading_0 : decode cX6_reading 0 = .ok (.aload_n 0, 1) := by decide +kernel
theorem dX6_reading_1 : decode cX6_reading 1 = .ok (.iconst 0, 1) := by decide +kernel
theorem dX6_reading_2 : decode cX6_reading 2 = .ok (.putfield 1, 3) := by decide +kernel
theorem dX6_reading_5 : decode cX6_reading 5 = .ok (.aload_n 0, 1) := by decide +kernel
theorem dX6_reading_6 : decode cX6_reading 6 = .ok (.iload_n 1, 1) := by decide +kernel
theorem dX6_reading_7 : decode cX6_reading 7 = .ok (.invokevirtual 102, 3) := by decide +kernel
theorem dX6_reading_10 : decode cX6_reading 10 = .ok (.ifCond .eq 7, 3) := by decide +kernel
theorem dX6_reading_13 : decode cX6_reading 13 = .ok (.iconst (-1), 1) := by decide +kernel
theorem dX6_reading_14 : decode cX6_reading 14 = .ok (.goto 16, 3) := by decide +kernel
theorem dX6_reading_17 : decode cX6_reading 17 = .ok (.aload_n 0, 1) := by decide +kernel
theorem dX6_reading_18 : decode cX6_reading 18 = .ok (.getfield 23, 3) := by decide +kernel
theorem dX6_reading_21 : decode cX6_reading 21 = .ok (.bipush 10, 2) := by decide +kernel
theorem dX6_reading_23 : decode cX6_reading 23 = .ok (.iload_n 1, 1) := by decide +kernel
theorem dX6_reading_24 : decode cX6_reading 24 = .ok (.iadd, 1) := by decide +kernel
theorem dX6_reading_25 : decode cX6_reading 25 = .ok (.iaload, 1) := by decide +kernel
theorem dX6_reading_26 : decode cX6_reading 26 = .ok (.sipush 1000, 3) := by decide +kernel
theorem dX6_reading_29 : decode cX6_reading 29 = .ok (.iadd, 1) := by decide +kernel
theorem dX6_reading_30 : decode cX6_reading 30 = .ok (.ireturn, 1) := by decide +kernel
theorem dX6_note_0 : decode cX6_note 0 = .ok (.aload_n 0, 1) := by decide +kernel
theorem dX6_note_1 : decode cX6_note 1 = .ok (.getfield 99, 3) := by decide +kernel
theorem dX6_note_4 : decode cX6_note 4 = .ok (.bipush 14, 2) := by decide +kernel
theorem dX6_note_6 : decode cX6_note 6 = .ok (.if_icmp .ne 43, 3) := by decide +kernel
theorem dX6_note_9 : decode cX6_note 9 = .ok (.iconst 0, 1) := by decide +kernel
theorem dX6_note_10 : decode cX6_note 10 = .ok (.istore_n 1, 1) := by decide +kernel
theorem dX6_note_11 : decode cX6_note 11 = .ok (.iload_n 1, 1) := by decide +kernel
theorem dX6_note_12 : decode cX6_note 12 = .ok (.sipush 234, 3) := by decide +kernel
theorem dX6_note_15 : decode cX6_note 15 = .ok (.if_icmp .ge 24, 3) := by decide +kernel
theorem dX6_note_18 : decode cX6_note 18 = .ok (.aload_n 0, 1) := by decide +kernel
theorem dX6_note_19 : decode cX6_note 19 = .ok (.getfield 32, 3) := by decide +kernel
theorem dX6_note_22 : decode cX6_note 22 = .ok (.iload_n 1, 1) := by decide +kernel
theorem dX6_note_23 : decode cX6_note 23 = .ok (.aload_n 0, 1) := by decide +kernel
theorem dX6_note_24 : decode cX6_note 24 = .ok (.getfield 32, 3) := by decide +kernel
theorem dX6_note_27 : decode cX6_note 27 = .ok (.iload_n 1, 1) := by decide +kernel
theorem dX6_note_28 : decode cX6_note 28 = .ok (.bipush 18, 2) := by decide +kernel
theorem dX6_note_30 : decode cX6_note 30 = .ok (.iadd, 1) := by decide +kernel
theorem dX6_note_31 : decode cX6_note 31 = .ok (.iaload, 1) := by decide +kernel
theorem dX6_note_32 : decode cX6_note 32 = .ok (.iastore, 1) := by decide +kernel
theorem dX6_note_33 : decode cX6_note 33 = .ok (.iinc 1 1, 3) := by decide +kernel
theorem dX6_note_36 : decode cX6_note 36 = .ok (.goto (-25), 3) := by decide +kernel
theorem dX6_note_39 : decode cX6_note 39 = .ok (.aload_n 0, 1) := by decide +kernel
theorem dX6_note_40 : decode cX6_note 40 = .ok (.dup, 1) := by decide +kernel
theorem dX6_note_41 : decode cX6_note 41 = .ok (.getfield 99, 3) := by decide +kernel
theorem dX6_note_44 : decode cX6_note 44 = .ok (.iconst 1, 1) := by decide +kernel
theorem dX6_note_45 : decode cX6_note 45 = .ok (.isub, 1) := by decide +kernel
theorem dX6_note_46 : decode cX6_note 46 = .ok (.putfield 99, 3) := by decide +kernel
theorem dX6_note_49 : decode cX6_note 49 = .ok (.iconst 0, 1) := by decide +kernel
theorem dX6_note_50 : decode cX6_note 50 = .ok (.istore_n 1, 1) := by decide +kernel
theorem dX6_note_51 : decode cX6_note 51 = .ok (.iload_n 1, 1) := by decide +kernel
theorem dX6_note_52 : decode cX6_note 52 = .ok (.bipush 18, 2) := by decide +kernel
theorem dX6_note_54 : decode cX6_note 54 = .ok (.if_icmp .ge 29, 3) := by decide +kernel
theorem dX6_note_57 : decode cX6_note 57 = .ok (.aload_n 0, 1) := by decide +kernel
theorem dX6_note_58 : decode cX6_note 58 = .ok (.getfield 32, 3) := by decide +kernel
theorem dX6_note_61 : decode cX6_note 61 = .ok (.bipush 18, 2) := by decide +kernel
theorem dX6_note_63 : decode cX6_note 63 = .ok (.aload_n 0, 1) := by decide +kernel
theorem dX6_note_64 : decode cX6_note 64 = .ok (.getfield 99, 3) := by decide +kernel
theorem dX6_note_67 : decode cX6_note 67 = .ok (.imul, 1) := by decide +kernel
theorem dX6_note_68 : decode cX6_note 68 = .ok (.iload_n 1, 1) := by decide +kernel
theorem dX6_note_69 : decode cX6_note 69 = .ok (.iadd, 1) := by decide +kernel
theorem dX6_note_70 : decode cX6_note 70 = .ok (.aload_n 0, 1) := by decide +kernel
theorem dX6_note_71 : decode cX6_note 71 = .ok (.getfield 23, 3) := by decide +kernel
theorem dX6_note_74 : decode cX6_note 74 = .ok (.iload_n 1, 1) := by decide +kernel
theorem dX6_note_75 : decode cX6_note 75 = .ok (.iaload, 1) := by decide +kernel
theorem dX6_note_76 : decode cX6_note 76 = .ok (.iastore, 1) := by decide +kernel
theorem dX6_note_77 : decode cX6_note 77 = .ok (.iinc 1 1, 3) := by decide +kernel
theorem dX6_note_80 : decode cX6_note 80 = .ok (.goto (-29), 3) := by decide +kernel
theorem dX6_note_83 : decode cX6_note 83 = .ok (.aload_n 0, 1) := by decide +kernel
theorem dX6_note_84 : decode cX6_note 84 = .ok (.dup, 1) := by decide +kernel
theorem dX6_note_85 : decode cX6_note 85 = .ok (.getfield 99, 3) := by decide +kernel
theorem dX6_note_88 : decode cX6_note 88 = .ok (.iconst 1, 1) := by decide +kernel
theorem dX6_note_89 : decode cX6_note 89 = .ok (.iadd, 1) := by decide +kernel
theorem dX6_note_90 : decode cX6_note 90 = .ok (.putfield 99, 3) := by decide +kernel
theorem dX6_note_93 : decode cX6_note 93 = .ok (.return_, 1) := by decide +kernel
theorem dX6_isCode_0 : decode cX6_isCode 0 = .ok (.iload_n 1, 1) := by decide +kernel
theorem dX6_isCode_1 : decode cX6_isCode 1 = .ok (.i2l, 1) := by decide +kernel
theorem dX6_isCode_2 : decode cX6_isCode 2 = .ok (.lconst 0, 1) := by decide +kernel
theorem dX6_isCode_3 : decode cX6_isCode 3 = .ok (.bipush 10, 2) := by decide +kernel
theorem dX6_isCode_5 : decode cX6_isCode 5 = .ok (.aload_n 0, 1) := by decide +kernel
theorem dX6_isCode_6 : decode cX6_isCode 6 = .ok (.getfield 17, 3) := by decide +kernel
theorem dX6_isCode_9 : decode cX6_isCode 9 = .ok (.iconst 1, 1) := by decide +kernel
theorem dX6_isCode_10 : decode cX6_isCode 10 = .ok (.iadd, 1) := by decide +kernel
theorem dX6_isCode_11 : decode cX6_isCode 11 = .ok (.invokestatic 106, 3) := by decide +kernel
theorem dX6_isCode_14 : decode cX6_isCode 14 = .ok (.iconst 1, 1) := by decide +kernel
theorem dX6_isCode_15 : decode cX6_isCode 15 = .ok (.isub, 1) := by decide +kernel
theorem dX6_isCode_16 : decode cX6_isCode 16 = .ok (.i2l, 1) := by decide +kernel
theorem dX6_isCode_17 : decode cX6_isCode 17 = .ok (.invokestatic 61, 3) := by decide +kernel
theorem dX6_isCode_20 : decode cX6_isCode 20 = .ok (.istore_n 2, 1) := by decide +kernel
theorem dX6_isCode_21 : decode cX6_isCode 21 = .ok (.iconst 0, 1) := by decide +kernel
theorem dX6_isCode_22 : decode cX6_isCode 22 = .ok (.istore_n 3, 1) := by decide +kernel
theorem dX6_isCode_23 : decode cX6_isCode 23 = .ok (.iload_n 3, 1) := by decide +kernel
theorem dX6_isCode_24 : decode cX6_isCode 24 = .ok (.aload_n 0, 1) := by decide +kernel
theorem dX6_isCode_25 : decode cX6_isCode 25 = .ok (.getfield 17, 3) := by decide +kernel
theorem dX6_isCode_28 : decode cX6_isCode 28 = .ok (.if_icmp .gt 34, 3) := by decide +kernel
theorem dX6_isCode_31 : decode cX6_isCode 31 = .ok (.iload_n 2, 1) := by decide +kernel
theorem dX6_isCode_32 : decode cX6_isCode 32 = .ok (.ifCond .eq 30, 3) := by decide +kernel
theorem dX6_isCode_35 : decode cX6_isCode 35 = .ok (.iload_n 1, 1) := by decide +kernel
theorem dX6_isCode_36 : decode cX6_isCode 36 = .ok (.bipush 10, 2) := by decide +kernel
theorem dX6_isCode_38 : decode cX6_isCode 38 = .ok (.iload_n 3, 1) := by decide +kernel
theorem dX6_isCode_39 : decode cX6_isCode 39 = .ok (.invokestatic 106, 3) := by decide +kernel
theorem dX6_isCode_42 : decode cX6_isCode 42 = .ok (.idiv, 1) := by decide +kernel
theorem dX6_isCode_43 : decode cX6_isCode 43 = .ok (.bipush 10, 2) := by decide +kernel
theorem dX6_isCode_45 : decode cX6_isCode 45 = .ok (.irem, 1) := by decide +kernel
theorem dX6_isCode_46 : decode cX6_isCode 46 = .ok (.iconst 3, 1) := by decide +kernel
theorem dX6_isCode_47 : decode cX6_isCode 47 = .ok (.if_icmp .ge 7, 3) := by decide +kernel
theorem dX6_isCode_50 : decode cX6_isCode 50 = .ok (.iconst 1, 1) := by decide +kernel
theorem dX6_isCode_51 : decode cX6_isCode 51 = .ok (.goto 4, 3) := by decide +kernel
theorem dX6_isCode_54 : decode cX6_isCode 54 = .ok (.iconst 0, 1) := by decide +kernel
theorem dX6_isCode_55 : decode cX6_isCode 55 = .ok (.istore_n 2, 1) := by decide +kernel
theorem dX6_isCode_56 : decode cX6_isCode 56 = .ok (.iinc 3 1, 3) := by decide +kernel
theorem dX6_isCode_59 : decode cX6_isCode 59 = .ok (.goto (-36), 3) := by decide +kernel
theorem dX6_isCode_62 : decode cX6_isCode 62 = .ok (.iload_n 2, 1) := by decide +kernel
theorem dX6_isCode_63 : decode cX6_isCode 63 = .ok (.ireturn, 1) := by decide +kernel
theorem dX6_weigh_0 : decode cX6_weigh 0 = .ok (.aload_n 0, 1) := by decide +kernel
theorem dX6_weigh_1 : decode cX6_weigh 1 = .ok (.iconst 0, 1) := by decide +kernel
theorem dX6_weigh_2 : decode cX6_weigh 2 = .ok (.putfield 1, 3) := by decide +kernel
theorem dX6_weigh_5 : decode cX6_weigh 5 = .ok (.aload_n 0, 1) := by decide +kernel
theorem dX6_weigh_6 : decode cX6_weigh 6 = .ok (.iload_n 1, 1) := by decide +kernel
theorem dX6_weigh_7 : decode cX6_weigh 7 = .ok (.invokevirtual 109, 3) := by decide +kernel
theorem dX6_weigh_10 : decode cX6_weigh 10 = .ok (.ifCond .eq 17, 3) := by decide +kernel
theorem dX6_weigh_13 : decode cX6_weigh 13 = .ok (.iload_n 2, 1) := by decide +kernel
theorem dX6_weigh_14 : decode cX6_weigh 14 = .ok (.i2l, 1) := by decide +kernel
theorem dX6_weigh_15 : decode cX6_weigh 15 = .ok (.ldc2_w 112, 3) := by decide +kernel
theorem dX6_weigh_18 : decode cX6_weigh 18 = .ok (.ldc2_w 114, 3) := by decide +kernel
theorem dX6_weigh_21 : decode cX6_weigh 21 = .ok (.invokestatic 61, 3) := by decide +kernel
theorem dX6_weigh_24 : decode cX6_weigh 24 = .ok (.ifCond .ne 6, 3) := by decide +kernel
theorem dX6_weigh_27 : decode cX6_weigh 27 = .ok (.bipush (-2), 2) := by decide +kernel
theorem dX6_weigh_29 : decode cX6_weigh 29 = .ok (.ireturn, 1) := by decide +kernel
theorem dX6_weigh_30 : decode cX6_weigh 30 = .ok (.aload_n 0, 1) := by decide +kernel
theorem dX6_weigh_31 : decode cX6_weigh 31 = .ok (.getfield 23, 3) := by decide +kernel
theorem dX6_weigh_34 : decode cX6_weigh 34 = .ok (.iconst 1, 1) := by decide +kernel
theorem dX6_weigh_35 : decode cX6_weigh 35 = .ok (.iaload, 1) := by decide +kernel
theorem dX6_weigh_36 : decode cX6_weigh 36 = .ok (.bipush 8, 2) := by decide +kernel
theorem dX6_weigh_38 : decode cX6_weigh 38 = .ok (.if_icmp .ne 6, 3) := by decide +kernel
theorem dX6_weigh_41 : decode cX6_weigh 41 = .ok (.bipush (-4), 2) := by decide +kernel
theorem dX6_weigh_43 : decode cX6_weigh 43 = .ok (.ireturn, 1) := by decide +kernel
theorem dX6_weigh_44 : decode cX6_weigh 44 = .ok (.aload_n 0, 1) := by decide +kernel
theorem dX6_weigh_45 : decode cX6_weigh 45 = .ok (.invokevirtual 116, 3) := by decide +kernel
theorem dX6_weigh_48 : decode cX6_weigh 48 = .ok (.aload_n 0, 1) := by decide +kernel
theorem dX6_weigh_49 : decode cX6_weigh 49 = .ok (.getfield 23, 3) := by decide +kernel
theorem dX6_weigh_52 : decode cX6_weigh 52 = .ok (.iconst 2, 1) := by decide +kernel
theorem dX6_weigh_53 : decode cX6_weigh 53 = .ok (.aload_n 0, 1) := by decide +kernel
theorem dX6_weigh_54 : decode cX6_weigh 54 = .ok (.getfield 23, 3) := by decide +kernel
theorem dX6_weigh_57 : decode cX6_weigh 57 = .ok (.iconst 1, 1) := by decide +kernel
theorem dX6_weigh_58 : decode cX6_weigh 58 = .ok (.iaload, 1) := by decide +kernel
theorem dX6_weigh_59 : decode cX6_weigh 59 = .ok (.iadd, 1) := by decide +kernel
theorem dX6_weigh_60 : decode cX6_weigh 60 = .ok (.iload_n 1, 1) := by decide +kernel
theorem dX6_weigh_61 : decode cX6_weigh 61 = .ok (.iastore, 1) := by decide +kernel
theorem dX6_weigh_62 : decode cX6_weigh 62 = .ok (.aload_n 0, 1) := by decide +kernel
theorem dX6_weigh_63 : decode cX6_weigh 63 = .ok (.getfield 23, 3) := by decide +kernel
theorem dX6_weigh_66 : decode cX6_weigh 66 = .ok (.bipush 10, 2) := by decide +kernel
theorem dX6_weigh_68 : decode cX6_weigh 68 = .ok (.aload_n 0, 1) := by decide +kernel
theorem dX6_weigh_69 : decode cX6_weigh 69 = .ok (.getfield 23, 3) := by decide +kernel
theorem dX6_weigh_72 : decode cX6_weigh 72 = .ok (.iconst 1, 1) := by decide +kernel
theorem dX6_weigh_73 : decode cX6_weigh 73 = .ok (.iaload, 1) := by decide +kernel
theorem dX6_weigh_74 : decode cX6_weigh 74 = .ok (.iadd, 1) := by decide +kernel
theorem dX6_weigh_75 : decode cX6_weigh 75 = .ok (.iload_n 2, 1) := by decide +kernel
theorem dX6_weigh_76 : decode cX6_weigh 76 = .ok (.iastore, 1) := by decide +kernel
theorem dX6_weigh_77 : decode cX6_weigh 77 = .ok (.aload_n 0, 1) := by decide +kernel
theorem dX6_weigh_78 : decode cX6_weigh 78 = .ok (.getfield 23, 3) := by decide +kernel
theorem dX6_weigh_81 : decode cX6_weigh 81 = .ok (.iconst 1, 1) := by decide +kernel
theorem dX6_weigh_82 : decode cX6_weigh 82 = .ok (.dup2, 1) := by decide +kernel
theorem dX6_weigh_83 : decode cX6_weigh 83 = .ok (.iaload, 1) := by decide +kernel
theorem dX6_weigh_84 : decode cX6_weigh 84 = .ok (.iconst 1, 1) := by decide +kernel
theorem dX6_weigh_85 : decode cX6_weigh 85 = .ok (.iadd, 1) := by decide +kernel
theorem dX6_weigh_86 : decode cX6_weigh 86 = .ok (.iastore, 1) := by decide +kernel
theorem dX6_weigh_87 : decode cX6_weigh 87 = .ok (.aload_n 0, 1) := by decide +kernel
theorem dX6_weigh_88 : decode cX6_weigh 88 = .ok (.getfield 23, 3) := by decide +kernel
theorem dX6_weigh_91 : decode cX6_weigh 91 = .ok (.iconst 1, 1) := by decide +kernel
theorem dX6_weigh_92 : decode cX6_weigh 92 = .ok (.iaload, 1) := by decide +kernel
theorem dX6_weigh_93 : decode cX6_weigh 93 = .ok (.ireturn, 1) := by decide +kernel
theorem dX6_takeOn_0 : decode cX6_takeOn 0 = .ok (.aload_n 0, 1) := by decide +kernel
theorem dX6_takeOn_1 : decode cX6_takeOn 1 = .ok (.iconst 1, 1) := by decide +kernel
theorem dX6_takeOn_2 : decode cX6_takeOn 2 = .ok (.dup2, 1) := by decide +kernel
theorem dX6_takeOn_3 : decode cX6_takeOn 3 = .ok (.iaload, 1) := by decide +kernel
theorem dX6_takeOn_4 : decode cX6_takeOn 4 = .ok (.iconst 1, 1) := by decide +kernel
theorem dX6_takeOn_5 : decode cX6_takeOn 5 = .ok (.isub, 1) := by decide +kernel
theorem dX6_takeOn_6 : decode cX6_takeOn 6 = .ok (.iastore, 1) := by decide +kernel
theorem dX6_takeOn_7 : decode cX6_takeOn 7 = .ok (.iload_n 1, 1) := by decide +kernel
theorem dX6_takeOn_8 : decode cX6_takeOn 8 = .ok (.istore_n 2, 1) := by decide +kernel
theorem dX6_takeOn_9 : decode cX6_takeOn 9 = .ok (.iload_n 2, 1) := by decide +kernel
theorem dX6_takeOn_10 : decode cX6_takeOn 10 = .ok (.aload_n 0, 1) := by decide +kernel
theorem dX6_takeOn_11 : decode cX6_takeOn 11 = .ok (.iconst 1, 1) := by decide +kernel
theorem dX6_takeOn_12 : decode cX6_takeOn 12 = .ok (.iaload, 1) := by decide +kernel
theorem dX6_takeOn_13 : decode cX6_takeOn 13 = .ok (.if_icmp .ge 35, 3) := by decide +kernel
theorem dX6_takeOn_16 : decode cX6_takeOn 16 = .ok (.aload_n 0, 1) := by decide +kernel
theorem dX6_takeOn_17 : decode cX6_takeOn 17 = .ok (.iconst 2, 1) := by decide +kernel
theorem dX6_takeOn_18 : decode cX6_takeOn 18 = .ok (.iload_n 2, 1) := by decide +kernel
theorem dX6_takeOn_19 : decode cX6_takeOn 19 = .ok (.iadd, 1) := by decide +kernel
theorem dX6_takeOn_20 : decode cX6_takeOn 20 = .ok (.aload_n 0, 1) := by decide +kernel
theorem dX6_takeOn_21 : decode cX6_takeOn 21 = .ok (.iconst 2, 1) := by decide +kernel
theorem dX6_takeOn_22 : decode cX6_takeOn 22 = .ok (.iload_n 2, 1) := by decide +kernel
theorem dX6_takeOn_23 : decode cX6_takeOn 23 = .ok (.iadd, 1) := by decide +kernel
theorem dX6_takeOn_24 : decode cX6_takeOn 24 = .ok (.iconst 1, 1) := by decide +kernel
theorem dX6_takeOn_25 : decode cX6_takeOn 25 = .ok (.iadd, 1) := by decide +kernel
theorem dX6_takeOn_26 : decode cX6_takeOn 26 = .ok (.iaload, 1) := by decide +kernel
theorem dX6_takeOn_27 : decode cX6_takeOn 27 = .ok (.iastore, 1) := by decide +kernel
theorem dX6_takeOn_28 : decode cX6_takeOn 28 = .ok (.aload_n 0, 1) := by decide +kernel
theorem dX6_takeOn_29 : decode cX6_takeOn 29 = .ok (.bipush 10, 2) := by decide +kernel
theorem dX6_takeOn_31 : decode cX6_takeOn 31 = .ok (.iload_n 2, 1) := by decide +kernel
theorem dX6_takeOn_32 : decode cX6_takeOn 32 = .ok (.iadd, 1) := by decide +kernel
theorem dX6_takeOn_33 : decode cX6_takeOn 33 = .ok (.aload_n 0, 1) := by decide +kernel
theorem dX6_takeOn_34 : decode cX6_takeOn 34 = .ok (.bipush 10, 2) := by decide +kernel
theorem dX6_takeOn_36 : decode cX6_takeOn 36 = .ok (.iload_n 2, 1) := by decide +kernel
theorem dX6_takeOn_37 : decode cX6_takeOn 37 = .ok (.iadd, 1) := by decide +kernel
theorem dX6_takeOn_38 : decode cX6_takeOn 38 = .ok (.iconst 1, 1) := by decide +kernel
theorem dX6_takeOn_39 : decode cX6_takeOn 39 = .ok (.iadd, 1) := by decide +kernel
theorem dX6_takeOn_40 : decode cX6_takeOn 40 = .ok (.iaload, 1) := by decide +kernel
theorem dX6_takeOn_41 : decode cX6_takeOn 41 = .ok (.iastore, 1) := by decide +kernel
theorem dX6_takeOn_42 : decode cX6_takeOn 42 = .ok (.iinc 2 1, 3) := by decide +kernel
theorem dX6_takeOn_45 : decode cX6_takeOn 45 = .ok (.goto (-36), 3) := by decide +kernel
theorem dX6_takeOn_48 : decode cX6_takeOn 48 = .ok (.return_, 1) := by decide +kernel
theorem dX6_swapOn_0 : decode cX6_swapOn 0 = .ok (.aload_n 0, 1) := by decide +kernel
theorem dX6_swapOn_1 : decode cX6_swapOn 1 = .ok (.iconst 2, 1) := by decide +kernel
theorem dX6_swapOn_2 : decode cX6_swapOn 2 = .ok (.iload_n 1, 1) := by decide +kernel
theorem dX6_swapOn_3 : decode cX6_swapOn 3 = .ok (.iadd, 1) := by decide +kernel
theorem dX6_swapOn_4 : decode cX6_swapOn 4 = .ok (.iaload, 1) := by decide +kernel
theorem dX6_swapOn_5 : decode cX6_swapOn 5 = .ok (.istore_n 3, 1) := by decide +kernel
theorem dX6_swapOn_6 : decode cX6_swapOn 6 = .ok (.aload_n 0, 1) := by decide +kernel
theorem dX6_swapOn_7 : decode cX6_swapOn 7 = .ok (.iconst 2, 1) := by decide +kernel
theorem dX6_swapOn_8 : decode cX6_swapOn 8 = .ok (.iload_n 1, 1) := by decide +kernel
theorem dX6_swapOn_9 : decode cX6_swapOn 9 = .ok (.iadd, 1) := by decide +kernel
theorem dX6_swapOn_10 : decode cX6_swapOn 10 = .ok (.aload_n 0, 1) := by decide +kernel
theorem dX6_swapOn_11 : decode cX6_swapOn 11 = .ok (.iconst 2, 1) := by decide +kernel
theorem dX6_swapOn_12 : decode cX6_swapOn 12 = .ok (.iload_n 2, 1) := by decide +kernel
theorem dX6_swapOn_13 : decode cX6_swapOn 13 = .ok (.iadd, 1) := by decide +kernel
theorem dX6_swapOn_14 : decode cX6_swapOn 14 = .ok (.iaload, 1) := by decide +kernel
theorem dX6_swapOn_15 : decode cX6_swapOn 15 = .ok (.iastore, 1) := by decide +kernel
theorem dX6_swapOn_16 : decode cX6_swapOn 16 = .ok (.aload_n 0, 1) := by decide +kernel
theorem dX6_swapOn_17 : decode cX6_swapOn 17 = .ok (.iconst 2, 1) := by decide +kernel
theorem dX6_swapOn_18 : decode cX6_swapOn 18 = .ok (.iload_n 2, 1) := by decide +kernel
theorem dX6_swapOn_19 : decode cX6_swapOn 19 = .ok (.iadd, 1) := by decide +kernel
theorem dX6_swapOn_20 : decode cX6_swapOn 20 = .ok (.iload_n 3, 1) := by decide +kernel
theorem dX6_swapOn_21 : decode cX6_swapOn 21 = .ok (.iastore, 1) := by decide +kernel
theorem dX6_swapOn_22 : decode cX6_swapOn 22 = .ok (.aload_n 0, 1) := by decide +kernel
theorem dX6_swapOn_23 : decode cX6_swapOn 23 = .ok (.bipush 10, 2) := by decide +kernel
theorem dX6_swapOn_25 : decode cX6_swapOn 25 = .ok (.iload_n 1, 1) := by decide +kernel
theorem dX6_swapOn_26 : decode cX6_swapOn 26 = .ok (.iadd, 1) := by decide +kernel
theorem dX6_swapOn_27 : decode cX6_swapOn 27 = .ok (.iaload, 1) := by decide +kernel
theorem dX6_swapOn_28 : decode cX6_swapOn 28 = .ok (.istore 4, 2) := by decide +kernel
theorem dX6_swapOn_30 : decode cX6_swapOn 30 = .ok (.aload_n 0, 1) := by decide +kernel
theorem dX6_swapOn_31 : decode cX6_swapOn 31 = .ok (.bipush 10, 2) := by decide +kernel
theorem dX6_swapOn_33 : decode cX6_swapOn 33 = .ok (.iload_n 1, 1) := by decide +kernel
theorem dX6_swapOn_34 : decode cX6_swapOn 34 = .ok (.iadd, 1) := by decide +kernel
theorem dX6_swapOn_35 : decode cX6_swapOn 35 = .ok (.aload_n 0, 1) := by decide +kernel
theorem dX6_swapOn_36 : decode cX6_swapOn 36 = .ok (.bipush 10, 2) := by decide +kernel
theorem dX6_swapOn_38 : decode cX6_swapOn 38 = .ok (.iload_n 2, 1) := by decide +kernel
theorem dX6_swapOn_39 : decode cX6_swapOn 39 = .ok (.iadd, 1) := by decide +kernel
theorem dX6_swapOn_40 : decode cX6_swapOn 40 = .ok (.iaload, 1) := by decide +kernel
theorem dX6_swapOn_41 : decode cX6_swapOn 41 = .ok (.iastore, 1) := by decide +kernel
theorem dX6_swapOn_42 : decode cX6_swapOn 42 = .ok (.aload_n 0, 1) := by decide +kernel
theorem dX6_swapOn_43 : decode cX6_swapOn 43 = .ok (.bipush 10, 2) := by decide +kernel
theorem dX6_swapOn_45 : decode cX6_swapOn 45 = .ok (.iload_n 2, 1) := by decide +kernel
theorem dX6_swapOn_46 : decode cX6_swapOn 46 = .ok (.iadd, 1) := by decide +kernel
theorem dX6_swapOn_47 : decode cX6_swapOn 47 = .ok (.iload 4, 2) := by decide +kernel
theorem dX6_swapOn_49 : decode cX6_swapOn 49 = .ok (.iastore, 1) := by decide +kernel
theorem dX6_swapOn_50 : decode cX6_swapOn 50 = .ok (.return_, 1) := by decide +kernel
theorem dX6_take_0 : decode cX6_take 0 = .ok (.aload_n 0, 1) := by decide +kernel
theorem dX6_take_1 : decode cX6_take 1 = .ok (.iconst 0, 1) := by decide +kernel
theorem dX6_take_2 : decode cX6_take 2 = .ok (.putfield 1, 3) := by decide +kernel
theorem dX6_take_5 : decode cX6_take 5 = .ok (.aload_n 0, 1) := by decide +kernel
theorem dX6_take_6 : decode cX6_take 6 = .ok (.iload_n 1, 1) := by decide +kernel
theorem dX6_take_7 : decode cX6_take 7 = .ok (.invokevirtual 102, 3) := by decide +kernel
theorem dX6_take_10 : decode cX6_take 10 = .ok (.ifCond .eq 5, 3) := by decide +kernel
theorem dX6_take_13 : decode cX6_take 13 = .ok (.iconst (-1), 1) := by decide +kernel
theorem dX6_take_14 : decode cX6_take 14 = .ok (.ireturn, 1) := by decide +kernel
theorem dX6_take_15 : decode cX6_take 15 = .ok (.aload_n 0, 1) := by decide +kernel
theorem dX6_take_16 : decode cX6_take 16 = .ok (.invokevirtual 116, 3) := by decide +kernel
theorem dX6_take_19 : decode cX6_take 19 = .ok (.aload_n 0, 1) := by decide +kernel
theorem dX6_take_20 : decode cX6_take 20 = .ok (.getfield 23, 3) := by decide +kernel
theorem dX6_take_23 : decode cX6_take 23 = .ok (.iload_n 1, 1) := by decide +kernel
theorem dX6_take_24 : decode cX6_take 24 = .ok (.invokestatic 119, 3) := by decide +kernel
theorem dX6_take_27 : decode cX6_take 27 = .ok (.aload_n 0, 1) := by decide +kernel
theorem dX6_take_28 : decode cX6_take 28 = .ok (.getfield 23, 3) := by decide +kernel
theorem dX6_take_31 : decode cX6_take 31 = .ok (.iconst 1, 1) := by decide +kernel
theorem dX6_take_32 : decode cX6_take 32 = .ok (.iaload, 1) := by decide +kernel
theorem dX6_take_33 : decode cX6_take 33 = .ok (.ireturn, 1) := by decide +kernel
theorem dX6_swap_0 : decode cX6_swap 0 = .ok (.aload_n 0, 1) := by decide +kernel
theorem dX6_swap_1 : decode cX6_swap 1 = .ok (.iconst 0, 1) := by decide +kernel
theorem dX6_swap_2 : decode cX6_swap 2 = .ok (.putfield 1, 3) := by decide +kernel
theorem dX6_swap_5 : decode cX6_swap 5 = .ok (.aload_n 0, 1) := by decide +kernel
theorem dX6_swap_6 : decode cX6_swap 6 = .ok (.iload_n 1, 1) := by decide +kernel
theorem dX6_swap_7 : decode cX6_swap 7 = .ok (.invokevirtual 102, 3) := by decide +kernel
theorem dX6_swap_10 : decode cX6_swap 10 = .ok (.ifCond .ne 11, 3) := by decide +kernel
theorem dX6_swap_13 : decode cX6_swap 13 = .ok (.aload_n 0, 1) := by decide +kernel
theorem dX6_swap_14 : decode cX6_swap 14 = .ok (.iload_n 2, 1) := by decide +kernel
theorem dX6_swap_15 : decode cX6_swap 15 = .ok (.invokevirtual 102, 3) := by decide +kernel
theorem dX6_swap_18 : decode cX6_swap 18 = .ok (.ifCond .eq 5, 3) := by decide +kernel
theorem dX6_swap_21 : decode cX6_swap 21 = .ok (.iconst (-1), 1) := by decide +kernel
theorem dX6_swap_22 : decode cX6_swap 22 = .ok (.ireturn, 1) := by decide +kernel
theorem dX6_swap_23 : decode cX6_swap 23 = .ok (.iload_n 1, 1) := by decide +kernel
theorem dX6_swap_24 : decode cX6_swap 24 = .ok (.iload_n 2, 1) := by decide +kernel
theorem dX6_swap_25 : decode cX6_swap 25 = .ok (.if_icmp .ne 6, 3) := by decide +kernel
theorem dX6_swap_28 : decode cX6_swap 28 = .ok (.bipush (-3), 2) := by decide +kernel
theorem dX6_swap_30 : decode cX6_swap 30 = .ok (.ireturn, 1) := by decide +kernel
theorem dX6_swap_31 : decode cX6_swap 31 = .ok (.aload_n 0, 1) := by decide +kernel
theorem dX6_swap_32 : decode cX6_swap 32 = .ok (.invokevirtual 116, 3) := by decide +kernel
theorem dX6_swap_35 : decode cX6_swap 35 = .ok (.aload_n 0, 1) := by decide +kernel
theorem dX6_swap_36 : decode cX6_swap 36 = .ok (.getfield 23, 3) := by decide +kernel
theorem dX6_swap_39 : decode cX6_swap 39 = .ok (.iload_n 1, 1) := by decide +kernel
theorem dX6_swap_40 : decode cX6_swap 40 = .ok (.iload_n 2, 1) := by decide +kernel
theorem dX6_swap_41 : decode cX6_swap 41 = .ok (.invokestatic 123, 3) := by decide +kernel
theorem dX6_swap_44 : decode cX6_swap 44 = .ok (.aload_n 0, 1) := by decide +kernel
theorem dX6_swap_45 : decode cX6_swap 45 = .ok (.getfield 23, 3) := by decide +kernel
theorem dX6_swap_48 : decode cX6_swap 48 = .ok (.iconst 2, 1) := by decide +kernel
theorem dX6_swap_49 : decode cX6_swap 49 = .ok (.iload_n 1, 1) := by decide +kernel
theorem dX6_swap_50 : decode cX6_swap 50 = .ok (.iadd, 1) := by decide +kernel
theorem dX6_swap_51 : decode cX6_swap 51 = .ok (.iaload, 1) := by decide +kernel
theorem dX6_swap_52 : decode cX6_swap 52 = .ok (.ireturn, 1) := by decide +kernel
theorem dX6_read_0 : decode cX6_read 0 = .ok (.aload_n 0, 1) := by decide +kernel
theorem dX6_read_1 : decode cX6_read 1 = .ok (.iconst 0, 1) := by decide +kernel
theorem dX6_read_2 : decode cX6_read 2 = .ok (.putfield 1, 3) := by decide +kernel
theorem dX6_read_5 : decode cX6_read 5 = .ok (.aload_n 0, 1) := by decide +kernel
theorem dX6_read_6 : decode cX6_read 6 = .ok (.iload_n 1, 1) := by decide +kernel
theorem dX6_read_7 : decode cX6_read 7 = .ok (.invokevirtual 102, 3) := by decide +kernel
theorem dX6_read_10 : decode cX6_read 10 = .ok (.ifCond .eq 5, 3) := by decide +kernel
theorem dX6_read_13 : decode cX6_read 13 = .ok (.iconst (-1), 1) := by decide +kernel
theorem dX6_read_14 : decode cX6_read 14 = .ok (.ireturn, 1) := by decide +kernel
theorem dX6_read_15 : decode cX6_read 15 = .ok (.iload_n 2, 1) := by decide +kernel
theorem dX6_read_16 : decode cX6_read 16 = .ok (.i2l, 1) := by decide +kernel
theorem dX6_read_17 : decode cX6_read 17 = .ok (.ldc2_w 112, 3) := by decide +kernel
theorem dX6_read_20 : decode cX6_read 20 = .ok (.ldc2_w 114, 3) := by decide +kernel
theorem dX6_read_23 : decode cX6_read 23 = .ok (.invokestatic 61, 3) := by decide +kernel
theorem dX6_read_26 : decode cX6_read 26 = .ok (.ifCond .ne 6, 3) := by decide +kernel
theorem dX6_read_29 : decode cX6_read 29 = .ok (.bipush (-2), 2) := by decide +kernel
theorem dX6_read_31 : decode cX6_read 31 = .ok (.ireturn, 1) := by decide +kernel
theorem dX6_read_32 : decode cX6_read 32 = .ok (.aload_n 0, 1) := by decide +kernel
theorem dX6_read_33 : decode cX6_read 33 = .ok (.invokevirtual 116, 3) := by decide +kernel
theorem dX6_read_36 : decode cX6_read 36 = .ok (.aload_n 0, 1) := by decide +kernel
theorem dX6_read_37 : decode cX6_read 37 = .ok (.getfield 23, 3) := by decide +kernel
theorem dX6_read_40 : decode cX6_read 40 = .ok (.bipush 10, 2) := by decide +kernel
theorem dX6_read_42 : decode cX6_read 42 = .ok (.iload_n 1, 1) := by decide +kernel
theorem dX6_read_43 : decode cX6_read 43 = .ok (.iadd, 1) := by decide +kernel
theorem dX6_read_44 : decode cX6_read 44 = .ok (.iaload, 1) := by decide +kernel
theorem dX6_read_45 : decode cX6_read 45 = .ok (.istore_n 3, 1) := by decide +kernel
theorem dX6_read_46 : decode cX6_read 46 = .ok (.aload_n 0, 1) := by decide +kernel
theorem dX6_read_47 : decode cX6_read 47 = .ok (.getfield 23, 3) := by decide +kernel
theorem dX6_read_50 : decode cX6_read 50 = .ok (.bipush 10, 2) := by decide +kernel
theorem dX6_read_52 : decode cX6_read 52 = .ok (.iload_n 1, 1) := by decide +kernel
theorem dX6_read_53 : decode cX6_read 53 = .ok (.iadd, 1) := by decide +kernel
theorem dX6_read_54 : decode cX6_read 54 = .ok (.iload_n 2, 1) := by decide +kernel
theorem dX6_read_55 : decode cX6_read 55 = .ok (.iastore, 1) := by decide +kernel
theorem dX6_read_56 : decode cX6_read 56 = .ok (.iload_n 3, 1) := by decide +kernel
theorem dX6_read_57 : decode cX6_read 57 = .ok (.sipush 1000, 3) := by decide +kernel
theorem dX6_read_60 : decode cX6_read 60 = .ok (.iadd, 1) := by decide +kernel
theorem dX6_read_61 : decode cX6_read 61 = .ok (.ireturn, 1) := by decide +kernel
theorem dX6_master_0 : decode cX6_master 0 = .ok (.aload_n 0, 1) := by decide +kernel
theorem dX6_master_1 : decode cX6_master 1 = .ok (.iconst 0, 1) := by decide +kernel
theorem dX6_master_2 : decode cX6_master 2 = .ok (.putfield 1, 3) := by decide +kernel
theorem dX6_master_5 : decode cX6_master 5 = .ok (.iload_n 1, 1) := by decide +kernel
theorem dX6_master_6 : decode cX6_master 6 = .ok (.i2l, 1) := by decide +kernel
theorem dX6_master_7 : decode cX6_master 7 = .ok (.lconst 0, 1) := by decide +kernel
theorem dX6_master_8 : decode cX6_master 8 = .ok (.ldc2_w 127, 3) := by decide +kernel
theorem dX6_master_11 : decode cX6_master 11 = .ok (.invokestatic 61, 3) := by decide +kernel
theorem dX6_master_14 : decode cX6_master 14 = .ok (.ifCond .ne 6, 3) := by decide +kernel
theorem dX6_master_17 : decode cX6_master 17 = .ok (.bipush (-2), 2) := by decide +kernel
theorem dX6_master_19 : decode cX6_master 19 = .ok (.ireturn, 1) := by decide +kernel
theorem dX6_master_20 : decode cX6_master 20 = .ok (.aload_n 0, 1) := by decide +kernel
theorem dX6_master_21 : decode cX6_master 21 = .ok (.invokevirtual 116, 3) := by decide +kernel
theorem dX6_master_24 : decode cX6_master 24 = .ok (.aload_n 0, 1) := by decide +kernel
theorem dX6_master_25 : decode cX6_master 25 = .ok (.getfield 23, 3) := by decide +kernel
theorem dX6_master_28 : decode cX6_master 28 = .ok (.iconst 0, 1) := by decide +kernel
theorem dX6_master_29 : decode cX6_master 29 = .ok (.iaload, 1) := by decide +kernel
theorem dX6_master_30 : decode cX6_master 30 = .ok (.istore_n 2, 1) := by decide +kernel
theorem dX6_master_31 : decode cX6_master 31 = .ok (.aload_n 0, 1) := by decide +kernel
theorem dX6_master_32 : decode cX6_master 32 = .ok (.getfield 23, 3) := by decide +kernel
theorem dX6_master_35 : decode cX6_master 35 = .ok (.iconst 0, 1) := by decide +kernel
theorem dX6_master_36 : decode cX6_master 36 = .ok (.iload_n 1, 1) := by decide +kernel
theorem dX6_master_37 : decode cX6_master 37 = .ok (.iastore, 1) := by decide +kernel
theorem dX6_master_38 : decode cX6_master 38 = .ok (.iload_n 2, 1) := by decide +kernel
theorem dX6_master_39 : decode cX6_master 39 = .ok (.ireturn, 1) := by decide +kernel
theorem dX6_undo_0 : decode cX6_undo 0 = .ok (.aload_n 0, 1) := by decide +kernel
theorem dX6_undo_1 : decode cX6_undo 1 = .ok (.iconst 0, 1) := by decide +kernel
theorem dX6_undo_2 : decode cX6_undo 2 = .ok (.putfield 1, 3) := by decide +kernel
theorem dX6_undo_5 : decode cX6_undo 5 = .ok (.aload_n 0, 1) := by decide +kernel
theorem dX6_undo_6 : decode cX6_undo 6 = .ok (.getfield 99, 3) := by decide +kernel
theorem dX6_undo_9 : decode cX6_undo 9 = .ok (.ifCond .ne 6, 3) := by decide +kernel
theorem dX6_undo_12 : decode cX6_undo 12 = .ok (.bipush (-3), 2) := by decide +kernel
theorem dX6_undo_14 : decode cX6_undo 14 = .ok (.ireturn, 1) := by decide +kernel
theorem dX6_undo_15 : decode cX6_undo 15 = .ok (.aload_n 0, 1) := by decide +kernel
theorem dX6_undo_16 : decode cX6_undo 16 = .ok (.dup, 1) := by decide +kernel
theorem dX6_undo_17 : decode cX6_undo 17 = .ok (.getfield 99, 3) := by decide +kernel
theorem dX6_undo_20 : decode cX6_undo 20 = .ok (.iconst 1, 1) := by decide +kernel
theorem dX6_undo_21 : decode cX6_undo 21 = .ok (.isub, 1) := by decide +kernel
theorem dX6_undo_22 : decode cX6_undo 22 = .ok (.putfield 99, 3) := by decide +kernel
theorem dX6_undo_25 : decode cX6_undo 25 = .ok (.iconst 0, 1) := by decide +kernel
theorem dX6_undo_26 : decode cX6_undo 26 = .ok (.istore_n 1, 1) := by decide +kernel
theorem dX6_undo_27 : decode cX6_undo 27 = .ok (.iload_n 1, 1) := by decide +kernel
theorem dX6_undo_28 : decode cX6_undo 28 = .ok (.bipush 18, 2) := by decide +kernel
theorem dX6_undo_30 : decode cX6_undo 30 = .ok (.if_icmp .ge 29, 3) := by decide +kernel
theorem dX6_undo_33 : decode cX6_undo 33 = .ok (.aload_n 0, 1) := by decide +kernel
theorem dX6_undo_34 : decode cX6_undo 34 = .ok (.getfield 23, 3) := by decide +kernel
theorem dX6_undo_37 : decode cX6_undo 37 = .ok (.iload_n 1, 1) := by decide +kernel
theorem dX6_undo_38 : decode cX6_undo 38 = .ok (.aload_n 0, 1) := by decide +kernel
theorem dX6_undo_39 : decode cX6_undo 39 = .ok (.getfield 32, 3) := by decide +kernel
theorem dX6_undo_42 : decode cX6_undo 42 = .ok (.bipush 18, 2) := by decide +kernel
theorem dX6_undo_44 : decode cX6_undo 44 = .ok (.aload_n 0, 1) := by decide +kernel
theorem dX6_undo_45 : decode cX6_undo 45 = .ok (.getfield 99, 3) := by decide +kernel
theorem dX6_undo_48 : decode cX6_undo 48 = .ok (.imul, 1) := by decide +kernel
theorem dX6_undo_49 : decode cX6_undo 49 = .ok (.iload_n 1, 1) := by decide +kernel
theorem dX6_undo_50 : decode cX6_undo 50 = .ok (.iadd, 1) := by decide +kernel
theorem dX6_undo_51 : decode cX6_undo 51 = .ok (.iaload, 1) := by decide +kernel
theorem dX6_undo_52 : decode cX6_undo 52 = .ok (.iastore, 1) := by decide +kernel
theorem dX6_undo_53 : decode cX6_undo 53 = .ok (.iinc 1 1, 3) := by decide +kernel
theorem dX6_undo_56 : decode cX6_undo 56 = .ok (.goto (-29), 3) := by decide +kernel
theorem dX6_undo_59 : decode cX6_undo 59 = .ok (.aload_n 0, 1) := by decide +kernel
theorem dX6_undo_60 : decode cX6_undo 60 = .ok (.getfield 99, 3) := by decide +kernel
theorem dX6_undo_63 : decode cX6_undo 63 = .ok (.ireturn, 1) := by decide +kernel
theorem dX6_panOf_0 : decode cX6_panOf 0 = .ok (.iload_n 1, 1) := by decide +kernel
theorem dX6_panOf_1 : decode cX6_panOf 1 = .ok (.bipush 10, 2) := by decide +kernel
theorem dX6_panOf_3 : decode cX6_panOf 3 = .ok (.aload_n 0, 1) := by decide +kernel
theorem dX6_panOf_4 : decode cX6_panOf 4 = .ok (.getfield 17, 3) := by decide +kernel
theorem dX6_panOf_7 : decode cX6_panOf 7 = .ok (.iload_n 2, 1) := by decide +kernel
theorem dX6_panOf_8 : decode cX6_panOf 8 = .ok (.isub, 1) := by decide +kernel
theorem dX6_panOf_9 : decode cX6_panOf 9 = .ok (.invokestatic 106, 3) := by decide +kernel
theorem dX6_panOf_12 : decode cX6_panOf 12 = .ok (.idiv, 1) := by decide +kernel
theorem dX6_panOf_13 : decode cX6_panOf 13 = .ok (.bipush 10, 2) := by decide +kernel
theorem dX6_panOf_15 : decode cX6_panOf 15 = .ok (.irem, 1) := by decide +kernel
theorem dX6_panOf_16 : decode cX6_panOf 16 = .ok (.istore_n 3, 1) := by decide +kernel
theorem dX6_panOf_17 : decode cX6_panOf 17 = .ok (.iload_n 3, 1) := by decide +kernel
theorem dX6_panOf_18 : decode cX6_panOf 18 = .ok (.iconst 1, 1) := by decide +kernel
theorem dX6_panOf_19 : decode cX6_panOf 19 = .ok (.if_icmp .ne 7, 3) := by decide +kernel
theorem dX6_panOf_22 : decode cX6_panOf 22 = .ok (.iconst 1, 1) := by decide +kernel
theorem dX6_panOf_23 : decode cX6_panOf 23 = .ok (.goto 13, 3) := by decide +kernel
theorem dX6_panOf_26 : decode cX6_panOf 26 = .ok (.iload_n 3, 1) := by decide +kernel
theorem dX6_panOf_27 : decode cX6_panOf 27 = .ok (.iconst 2, 1) := by decide +kernel
theorem dX6_panOf_28 : decode cX6_panOf 28 = .ok (.if_icmp .ne 7, 3) := by decide +kernel
theorem dX6_panOf_31 : decode cX6_panOf 31 = .ok (.iconst (-1), 1) := by decide +kernel
theorem dX6_panOf_32 : decode cX6_panOf 32 = .ok (.goto 4, 3) := by decide +kernel
theorem dX6_panOf_35 : decode cX6_panOf 35 = .ok (.iconst 0, 1) := by decide +kernel
theorem dX6_panOf_36 : decode cX6_panOf 36 = .ok (.ireturn, 1) := by decide +kernel
theorem dX6_layColumns_0 : decode cX6_layColumns 0 = .ok (.iconst 0, 1) := by decide +kernel
theorem dX6_layColumns_1 : decode cX6_layColumns 1 = .ok (.istore 4, 2) := by decide +kernel
theorem dX6_layColumns_3 : decode cX6_layColumns 3 = .ok (.iload 4, 2) := by decide +kernel
theorem dX6_layColumns_5 : decode cX6_layColumns 5 = .ok (.aload_n 0, 1) := by decide +kernel
theorem dX6_layColumns_6 : decode cX6_layColumns 6 = .ok (.getfield 17, 3) := by decide +kernel
theorem dX6_layColumns_9 : decode cX6_layColumns 9 = .ok (.if_icmp .ge 29, 3) := by decide +kernel
theorem dX6_layColumns_12 : decode cX6_layColumns 12 = .ok (.aload_n 0, 1) := by decide +kernel
theorem dX6_layColumns_13 : decode cX6_layColumns 13 = .ok (.getfield 55, 3) := by decide +kernel
theorem dX6_layColumns_16 : decode cX6_layColumns 16 = .ok (.iload 4, 2) := by decide +kernel
theorem dX6_layColumns_18 : decode cX6_layColumns 18 = .ok (.aload_n 0, 1) := by decide +kernel
theorem dX6_layColumns_19 : decode cX6_layColumns 19 = .ok (.aload_n 1, 1) := by decide +kernel
theorem dX6_layColumns_20 : decode cX6_layColumns 20 = .ok (.iconst 2, 1) := by decide +kernel
theorem dX6_layColumns_21 : decode cX6_layColumns 21 = .ok (.iload_n 2, 1) := by decide +kernel
theorem dX6_layColumns_22 : decode cX6_layColumns 22 = .ok (.iadd, 1) := by decide +kernel
theorem dX6_layColumns_23 : decode cX6_layColumns 23 = .ok (.iaload, 1) := by decide +kernel
theorem dX6_layColumns_24 : decode cX6_layColumns 24 = .ok (.iload 4, 2) := by decide +kernel
theorem dX6_layColumns_26 : decode cX6_layColumns 26 = .ok (.iconst 1, 1) := by decide +kernel
theorem dX6_layColumns_27 : decode cX6_layColumns 27 = .ok (.iadd, 1) := by decide +kernel
theorem dX6_layColumns_28 : decode cX6_layColumns 28 = .ok (.invokevirtual 129, 3) := by decide +kernel
theorem dX6_layColumns_31 : decode cX6_layColumns 31 = .ok (.iastore, 1) := by decide +kernel
theorem dX6_layColumns_32 : decode cX6_layColumns 32 = .ok (.iinc 4 1, 3) := by decide +kernel
theorem dX6_layColumns_35 : decode cX6_layColumns 35 = .ok (.goto (-32), 3) := by decide +kernel
theorem dX6_layColumns_38 : decode cX6_layColumns 38 = .ok (.iload_n 3, 1) := by decide +kernel
theorem dX6_layColumns_39 : decode cX6_layColumns 39 = .ok (.ifCond .eq 13, 3) := by decide +kernel
theorem dX6_layColumns_42 : decode cX6_layColumns 42 = .ok (.aload_n 0, 1) := by decide +kernel
theorem dX6_layColumns_43 : decode cX6_layColumns 43 = .ok (.getfield 55, 3) := by decide +kernel
theorem dX6_layColumns_46 : decode cX6_layColumns 46 = .ok (.aload_n 0, 1) := by decide +kernel
theorem dX6_layColumns_47 : decode cX6_layColumns 47 = .ok (.getfield 17, 3) := by decide +kernel
theorem dX6_layColumns_50 : decode cX6_layColumns 50 = .ok (.iload_n 2, 1) := by decide +kernel
theorem dX6_layColumns_51 : decode cX6_layColumns 51 = .ok (.iastore, 1) := by decide +kernel
theorem dX6_layColumns_52 : decode cX6_layColumns 52 = .ok (.return_, 1) := by decide +kernel
theorem dX6_pureOf_0 : decode cX6_pureOf 0 = .ok (.aload_n 0, 1) := by decide +kernel
theorem dX6_pureOf_1 : decode cX6_pureOf 1 = .ok (.bipush 10, 2) := by decide +kernel
theorem dX6_pureOf_3 : decode cX6_pureOf 3 = .ok (.iload_n 1, 1) := by decide +kernel
theorem dX6_pureOf_4 : decode cX6_pureOf 4 = .ok (.iadd, 1) := by decide +kernel
theorem dX6_pureOf_5 : decode cX6_pureOf 5 = .ok (.iaload, 1) := by decide +kernel
theorem dX6_pureOf_6 : decode cX6_pureOf 6 = .ok (.iload_n 2, 1) := by decide +kernel
theorem dX6_pureOf_7 : decode cX6_pureOf 7 = .ok (.aload_n 0, 1) := by decide +kernel
theorem dX6_pureOf_8 : decode cX6_pureOf 8 = .ok (.iconst 0, 1) := by decide +kernel
theorem dX6_pureOf_9 : decode cX6_pureOf 9 = .ok (.iaload, 1) := by decide +kernel
theorem dX6_pureOf_10 : decode cX6_pureOf 10 = .ok (.imul, 1) := by decide +kernel
theorem dX6_pureOf_11 : decode cX6_pureOf 11 = .ok (.isub, 1) := by decide +kernel
theorem dX6_pureOf_12 : decode cX6_pureOf 12 = .ok (.ireturn, 1) := by decide +kernel
theorem dX6_layGram_0 : decode cX6_layGram 0 = .ok (.aload_n 0, 1) := by decide +kernel
theorem dX6_layGram_1 : decode cX6_layGram 1 = .ok (.iload_n 3, 1) := by decide +kernel
theorem dX6_layGram_2 : decode cX6_layGram 2 = .ok (.ifCond .eq 12, 3) := by decide +kernel
theorem dX6_layGram_5 : decode cX6_layGram 5 = .ok (.aload_n 0, 1) := by decide +kernel
theorem dX6_layGram_6 : decode cX6_layGram 6 = .ok (.getfield 17, 3) := by decide +kernel
theorem dX6_layGram_9 : decode cX6_layGram 9 = .ok (.iconst 1, 1) := by decide +kernel
theorem dX6_layGram_10 : decode cX6_layGram 10 = .ok (.iadd, 1) := by decide +kernel
theorem dX6_layGram_11 : decode cX6_layGram 11 = .ok (.goto 7, 3) := by decide +kernel
theorem dX6_layGram_14 : decode cX6_layGram 14 = .ok (.aload_n 0, 1) := by decide +kernel
theorem dX6_layGram_15 : decode cX6_layGram 15 = .ok (.getfield 17, 3) := by decide +kernel
theorem dX6_layGram_18 : decode cX6_layGram 18 = .ok (.putfield 58, 3) := by decide +kernel
theorem dX6_layGram_21 : decode cX6_layGram 21 = .ok (.aload_n 0, 1) := by decide +kernel
theorem dX6_layGram_22 : decode cX6_layGram 22 = .ok (.lconst 0, 1) := by decide +kernel
theorem dX6_layGram_23 : decode cX6_layGram 23 = .ok (.putfield 132, 3) := by decide +kernel
theorem dX6_layGram_26 : decode cX6_layGram 26 = .ok (.iconst 0, 1) := by decide +kernel
theorem dX6_layGram_27 : decode cX6_layGram 27 = .ok (.istore 4, 2) := by decide +kernel
theorem dX6_layGram_29 : decode cX6_layGram 29 = .ok (.iload 4, 2) := by decide +kernel
theorem dX6_layGram_31 : decode cX6_layGram 31 = .ok (.bipush 25, 2) := by decide +kernel
theorem dX6_layGram_33 : decode cX6_layGram 33 = .ok (.if_icmp .ge 17, 3) := by decide +kernel
theorem dX6_layGram_36 : decode cX6_layGram 36 = .ok (.aload_n 0, 1) := by decide +kernel
theorem dX6_layGram_37 : decode cX6_layGram 37 = .ok (.getfield 42, 3) := by decide +kernel
theorem dX6_layGram_40 : decode cX6_layGram 40 = .ok (.iload 4, 2) := by decide +kernel
theorem dX6_layGram_42 : decode cX6_layGram 42 = .ok (.lconst 0, 1) := by decide +kernel
theorem dX6_layGram_43 : decode cX6_layGram 43 = .ok (.lastore, 1) := by decide +kernel
theorem dX6_layGram_44 : decode cX6_layGram 44 = .ok (.iinc 4 1, 3) := by decide +kernel
theorem dX6_layGram_47 : decode cX6_layGram 47 = .ok (.goto (-18), 3) := by decide +kernel
theorem dX6_layGram_50 : decode cX6_layGram 50 = .ok (.iconst 0, 1) := by decide +kernel
theorem dX6_layGram_51 : decode cX6_layGram 51 = .ok (.istore 4, 2) := by decide +kernel
theorem dX6_layGram_53 : decode cX6_layGram 53 = .ok (.iload 4, 2) := by decide +kernel
theorem dX6_layGram_55 : decode cX6_layGram 55 = .ok (.iconst 5, 1) := by decide +kernel
theorem dX6_layGram_56 : decode cX6_layGram 56 = .ok (.if_icmp .ge 17, 3) := by decide +kernel
theorem dX6_layGram_59 : decode cX6_layGram 59 = .ok (.aload_n 0, 1) := by decide +kernel
theorem dX6_layGram_60 : decode cX6_layGram 60 = .ok (.getfield 46, 3) := by decide +kernel
theorem dX6_layGram_63 : decode cX6_layGram 63 = .ok (.iload 4, 2) := by decide +kernel
theorem dX6_layGram_65 : decode cX6_layGram 65 = .ok (.lconst 0, 1) := by decide +kernel
theorem dX6_layGram_66 : decode cX6_layGram 66 = .ok (.lastore, 1) := by decide +kernel
theorem dX6_layGram_67 : decode cX6_layGram 67 = .ok (.iinc 4 1, 3) := by decide +kernel
theorem dX6_layGram_70 : decode cX6_layGram 70 = .ok (.goto (-17), 3) := by decide +kernel
theorem dX6_layGram_73 : decode cX6_layGram 73 = .ok (.iconst 0, 1) := by decide +kernel
theorem dX6_layGram_74 : decode cX6_layGram 74 = .ok (.istore 4, 2) := by decide +kernel
theorem dX6_layGram_76 : decode cX6_layGram 76 = .ok (.iload 4, 2) := by decide +kernel
theorem dX6_layGram_78 : decode cX6_layGram 78 = .ok (.aload_n 1, 1) := by decide +kernel
theorem dX6_layGram_79 : decode cX6_layGram 79 = .ok (.iconst 1, 1) := by decide +kernel
theorem dX6_layGram_80 : decode cX6_layGram 80 = .ok (.iaload, 1) := by decide +kernel
theorem dX6_layGram_81 : decode cX6_layGram 81 = .ok (.if_icmp .ge 148, 3) := by decide +kernel
theorem dX6_layGram_84 : decode cX6_layGram 84 = .ok (.iload_n 2, 1) := by decide +kernel
theorem dX6_layGram_85 : decode cX6_layGram 85 = .ok (.iload 4, 2) := by decide +kernel
theorem dX6_layGram_87 : decode cX6_layGram 87 = .ok (.invokestatic 136, 3) := by decide +kernel
theorem dX6_layGram_90 : decode cX6_layGram 90 = .ok (.ifCond .eq 133, 3) := by decide +kernel
theorem dX6_layGram_93 : decode cX6_layGram 93 = .ok (.aload_n 0, 1) := by decide +kernel
theorem dX6_layGram_94 : decode cX6_layGram 94 = .ok (.aload_n 1, 1) := by decide +kernel
theorem dX6_layGram_95 : decode cX6_layGram 95 = .ok (.iload 4, 2) := by decide +kernel
theorem dX6_layGram_97 : decode cX6_layGram 97 = .ok (.iload_n 3, 1) := by decide +kernel
theorem dX6_layGram_98 : decode cX6_layGram 98 = .ok (.invokevirtual 140, 3) := by decide +kernel
theorem dX6_layGram_101 : decode cX6_layGram 101 = .ok (.aload_n 1, 1) := by decide +kernel
theorem dX6_layGram_102 : decode cX6_layGram 102 = .ok (.iload 4, 2) := by decide +kernel
theorem dX6_layGram_104 : decode cX6_layGram 104 = .ok (.aload_n 0, 1) := by decide +kernel
theorem dX6_layGram_105 : decode cX6_layGram 105 = .ok (.aload_n 1, 1) := by decide +kernel
theorem dX6_layGram_106 : decode cX6_layGram 106 = .ok (.iconst 2, 1) := by decide +kernel
theorem dX6_layGram_107 : decode cX6_layGram 107 = .ok (.iload 4, 2) := by decide +kernel
theorem dX6_layGram_109 : decode cX6_layGram 109 = .ok (.iadd, 1) := by decide +kernel
theorem dX6_layGram_110 : decode cX6_layGram 110 = .ok (.iaload, 1) := by decide +kernel
theorem dX6_layGram_111 : decode cX6_layGram 111 = .ok (.iconst 0, 1) := by decide +kernel
theorem dX6_layGram_112 : decode cX6_layGram 112 = .ok (.invokevirtual 129, 3) := by decide +kernel
theorem dX6_layGram_115 : decode cX6_layGram 115 = .ok (.invokestatic 144, 3) := by decide +kernel
theorem dX6_layGram_118 : decode cX6_layGram 118 = .ok (.i2l, 1) := by decide +kernel
theorem dX6_layGram_119 : decode cX6_layGram 119 = .ok (.lstore 5, 2) := by decide +kernel
theorem dX6_layGram_121 : decode cX6_layGram 121 = .ok (.aload_n 0, 1) := by decide +kernel
theorem dX6_layGram_122 : decode cX6_layGram 122 = .ok (.dup, 1) := by decide +kernel
theorem dX6_layGram_123 : decode cX6_layGram 123 = .ok (.getfield 132, 3) := by decide +kernel
theorem dX6_layGram_126 : decode cX6_layGram 126 = .ok (.lload 5, 2) := by decide +kernel
theorem dX6_layGram_128 : decode cX6_layGram 128 = .ok (.lload 5, 2) := by decide +kernel
theorem dX6_layGram_130 : decode cX6_layGram 130 = .ok (.lmul, 1) := by decide +kernel
theorem dX6_layGram_131 : decode cX6_layGram 131 = .ok (.ladd, 1) := by decide +kernel
theorem dX6_layGram_132 : decode cX6_layGram 132 = .ok (.putfield 132, 3) := by decide +kernel
theorem dX6_layGram_135 : decode cX6_layGram 135 = .ok (.iconst 0, 1) := by decide +kernel
theorem dX6_layGram_136 : decode cX6_layGram 136 = .ok (.istore 7, 2) := by decide +kernel
theorem dX6_layGram_138 : decode cX6_layGram 138 = .ok (.iload 7, 2) := by decide +kernel
theorem dX6_layGram_140 : decode cX6_layGram 140 = .ok (.aload_n 0, 1) := by decide +kernel
theorem dX6_layGram_141 : decode cX6_layGram 141 = .ok (.getfield 58, 3) := by decide +kernel
theorem dX6_layGram_144 : decode cX6_layGram 144 = .ok (.if_icmp .ge 79, 3) := by decide +kernel
theorem dX6_layGram_147 : decode cX6_layGram 147 = .ok (.aload_n 0, 1) := by decide +kernel
theorem dX6_layGram_148 : decode cX6_layGram 148 = .ok (.getfield 46, 3) := by decide +kernel
theorem dX6_layGram_151 : decode cX6_layGram 151 = .ok (.iload 7, 2) := by decide +kernel
theorem dX6_layGram_153 : decode cX6_layGram 153 = .ok (.dup2, 1) := by decide +kernel
theorem dX6_layGram_154 : decode cX6_layGram 154 = .ok (.laload, 1) := by decide +kernel
theorem dX6_layGram_155 : decode cX6_layGram 155 = .ok (.aload_n 0, 1) := by decide +kernel
theorem dX6_layGram_156 : decode cX6_layGram 156 = .ok (.getfield 55, 3) := by decide +kernel
theorem dX6_layGram_159 : decode cX6_layGram 159 = .ok (.iload 7, 2) := by decide +kernel
theorem dX6_layGram_161 : decode cX6_layGram 161 = .ok (.iaload, 1) := by decide +kernel
theorem dX6_layGram_162 : decode cX6_layGram 162 = .ok (.i2l, 1) := by decide +kernel
theorem dX6_layGram_163 : decode cX6_layGram 163 = .ok (.lload 5, 2) := by decide +kernel
theorem dX6_layGram_165 : decode cX6_layGram 165 = .ok (.lmul, 1) := by decide +kernel
theorem dX6_layGram_166 : decode cX6_layGram 166 = .ok (.ladd, 1) := by decide +kernel
theorem dX6_layGram_167 : decode cX6_layGram 167 = .ok (.lastore, 1) := by decide +kernel
theorem dX6_layGram_168 : decode cX6_layGram 168 = .ok (.iconst 0, 1) := by decide +kernel
theorem dX6_layGram_169 : decode cX6_layGram 169 = .ok (.istore 8, 2) := by decide +kernel
theorem dX6_layGram_171 : decode cX6_layGram 171 = .ok (.iload 8, 2) := by decide +kernel
theorem dX6_layGram_173 : decode cX6_layGram 173 = .ok (.aload_n 0, 1) := by decide +kernel
theorem dX6_layGram_174 : decode cX6_layGram 174 = .ok (.getfield 58, 3) := by decide +kernel
theorem dX6_layGram_177 : decode cX6_layGram 177 = .ok (.if_icmp .ge 40, 3) := by decide +kernel
theorem dX6_layGram_180 : decode cX6_layGram 180 = .ok (.aload_n 0, 1) := by decide +kernel
theorem dX6_layGram_181 : decode cX6_layGram 181 = .ok (.getfield 42, 3) := by decide +kernel
theorem dX6_layGram_184 : decode cX6_layGram 184 = .ok (.iconst 5, 1) := by decide +kernel
theorem dX6_layGram_185 : decode cX6_layGram 185 = .ok (.iload 7, 2) := by decide +kernel
theorem dX6_layGram_187 : decode cX6_layGram 187 = .ok (.imul, 1) := by decide +kernel
theorem dX6_layGram_188 : decode cX6_layGram 188 = .ok (.iload 8, 2) := by decide +kernel
theorem dX6_layGram_190 : decode cX6_layGram 190 = .ok (.iadd, 1) := by decide +kernel
theorem dX6_layGram_191 : decode cX6_layGram 191 = .ok (.dup2, 1) := by decide +kernel
theorem dX6_layGram_192 : decode cX6_layGram 192 = .ok (.laload, 1) := by decide +kernel
theorem dX6_layGram_193 : decode cX6_layGram 193 = .ok (.aload_n 0, 1) := by decide +kernel
theorem dX6_layGram_194 : decode cX6_layGram 194 = .ok (.getfield 55, 3) := by decide +kernel
theorem dX6_layGram_197 : decode cX6_layGram 197 = .ok (.iload 7, 2) := by decide +kernel
theorem dX6_layGram_199 : decode cX6_layGram 199 = .ok (.iaload, 1) := by decide +kernel
theorem dX6_layGram_200 : decode cX6_layGram 200 = .ok (.aload_n 0, 1) := by decide +kernel
theorem dX6_layGram_201 : decode cX6_layGram 201 = .ok (.getfield 55, 3) := by decide +kernel
theorem dX6_layGram_204 : decode cX6_layGram 204 = .ok (.iload 8, 2) := by decide +kernel
theorem dX6_layGram_206 : decode cX6_layGram 206 = .ok (.iaload, 1) := by decide +kernel
theorem dX6_layGram_207 : decode cX6_layGram 207 = .ok (.imul, 1) := by decide +kernel
theorem dX6_layGram_208 : decode cX6_layGram 208 = .ok (.i2l, 1) := by decide +kernel
theorem dX6_layGram_209 : decode cX6_layGram 209 = .ok (.ladd, 1) := by decide +kernel
theorem dX6_layGram_210 : decode cX6_layGram 210 = .ok (.lastore, 1) := by decide +kernel
theorem dX6_layGram_211 : decode cX6_layGram 211 = .ok (.iinc 8 1, 3) := by decide +kernel
theorem dX6_layGram_214 : decode cX6_layGram 214 = .ok (.goto (-43), 3) := by decide +kernel
theorem dX6_layGram_217 : decode cX6_layGram 217 = .ok (.iinc 7 1, 3) := by decide +kernel
theorem dX6_layGram_220 : decode cX6_layGram 220 = .ok (.goto (-82), 3) := by decide +kernel
theorem dX6_layGram_223 : decode cX6_layGram 223 = .ok (.iinc 4 1, 3) := by decide +kernel
theorem dX6_layGram_226 : decode cX6_layGram 226 = .ok (.goto (-150), 3) := by decide +kernel
theorem dX6_layGram_229 : decode cX6_layGram 229 = .ok (.return_, 1) := by decide +kernel
theorem dX6_determinant_0 : decode cX6_determinant 0 = .ok (.lconst 1, 1) := by decide +kernel
theorem dX6_determinant_1 : decode cX6_determinant 1 = .ok (.lstore_n 2, 1) := by decide +kernel
theorem dX6_determinant_2 : decode cX6_determinant 2 = .ok (.lconst 1, 1) := by decide +kernel
theorem dX6_determinant_3 : decode cX6_determinant 3 = .ok (.lstore 4, 2) := by decide +kernel
theorem dX6_determinant_5 : decode cX6_determinant 5 = .ok (.iconst 0, 1) := by decide +kernel
theorem dX6_determinant_6 : decode cX6_determinant 6 = .ok (.istore 6, 2) := by decide +kernel
theorem dX6_determinant_8 : decode cX6_determinant 8 = .ok (.iload 6, 2) := by decide +kernel
theorem dX6_determinant_10 : decode cX6_determinant 10 = .ok (.iload_n 1, 1) := by decide +kernel
theorem dX6_determinant_11 : decode cX6_determinant 11 = .ok (.if_icmp .ge 243, 3) := by decide +kernel
theorem dX6_determinant_14 : decode cX6_determinant 14 = .ok (.iload 6, 2) := by decide +kernel
theorem dX6_determinant_16 : decode cX6_determinant 16 = .ok (.istore 7, 2) := by decide +kernel
theorem dX6_determinant_18 : decode cX6_determinant 18 = .ok (.iload 7, 2) := by decide +kernel
theorem dX6_determinant_20 : decode cX6_determinant 20 = .ok (.iload_n 1, 1) := by decide +kernel
theorem dX6_determinant_21 : decode cX6_determinant 21 = .ok (.if_icmp .ge 26, 3) := by decide +kernel
theorem dX6_determinant_24 : decode cX6_determinant 24 = .ok (.aload_n 0, 1) := by decide +kernel
theorem dX6_determinant_25 : decode cX6_determinant 25 = .ok (.getfield 49, 3) := by decide +kernel
theorem dX6_determinant_28 : decode cX6_determinant 28 = .ok (.iconst 5, 1) := by decide +kernel
theorem dX6_determinant_29 : decode cX6_determinant 29 = .ok (.iload 7, 2) := by decide +kernel
theorem dX6_determinant_31 : decode cX6_determinant 31 = .ok (.imul, 1) := by decide +kernel
theorem dX6_determinant_32 : decode cX6_determinant 32 = .ok (.iload 6, 2) := by decide +kernel
theorem dX6_determinant_34 : decode cX6_determinant 34 = .ok (.iadd, 1) := by decide +kernel
theorem dX6_determinant_35 : decode cX6_determinant 35 = .ok (.laload, 1) := by decide +kernel
theorem dX6_determinant_36 : decode cX6_determinant 36 = .ok (.lconst 0, 1) := by decide +kernel
theorem dX6_determinant_37 : decode cX6_determinant 37 = .ok (.lcmp, 1) := by decide +kernel
theorem dX6_determinant_38 : decode cX6_determinant 38 = .ok (.ifCond .ne 9, 3) := by decide +kernel
theorem dX6_determinant_41 : decode cX6_determinant 41 = .ok (.iinc 7 1, 3) := by decide +kernel
theorem dX6_determinant_44 : decode cX6_determinant 44 = .ok (.goto (-26), 3) := by decide +kernel
theorem dX6_determinant_47 : decode cX6_determinant 47 = .ok (.iload 7, 2) := by decide +kernel
theorem dX6_determinant_49 : decode cX6_determinant 49 = .ok (.iload_n 1, 1) := by decide +kernel
theorem dX6_determinant_50 : decode cX6_determinant 50 = .ok (.if_icmp .ne 5, 3) := by decide +kernel
theorem dX6_determinant_53 : decode cX6_determinant 53 = .ok (.lconst 0, 1) := by decide +kernel
theorem dX6_determinant_54 : decode cX6_determinant 54 = .ok (.lreturn, 1) := by decide +kernel
theorem dX6_determinant_55 : decode cX6_determinant 55 = .ok (.iload 7, 2) := by decide +kernel
theorem dX6_determinant_57 : decode cX6_determinant 57 = .ok (.iload 6, 2) := by decide +kernel
theorem dX6_determinant_59 : decode cX6_determinant 59 = .ok (.if_icmp .eq 75, 3) := by decide +kernel
theorem dX6_determinant_62 : decode cX6_determinant 62 = .ok (.lload 4, 2) := by decide +kernel
theorem dX6_determinant_64 : decode cX6_determinant 64 = .ok (.lneg, 1) := by decide +kernel
theorem dX6_determinant_65 : decode cX6_determinant 65 = .ok (.lstore 4, 2) := by decide +kernel
theorem dX6_determinant_67 : decode cX6_determinant 67 = .ok (.iconst 0, 1) := by decide +kernel
theorem dX6_determinant_68 : decode cX6_determinant 68 = .ok (.istore 8, 2) := by decide +kernel
theorem dX6_determinant_70 : decode cX6_determinant 70 = .ok (.iload 8, 2) := by decide +kernel
theorem dX6_determinant_72 : decode cX6_determinant 72 = .ok (.iload_n 1, 1) := by decide +kernel
theorem dX6_determinant_73 : decode cX6_determinant 73 = .ok (.if_icmp .ge 61, 3) := by decide +kernel
theorem dX6_determinant_76 : decode cX6_determinant 76 = .ok (.aload_n 0, 1) := by decide +kernel
theorem dX6_determinant_77 : decode cX6_determinant 77 = .ok (.getfield 49, 3) := by decide +kernel
theorem dX6_determinant_80 : decode cX6_determinant 80 = .ok (.iconst 5, 1) := by decide +kernel
theorem dX6_determinant_81 : decode cX6_determinant 81 = .ok (.iload 7, 2) := by decide +kernel
theorem dX6_determinant_83 : decode cX6_determinant 83 = .ok (.imul, 1) := by decide +kernel
theorem dX6_determinant_84 : decode cX6_determinant 84 = .ok (.iload 8, 2) := by decide +kernel
theorem dX6_determinant_86 : decode cX6_determinant 86 = .ok (.iadd, 1) := by decide +kernel
theorem dX6_determinant_87 : decode cX6_determinant 87 = .ok (.laload, 1) := by decide +kernel
theorem dX6_determinant_88 : decode cX6_determinant 88 = .ok (.lstore 9, 2) := by decide +kernel
theorem dX6_determinant_90 : decode cX6_determinant 90 = .ok (.aload_n 0, 1) := by decide +kernel
theorem dX6_determinant_91 : decode cX6_determinant 91 = .ok (.getfield 49, 3) := by decide +kernel
theorem dX6_determinant_94 : decode cX6_determinant 94 = .ok (.iconst 5, 1) := by decide +kernel
theorem dX6_determinant_95 : decode cX6_determinant 95 = .ok (.iload 7, 2) := by decide +kernel
theorem dX6_determinant_97 : decode cX6_determinant 97 = .ok (.imul, 1) := by decide +kernel
theorem dX6_determinant_98 : decode cX6_determinant 98 = .ok (.iload 8, 2) := by decide +kernel
theorem dX6_determinant_100 : decode cX6_determinant 100 = .ok (.iadd, 1) := by decide +kernel
theorem dX6_determinant_101 : decode cX6_determinant 101 = .ok (.aload_n 0, 1) := by decide +kernel
theorem dX6_determinant_102 : decode cX6_determinant 102 = .ok (.getfield 49, 3) := by decide +kernel
theorem dX6_determinant_105 : decode cX6_determinant 105 = .ok (.iconst 5, 1) := by decide +kernel
theorem dX6_determinant_106 : decode cX6_determinant 106 = .ok (.iload 6, 2) := by decide +kernel
theorem dX6_determinant_108 : decode cX6_determinant 108 = .ok (.imul, 1) := by decide +kernel
theorem dX6_determinant_109 : decode cX6_determinant 109 = .ok (.iload 8, 2) := by decide +kernel
theorem dX6_determinant_111 : decode cX6_determinant 111 = .ok (.iadd, 1) := by decide +kernel
theorem dX6_determinant_112 : decode cX6_determinant 112 = .ok (.laload, 1) := by decide +kernel
theorem dX6_determinant_113 : decode cX6_determinant 113 = .ok (.lastore, 1) := by decide +kernel
theorem dX6_determinant_114 : decode cX6_determinant 114 = .ok (.aload_n 0, 1) := by decide +kernel
theorem dX6_determinant_115 : decode cX6_determinant 115 = .ok (.getfield 49, 3) := by decide +kernel
theorem dX6_determinant_118 : decode cX6_determinant 118 = .ok (.iconst 5, 1) := by decide +kernel
theorem dX6_determinant_119 : decode cX6_determinant 119 = .ok (.iload 6, 2) := by decide +kernel
theorem dX6_determinant_121 : decode cX6_determinant 121 = .ok (.imul, 1) := by decide +kernel
theorem dX6_determinant_122 : decode cX6_determinant 122 = .ok (.iload 8, 2) := by decide +kernel
theorem dX6_determinant_124 : decode cX6_determinant 124 = .ok (.iadd, 1) := by decide +kernel
theorem dX6_determinant_125 : decode cX6_determinant 125 = .ok (.lload 9, 2) := by decide +kernel
theorem dX6_determinant_127 : decode cX6_determinant 127 = .ok (.lastore, 1) := by decide +kernel
theorem dX6_determinant_128 : decode cX6_determinant 128 = .ok (.iinc 8 1, 3) := by decide +kernel
theorem dX6_determinant_131 : decode cX6_determinant 131 = .ok (.goto (-61), 3) := by decide +kernel
theorem dX6_determinant_134 : decode cX6_determinant 134 = .ok (.iload 6, 2) := by decide +kernel
theorem dX6_determinant_136 : decode cX6_determinant 136 = .ok (.iconst 1, 1) := by decide +kernel
theorem dX6_determinant_137 : decode cX6_determinant 137 = .ok (.iadd, 1) := by decide +kernel
theorem dX6_determinant_138 : decode cX6_determinant 138 = .ok (.istore 8, 2) := by decide +kernel
theorem dX6_determinant_140 : decode cX6_determinant 140 = .ok (.iload 8, 2) := by decide +kernel
theorem dX6_determinant_142 : decode cX6_determinant 142 = .ok (.iload_n 1, 1) := by decide +kernel
theorem dX6_determinant_143 : decode cX6_determinant 143 = .ok (.if_icmp .ge 92, 3) := by decide +kernel
theorem dX6_determinant_146 : decode cX6_determinant 146 = .ok (.iload_n 1, 1) := by decide +kernel
theorem dX6_determinant_147 : decode cX6_determinant 147 = .ok (.iconst 1, 1) := by decide +kernel
theorem dX6_determinant_148 : decode cX6_determinant 148 = .ok (.isub, 1) := by decide +kernel
theorem dX6_determinant_149 : decode cX6_determinant 149 = .ok (.istore 9, 2) := by decide +kernel
theorem dX6_determinant_151 : decode cX6_determinant 151 = .ok (.iload 9, 2) := by decide +kernel
theorem dX6_determinant_153 : decode cX6_determinant 153 = .ok (.iload 6, 2) := by decide +kernel
theorem dX6_determinant_155 : decode cX6_determinant 155 = .ok (.if_icmp .lt 74, 3) := by decide +kernel
theorem dX6_determinant_158 : decode cX6_determinant 158 = .ok (.aload_n 0, 1) := by decide +kernel
theorem dX6_determinant_159 : decode cX6_determinant 159 = .ok (.getfield 49, 3) := by decide +kernel
theorem dX6_determinant_162 : decode cX6_determinant 162 = .ok (.iconst 5, 1) := by decide +kernel
theorem dX6_determinant_163 : decode cX6_determinant 163 = .ok (.iload 8, 2) := by decide +kernel
theorem dX6_determinant_165 : decode cX6_determinant 165 = .ok (.imul, 1) := by decide +kernel
theorem dX6_determinant_166 : decode cX6_determinant 166 = .ok (.iload 9, 2) := by decide +kernel
theorem dX6_determinant_168 : decode cX6_determinant 168 = .ok (.iadd, 1) := by decide +kernel
theorem dX6_determinant_169 : decode cX6_determinant 169 = .ok (.aload_n 0, 1) := by decide +kernel
theorem dX6_determinant_170 : decode cX6_determinant 170 = .ok (.getfield 49, 3) := by decide +kernel
theorem dX6_determinant_173 : decode cX6_determinant 173 = .ok (.iconst 5, 1) := by decide +kernel
theorem dX6_determinant_174 : decode cX6_determinant 174 = .ok (.iload 8, 2) := by decide +kernel
theorem dX6_determinant_176 : decode cX6_determinant 176 = .ok (.imul, 1) := by decide +kernel
theorem dX6_determinant_177 : decode cX6_determinant 177 = .ok (.iload 9, 2) := by decide +kernel
theorem dX6_determinant_179 : decode cX6_determinant 179 = .ok (.iadd, 1) := by decide +kernel
theorem dX6_determinant_180 : decode cX6_determinant 180 = .ok (.laload, 1) := by decide +kernel
theorem dX6_determinant_181 : decode cX6_determinant 181 = .ok (.aload_n 0, 1) := by decide +kernel
theorem dX6_determinant_182 : decode cX6_determinant 182 = .ok (.getfield 49, 3) := by decide +kernel
theorem dX6_determinant_185 : decode cX6_determinant 185 = .ok (.iconst 5, 1) := by decide +kernel
theorem dX6_determinant_186 : decode cX6_determinant 186 = .ok (.iload 6, 2) := by decide +kernel
theorem dX6_determinant_188 : decode cX6_determinant 188 = .ok (.imul, 1) := by decide +kernel
theorem dX6_determinant_189 : decode cX6_determinant 189 = .ok (.iload 6, 2) := by decide +kernel
theorem dX6_determinant_191 : decode cX6_determinant 191 = .ok (.iadd, 1) := by decide +kernel
theorem dX6_determinant_192 : decode cX6_determinant 192 = .ok (.laload, 1) := by decide +kernel
theorem dX6_determinant_193 : decode cX6_determinant 193 = .ok (.lmul, 1) := by decide +kernel
theorem dX6_determinant_194 : decode cX6_determinant 194 = .ok (.aload_n 0, 1) := by decide +kernel
theorem dX6_determinant_195 : decode cX6_determinant 195 = .ok (.getfield 49, 3) := by decide +kernel
theorem dX6_determinant_198 : decode cX6_determinant 198 = .ok (.iconst 5, 1) := by decide +kernel
theorem dX6_determinant_199 : decode cX6_determinant 199 = .ok (.iload 8, 2) := by decide +kernel
theorem dX6_determinant_201 : decode cX6_determinant 201 = .ok (.imul, 1) := by decide +kernel
theorem dX6_determinant_202 : decode cX6_determinant 202 = .ok (.iload 6, 2) := by decide +kernel
theorem dX6_determinant_204 : decode cX6_determinant 204 = .ok (.iadd, 1) := by decide +kernel
theorem dX6_determinant_205 : decode cX6_determinant 205 = .ok (.laload, 1) := by decide +kernel
theorem dX6_determinant_206 : decode cX6_determinant 206 = .ok (.aload_n 0, 1) := by decide +kernel
theorem dX6_determinant_207 : decode cX6_determinant 207 = .ok (.getfield 49, 3) := by decide +kernel
theorem dX6_determinant_210 : decode cX6_determinant 210 = .ok (.iconst 5, 1) := by decide +kernel
theorem dX6_determinant_211 : decode cX6_determinant 211 = .ok (.iload 6, 2) := by decide +kernel
theorem dX6_determinant_213 : decode cX6_determinant 213 = .ok (.imul, 1) := by decide +kernel
theorem dX6_determinant_214 : decode cX6_determinant 214 = .ok (.iload 9, 2) := by decide +kernel
theorem dX6_determinant_216 : decode cX6_determinant 216 = .ok (.iadd, 1) := by decide +kernel
theorem dX6_determinant_217 : decode cX6_determinant 217 = .ok (.laload, 1) := by decide +kernel
theorem dX6_determinant_218 : decode cX6_determinant 218 = .ok (.lmul, 1) := by decide +kernel
theorem dX6_determinant_219 : decode cX6_determinant 219 = .ok (.lsub, 1) := by decide +kernel
theorem dX6_determinant_220 : decode cX6_determinant 220 = .ok (.lload_n 2, 1) := by decide +kernel
theorem dX6_determinant_221 : decode cX6_determinant 221 = .ok (.ldiv, 1) := by decide +kernel
theorem dX6_determinant_222 : decode cX6_determinant 222 = .ok (.lastore, 1) := by decide +kernel
theorem dX6_determinant_223 : decode cX6_determinant 223 = .ok (.iinc 9 (-1), 3) := by decide +kernel
theorem dX6_determinant_226 : decode cX6_determinant 226 = .ok (.goto (-75), 3) := by decide +kernel
theorem dX6_determinant_229 : decode cX6_determinant 229 = .ok (.iinc 8 1, 3) := by decide +kernel
theorem dX6_determinant_232 : decode cX6_determinant 232 = .ok (.goto (-92), 3) := by decide +kernel
theorem dX6_determinant_235 : decode cX6_determinant 235 = .ok (.aload_n 0, 1) := by decide +kernel
theorem dX6_determinant_236 : decode cX6_determinant 236 = .ok (.getfield 49, 3) := by decide +kernel
theorem dX6_determinant_239 : decode cX6_determinant 239 = .ok (.iconst 5, 1) := by decide +kernel
theorem dX6_determinant_240 : decode cX6_determinant 240 = .ok (.iload 6, 2) := by decide +kernel
theorem dX6_determinant_242 : decode cX6_determinant 242 = .ok (.imul, 1) := by decide +kernel
theorem dX6_determinant_243 : decode cX6_determinant 243 = .ok (.iload 6, 2) := by decide +kernel
theorem dX6_determinant_245 : decode cX6_determinant 245 = .ok (.iadd, 1) := by decide +kernel
theorem dX6_determinant_246 : decode cX6_determinant 246 = .ok (.laload, 1) := by decide +kernel
theorem dX6_determinant_247 : decode cX6_determinant 247 = .ok (.lstore_n 2, 1) := by decide +kernel
theorem dX6_determinant_248 : decode cX6_determinant 248 = .ok (.iinc 6 1, 3) := by decide +kernel
theorem dX6_determinant_251 : decode cX6_determinant 251 = .ok (.goto (-243), 3) := by decide +kernel
theorem dX6_determinant_254 : decode cX6_determinant 254 = .ok (.lload 4, 2) := by decide +kernel
theorem dX6_determinant_256 : decode cX6_determinant 256 = .ok (.lload_n 2, 1) := by decide +kernel
theorem dX6_determinant_257 : decode cX6_determinant 257 = .ok (.lmul, 1) := by decide +kernel
theorem dX6_determinant_258 : decode cX6_determinant 258 = .ok (.lreturn, 1) := by decide +kernel
theorem dX6_minor_0 : decode cX6_minor 0 = .ok (.iconst 0, 1) := by decide +kernel
theorem dX6_minor_1 : decode cX6_minor 1 = .ok (.istore_n 3, 1) := by decide +kernel
theorem dX6_minor_2 : decode cX6_minor 2 = .ok (.iconst 0, 1) := by decide +kernel
theorem dX6_minor_3 : decode cX6_minor 3 = .ok (.istore 4, 2) := by decide +kernel
theorem dX6_minor_5 : decode cX6_minor 5 = .ok (.iload 4, 2) := by decide +kernel
theorem dX6_minor_7 : decode cX6_minor 7 = .ok (.aload_n 0, 1) := by decide +kernel
theorem dX6_minor_8 : decode cX6_minor 8 = .ok (.getfield 58, 3) := by decide +kernel
theorem dX6_minor_11 : decode cX6_minor 11 = .ok (.if_icmp .ge 29, 3) := by decide +kernel
theorem dX6_minor_14 : decode cX6_minor 14 = .ok (.iload_n 1, 1) := by decide +kernel
theorem dX6_minor_15 : decode cX6_minor 15 = .ok (.iload 4, 2) := by decide +kernel
theorem dX6_minor_17 : decode cX6_minor 17 = .ok (.invokestatic 136, 3) := by decide +kernel
theorem dX6_minor_20 : decode cX6_minor 20 = .ok (.ifCond .eq 14, 3) := by decide +kernel
theorem dX6_minor_23 : decode cX6_minor 23 = .ok (.aload_n 0, 1) := by decide +kernel
theorem dX6_minor_24 : decode cX6_minor 24 = .ok (.getfield 52, 3) := by decide +kernel
theorem dX6_minor_27 : decode cX6_minor 27 = .ok (.iload_n 3, 1) := by decide +kernel
theorem dX6_minor_28 : decode cX6_minor 28 = .ok (.iload 4, 2) := by decide +kernel
theorem dX6_minor_30 : decode cX6_minor 30 = .ok (.iastore, 1) := by decide +kernel
theorem dX6_minor_31 : decode cX6_minor 31 = .ok (.iinc 3 1, 3) := by decide +kernel
theorem dX6_minor_34 : decode cX6_minor 34 = .ok (.iinc 4 1, 3) := by decide +kernel
theorem dX6_minor_37 : decode cX6_minor 37 = .ok (.goto (-32), 3) := by decide +kernel
theorem dX6_minor_40 : decode cX6_minor 40 = .ok (.iconst 0, 1) := by decide +kernel
theorem dX6_minor_41 : decode cX6_minor 41 = .ok (.istore 4, 2) := by decide +kernel
theorem dX6_minor_43 : decode cX6_minor 43 = .ok (.iload 4, 2) := by decide +kernel
theorem dX6_minor_45 : decode cX6_minor 45 = .ok (.iload_n 3, 1) := by decide +kernel
theorem dX6_minor_46 : decode cX6_minor 46 = .ok (.if_icmp .ge 84, 3) := by decide +kernel
theorem dX6_minor_49 : decode cX6_minor 49 = .ok (.iconst 0, 1) := by decide +kernel
theorem dX6_minor_50 : decode cX6_minor 50 = .ok (.istore 5, 2) := by decide +kernel
theorem dX6_minor_52 : decode cX6_minor 52 = .ok (.iload 5, 2) := by decide +kernel
theorem dX6_minor_54 : decode cX6_minor 54 = .ok (.iload_n 3, 1) := by decide +kernel
theorem dX6_minor_55 : decode cX6_minor 55 = .ok (.if_icmp .ge 69, 3) := by decide +kernel
theorem dX6_minor_58 : decode cX6_minor 58 = .ok (.aload_n 0, 1) := by decide +kernel
theorem dX6_minor_59 : decode cX6_minor 59 = .ok (.getfield 49, 3) := by decide +kernel
theorem dX6_minor_62 : decode cX6_minor 62 = .ok (.iconst 5, 1) := by decide +kernel
theorem dX6_minor_63 : decode cX6_minor 63 = .ok (.iload 4, 2) := by decide +kernel
theorem dX6_minor_65 : decode cX6_minor 65 = .ok (.imul, 1) := by decide +kernel
theorem dX6_minor_66 : decode cX6_minor 66 = .ok (.iload 5, 2) := by decide +kernel
theorem dX6_minor_68 : decode cX6_minor 68 = .ok (.iadd, 1) := by decide +kernel
theorem dX6_minor_69 : decode cX6_minor 69 = .ok (.aload_n 0, 1) := by decide +kernel
theorem dX6_minor_70 : decode cX6_minor 70 = .ok (.getfield 52, 3) := by decide +kernel
theorem dX6_minor_73 : decode cX6_minor 73 = .ok (.iload 5, 2) := by decide +kernel
theorem dX6_minor_75 : decode cX6_minor 75 = .ok (.iaload, 1) := by decide +kernel
theorem dX6_minor_76 : decode cX6_minor 76 = .ok (.iload_n 2, 1) := by decide +kernel
theorem dX6_minor_77 : decode cX6_minor 77 = .ok (.if_icmp .ne 18, 3) := by decide +kernel
theorem dX6_minor_80 : decode cX6_minor 80 = .ok (.aload_n 0, 1) := by decide +kernel
theorem dX6_minor_81 : decode cX6_minor 81 = .ok (.getfield 46, 3) := by decide +kernel
theorem dX6_minor_84 : decode cX6_minor 84 = .ok (.aload_n 0, 1) := by decide +kernel
theorem dX6_minor_85 : decode cX6_minor 85 = .ok (.getfield 52, 3) := by decide +kernel
theorem dX6_minor_88 : decode cX6_minor 88 = .ok (.iload 4, 2) := by decide +kernel
theorem dX6_minor_90 : decode cX6_minor 90 = .ok (.iaload, 1) := by decide +kernel
theorem dX6_minor_91 : decode cX6_minor 91 = .ok (.laload, 1) := by decide +kernel
theorem dX6_minor_92 : decode cX6_minor 92 = .ok (.goto 25, 3) := by decide +kernel
theorem dX6_minor_95 : decode cX6_minor 95 = .ok (.aload_n 0, 1) := by decide +kernel
theorem dX6_minor_96 : decode cX6_minor 96 = .ok (.getfield 42, 3) := by decide +kernel
theorem dX6_minor_99 : decode cX6_minor 99 = .ok (.iconst 5, 1) := by decide +kernel
theorem dX6_minor_100 : decode cX6_minor 100 = .ok (.aload_n 0, 1) := by decide +kernel
theorem dX6_minor_101 : decode cX6_minor 101 = .ok (.getfield 52, 3) := by decide +kernel
theorem dX6_minor_104 : decode cX6_minor 104 = .ok (.iload 4, 2) := by decide +kernel
theorem dX6_minor_106 : decode cX6_minor 106 = .ok (.iaload, 1) := by decide +kernel
theorem dX6_minor_107 : decode cX6_minor 107 = .ok (.imul, 1) := by decide +kernel
theorem dX6_minor_108 : decode cX6_minor 108 = .ok (.aload_n 0, 1) := by decide +kernel
theorem dX6_minor_109 : decode cX6_minor 109 = .ok (.getfield 52, 3) := by decide +kernel
theorem dX6_minor_112 : decode cX6_minor 112 = .ok (.iload 5, 2) := by decide +kernel
theorem dX6_minor_114 : decode cX6_minor 114 = .ok (.iaload, 1) := by decide +kernel
theorem dX6_minor_115 : decode cX6_minor 115 = .ok (.iadd, 1) := by decide +kernel
theorem dX6_minor_116 : decode cX6_minor 116 = .ok (.laload, 1) := by decide +kernel
theorem dX6_minor_117 : decode cX6_minor 117 = .ok (.lastore, 1) := by decide +kernel
theorem dX6_minor_118 : decode cX6_minor 118 = .ok (.iinc 5 1, 3) := by decide +kernel
theorem dX6_minor_121 : decode cX6_minor 121 = .ok (.goto (-69), 3) := by decide +kernel
theorem dX6_minor_124 : decode cX6_minor 124 = .ok (.iinc 4 1, 3) := by decide +kernel
theorem dX6_minor_127 : decode cX6_minor 127 = .ok (.goto (-84), 3) := by decide +kernel
theorem dX6_minor_130 : decode cX6_minor 130 = .ok (.aload_n 0, 1) := by decide +kernel
theorem dX6_minor_131 : decode cX6_minor 131 = .ok (.iload_n 3, 1) := by decide +kernel
theorem dX6_minor_132 : decode cX6_minor 132 = .ok (.invokevirtual 148, 3) := by decide +kernel
theorem dX6_minor_135 : decode cX6_minor 135 = .ok (.lreturn, 1) := by decide +kernel
theorem dX6_columns_0 : decode cX6_columns 0 = .ok (.iconst 1, 1) := by decide +kernel
theorem dX6_columns_1 : decode cX6_columns 1 = .ok (.aload_n 0, 1) := by decide +kernel
theorem dX6_columns_2 : decode cX6_columns 2 = .ok (.getfield 58, 3) := by decide +kernel
theorem dX6_columns_5 : decode cX6_columns 5 = .ok (.ishl, 1) := by decide +kernel
theorem dX6_columns_6 : decode cX6_columns 6 = .ok (.iconst 1, 1) := by decide +kernel
theorem dX6_columns_7 : decode cX6_columns 7 = .ok (.isub, 1) := by decide +kernel
theorem dX6_columns_8 : decode cX6_columns 8 = .ok (.ireturn, 1) := by decide +kernel
theorem dX6_rankOf_0 : decode cX6_rankOf 0 = .ok (.aload_n 0, 1) := by decide +kernel
theorem dX6_rankOf_1 : decode cX6_rankOf 1 = .ok (.aload_n 1, 1) := by decide +kernel
theorem dX6_rankOf_2 : decode cX6_rankOf 2 = .ok (.iload_n 2, 1) := by decide +kernel
theorem dX6_rankOf_3 : decode cX6_rankOf 3 = .ok (.iload_n 3, 1) := by decide +kernel
theorem dX6_rankOf_4 : decode cX6_rankOf 4 = .ok (.invokevirtual 152, 3) := by decide +kernel
theorem dX6_rankOf_7 : decode cX6_rankOf 7 = .ok (.iconst 0, 1) := by decide +kernel
theorem dX6_rankOf_8 : decode cX6_rankOf 8 = .ok (.istore 4, 2) := by decide +kernel
theorem dX6_rankOf_10 : decode cX6_rankOf 10 = .ok (.iconst 1, 1) := by decide +kernel
theorem dX6_rankOf_11 : decode cX6_rankOf 11 = .ok (.istore 5, 2) := by decide +kernel
theorem dX6_rankOf_13 : decode cX6_rankOf 13 = .ok (.iload 5, 2) := by decide +kernel
theorem dX6_rankOf_15 : decode cX6_rankOf 15 = .ok (.aload_n 0, 1) := by decide +kernel
theorem dX6_rankOf_16 : decode cX6_rankOf 16 = .ok (.invokevirtual 155, 3) := by decide +kernel
theorem dX6_rankOf_19 : decode cX6_rankOf 19 = .ok (.if_icmp .gt 44, 3) := by decide +kernel
theorem dX6_rankOf_22 : decode cX6_rankOf 22 = .ok (.iload 5, 2) := by decide +kernel
theorem dX6_rankOf_24 : decode cX6_rankOf 24 = .ok (.invokestatic 158, 3) := by decide +kernel
theorem dX6_rankOf_27 : decode cX6_rankOf 27 = .ok (.iload 4, 2) := by decide +kernel
theorem dX6_rankOf_29 : decode cX6_rankOf 29 = .ok (.if_icmp .le 24, 3) := by decide +kernel
theorem dX6_rankOf_32 : decode cX6_rankOf 32 = .ok (.aload_n 0, 1) := by decide +kernel
theorem dX6_rankOf_33 : decode cX6_rankOf 33 = .ok (.iload 5, 2) := by decide +kernel
theorem dX6_rankOf_35 : decode cX6_rankOf 35 = .ok (.bipush (-9), 2) := by decide +kernel
theorem dX6_rankOf_37 : decode cX6_rankOf 37 = .ok (.invokevirtual 162, 3) := by decide +kernel
theorem dX6_rankOf_40 : decode cX6_rankOf 40 = .ok (.lconst 0, 1) := by decide +kernel
theorem dX6_rankOf_41 : decode cX6_rankOf 41 = .ok (.lcmp, 1) := by decide +kernel
theorem dX6_rankOf_42 : decode cX6_rankOf 42 = .ok (.ifCond .eq 11, 3) := by decide +kernel
theorem dX6_rankOf_45 : decode cX6_rankOf 45 = .ok (.iload 5, 2) := by decide +kernel
theorem dX6_rankOf_47 : decode cX6_rankOf 47 = .ok (.invokestatic 158, 3) := by decide +kernel
theorem dX6_rankOf_50 : decode cX6_rankOf 50 = .ok (.goto 5, 3) := by decide +kernel
theorem dX6_rankOf_53 : decode cX6_rankOf 53 = .ok (.iload 4, 2) := by decide +kernel
theorem dX6_rankOf_55 : decode cX6_rankOf 55 = .ok (.istore 4, 2) := by decide +kernel
theorem dX6_rankOf_57 : decode cX6_rankOf 57 = .ok (.iinc 5 1, 3) := by decide +kernel
theorem dX6_rankOf_60 : decode cX6_rankOf 60 = .ok (.goto (-47), 3) := by decide +kernel
theorem dX6_rankOf_63 : decode cX6_rankOf 63 = .ok (.iload 4, 2) := by decide +kernel
theorem dX6_rankOf_65 : decode cX6_rankOf 65 = .ok (.ireturn, 1) := by decide +kernel
theorem dX6_isLaid_0 : decode cX6_isLaid 0 = .ok (.aload_n 0, 1) := by decide +kernel
theorem dX6_isLaid_1 : decode cX6_isLaid 1 = .ok (.aload_n 1, 1) := by decide +kernel
theorem dX6_isLaid_2 : decode cX6_isLaid 2 = .ok (.iload_n 2, 1) := by decide +kernel
theorem dX6_isLaid_3 : decode cX6_isLaid 3 = .ok (.iload_n 3, 1) := by decide +kernel
theorem dX6_isLaid_4 : decode cX6_isLaid 4 = .ok (.invokevirtual 152, 3) := by decide +kernel
theorem dX6_isLaid_7 : decode cX6_isLaid 7 = .ok (.aload_n 0, 1) := by decide +kernel
theorem dX6_isLaid_8 : decode cX6_isLaid 8 = .ok (.aload_n 0, 1) := by decide +kernel
theorem dX6_isLaid_9 : decode cX6_isLaid 9 = .ok (.invokevirtual 155, 3) := by decide +kernel
theorem dX6_isLaid_12 : decode cX6_isLaid 12 = .ok (.bipush (-9), 2) := by decide +kernel
theorem dX6_isLaid_14 : decode cX6_isLaid 14 = .ok (.invokevirtual 162, 3) := by decide +kernel
theorem dX6_isLaid_17 : decode cX6_isLaid 17 = .ok (.lconst 0, 1) := by decide +kernel
theorem dX6_isLaid_18 : decode cX6_isLaid 18 = .ok (.lcmp, 1) := by decide +kernel
theorem dX6_isLaid_19 : decode cX6_isLaid 19 = .ok (.ifCond .eq 7, 3) := by decide +kernel
theorem dX6_isLaid_22 : decode cX6_isLaid 22 = .ok (.iconst 1, 1) := by decide +kernel
theorem dX6_isLaid_23 : decode cX6_isLaid 23 = .ok (.goto 4, 3) := by decide +kernel
theorem dX6_isLaid_26 : decode cX6_isLaid 26 = .ok (.iconst 0, 1) := by decide +kernel
theorem dX6_isLaid_27 : decode cX6_isLaid 27 = .ok (.ireturn, 1) := by decide +kernel
theorem dX6_divisor_0 : decode cX6_divisor 0 = .ok (.lload_n 0, 1) := by decide +kernel
theorem dX6_divisor_1 : decode cX6_divisor 1 = .ok (.lconst 0, 1) := by decide +kernel
theorem dX6_divisor_2 : decode cX6_divisor 2 = .ok (.lcmp, 1) := by decide +kernel
theorem dX6_divisor_3 : decode cX6_divisor 3 = .ok (.ifCond .ge 8, 3) := by decide +kernel
theorem dX6_divisor_6 : decode cX6_divisor 6 = .ok (.lload_n 0, 1) := by decide +kernel
theorem dX6_divisor_7 : decode cX6_divisor 7 = .ok (.lneg, 1) := by decide +kernel
theorem dX6_divisor_8 : decode cX6_divisor 8 = .ok (.goto 4, 3) := by decide +kernel
theorem dX6_divisor_11 : decode cX6_divisor 11 = .ok (.lload_n 0, 1) := by decide +kernel
theorem dX6_divisor_12 : decode cX6_divisor 12 = .ok (.lstore 4, 2) := by decide +kernel
theorem dX6_divisor_14 : decode cX6_divisor 14 = .ok (.lload_n 2, 1) := by decide +kernel
theorem dX6_divisor_15 : decode cX6_divisor 15 = .ok (.lconst 0, 1) := by decide +kernel
theorem dX6_divisor_16 : decode cX6_divisor 16 = .ok (.lcmp, 1) := by decide +kernel
theorem dX6_divisor_17 : decode cX6_divisor 17 = .ok (.ifCond .ge 8, 3) := by decide +kernel
theorem dX6_divisor_20 : decode cX6_divisor 20 = .ok (.lload_n 2, 1) := by decide +kernel
theorem dX6_divisor_21 : decode cX6_divisor 21 = .ok (.lneg, 1) := by decide +kernel
theorem dX6_divisor_22 : decode cX6_divisor 22 = .ok (.goto 4, 3) := by decide +kernel
theorem dX6_divisor_25 : decode cX6_divisor 25 = .ok (.lload_n 2, 1) := by decide +kernel
theorem dX6_divisor_26 : decode cX6_divisor 26 = .ok (.lstore 6, 2) := by decide +kernel
theorem dX6_divisor_28 : decode cX6_divisor 28 = .ok (.lload 6, 2) := by decide +kernel
theorem dX6_divisor_30 : decode cX6_divisor 30 = .ok (.lconst 0, 1) := by decide +kernel
theorem dX6_divisor_31 : decode cX6_divisor 31 = .ok (.lcmp, 1) := by decide +kernel
theorem dX6_divisor_32 : decode cX6_divisor 32 = .ok (.ifCond .eq 21, 3) := by decide +kernel
theorem dX6_divisor_35 : decode cX6_divisor 35 = .ok (.lload 4, 2) := by decide +kernel
theorem dX6_divisor_37 : decode cX6_divisor 37 = .ok (.lload 6, 2) := by decide +kernel
theorem dX6_divisor_39 : decode cX6_divisor 39 = .ok (.lrem, 1) := by decide +kernel
theorem dX6_divisor_40 : decode cX6_divisor 40 = .ok (.lstore 8, 2) := by decide +kernel
theorem dX6_divisor_42 : decode cX6_divisor 42 = .ok (.lload 6, 2) := by decide +kernel
theorem dX6_divisor_44 : decode cX6_divisor 44 = .ok (.lstore 4, 2) := by decide +kernel
theorem dX6_divisor_46 : decode cX6_divisor 46 = .ok (.lload 8, 2) := by decide +kernel
theorem dX6_divisor_48 : decode cX6_divisor 48 = .ok (.lstore 6, 2) := by decide +kernel
theorem dX6_divisor_50 : decode cX6_divisor 50 = .ok (.goto (-22), 3) := by decide +kernel
theorem dX6_divisor_53 : decode cX6_divisor 53 = .ok (.lload 4, 2) := by decide +kernel
theorem dX6_divisor_55 : decode cX6_divisor 55 = .ok (.lreturn, 1) := by decide +kernel
theorem dX6_layFraction_0 : decode cX6_layFraction 0 = .ok (.lload_n 1, 1) := by decide +kernel
theorem dX6_layFraction_1 : decode cX6_layFraction 1 = .ok (.lload_n 3, 1) := by decide +kernel
theorem dX6_layFraction_2 : decode cX6_layFraction 2 = .ok (.invokestatic 166, 3) := by decide +kernel
theorem dX6_layFraction_5 : decode cX6_layFraction 5 = .ok (.lstore 5, 2) := by decide +kernel
theorem dX6_layFraction_7 : decode cX6_layFraction 7 = .ok (.aload_n 0, 1) := by decide +kernel
theorem dX6_layFraction_8 : decode cX6_layFraction 8 = .ok (.lload_n 3, 1) := by decide +kernel
theorem dX6_layFraction_9 : decode cX6_layFraction 9 = .ok (.lconst 0, 1) := by decide +kernel
theorem dX6_layFraction_10 : decode cX6_layFraction 10 = .ok (.lcmp, 1) := by decide +kernel
theorem dX6_layFraction_11 : decode cX6_layFraction 11 = .ok (.ifCond .ge 11, 3) := by decide +kernel
theorem dX6_layFraction_14 : decode cX6_layFraction 14 = .ok (.lload_n 1, 1) := by decide +kernel
theorem dX6_layFraction_15 : decode cX6_layFraction 15 = .ok (.lneg, 1) := by decide +kernel
theorem dX6_layFraction_16 : decode cX6_layFraction 16 = .ok (.lload 5, 2) := by decide +kernel
theorem dX6_layFraction_18 : decode cX6_layFraction 18 = .ok (.ldiv, 1) := by decide +kernel
theorem dX6_layFraction_19 : decode cX6_layFraction 19 = .ok (.goto 7, 3) := by decide +kernel
theorem dX6_layFraction_22 : decode cX6_layFraction 22 = .ok (.lload_n 1, 1) := by decide +kernel
theorem dX6_layFraction_23 : decode cX6_layFraction 23 = .ok (.lload 5, 2) := by decide +kernel
theorem dX6_layFraction_25 : decode cX6_layFraction 25 = .ok (.ldiv, 1) := by decide +kernel
theorem dX6_layFraction_26 : decode cX6_layFraction 26 = .ok (.putfield 170, 3) := by decide +kernel
theorem dX6_layFraction_29 : decode cX6_layFraction 29 = .ok (.aload_n 0, 1) := by decide +kernel
theorem dX6_layFraction_30 : decode cX6_layFraction 30 = .ok (.lload_n 3, 1) := by decide +kernel
theorem dX6_layFraction_31 : decode cX6_layFraction 31 = .ok (.lconst 0, 1) := by decide +kernel
theorem dX6_layFraction_32 : decode cX6_layFraction 32 = .ok (.lcmp, 1) := by decide +kernel
theorem dX6_layFraction_33 : decode cX6_layFraction 33 = .ok (.ifCond .ge 11, 3) := by decide +kernel
theorem dX6_layFraction_36 : decode cX6_layFraction 36 = .ok (.lload_n 3, 1) := by decide +kernel
theorem dX6_layFraction_37 : decode cX6_layFraction 37 = .ok (.lneg, 1) := by decide +kernel
theorem dX6_layFraction_38 : decode cX6_layFraction 38 = .ok (.lload 5, 2) := by decide +kernel
theorem dX6_layFraction_40 : decode cX6_layFraction 40 = .ok (.ldiv, 1) := by decide +kernel
theorem dX6_layFraction_41 : decode cX6_layFraction 41 = .ok (.goto 7, 3) := by decide +kernel
theorem dX6_layFraction_44 : decode cX6_layFraction 44 = .ok (.lload_n 3, 1) := by decide +kernel
theorem dX6_layFraction_45 : decode cX6_layFraction 45 = .ok (.lload 5, 2) := by decide +kernel
theorem dX6_layFraction_47 : decode cX6_layFraction 47 = .ok (.ldiv, 1) := by decide +kernel
theorem dX6_layFraction_48 : decode cX6_layFraction 48 = .ok (.putfield 173, 3) := by decide +kernel
theorem dX6_layFraction_51 : decode cX6_layFraction 51 = .ok (.return_, 1) := by decide +kernel
theorem dX6_told_0 : decode cX6_told 0 = .ok (.iload_n 1, 1) := by decide +kernel
theorem dX6_told_1 : decode cX6_told 1 = .ok (.ifCond .eq 10, 3) := by decide +kernel
theorem dX6_told_4 : decode cX6_told 4 = .ok (.aload_n 0, 1) := by decide +kernel
theorem dX6_told_5 : decode cX6_told 5 = .ok (.getfield 170, 3) := by decide +kernel
theorem dX6_told_8 : decode cX6_told 8 = .ok (.goto 7, 3) := by decide +kernel
theorem dX6_told_11 : decode cX6_told 11 = .ok (.aload_n 0, 1) := by decide +kernel
theorem dX6_told_12 : decode cX6_told 12 = .ok (.getfield 173, 3) := by decide +kernel
theorem dX6_told_15 : decode cX6_told 15 = .ok (.lreturn, 1) := by decide +kernel
theorem dX6_layTotal_0 : decode cX6_layTotal 0 = .ok (.lconst 0, 1) := by decide +kernel
theorem dX6_layTotal_1 : decode cX6_layTotal 1 = .ok (.lstore_n 1, 1) := by decide +kernel
theorem dX6_layTotal_2 : decode cX6_layTotal 2 = .ok (.iconst 0, 1) := by decide +kernel
theorem dX6_layTotal_3 : decode cX6_layTotal 3 = .ok (.istore_n 3, 1) := by decide +kernel
theorem dX6_layTotal_4 : decode cX6_layTotal 4 = .ok (.iload_n 3, 1) := by decide +kernel
theorem dX6_layTotal_5 : decode cX6_layTotal 5 = .ok (.aload_n 0, 1) := by decide +kernel
theorem dX6_layTotal_6 : decode cX6_layTotal 6 = .ok (.getfield 17, 3) := by decide +kernel
theorem dX6_layTotal_9 : decode cX6_layTotal 9 = .ok (.if_icmp .ge 28, 3) := by decide +kernel
theorem dX6_layTotal_12 : decode cX6_layTotal 12 = .ok (.lload_n 1, 1) := by decide +kernel
theorem dX6_layTotal_13 : decode cX6_layTotal 13 = .ok (.aload_n 0, 1) := by decide +kernel
theorem dX6_layTotal_14 : decode cX6_layTotal 14 = .ok (.aload_n 0, 1) := by decide +kernel
theorem dX6_layTotal_15 : decode cX6_layTotal 15 = .ok (.invokevirtual 155, 3) := by decide +kernel
theorem dX6_layTotal_18 : decode cX6_layTotal 18 = .ok (.iconst 1, 1) := by decide +kernel
theorem dX6_layTotal_19 : decode cX6_layTotal 19 = .ok (.iload_n 3, 1) := by decide +kernel
theorem dX6_layTotal_20 : decode cX6_layTotal 20 = .ok (.ishl, 1) := by decide +kernel
theorem dX6_layTotal_21 : decode cX6_layTotal 21 = .ok (.iconst (-1), 1) := by decide +kernel
theorem dX6_layTotal_22 : decode cX6_layTotal 22 = .ok (.ixor, 1) := by decide +kernel
theorem dX6_layTotal_23 : decode cX6_layTotal 23 = .ok (.iand, 1) := by decide +kernel
theorem dX6_layTotal_24 : decode cX6_layTotal 24 = .ok (.bipush (-9), 2) := by decide +kernel
theorem dX6_layTotal_26 : decode cX6_layTotal 26 = .ok (.invokevirtual 162, 3) := by decide +kernel
theorem dX6_layTotal_29 : decode cX6_layTotal 29 = .ok (.ladd, 1) := by decide +kernel
theorem dX6_layTotal_30 : decode cX6_layTotal 30 = .ok (.lstore_n 1, 1) := by decide +kernel
theorem dX6_layTotal_31 : decode cX6_layTotal 31 = .ok (.iinc 3 1, 3) := by decide +kernel
theorem dX6_layTotal_34 : decode cX6_layTotal 34 = .ok (.goto (-30), 3) := by decide +kernel
theorem dX6_layTotal_37 : decode cX6_layTotal 37 = .ok (.aload_n 0, 1) := by decide +kernel
theorem dX6_layTotal_38 : decode cX6_layTotal 38 = .ok (.lload_n 1, 1) := by decide +kernel
theorem dX6_layTotal_39 : decode cX6_layTotal 39 = .ok (.aload_n 0, 1) := by decide +kernel
theorem dX6_layTotal_40 : decode cX6_layTotal 40 = .ok (.aload_n 0, 1) := by decide +kernel
theorem dX6_layTotal_41 : decode cX6_layTotal 41 = .ok (.invokevirtual 155, 3) := by decide +kernel
theorem dX6_layTotal_44 : decode cX6_layTotal 44 = .ok (.bipush (-9), 2) := by decide +kernel
theorem dX6_layTotal_46 : decode cX6_layTotal 46 = .ok (.invokevirtual 162, 3) := by decide +kernel
theorem dX6_layTotal_49 : decode cX6_layTotal 49 = .ok (.invokevirtual 176, 3) := by decide +kernel
theorem dX6_layTotal_52 : decode cX6_layTotal 52 = .ok (.return_, 1) := by decide +kernel
theorem dX6_laySquares_0 : decode cX6_laySquares 0 = .ok (.aload_n 0, 1) := by decide +kernel
theorem dX6_laySquares_1 : decode cX6_laySquares 1 = .ok (.aload_n 0, 1) := by decide +kernel
theorem dX6_laySquares_2 : decode cX6_laySquares 2 = .ok (.invokevirtual 155, 3) := by decide +kernel
theorem dX6_laySquares_5 : decode cX6_laySquares 5 = .ok (.bipush (-9), 2) := by decide +kernel
theorem dX6_laySquares_7 : decode cX6_laySquares 7 = .ok (.invokevirtual 162, 3) := by decide +kernel
theorem dX6_laySquares_10 : decode cX6_laySquares 10 = .ok (.lstore_n 1, 1) := by decide +kernel
theorem dX6_laySquares_11 : decode cX6_laySquares 11 = .ok (.lload_n 1, 1) := by decide +kernel
theorem dX6_laySquares_12 : decode cX6_laySquares 12 = .ok (.aload_n 0, 1) := by decide +kernel
theorem dX6_laySquares_13 : decode cX6_laySquares 13 = .ok (.getfield 132, 3) := by decide +kernel
theorem dX6_laySquares_16 : decode cX6_laySquares 16 = .ok (.lmul, 1) := by decide +kernel
theorem dX6_laySquares_17 : decode cX6_laySquares 17 = .ok (.lstore_n 3, 1) := by decide +kernel
theorem dX6_laySquares_18 : decode cX6_laySquares 18 = .ok (.iconst 0, 1) := by decide +kernel
theorem dX6_laySquares_19 : decode cX6_laySquares 19 = .ok (.istore 5, 2) := by decide +kernel
theorem dX6_laySquares_21 : decode cX6_laySquares 21 = .ok (.iload 5, 2) := by decide +kernel
theorem dX6_laySquares_23 : decode cX6_laySquares 23 = .ok (.aload_n 0, 1) := by decide +kernel
theorem dX6_laySquares_24 : decode cX6_laySquares 24 = .ok (.getfield 58, 3) := by decide +kernel
theorem dX6_laySquares_27 : decode cX6_laySquares 27 = .ok (.if_icmp .ge 30, 3) := by decide +kernel
theorem dX6_laySquares_30 : decode cX6_laySquares 30 = .ok (.lload_n 3, 1) := by decide +kernel
theorem dX6_laySquares_31 : decode cX6_laySquares 31 = .ok (.aload_n 0, 1) := by decide +kernel
theorem dX6_laySquares_32 : decode cX6_laySquares 32 = .ok (.aload_n 0, 1) := by decide +kernel
theorem dX6_laySquares_33 : decode cX6_laySquares 33 = .ok (.invokevirtual 155, 3) := by decide +kernel
theorem dX6_laySquares_36 : decode cX6_laySquares 36 = .ok (.iload 5, 2) := by decide +kernel
theorem dX6_laySquares_38 : decode cX6_laySquares 38 = .ok (.invokevirtual 162, 3) := by decide +kernel
theorem dX6_laySquares_41 : decode cX6_laySquares 41 = .ok (.aload_n 0, 1) := by decide +kernel
theorem dX6_laySquares_42 : decode cX6_laySquares 42 = .ok (.getfield 46, 3) := by decide +kernel
theorem dX6_laySquares_45 : decode cX6_laySquares 45 = .ok (.iload 5, 2) := by decide +kernel
theorem dX6_laySquares_47 : decode cX6_laySquares 47 = .ok (.laload, 1) := by decide +kernel
theorem dX6_laySquares_48 : decode cX6_laySquares 48 = .ok (.lmul, 1) := by decide +kernel
theorem dX6_laySquares_49 : decode cX6_laySquares 49 = .ok (.lsub, 1) := by decide +kernel
theorem dX6_laySquares_50 : decode cX6_laySquares 50 = .ok (.lstore_n 3, 1) := by decide +kernel
theorem dX6_laySquares_51 : decode cX6_laySquares 51 = .ok (.iinc 5 1, 3) := by decide +kernel
theorem dX6_laySquares_54 : decode cX6_laySquares 54 = .ok (.goto (-33), 3) := by decide +kernel
