theorem dX5_write_53 : decode cX5_write 53 = .ok (.iconst 1, 1) := by decide +kernel
theorem dX5_write_54 : decode cX5_write 54 = .ok (.iadd, 1) := by decide +kernel
theorem dX5_write_55 : decode cX5_write 55 = .ok (.putfield 59, 3) := by decide +kernel
theorem dX5_write_58 : decode cX5_write 58 = .ok (.aload_n 0, 1) := by decide +kernel
theorem dX5_write_59 : decode cX5_write 59 = .ok (.getfield 10, 3) := by decide +kernel
theorem dX5_write_62 : decode cX5_write 62 = .ok (.getfield 59, 3) := by decide +kernel
theorem dX5_write_65 : decode cX5_write 65 = .ok (.ireturn, 1) := by decide +kernel
theorem dX5_wipe_0 : decode cX5_wipe 0 = .ok (.aload_n 0, 1) := by decide +kernel
theorem dX5_wipe_1 : decode cX5_wipe 1 = .ok (.getfield 10, 3) := by decide +kernel
theorem dX5_wipe_4 : decode cX5_wipe 4 = .ok (.getfield 59, 3) := by decide +kernel
theorem dX5_wipe_7 : decode cX5_wipe 7 = .ok (.istore_n 1, 1) := by decide +kernel
theorem dX5_wipe_8 : decode cX5_wipe 8 = .ok (.aload_n 0, 1) := by decide +kernel
theorem dX5_wipe_9 : decode cX5_wipe 9 = .ok (.getfield 10, 3) := by decide +kernel
theorem dX5_wipe_12 : decode cX5_wipe 12 = .ok (.iconst 0, 1) := by decide +kernel
theorem dX5_wipe_13 : decode cX5_wipe 13 = .ok (.putfield 59, 3) := by decide +kernel
theorem dX5_wipe_16 : decode cX5_wipe 16 = .ok (.iload_n 1, 1) := by decide +kernel
theorem dX5_wipe_17 : decode cX5_wipe 17 = .ok (.ireturn, 1) := by decide +kernel
theorem dX5_fault_0 : decode cX5_fault 0 = .ok (.aload_n 0, 1) := by decide +kernel
theorem dX5_fault_1 : decode cX5_fault 1 = .ok (.getfield 10, 3) := by decide +kernel
theorem dX5_fault_4 : decode cX5_fault 4 = .ok (.invokevirtual 67, 3) := by decide +kernel
theorem dX5_fault_7 : decode cX5_fault 7 = .ok (.ireturn, 1) := by decide +kernel
theorem dX5_room_0 : decode cX5_room 0 = .ok (.aload_n 0, 1) := by decide +kernel
theorem dX5_room_1 : decode cX5_room 1 = .ok (.getfield 10, 3) := by decide +kernel
theorem dX5_room_4 : decode cX5_room 4 = .ok (.invokevirtual 67, 3) := by decide +kernel
theorem dX5_room_7 : decode cX5_room 7 = .ok (.bipush (-9), 2) := by decide +kernel
theorem dX5_room_9 : decode cX5_room 9 = .ok (.if_icmp .eq 6, 3) := by decide +kernel
theorem dX5_room_12 : decode cX5_room 12 = .ok (.bipush (-3), 2) := by decide +kernel
theorem dX5_room_14 : decode cX5_room 14 = .ok (.ireturn, 1) := by decide +kernel
theorem dX5_room_15 : decode cX5_room 15 = .ok (.aload_n 0, 1) := by decide +kernel
theorem dX5_room_16 : decode cX5_room 16 = .ok (.getfield 19, 3) := by decide +kernel
theorem dX5_room_19 : decode cX5_room 19 = .ok (.aload_n 0, 1) := by decide +kernel
theorem dX5_room_20 : decode cX5_room 20 = .ok (.getfield 10, 3) := by decide +kernel
theorem dX5_room_23 : decode cX5_room 23 = .ok (.invokevirtual 71, 3) := by decide +kernel
theorem dX5_room_26 : decode cX5_room 26 = .ok (.aload_n 0, 1) := by decide +kernel
theorem dX5_room_27 : decode cX5_room 27 = .ok (.getfield 29, 3) := by decide +kernel
theorem dX5_room_30 : decode cX5_room 30 = .ok (.invokevirtual 75, 3) := by decide +kernel
theorem dX5_room_33 : decode cX5_room 33 = .ok (.iconst 0, 1) := by decide +kernel
theorem dX5_room_34 : decode cX5_room 34 = .ok (.istore_n 1, 1) := by decide +kernel
theorem dX5_room_35 : decode cX5_room 35 = .ok (.iload_n 1, 1) := by decide +kernel
theorem dX5_room_36 : decode cX5_room 36 = .ok (.iconst 2, 1) := by decide +kernel
theorem dX5_room_37 : decode cX5_room 37 = .ok (.if_icmp .ge 16, 3) := by decide +kernel
theorem dX5_room_40 : decode cX5_room 40 = .ok (.aload_n 0, 1) := by decide +kernel
theorem dX5_room_41 : decode cX5_room 41 = .ok (.getfield 37, 3) := by decide +kernel
theorem dX5_room_44 : decode cX5_room 44 = .ok (.iload_n 1, 1) := by decide +kernel
theorem dX5_room_45 : decode cX5_room 45 = .ok (.iconst 0, 1) := by decide +kernel
theorem dX5_room_46 : decode cX5_room 46 = .ok (.bastore, 1) := by decide +kernel
theorem dX5_room_47 : decode cX5_room 47 = .ok (.iinc 1 1, 3) := by decide +kernel
theorem dX5_room_50 : decode cX5_room 50 = .ok (.goto (-15), 3) := by decide +kernel
theorem dX5_room_53 : decode cX5_room 53 = .ok (.aload_n 0, 1) := by decide +kernel
theorem dX5_room_54 : decode cX5_room 54 = .ok (.getfield 19, 3) := by decide +kernel
theorem dX5_room_57 : decode cX5_room 57 = .ok (.getfield 78, 3) := by decide +kernel
theorem dX5_room_60 : decode cX5_room 60 = .ok (.ireturn, 1) := by decide +kernel
theorem dX5_code_0 : decode cX5_code 0 = .ok (.aload_n 0, 1) := by decide +kernel
theorem dX5_code_1 : decode cX5_code 1 = .ok (.getfield 19, 3) := by decide +kernel
theorem dX5_code_4 : decode cX5_code 4 = .ok (.iload_n 1, 1) := by decide +kernel
theorem dX5_code_5 : decode cX5_code 5 = .ok (.invokevirtual 81, 3) := by decide +kernel
theorem dX5_code_8 : decode cX5_code 8 = .ok (.ifCond .eq 15, 3) := by decide +kernel
theorem dX5_code_11 : decode cX5_code 11 = .ok (.aload_n 0, 1) := by decide +kernel
theorem dX5_code_12 : decode cX5_code 12 = .ok (.getfield 19, 3) := by decide +kernel
theorem dX5_code_15 : decode cX5_code 15 = .ok (.getfield 85, 3) := by decide +kernel
theorem dX5_code_18 : decode cX5_code 18 = .ok (.iload_n 1, 1) := by decide +kernel
theorem dX5_code_19 : decode cX5_code 19 = .ok (.iaload, 1) := by decide +kernel
theorem dX5_code_20 : decode cX5_code 20 = .ok (.goto 4, 3) := by decide +kernel
theorem dX5_code_23 : decode cX5_code 23 = .ok (.iconst (-1), 1) := by decide +kernel
theorem dX5_code_24 : decode cX5_code 24 = .ok (.ireturn, 1) := by decide +kernel
theorem dX5_reading_0 : decode cX5_reading 0 = .ok (.aload_n 0, 1) := by decide +kernel
theorem dX5_reading_1 : decode cX5_reading 1 = .ok (.getfield 19, 3) := by decide +kernel
theorem dX5_reading_4 : decode cX5_reading 4 = .ok (.iload_n 1, 1) := by decide +kernel
theorem dX5_reading_5 : decode cX5_reading 5 = .ok (.invokevirtual 81, 3) := by decide +kernel
theorem dX5_reading_8 : decode cX5_reading 8 = .ok (.ifCond .eq 19, 3) := by decide +kernel
theorem dX5_reading_11 : decode cX5_reading 11 = .ok (.aload_n 0, 1) := by decide +kernel
theorem dX5_reading_12 : decode cX5_reading 12 = .ok (.getfield 19, 3) := by decide +kernel
theorem dX5_reading_15 : decode cX5_reading 15 = .ok (.getfield 88, 3) := by decide +kernel
theorem dX5_reading_18 : decode cX5_reading 18 = .ok (.iload_n 1, 1) := by decide +kernel
theorem dX5_reading_19 : decode cX5_reading 19 = .ok (.iaload, 1) := by decide +kernel
theorem dX5_reading_20 : decode cX5_reading 20 = .ok (.sipush 1000, 3) := by decide +kernel
theorem dX5_reading_23 : decode cX5_reading 23 = .ok (.iadd, 1) := by decide +kernel
theorem dX5_reading_24 : decode cX5_reading 24 = .ok (.goto 4, 3) := by decide +kernel
theorem dX5_reading_27 : decode cX5_reading 27 = .ok (.iconst (-1), 1) := by decide +kernel
theorem dX5_reading_28 : decode cX5_reading 28 = .ok (.ireturn, 1) := by decide +kernel
theorem dX5_weigh_0 : decode cX5_weigh 0 = .ok (.iload_n 1, 1) := by decide +kernel
theorem dX5_weigh_1 : decode cX5_weigh 1 = .ok (.aload_n 0, 1) := by decide +kernel
theorem dX5_weigh_2 : decode cX5_weigh 2 = .ok (.getfield 19, 3) := by decide +kernel
theorem dX5_weigh_5 : decode cX5_weigh 5 = .ok (.getfield 91, 3) := by decide +kernel
theorem dX5_weigh_8 : decode cX5_weigh 8 = .ok (.invokestatic 94, 3) := by decide +kernel
theorem dX5_weigh_11 : decode cX5_weigh 11 = .ok (.ifCond .eq 10, 3) := by decide +kernel
theorem dX5_weigh_14 : decode cX5_weigh 14 = .ok (.iload_n 2, 1) := by decide +kernel
theorem dX5_weigh_15 : decode cX5_weigh 15 = .ok (.invokestatic 98, 3) := by decide +kernel
theorem dX5_weigh_18 : decode cX5_weigh 18 = .ok (.ifCond .ne 6, 3) := by decide +kernel
theorem dX5_weigh_21 : decode cX5_weigh 21 = .ok (.bipush (-2), 2) := by decide +kernel
theorem dX5_weigh_23 : decode cX5_weigh 23 = .ok (.ireturn, 1) := by decide +kernel
theorem dX5_weigh_24 : decode cX5_weigh 24 = .ok (.aload_n 0, 1) := by decide +kernel
theorem dX5_weigh_25 : decode cX5_weigh 25 = .ok (.getfield 19, 3) := by decide +kernel
theorem dX5_weigh_28 : decode cX5_weigh 28 = .ok (.getfield 78, 3) := by decide +kernel
theorem dX5_weigh_31 : decode cX5_weigh 31 = .ok (.bipush 8, 2) := by decide +kernel
theorem dX5_weigh_33 : decode cX5_weigh 33 = .ok (.if_icmp .lt 6, 3) := by decide +kernel
theorem dX5_weigh_36 : decode cX5_weigh 36 = .ok (.bipush (-4), 2) := by decide +kernel
theorem dX5_weigh_38 : decode cX5_weigh 38 = .ok (.ireturn, 1) := by decide +kernel
theorem dX5_weigh_39 : decode cX5_weigh 39 = .ok (.aload_n 0, 1) := by decide +kernel
theorem dX5_weigh_40 : decode cX5_weigh 40 = .ok (.getfield 29, 3) := by decide +kernel
theorem dX5_weigh_43 : decode cX5_weigh 43 = .ok (.aload_n 0, 1) := by decide +kernel
theorem dX5_weigh_44 : decode cX5_weigh 44 = .ok (.getfield 19, 3) := by decide +kernel
theorem dX5_weigh_47 : decode cX5_weigh 47 = .ok (.invokevirtual 101, 3) := by decide +kernel
theorem dX5_weigh_50 : decode cX5_weigh 50 = .ok (.aload_n 0, 1) := by decide +kernel
theorem dX5_weigh_51 : decode cX5_weigh 51 = .ok (.getfield 19, 3) := by decide +kernel
theorem dX5_weigh_54 : decode cX5_weigh 54 = .ok (.iload_n 1, 1) := by decide +kernel
theorem dX5_weigh_55 : decode cX5_weigh 55 = .ok (.iload_n 2, 1) := by decide +kernel
theorem dX5_weigh_56 : decode cX5_weigh 56 = .ok (.invokevirtual 105, 3) := by decide +kernel
theorem dX5_weigh_59 : decode cX5_weigh 59 = .ok (.aload_n 0, 1) := by decide +kernel
theorem dX5_weigh_60 : decode cX5_weigh 60 = .ok (.getfield 19, 3) := by decide +kernel
theorem dX5_weigh_63 : decode cX5_weigh 63 = .ok (.getfield 78, 3) := by decide +kernel
theorem dX5_weigh_66 : decode cX5_weigh 66 = .ok (.ireturn, 1) := by decide +kernel
theorem dX5_take_0 : decode cX5_take 0 = .ok (.aload_n 0, 1) := by decide +kernel
theorem dX5_take_1 : decode cX5_take 1 = .ok (.getfield 19, 3) := by decide +kernel
theorem dX5_take_4 : decode cX5_take 4 = .ok (.iload_n 1, 1) := by decide +kernel
theorem dX5_take_5 : decode cX5_take 5 = .ok (.invokevirtual 81, 3) := by decide +kernel
theorem dX5_take_8 : decode cX5_take 8 = .ok (.ifCond .ne 5, 3) := by decide +kernel
theorem dX5_take_11 : decode cX5_take 11 = .ok (.iconst (-1), 1) := by decide +kernel
theorem dX5_take_12 : decode cX5_take 12 = .ok (.ireturn, 1) := by decide +kernel
theorem dX5_take_13 : decode cX5_take 13 = .ok (.aload_n 0, 1) := by decide +kernel
theorem dX5_take_14 : decode cX5_take 14 = .ok (.getfield 29, 3) := by decide +kernel
theorem dX5_take_17 : decode cX5_take 17 = .ok (.aload_n 0, 1) := by decide +kernel
theorem dX5_take_18 : decode cX5_take 18 = .ok (.getfield 19, 3) := by decide +kernel
theorem dX5_take_21 : decode cX5_take 21 = .ok (.invokevirtual 101, 3) := by decide +kernel
theorem dX5_take_24 : decode cX5_take 24 = .ok (.aload_n 0, 1) := by decide +kernel
theorem dX5_take_25 : decode cX5_take 25 = .ok (.getfield 19, 3) := by decide +kernel
theorem dX5_take_28 : decode cX5_take 28 = .ok (.iload_n 1, 1) := by decide +kernel
theorem dX5_take_29 : decode cX5_take 29 = .ok (.invokevirtual 109, 3) := by decide +kernel
theorem dX5_take_32 : decode cX5_take 32 = .ok (.aload_n 0, 1) := by decide +kernel
theorem dX5_take_33 : decode cX5_take 33 = .ok (.getfield 19, 3) := by decide +kernel
theorem dX5_take_36 : decode cX5_take 36 = .ok (.getfield 78, 3) := by decide +kernel
theorem dX5_take_39 : decode cX5_take 39 = .ok (.ireturn, 1) := by decide +kernel
theorem dX5_swap_0 : decode cX5_swap 0 = .ok (.aload_n 0, 1) := by decide +kernel
theorem dX5_swap_1 : decode cX5_swap 1 = .ok (.getfield 19, 3) := by decide +kernel
theorem dX5_swap_4 : decode cX5_swap 4 = .ok (.iload_n 1, 1) := by decide +kernel
theorem dX5_swap_5 : decode cX5_swap 5 = .ok (.invokevirtual 81, 3) := by decide +kernel
theorem dX5_swap_8 : decode cX5_swap 8 = .ok (.ifCond .eq 14, 3) := by decide +kernel
theorem dX5_swap_11 : decode cX5_swap 11 = .ok (.aload_n 0, 1) := by decide +kernel
theorem dX5_swap_12 : decode cX5_swap 12 = .ok (.getfield 19, 3) := by decide +kernel
theorem dX5_swap_15 : decode cX5_swap 15 = .ok (.iload_n 2, 1) := by decide +kernel
theorem dX5_swap_16 : decode cX5_swap 16 = .ok (.invokevirtual 81, 3) := by decide +kernel
theorem dX5_swap_19 : decode cX5_swap 19 = .ok (.ifCond .ne 5, 3) := by decide +kernel
theorem dX5_swap_22 : decode cX5_swap 22 = .ok (.iconst (-1), 1) := by decide +kernel
theorem dX5_swap_23 : decode cX5_swap 23 = .ok (.ireturn, 1) := by decide +kernel
theorem dX5_swap_24 : decode cX5_swap 24 = .ok (.iload_n 1, 1) := by decide +kernel
theorem dX5_swap_25 : decode cX5_swap 25 = .ok (.iload_n 2, 1) := by decide +kernel
theorem dX5_swap_26 : decode cX5_swap 26 = .ok (.if_icmp .ne 6, 3) := by decide +kernel
theorem dX5_swap_29 : decode cX5_swap 29 = .ok (.bipush (-3), 2) := by decide +kernel
theorem dX5_swap_31 : decode cX5_swap 31 = .ok (.ireturn, 1) := by decide +kernel
theorem dX5_swap_32 : decode cX5_swap 32 = .ok (.aload_n 0, 1) := by decide +kernel
theorem dX5_swap_33 : decode cX5_swap 33 = .ok (.getfield 29, 3) := by decide +kernel
theorem dX5_swap_36 : decode cX5_swap 36 = .ok (.aload_n 0, 1) := by decide +kernel
theorem dX5_swap_37 : decode cX5_swap 37 = .ok (.getfield 19, 3) := by decide +kernel
theorem dX5_swap_40 : decode cX5_swap 40 = .ok (.invokevirtual 101, 3) := by decide +kernel
theorem dX5_swap_43 : decode cX5_swap 43 = .ok (.aload_n 0, 1) := by decide +kernel
theorem dX5_swap_44 : decode cX5_swap 44 = .ok (.getfield 19, 3) := by decide +kernel
theorem dX5_swap_47 : decode cX5_swap 47 = .ok (.iload_n 1, 1) := by decide +kernel
theorem dX5_swap_48 : decode cX5_swap 48 = .ok (.iload_n 2, 1) := by decide +kernel
theorem dX5_swap_49 : decode cX5_swap 49 = .ok (.invokevirtual 113, 3) := by decide +kernel
theorem dX5_swap_52 : decode cX5_swap 52 = .ok (.aload_n 0, 1) := by decide +kernel
theorem dX5_swap_53 : decode cX5_swap 53 = .ok (.getfield 19, 3) := by decide +kernel
theorem dX5_swap_56 : decode cX5_swap 56 = .ok (.getfield 85, 3) := by decide +kernel
theorem dX5_swap_59 : decode cX5_swap 59 = .ok (.iload_n 1, 1) := by decide +kernel
theorem dX5_swap_60 : decode cX5_swap 60 = .ok (.iaload, 1) := by decide +kernel
theorem dX5_swap_61 : decode cX5_swap 61 = .ok (.ireturn, 1) := by decide +kernel
theorem dX5_read_0 : decode cX5_read 0 = .ok (.aload_n 0, 1) := by decide +kernel
theorem dX5_read_1 : decode cX5_read 1 = .ok (.getfield 19, 3) := by decide +kernel
theorem dX5_read_4 : decode cX5_read 4 = .ok (.iload_n 1, 1) := by decide +kernel
theorem dX5_read_5 : decode cX5_read 5 = .ok (.invokevirtual 81, 3) := by decide +kernel
theorem dX5_read_8 : decode cX5_read 8 = .ok (.ifCond .ne 5, 3) := by decide +kernel
theorem dX5_read_11 : decode cX5_read 11 = .ok (.iconst (-1), 1) := by decide +kernel
theorem dX5_read_12 : decode cX5_read 12 = .ok (.ireturn, 1) := by decide +kernel
theorem dX5_read_13 : decode cX5_read 13 = .ok (.iload_n 2, 1) := by decide +kernel
theorem dX5_read_14 : decode cX5_read 14 = .ok (.invokestatic 98, 3) := by decide +kernel
theorem dX5_read_17 : decode cX5_read 17 = .ok (.ifCond .ne 6, 3) := by decide +kernel
theorem dX5_read_20 : decode cX5_read 20 = .ok (.bipush (-2), 2) := by decide +kernel
theorem dX5_read_22 : decode cX5_read 22 = .ok (.ireturn, 1) := by decide +kernel
theorem dX5_read_23 : decode cX5_read 23 = .ok (.aload_n 0, 1) := by decide +kernel
theorem dX5_read_24 : decode cX5_read 24 = .ok (.getfield 29, 3) := by decide +kernel
theorem dX5_read_27 : decode cX5_read 27 = .ok (.aload_n 0, 1) := by decide +kernel
theorem dX5_read_28 : decode cX5_read 28 = .ok (.getfield 19, 3) := by decide +kernel
theorem dX5_read_31 : decode cX5_read 31 = .ok (.invokevirtual 101, 3) := by decide +kernel
theorem dX5_read_34 : decode cX5_read 34 = .ok (.aload_n 0, 1) := by decide +kernel
theorem dX5_read_35 : decode cX5_read 35 = .ok (.getfield 19, 3) := by decide +kernel
theorem dX5_read_38 : decode cX5_read 38 = .ok (.getfield 88, 3) := by decide +kernel
theorem dX5_read_41 : decode cX5_read 41 = .ok (.iload_n 1, 1) := by decide +kernel
theorem dX5_read_42 : decode cX5_read 42 = .ok (.iaload, 1) := by decide +kernel
theorem dX5_read_43 : decode cX5_read 43 = .ok (.istore_n 3, 1) := by decide +kernel
theorem dX5_read_44 : decode cX5_read 44 = .ok (.aload_n 0, 1) := by decide +kernel
theorem dX5_read_45 : decode cX5_read 45 = .ok (.getfield 19, 3) := by decide +kernel
theorem dX5_read_48 : decode cX5_read 48 = .ok (.getfield 88, 3) := by decide +kernel
theorem dX5_read_51 : decode cX5_read 51 = .ok (.iload_n 1, 1) := by decide +kernel
theorem dX5_read_52 : decode cX5_read 52 = .ok (.iload_n 2, 1) := by decide +kernel
theorem dX5_read_53 : decode cX5_read 53 = .ok (.iastore, 1) := by decide +kernel
theorem dX5_read_54 : decode cX5_read 54 = .ok (.iload_n 3, 1) := by decide +kernel
theorem dX5_read_55 : decode cX5_read 55 = .ok (.sipush 1000, 3) := by decide +kernel
theorem dX5_read_58 : decode cX5_read 58 = .ok (.iadd, 1) := by decide +kernel
theorem dX5_read_59 : decode cX5_read 59 = .ok (.ireturn, 1) := by decide +kernel
theorem dX5_master_0 : decode cX5_master 0 = .ok (.iload_n 1, 1) := by decide +kernel
theorem dX5_master_1 : decode cX5_master 1 = .ok (.ifCond .lt 9, 3) := by decide +kernel
theorem dX5_master_4 : decode cX5_master 4 = .ok (.iload_n 1, 1) := by decide +kernel
theorem dX5_master_5 : decode cX5_master 5 = .ok (.bipush 99, 2) := by decide +kernel
theorem dX5_master_7 : decode cX5_master 7 = .ok (.if_icmp .le 6, 3) := by decide +kernel
theorem dX5_master_10 : decode cX5_master 10 = .ok (.bipush (-2), 2) := by decide +kernel
theorem dX5_master_12 : decode cX5_master 12 = .ok (.ireturn, 1) := by decide +kernel
theorem dX5_master_13 : decode cX5_master 13 = .ok (.aload_n 0, 1) := by decide +kernel
theorem dX5_master_14 : decode cX5_master 14 = .ok (.getfield 29, 3) := by decide +kernel
theorem dX5_master_17 : decode cX5_master 17 = .ok (.aload_n 0, 1) := by decide +kernel
theorem dX5_master_18 : decode cX5_master 18 = .ok (.getfield 19, 3) := by decide +kernel
theorem dX5_master_21 : decode cX5_master 21 = .ok (.invokevirtual 101, 3) := by decide +kernel
theorem dX5_master_24 : decode cX5_master 24 = .ok (.aload_n 0, 1) := by decide +kernel
theorem dX5_master_25 : decode cX5_master 25 = .ok (.getfield 19, 3) := by decide +kernel
theorem dX5_master_28 : decode cX5_master 28 = .ok (.getfield 116, 3) := by decide +kernel
theorem dX5_master_31 : decode cX5_master 31 = .ok (.istore_n 2, 1) := by decide +kernel
theorem dX5_master_32 : decode cX5_master 32 = .ok (.aload_n 0, 1) := by decide +kernel
theorem dX5_master_33 : decode cX5_master 33 = .ok (.getfield 19, 3) := by decide +kernel
theorem dX5_master_36 : decode cX5_master 36 = .ok (.iload_n 1, 1) := by decide +kernel
theorem dX5_master_37 : decode cX5_master 37 = .ok (.putfield 116, 3) := by decide +kernel
theorem dX5_master_40 : decode cX5_master 40 = .ok (.iload_n 2, 1) := by decide +kernel
theorem dX5_master_41 : decode cX5_master 41 = .ok (.ireturn, 1) := by decide +kernel
theorem dX5_undo_0 : decode cX5_undo 0 = .ok (.aload_n 0, 1) := by decide +kernel
theorem dX5_undo_1 : decode cX5_undo 1 = .ok (.getfield 29, 3) := by decide +kernel
theorem dX5_undo_4 : decode cX5_undo 4 = .ok (.getfield 119, 3) := by decide +kernel
theorem dX5_undo_7 : decode cX5_undo 7 = .ok (.ifCond .ne 6, 3) := by decide +kernel
theorem dX5_undo_10 : decode cX5_undo 10 = .ok (.bipush (-3), 2) := by decide +kernel
theorem dX5_undo_12 : decode cX5_undo 12 = .ok (.ireturn, 1) := by decide +kernel
theorem dX5_undo_13 : decode cX5_undo 13 = .ok (.aload_n 0, 1) := by decide +kernel
theorem dX5_undo_14 : decode cX5_undo 14 = .ok (.getfield 29, 3) := by decide +kernel
theorem dX5_undo_17 : decode cX5_undo 17 = .ok (.aload_n 0, 1) := by decide +kernel
theorem dX5_undo_18 : decode cX5_undo 18 = .ok (.getfield 19, 3) := by decide +kernel
theorem dX5_undo_21 : decode cX5_undo 21 = .ok (.invokevirtual 122, 3) := by decide +kernel
theorem dX5_undo_24 : decode cX5_undo 24 = .ok (.aload_n 0, 1) := by decide +kernel
theorem dX5_undo_25 : decode cX5_undo 25 = .ok (.getfield 29, 3) := by decide +kernel
theorem dX5_undo_28 : decode cX5_undo 28 = .ok (.getfield 119, 3) := by decide +kernel
theorem dX5_undo_31 : decode cX5_undo 31 = .ok (.ireturn, 1) := by decide +kernel
theorem dX5_rank_0 : decode cX5_rank 0 = .ok (.aload_n 0, 1) := by decide +kernel
theorem dX5_rank_1 : decode cX5_rank 1 = .ok (.getfield 51, 3) := by decide +kernel
theorem dX5_rank_4 : decode cX5_rank 4 = .ok (.aload_n 0, 1) := by decide +kernel
theorem dX5_rank_5 : decode cX5_rank 5 = .ok (.getfield 19, 3) := by decide +kernel
theorem dX5_rank_8 : decode cX5_rank 8 = .ok (.iload_n 1, 1) := by decide +kernel
theorem dX5_rank_9 : decode cX5_rank 9 = .ok (.invokevirtual 125, 3) := by decide +kernel
theorem dX5_rank_12 : decode cX5_rank 12 = .ok (.ireturn, 1) := by decide +kernel
theorem dX5_value_0 : decode cX5_value 0 = .ok (.aload_n 0, 1) := by decide +kernel
theorem dX5_value_1 : decode cX5_value 1 = .ok (.getfield 19, 3) := by decide +kernel
theorem dX5_value_4 : decode cX5_value 4 = .ok (.iload_n 1, 1) := by decide +kernel
theorem dX5_value_5 : decode cX5_value 5 = .ok (.iload_n 2, 1) := by decide +kernel
theorem dX5_value_6 : decode cX5_value 6 = .ok (.invokevirtual 129, 3) := by decide +kernel
theorem dX5_value_9 : decode cX5_value 9 = .ok (.ifCond .ne 7, 3) := by decide +kernel
theorem dX5_value_12 : decode cX5_value 12 = .ok (.ldc2_w 133, 3) := by decide +kernel
theorem dX5_value_15 : decode cX5_value 15 = .ok (.lreturn, 1) := by decide +kernel
theorem dX5_value_16 : decode cX5_value 16 = .ok (.aload_n 0, 1) := by decide +kernel
theorem dX5_value_17 : decode cX5_value 17 = .ok (.getfield 44, 3) := by decide +kernel
theorem dX5_value_20 : decode cX5_value 20 = .ok (.aload_n 0, 1) := by decide +kernel
theorem dX5_value_21 : decode cX5_value 21 = .ok (.getfield 19, 3) := by decide +kernel
theorem dX5_value_24 : decode cX5_value 24 = .ok (.iload_n 2, 1) := by decide +kernel
theorem dX5_value_25 : decode cX5_value 25 = .ok (.invokevirtual 135, 3) := by decide +kernel
theorem dX5_value_28 : decode cX5_value 28 = .ok (.ifCond .ne 7, 3) := by decide +kernel
theorem dX5_value_31 : decode cX5_value 31 = .ok (.ldc2_w 139, 3) := by decide +kernel
theorem dX5_value_34 : decode cX5_value 34 = .ok (.lreturn, 1) := by decide +kernel
theorem dX5_value_35 : decode cX5_value 35 = .ok (.aload_n 0, 1) := by decide +kernel
theorem dX5_value_36 : decode cX5_value 36 = .ok (.getfield 44, 3) := by decide +kernel
theorem dX5_value_39 : decode cX5_value 39 = .ok (.iload_n 1, 1) := by decide +kernel
theorem dX5_value_40 : decode cX5_value 40 = .ok (.invokevirtual 141, 3) := by decide +kernel
theorem dX5_value_43 : decode cX5_value 43 = .ok (.aload_n 0, 1) := by decide +kernel
theorem dX5_value_44 : decode cX5_value 44 = .ok (.getfield 44, 3) := by decide +kernel
theorem dX5_value_47 : decode cX5_value 47 = .ok (.getfield 145, 3) := by decide +kernel
theorem dX5_value_50 : decode cX5_value 50 = .ok (.iload_n 3, 1) := by decide +kernel
theorem dX5_value_51 : decode cX5_value 51 = .ok (.invokestatic 148, 3) := by decide +kernel
theorem dX5_value_54 : decode cX5_value 54 = .ok (.lreturn, 1) := by decide +kernel
theorem dX5_spread_0 : decode cX5_spread 0 = .ok (.aload_n 0, 1) := by decide +kernel
theorem dX5_spread_1 : decode cX5_spread 1 = .ok (.getfield 19, 3) := by decide +kernel
theorem dX5_spread_4 : decode cX5_spread 4 = .ok (.iload_n 1, 1) := by decide +kernel
theorem dX5_spread_5 : decode cX5_spread 5 = .ok (.iload_n 2, 1) := by decide +kernel
theorem dX5_spread_6 : decode cX5_spread 6 = .ok (.invokevirtual 129, 3) := by decide +kernel
theorem dX5_spread_9 : decode cX5_spread 9 = .ok (.ifCond .ne 7, 3) := by decide +kernel
theorem dX5_spread_12 : decode cX5_spread 12 = .ok (.ldc2_w 133, 3) := by decide +kernel
theorem dX5_spread_15 : decode cX5_spread 15 = .ok (.lreturn, 1) := by decide +kernel
theorem dX5_spread_16 : decode cX5_spread 16 = .ok (.aload_n 0, 1) := by decide +kernel
theorem dX5_spread_17 : decode cX5_spread 17 = .ok (.getfield 44, 3) := by decide +kernel
theorem dX5_spread_20 : decode cX5_spread 20 = .ok (.aload_n 0, 1) := by decide +kernel
theorem dX5_spread_21 : decode cX5_spread 21 = .ok (.getfield 19, 3) := by decide +kernel
theorem dX5_spread_24 : decode cX5_spread 24 = .ok (.iload_n 2, 1) := by decide +kernel
theorem dX5_spread_25 : decode cX5_spread 25 = .ok (.invokevirtual 135, 3) := by decide +kernel
theorem dX5_spread_28 : decode cX5_spread 28 = .ok (.ifCond .ne 7, 3) := by decide +kernel
theorem dX5_spread_31 : decode cX5_spread 31 = .ok (.ldc2_w 139, 3) := by decide +kernel
theorem dX5_spread_34 : decode cX5_spread 34 = .ok (.lreturn, 1) := by decide +kernel
theorem dX5_spread_35 : decode cX5_spread 35 = .ok (.aload_n 0, 1) := by decide +kernel
theorem dX5_spread_36 : decode cX5_spread 36 = .ok (.getfield 44, 3) := by decide +kernel
theorem dX5_spread_39 : decode cX5_spread 39 = .ok (.iload_n 1, 1) := by decide +kernel
theorem dX5_spread_40 : decode cX5_spread 40 = .ok (.invokevirtual 152, 3) := by decide +kernel
theorem dX5_spread_43 : decode cX5_spread 43 = .ok (.aload_n 0, 1) := by decide +kernel
theorem dX5_spread_44 : decode cX5_spread 44 = .ok (.getfield 44, 3) := by decide +kernel
theorem dX5_spread_47 : decode cX5_spread 47 = .ok (.getfield 145, 3) := by decide +kernel
theorem dX5_spread_50 : decode cX5_spread 50 = .ok (.iload_n 3, 1) := by decide +kernel
theorem dX5_spread_51 : decode cX5_spread 51 = .ok (.invokestatic 148, 3) := by decide +kernel
theorem dX5_spread_54 : decode cX5_spread 54 = .ok (.lreturn, 1) := by decide +kernel
theorem dX5_total_0 : decode cX5_total 0 = .ok (.aload_n 0, 1) := by decide +kernel
theorem dX5_total_1 : decode cX5_total 1 = .ok (.getfield 44, 3) := by decide +kernel
theorem dX5_total_4 : decode cX5_total 4 = .ok (.aload_n 0, 1) := by decide +kernel
theorem dX5_total_5 : decode cX5_total 5 = .ok (.getfield 19, 3) := by decide +kernel
theorem dX5_total_8 : decode cX5_total 8 = .ok (.iload_n 1, 1) := by decide +kernel
theorem dX5_total_9 : decode cX5_total 9 = .ok (.invokevirtual 135, 3) := by decide +kernel
theorem dX5_total_12 : decode cX5_total 12 = .ok (.ifCond .ne 7, 3) := by decide +kernel
theorem dX5_total_15 : decode cX5_total 15 = .ok (.ldc2_w 139, 3) := by decide +kernel
theorem dX5_total_18 : decode cX5_total 18 = .ok (.lreturn, 1) := by decide +kernel
theorem dX5_total_19 : decode cX5_total 19 = .ok (.aload_n 0, 1) := by decide +kernel
theorem dX5_total_20 : decode cX5_total 20 = .ok (.getfield 44, 3) := by decide +kernel
theorem dX5_total_23 : decode cX5_total 23 = .ok (.invokevirtual 155, 3) := by decide +kernel
theorem dX5_total_26 : decode cX5_total 26 = .ok (.aload_n 0, 1) := by decide +kernel
theorem dX5_total_27 : decode cX5_total 27 = .ok (.getfield 44, 3) := by decide +kernel
theorem dX5_total_30 : decode cX5_total 30 = .ok (.getfield 145, 3) := by decide +kernel
theorem dX5_total_33 : decode cX5_total 33 = .ok (.iload_n 2, 1) := by decide +kernel
theorem dX5_total_34 : decode cX5_total 34 = .ok (.invokestatic 148, 3) := by decide +kernel
theorem dX5_total_37 : decode cX5_total 37 = .ok (.lreturn, 1) := by decide +kernel
theorem dX5_rest_0 : decode cX5_rest 0 = .ok (.aload_n 0, 1) := by decide +kernel
theorem dX5_rest_1 : decode cX5_rest 1 = .ok (.getfield 19, 3) := by decide +kernel
theorem dX5_rest_4 : decode cX5_rest 4 = .ok (.iload_n 1, 1) := by decide +kernel
theorem dX5_rest_5 : decode cX5_rest 5 = .ok (.invokevirtual 81, 3) := by decide +kernel
theorem dX5_rest_8 : decode cX5_rest 8 = .ok (.ifCond .ne 7, 3) := by decide +kernel
theorem dX5_rest_11 : decode cX5_rest 11 = .ok (.ldc2_w 133, 3) := by decide +kernel
theorem dX5_rest_14 : decode cX5_rest 14 = .ok (.lreturn, 1) := by decide +kernel
theorem dX5_rest_15 : decode cX5_rest 15 = .ok (.aload_n 0, 1) := by decide +kernel
theorem dX5_rest_16 : decode cX5_rest 16 = .ok (.getfield 44, 3) := by decide +kernel
theorem dX5_rest_19 : decode cX5_rest 19 = .ok (.aload_n 0, 1) := by decide +kernel
theorem dX5_rest_20 : decode cX5_rest 20 = .ok (.getfield 19, 3) := by decide +kernel
theorem dX5_rest_23 : decode cX5_rest 23 = .ok (.iload_n 2, 1) := by decide +kernel
theorem dX5_rest_24 : decode cX5_rest 24 = .ok (.invokevirtual 135, 3) := by decide +kernel
theorem dX5_rest_27 : decode cX5_rest 27 = .ok (.ifCond .ne 7, 3) := by decide +kernel
theorem dX5_rest_30 : decode cX5_rest 30 = .ok (.ldc2_w 139, 3) := by decide +kernel
theorem dX5_rest_33 : decode cX5_rest 33 = .ok (.lreturn, 1) := by decide +kernel
theorem dX5_rest_34 : decode cX5_rest 34 = .ok (.aload_n 0, 1) := by decide +kernel
theorem dX5_rest_35 : decode cX5_rest 35 = .ok (.getfield 44, 3) := by decide +kernel
theorem dX5_rest_38 : decode cX5_rest 38 = .ok (.aload_n 0, 1) := by decide +kernel
theorem dX5_rest_39 : decode cX5_rest 39 = .ok (.getfield 19, 3) := by decide +kernel
theorem dX5_rest_42 : decode cX5_rest 42 = .ok (.iload_n 1, 1) := by decide +kernel
theorem dX5_rest_43 : decode cX5_rest 43 = .ok (.invokevirtual 159, 3) := by decide +kernel
theorem dX5_rest_46 : decode cX5_rest 46 = .ok (.aload_n 0, 1) := by decide +kernel
theorem dX5_rest_47 : decode cX5_rest 47 = .ok (.getfield 44, 3) := by decide +kernel
theorem dX5_rest_50 : decode cX5_rest 50 = .ok (.getfield 145, 3) := by decide +kernel
theorem dX5_rest_53 : decode cX5_rest 53 = .ok (.iload_n 3, 1) := by decide +kernel
theorem dX5_rest_54 : decode cX5_rest 54 = .ok (.invokestatic 148, 3) := by decide +kernel
theorem dX5_rest_57 : decode cX5_rest 57 = .ok (.lreturn, 1) := by decide +kernel
theorem dX5_squares_0 : decode cX5_squares 0 = .ok (.aload_n 0, 1) := by decide +kernel
theorem dX5_squares_1 : decode cX5_squares 1 = .ok (.getfield 44, 3) := by decide +kernel
theorem dX5_squares_4 : decode cX5_squares 4 = .ok (.aload_n 0, 1) := by decide +kernel
theorem dX5_squares_5 : decode cX5_squares 5 = .ok (.getfield 19, 3) := by decide +kernel
theorem dX5_squares_8 : decode cX5_squares 8 = .ok (.iload_n 1, 1) := by decide +kernel
theorem dX5_squares_9 : decode cX5_squares 9 = .ok (.invokevirtual 135, 3) := by decide +kernel
theorem dX5_squares_12 : decode cX5_squares 12 = .ok (.ifCond .ne 7, 3) := by decide +kernel
theorem dX5_squares_15 : decode cX5_squares 15 = .ok (.ldc2_w 139, 3) := by decide +kernel
theorem dX5_squares_18 : decode cX5_squares 18 = .ok (.lreturn, 1) := by decide +kernel
theorem dX5_squares_19 : decode cX5_squares 19 = .ok (.aload_n 0, 1) := by decide +kernel
theorem dX5_squares_20 : decode cX5_squares 20 = .ok (.getfield 44, 3) := by decide +kernel
theorem dX5_squares_23 : decode cX5_squares 23 = .ok (.invokevirtual 163, 3) := by decide +kernel
theorem dX5_squares_26 : decode cX5_squares 26 = .ok (.aload_n 0, 1) := by decide +kernel
theorem dX5_squares_27 : decode cX5_squares 27 = .ok (.getfield 44, 3) := by decide +kernel
theorem dX5_squares_30 : decode cX5_squares 30 = .ok (.getfield 145, 3) := by decide +kernel
theorem dX5_squares_33 : decode cX5_squares 33 = .ok (.iload_n 2, 1) := by decide +kernel
theorem dX5_squares_34 : decode cX5_squares 34 = .ok (.invokestatic 148, 3) := by decide +kernel
theorem dX5_squares_37 : decode cX5_squares 37 = .ok (.lreturn, 1) := by decide +kernel
theorem dX5_next_0 : decode cX5_next 0 = .ok (.aload_n 0, 1) := by decide +kernel
theorem dX5_next_1 : decode cX5_next 1 = .ok (.getfield 19, 3) := by decide +kernel
theorem dX5_next_4 : decode cX5_next 4 = .ok (.getfield 78, 3) := by decide +kernel
theorem dX5_next_7 : decode cX5_next 7 = .ok (.bipush 8, 2) := by decide +kernel
theorem dX5_next_9 : decode cX5_next 9 = .ok (.if_icmp .lt 6, 3) := by decide +kernel
theorem dX5_next_12 : decode cX5_next 12 = .ok (.bipush (-4), 2) := by decide +kernel
theorem dX5_next_14 : decode cX5_next 14 = .ok (.ireturn, 1) := by decide +kernel
theorem dX5_next_15 : decode cX5_next 15 = .ok (.aload_n 0, 1) := by decide +kernel
theorem dX5_next_16 : decode cX5_next 16 = .ok (.getfield 23, 3) := by decide +kernel
theorem dX5_next_19 : decode cX5_next 19 = .ok (.aload_n 0, 1) := by decide +kernel
theorem dX5_next_20 : decode cX5_next 20 = .ok (.getfield 19, 3) := by decide +kernel
theorem dX5_next_23 : decode cX5_next 23 = .ok (.invokevirtual 166, 3) := by decide +kernel
theorem dX5_next_26 : decode cX5_next 26 = .ok (.aload_n 0, 1) := by decide +kernel
theorem dX5_next_27 : decode cX5_next 27 = .ok (.getfield 23, 3) := by decide +kernel
theorem dX5_next_30 : decode cX5_next 30 = .ok (.iconst 0, 1) := by decide +kernel
theorem dX5_next_31 : decode cX5_next 31 = .ok (.iconst 0, 1) := by decide +kernel
theorem dX5_next_32 : decode cX5_next 32 = .ok (.invokevirtual 105, 3) := by decide +kernel
theorem dX5_next_35 : decode cX5_next 35 = .ok (.aload_n 0, 1) := by decide +kernel
theorem dX5_next_36 : decode cX5_next 36 = .ok (.getfield 23, 3) := by decide +kernel
theorem dX5_next_39 : decode cX5_next 39 = .ok (.getfield 78, 3) := by decide +kernel
theorem dX5_next_42 : decode cX5_next 42 = .ok (.iconst 1, 1) := by decide +kernel
theorem dX5_next_43 : decode cX5_next 43 = .ok (.isub, 1) := by decide +kernel
theorem dX5_next_44 : decode cX5_next 44 = .ok (.istore_n 2, 1) := by decide +kernel
theorem dX5_next_45 : decode cX5_next 45 = .ok (.iconst 3, 1) := by decide +kernel
theorem dX5_next_46 : decode cX5_next 46 = .ok (.aload_n 0, 1) := by decide +kernel
theorem dX5_next_47 : decode cX5_next 47 = .ok (.getfield 19, 3) := by decide +kernel
theorem dX5_next_50 : decode cX5_next 50 = .ok (.getfield 91, 3) := by decide +kernel
theorem dX5_next_53 : decode cX5_next 53 = .ok (.invokestatic 169, 3) := by decide +kernel
theorem dX5_next_56 : decode cX5_next 56 = .ok (.istore_n 3, 1) := by decide +kernel
theorem dX5_next_57 : decode cX5_next 57 = .ok (.bipush (-9), 2) := by decide +kernel
theorem dX5_next_59 : decode cX5_next 59 = .ok (.istore 4, 2) := by decide +kernel
theorem dX5_next_61 : decode cX5_next 61 = .ok (.lconst 0, 1) := by decide +kernel
theorem dX5_next_62 : decode cX5_next 62 = .ok (.lstore 5, 2) := by decide +kernel
theorem dX5_next_64 : decode cX5_next 64 = .ok (.lconst 1, 1) := by decide +kernel
theorem dX5_next_65 : decode cX5_next 65 = .ok (.lstore 7, 2) := by decide +kernel
theorem dX5_next_67 : decode cX5_next 67 = .ok (.aload_n 0, 1) := by decide +kernel
theorem dX5_next_68 : decode cX5_next 68 = .ok (.getfield 44, 3) := by decide +kernel
theorem dX5_next_71 : decode cX5_next 71 = .ok (.aload_n 0, 1) := by decide +kernel
theorem dX5_next_72 : decode cX5_next 72 = .ok (.getfield 19, 3) := by decide +kernel
theorem dX5_next_75 : decode cX5_next 75 = .ok (.iload_n 1, 1) := by decide +kernel
theorem dX5_next_76 : decode cX5_next 76 = .ok (.invokevirtual 173, 3) := by decide +kernel
theorem dX5_next_79 : decode cX5_next 79 = .ok (.iconst 0, 1) := by decide +kernel
theorem dX5_next_80 : decode cX5_next 80 = .ok (.istore 9, 2) := by decide +kernel
theorem dX5_next_82 : decode cX5_next 82 = .ok (.iload 9, 2) := by decide +kernel
theorem dX5_next_84 : decode cX5_next 84 = .ok (.iload_n 3, 1) := by decide +kernel
theorem dX5_next_85 : decode cX5_next 85 = .ok (.if_icmp .ge 105, 3) := by decide +kernel
theorem dX5_next_88 : decode cX5_next 88 = .ok (.aload_n 0, 1) := by decide +kernel
theorem dX5_next_89 : decode cX5_next 89 = .ok (.getfield 23, 3) := by decide +kernel
theorem dX5_next_92 : decode cX5_next 92 = .ok (.getfield 85, 3) := by decide +kernel
theorem dX5_next_95 : decode cX5_next 95 = .ok (.iload_n 2, 1) := by decide +kernel
theorem dX5_next_96 : decode cX5_next 96 = .ok (.iload 9, 2) := by decide +kernel
theorem dX5_next_98 : decode cX5_next 98 = .ok (.aload_n 0, 1) := by decide +kernel
theorem dX5_next_99 : decode cX5_next 99 = .ok (.getfield 19, 3) := by decide +kernel
theorem dX5_next_102 : decode cX5_next 102 = .ok (.getfield 91, 3) := by decide +kernel
theorem dX5_next_105 : decode cX5_next 105 = .ok (.invokestatic 177, 3) := by decide +kernel
theorem dX5_next_108 : decode cX5_next 108 = .ok (.iastore, 1) := by decide +kernel
theorem dX5_next_109 : decode cX5_next 109 = .ok (.aload_n 0, 1) := by decide +kernel
theorem dX5_next_110 : decode cX5_next 110 = .ok (.getfield 44, 3) := by decide +kernel
theorem dX5_next_113 : decode cX5_next 113 = .ok (.aload_n 0, 1) := by decide +kernel
theorem dX5_next_114 : decode cX5_next 114 = .ok (.getfield 23, 3) := by decide +kernel
theorem dX5_next_117 : decode cX5_next 117 = .ok (.iload_n 2, 1) := by decide +kernel
theorem dX5_next_118 : decode cX5_next 118 = .ok (.invokevirtual 180, 3) := by decide +kernel
theorem dX5_next_121 : decode cX5_next 121 = .ok (.ifCond .eq 63, 3) := by decide +kernel
theorem dX5_next_124 : decode cX5_next 124 = .ok (.iload 4, 2) := by decide +kernel
theorem dX5_next_126 : decode cX5_next 126 = .ok (.bipush (-9), 2) := by decide +kernel
theorem dX5_next_128 : decode cX5_next 128 = .ok (.if_icmp .eq 27, 3) := by decide +kernel
theorem dX5_next_131 : decode cX5_next 131 = .ok (.aload_n 0, 1) := by decide +kernel
theorem dX5_next_132 : decode cX5_next 132 = .ok (.getfield 44, 3) := by decide +kernel
theorem dX5_next_135 : decode cX5_next 135 = .ok (.invokevirtual 155, 3) := by decide +kernel
theorem dX5_next_138 : decode cX5_next 138 = .ok (.aload_n 0, 1) := by decide +kernel
theorem dX5_next_139 : decode cX5_next 139 = .ok (.getfield 44, 3) := by decide +kernel
theorem dX5_next_142 : decode cX5_next 142 = .ok (.getfield 145, 3) := by decide +kernel
theorem dX5_next_145 : decode cX5_next 145 = .ok (.lload 5, 2) := by decide +kernel
theorem dX5_next_147 : decode cX5_next 147 = .ok (.lload 7, 2) := by decide +kernel
theorem dX5_next_149 : decode cX5_next 149 = .ok (.invokestatic 184, 3) := by decide +kernel
theorem dX5_next_152 : decode cX5_next 152 = .ok (.ifCond .eq 32, 3) := by decide +kernel
theorem dX5_next_155 : decode cX5_next 155 = .ok (.aload_n 0, 1) := by decide +kernel
theorem dX5_next_156 : decode cX5_next 156 = .ok (.getfield 23, 3) := by decide +kernel
theorem dX5_next_159 : decode cX5_next 159 = .ok (.getfield 85, 3) := by decide +kernel
theorem dX5_next_162 : decode cX5_next 162 = .ok (.iload_n 2, 1) := by decide +kernel
theorem dX5_next_163 : decode cX5_next 163 = .ok (.iaload, 1) := by decide +kernel
theorem dX5_next_164 : decode cX5_next 164 = .ok (.istore 4, 2) := by decide +kernel
theorem dX5_next_166 : decode cX5_next 166 = .ok (.aload_n 0, 1) := by decide +kernel
theorem dX5_next_167 : decode cX5_next 167 = .ok (.getfield 44, 3) := by decide +kernel
theorem dX5_next_170 : decode cX5_next 170 = .ok (.invokevirtual 155, 3) := by decide +kernel
theorem dX5_next_173 : decode cX5_next 173 = .ok (.lstore 5, 2) := by decide +kernel
theorem dX5_next_175 : decode cX5_next 175 = .ok (.aload_n 0, 1) := by decide +kernel
theorem dX5_next_176 : decode cX5_next 176 = .ok (.getfield 44, 3) := by decide +kernel
theorem dX5_next_179 : decode cX5_next 179 = .ok (.getfield 145, 3) := by decide +kernel
theorem dX5_next_182 : decode cX5_next 182 = .ok (.lstore 7, 2) := by decide +kernel
theorem dX5_next_184 : decode cX5_next 184 = .ok (.iinc 9 1, 3) := by decide +kernel
theorem dX5_next_187 : decode cX5_next 187 = .ok (.goto (-105), 3) := by decide +kernel
theorem dX5_next_190 : decode cX5_next 190 = .ok (.iload 4, 2) := by decide +kernel
theorem dX5_next_192 : decode cX5_next 192 = .ok (.ireturn, 1) := by decide +kernel
theorem dX5_better_0 : decode cX5_better 0 = .ok (.aload_n 0, 1) := by decide +kernel
theorem dX5_better_1 : decode cX5_better 1 = .ok (.getfield 44, 3) := by decide +kernel
theorem dX5_better_4 : decode cX5_better 4 = .ok (.aload_n 0, 1) := by decide +kernel
theorem dX5_better_5 : decode cX5_better 5 = .ok (.getfield 19, 3) := by decide +kernel
theorem dX5_better_8 : decode cX5_better 8 = .ok (.iconst 1, 1) := by decide +kernel
theorem dX5_better_9 : decode cX5_better 9 = .ok (.invokevirtual 135, 3) := by decide +kernel
theorem dX5_better_12 : decode cX5_better 12 = .ok (.ifCond .ne 6, 3) := by decide +kernel
theorem dX5_better_15 : decode cX5_better 15 = .ok (.bipush (-3), 2) := by decide +kernel
theorem dX5_better_17 : decode cX5_better 17 = .ok (.ireturn, 1) := by decide +kernel
theorem dX5_better_18 : decode cX5_better 18 = .ok (.bipush (-9), 2) := by decide +kernel
theorem dX5_better_20 : decode cX5_better 20 = .ok (.istore_n 1, 1) := by decide +kernel
theorem dX5_better_21 : decode cX5_better 21 = .ok (.aload_n 0, 1) := by decide +kernel
theorem dX5_better_22 : decode cX5_better 22 = .ok (.getfield 44, 3) := by decide +kernel
theorem dX5_better_25 : decode cX5_better 25 = .ok (.invokevirtual 155, 3) := by decide +kernel
theorem dX5_better_28 : decode cX5_better 28 = .ok (.lstore_n 2, 1) := by decide +kernel
theorem dX5_better_29 : decode cX5_better 29 = .ok (.aload_n 0, 1) := by decide +kernel
theorem dX5_better_30 : decode cX5_better 30 = .ok (.getfield 44, 3) := by decide +kernel
theorem dX5_better_33 : decode cX5_better 33 = .ok (.getfield 145, 3) := by decide +kernel
theorem dX5_better_36 : decode cX5_better 36 = .ok (.lstore 4, 2) := by decide +kernel
theorem dX5_better_38 : decode cX5_better 38 = .ok (.iconst 0, 1) := by decide +kernel
theorem dX5_better_39 : decode cX5_better 39 = .ok (.istore 6, 2) := by decide +kernel
theorem dX5_better_41 : decode cX5_better 41 = .ok (.iload 6, 2) := by decide +kernel
theorem dX5_better_43 : decode cX5_better 43 = .ok (.aload_n 0, 1) := by decide +kernel
theorem dX5_better_44 : decode cX5_better 44 = .ok (.getfield 19, 3) := by decide +kernel
theorem dX5_better_47 : decode cX5_better 47 = .ok (.getfield 78, 3) := by decide +kernel
theorem dX5_better_50 : decode cX5_better 50 = .ok (.if_icmp .ge 119, 3) := by decide +kernel
theorem dX5_better_53 : decode cX5_better 53 = .ok (.iload 6, 2) := by decide +kernel
theorem dX5_better_55 : decode cX5_better 55 = .ok (.iconst 1, 1) := by decide +kernel
theorem dX5_better_56 : decode cX5_better 56 = .ok (.iadd, 1) := by decide +kernel
theorem dX5_better_57 : decode cX5_better 57 = .ok (.istore 7, 2) := by decide +kernel
theorem dX5_better_59 : decode cX5_better 59 = .ok (.iload 7, 2) := by decide +kernel
theorem dX5_better_61 : decode cX5_better 61 = .ok (.aload_n 0, 1) := by decide +kernel
theorem dX5_better_62 : decode cX5_better 62 = .ok (.getfield 19, 3) := by decide +kernel
theorem dX5_better_65 : decode cX5_better 65 = .ok (.getfield 78, 3) := by decide +kernel
theorem dX5_better_68 : decode cX5_better 68 = .ok (.if_icmp .ge 95, 3) := by decide +kernel
theorem dX5_better_71 : decode cX5_better 71 = .ok (.aload_n 0, 1) := by decide +kernel
theorem dX5_better_72 : decode cX5_better 72 = .ok (.getfield 23, 3) := by decide +kernel
theorem dX5_better_75 : decode cX5_better 75 = .ok (.aload_n 0, 1) := by decide +kernel
theorem dX5_better_76 : decode cX5_better 76 = .ok (.getfield 19, 3) := by decide +kernel
theorem dX5_better_79 : decode cX5_better 79 = .ok (.invokevirtual 166, 3) := by decide +kernel
theorem dX5_better_82 : decode cX5_better 82 = .ok (.aload_n 0, 1) := by decide +kernel
theorem dX5_better_83 : decode cX5_better 83 = .ok (.getfield 23, 3) := by decide +kernel
theorem dX5_better_86 : decode cX5_better 86 = .ok (.iload 6, 2) := by decide +kernel
theorem dX5_better_88 : decode cX5_better 88 = .ok (.iload 7, 2) := by decide +kernel
theorem dX5_better_90 : decode cX5_better 90 = .ok (.invokevirtual 113, 3) := by decide +kernel
theorem dX5_better_93 : decode cX5_better 93 = .ok (.aload_n 0, 1) := by decide +kernel
theorem dX5_better_94 : decode cX5_better 94 = .ok (.getfield 44, 3) := by decide +kernel
theorem dX5_better_97 : decode cX5_better 97 = .ok (.aload_n 0, 1) := by decide +kernel
theorem dX5_better_98 : decode cX5_better 98 = .ok (.getfield 23, 3) := by decide +kernel
theorem dX5_better_101 : decode cX5_better 101 = .ok (.iconst 1, 1) := by decide +kernel
theorem dX5_better_102 : decode cX5_better 102 = .ok (.invokevirtual 135, 3) := by decide +kernel
theorem dX5_better_105 : decode cX5_better 105 = .ok (.ifCond .eq 52, 3) := by decide +kernel
theorem dX5_better_108 : decode cX5_better 108 = .ok (.aload_n 0, 1) := by decide +kernel
theorem dX5_better_109 : decode cX5_better 109 = .ok (.getfield 44, 3) := by decide +kernel
theorem dX5_better_112 : decode cX5_better 112 = .ok (.invokevirtual 155, 3) := by decide +kernel
theorem dX5_better_115 : decode cX5_better 115 = .ok (.aload_n 0, 1) := by decide +kernel
theorem dX5_better_116 : decode cX5_better 116 = .ok (.getfield 44, 3) := by decide +kernel
theorem dX5_better_119 : decode cX5_better 119 = .ok (.getfield 145, 3) := by decide +kernel
theorem dX5_better_122 : decode cX5_better 122 = .ok (.lload_n 2, 1) := by decide +kernel
theorem dX5_better_123 : decode cX5_better 123 = .ok (.lload 4, 2) := by decide +kernel
theorem dX5_better_125 : decode cX5_better 125 = .ok (.invokestatic 184, 3) := by decide +kernel
theorem dX5_better_128 : decode cX5_better 128 = .ok (.ifCond .eq 29, 3) := by decide +kernel
theorem dX5_better_131 : decode cX5_better 131 = .ok (.bipush 10, 2) := by decide +kernel
theorem dX5_better_133 : decode cX5_better 133 = .ok (.iload 6, 2) := by decide +kernel
theorem dX5_better_135 : decode cX5_better 135 = .ok (.imul, 1) := by decide +kernel
theorem dX5_better_136 : decode cX5_better 136 = .ok (.iload 7, 2) := by decide +kernel
theorem dX5_better_138 : decode cX5_better 138 = .ok (.iadd, 1) := by decide +kernel
theorem dX5_better_139 : decode cX5_better 139 = .ok (.istore_n 1, 1) := by decide +kernel
theorem dX5_better_140 : decode cX5_better 140 = .ok (.aload_n 0, 1) := by decide +kernel
theorem dX5_better_141 : decode cX5_better 141 = .ok (.getfield 44, 3) := by decide +kernel
theorem dX5_better_144 : decode cX5_better 144 = .ok (.invokevirtual 155, 3) := by decide +kernel
theorem dX5_better_147 : decode cX5_better 147 = .ok (.lstore_n 2, 1) := by decide +kernel
theorem dX5_better_148 : decode cX5_better 148 = .ok (.aload_n 0, 1) := by decide +kernel
theorem dX5_better_149 : decode cX5_better 149 = .ok (.getfield 44, 3) := by decide +kernel
theorem dX5_better_152 : decode cX5_better 152 = .ok (.getfield 145, 3) := by decide +kernel
theorem dX5_better_155 : decode cX5_better 155 = .ok (.lstore 4, 2) := by decide +kernel
theorem dX5_better_157 : decode cX5_better 157 = .ok (.iinc 7 1, 3) := by decide +kernel
theorem dX5_better_160 : decode cX5_better 160 = .ok (.goto (-101), 3) := by decide +kernel
theorem dX5_better_163 : decode cX5_better 163 = .ok (.iinc 6 1, 3) := by decide +kernel
theorem dX5_better_166 : decode cX5_better 166 = .ok (.goto (-125), 3) := by decide +kernel
theorem dX5_better_169 : decode cX5_better 169 = .ok (.iload_n 1, 1) := by decide +kernel
theorem dX5_better_170 : decode cX5_better 170 = .ok (.ireturn, 1) := by decide +kernel
theorem dX5_doubtful_0 : decode cX5_doubtful 0 = .ok (.aload_n 0, 1) := by decide +kernel
theorem dX5_doubtful_1 : decode cX5_doubtful 1 = .ok (.getfield 44, 3) := by decide +kernel
theorem dX5_doubtful_4 : decode cX5_doubtful 4 = .ok (.aload_n 0, 1) := by decide +kernel
theorem dX5_doubtful_5 : decode cX5_doubtful 5 = .ok (.getfield 19, 3) := by decide +kernel
theorem dX5_doubtful_8 : decode cX5_doubtful 8 = .ok (.iload_n 1, 1) := by decide +kernel
theorem dX5_doubtful_9 : decode cX5_doubtful 9 = .ok (.invokevirtual 188, 3) := by decide +kernel
theorem dX5_doubtful_12 : decode cX5_doubtful 12 = .ok (.ireturn, 1) := by decide +kernel
theorem dX5_wrong_0 : decode cX5_wrong 0 = .ok (.aload_n 0, 1) := by decide +kernel
theorem dX5_wrong_1 : decode cX5_wrong 1 = .ok (.getfield 44, 3) := by decide +kernel
theorem dX5_wrong_4 : decode cX5_wrong 4 = .ok (.aload_n 0, 1) := by decide +kernel
theorem dX5_wrong_5 : decode cX5_wrong 5 = .ok (.getfield 19, 3) := by decide +kernel
theorem dX5_wrong_8 : decode cX5_wrong 8 = .ok (.iload_n 1, 1) := by decide +kernel
theorem dX5_wrong_9 : decode cX5_wrong 9 = .ok (.invokevirtual 191, 3) := by decide +kernel
theorem dX5_wrong_12 : decode cX5_wrong 12 = .ok (.ireturn, 1) := by decide +kernel
theorem dX5_judge_0 : decode cX5_judge 0 = .ok (.iload_n 1, 1) := by decide +kernel
theorem dX5_judge_1 : decode cX5_judge 1 = .ok (.iconst 1, 1) := by decide +kernel
theorem dX5_judge_2 : decode cX5_judge 2 = .ok (.if_icmp .lt 14, 3) := by decide +kernel
theorem dX5_judge_5 : decode cX5_judge 5 = .ok (.iload_n 1, 1) := by decide +kernel
theorem dX5_judge_6 : decode cX5_judge 6 = .ok (.iconst 4, 1) := by decide +kernel
theorem dX5_judge_7 : decode cX5_judge 7 = .ok (.if_icmp .gt 9, 3) := by decide +kernel
theorem dX5_judge_10 : decode cX5_judge 10 = .ok (.lload_n 2, 1) := by decide +kernel
theorem dX5_judge_11 : decode cX5_judge 11 = .ok (.lconst 0, 1) := by decide +kernel
theorem dX5_judge_12 : decode cX5_judge 12 = .ok (.lcmp, 1) := by decide +kernel
theorem dX5_judge_13 : decode cX5_judge 13 = .ok (.ifCond .ge 6, 3) := by decide +kernel
theorem dX5_judge_16 : decode cX5_judge 16 = .ok (.bipush (-2), 2) := by decide +kernel
theorem dX5_judge_18 : decode cX5_judge 18 = .ok (.ireturn, 1) := by decide +kernel
theorem dX5_judge_19 : decode cX5_judge 19 = .ok (.lconst 1, 1) := by decide +kernel
theorem dX5_judge_20 : decode cX5_judge 20 = .ok (.lstore 4, 2) := by decide +kernel
theorem dX5_judge_22 : decode cX5_judge 22 = .ok (.iconst 1, 1) := by decide +kernel
theorem dX5_judge_23 : decode cX5_judge 23 = .ok (.istore 6, 2) := by decide +kernel
theorem dX5_judge_25 : decode cX5_judge 25 = .ok (.iload 6, 2) := by decide +kernel
theorem dX5_judge_27 : decode cX5_judge 27 = .ok (.iload_n 1, 1) := by decide +kernel
theorem dX5_judge_28 : decode cX5_judge 28 = .ok (.if_icmp .ge 17, 3) := by decide +kernel
theorem dX5_judge_31 : decode cX5_judge 31 = .ok (.lload 4, 2) := by decide +kernel
theorem dX5_judge_33 : decode cX5_judge 33 = .ok (.ldc2_w 194, 3) := by decide +kernel
theorem dX5_judge_36 : decode cX5_judge 36 = .ok (.lmul, 1) := by decide +kernel
theorem dX5_judge_37 : decode cX5_judge 37 = .ok (.lstore 4, 2) := by decide +kernel
theorem dX5_judge_39 : decode cX5_judge 39 = .ok (.iinc 6 1, 3) := by decide +kernel
theorem dX5_judge_42 : decode cX5_judge 42 = .ok (.goto (-17), 3) := by decide +kernel
theorem dX5_judge_45 : decode cX5_judge 45 = .ok (.lload_n 2, 1) := by decide +kernel
theorem dX5_judge_46 : decode cX5_judge 46 = .ok (.lload 4, 2) := by decide +kernel
theorem dX5_judge_48 : decode cX5_judge 48 = .ok (.ldiv, 1) := by decide +kernel
theorem dX5_judge_49 : decode cX5_judge 49 = .ok (.ldc2_w 194, 3) := by decide +kernel
theorem dX5_judge_52 : decode cX5_judge 52 = .ok (.lcmp, 1) := by decide +kernel
theorem dX5_judge_53 : decode cX5_judge 53 = .ok (.ifCond .lt 6, 3) := by decide +kernel
theorem dX5_judge_56 : decode cX5_judge 56 = .ok (.bipush (-2), 2) := by decide +kernel
theorem dX5_judge_58 : decode cX5_judge 58 = .ok (.ireturn, 1) := by decide +kernel
theorem dX5_judge_59 : decode cX5_judge 59 = .ok (.aload_n 0, 1) := by decide +kernel
theorem dX5_judge_60 : decode cX5_judge 60 = .ok (.getfield 23, 3) := by decide +kernel
theorem dX5_judge_63 : decode cX5_judge 63 = .ok (.aload_n 0, 1) := by decide +kernel
theorem dX5_judge_64 : decode cX5_judge 64 = .ok (.getfield 19, 3) := by decide +kernel
theorem dX5_judge_67 : decode cX5_judge 67 = .ok (.invokevirtual 166, 3) := by decide +kernel
theorem dX5_judge_70 : decode cX5_judge 70 = .ok (.iconst 0, 1) := by decide +kernel
theorem dX5_judge_71 : decode cX5_judge 71 = .ok (.istore 6, 2) := by decide +kernel
theorem dX5_judge_73 : decode cX5_judge 73 = .ok (.iload 6, 2) := by decide +kernel
theorem dX5_judge_75 : decode cX5_judge 75 = .ok (.iload_n 1, 1) := by decide +kernel
theorem dX5_judge_76 : decode cX5_judge 76 = .ok (.if_icmp .ge 43, 3) := by decide +kernel
theorem dX5_judge_79 : decode cX5_judge 79 = .ok (.lload 4, 2) := by decide +kernel
theorem dX5_judge_81 : decode cX5_judge 81 = .ok (.lconst 0, 1) := by decide +kernel
theorem dX5_judge_82 : decode cX5_judge 82 = .ok (.lcmp, 1) := by decide +kernel
theorem dX5_judge_83 : decode cX5_judge 83 = .ok (.ifCond .le 36, 3) := by decide +kernel
theorem dX5_judge_86 : decode cX5_judge 86 = .ok (.aload_n 0, 1) := by decide +kernel
theorem dX5_judge_87 : decode cX5_judge 87 = .ok (.lload_n 2, 1) := by decide +kernel
theorem dX5_judge_88 : decode cX5_judge 88 = .ok (.lload 4, 2) := by decide +kernel
theorem dX5_judge_90 : decode cX5_judge 90 = .ok (.ldiv, 1) := by decide +kernel
theorem dX5_judge_91 : decode cX5_judge 91 = .ok (.ldc2_w 194, 3) := by decide +kernel
theorem dX5_judge_94 : decode cX5_judge 94 = .ok (.lrem, 1) := by decide +kernel
theorem dX5_judge_95 : decode cX5_judge 95 = .ok (.l2i, 1) := by decide +kernel
theorem dX5_judge_96 : decode cX5_judge 96 = .ok (.invokevirtual 196, 3) := by decide +kernel
theorem dX5_judge_99 : decode cX5_judge 99 = .ok (.ifCond .ne 6, 3) := by decide +kernel
theorem dX5_judge_102 : decode cX5_judge 102 = .ok (.iload 6, 2) := by decide +kernel
theorem dX5_judge_104 : decode cX5_judge 104 = .ok (.ireturn, 1) := by decide +kernel
theorem dX5_judge_105 : decode cX5_judge 105 = .ok (.lload 4, 2) := by decide +kernel
theorem dX5_judge_107 : decode cX5_judge 107 = .ok (.ldc2_w 194, 3) := by decide +kernel
theorem dX5_judge_110 : decode cX5_judge 110 = .ok (.ldiv, 1) := by decide +kernel
theorem dX5_judge_111 : decode cX5_judge 111 = .ok (.lstore 4, 2) := by decide +kernel
theorem dX5_judge_113 : decode cX5_judge 113 = .ok (.iinc 6 1, 3) := by decide +kernel
theorem dX5_judge_116 : decode cX5_judge 116 = .ok (.goto (-43), 3) := by decide +kernel
theorem dX5_judge_119 : decode cX5_judge 119 = .ok (.bipush (-9), 2) := by decide +kernel
theorem dX5_judge_121 : decode cX5_judge 121 = .ok (.ireturn, 1) := by decide +kernel
theorem dX5_share_0 : decode cX5_share 0 = .ok (.aload_n 0, 1) := by decide +kernel
theorem dX5_share_1 : decode cX5_share 1 = .ok (.getfield 19, 3) := by decide +kernel
theorem dX5_share_4 : decode cX5_share 4 = .ok (.iload_n 1, 1) := by decide +kernel
theorem dX5_share_5 : decode cX5_share 5 = .ok (.invokevirtual 81, 3) := by decide +kernel
theorem dX5_share_8 : decode cX5_share 8 = .ok (.ifCond .ne 5, 3) := by decide +kernel
theorem dX5_share_11 : decode cX5_share 11 = .ok (.iconst (-1), 1) := by decide +kernel
theorem dX5_share_12 : decode cX5_share 12 = .ok (.ireturn, 1) := by decide +kernel
theorem dX5_share_13 : decode cX5_share 13 = .ok (.aload_n 0, 1) := by decide +kernel
theorem dX5_share_14 : decode cX5_share 14 = .ok (.getfield 51, 3) := by decide +kernel
theorem dX5_share_17 : decode cX5_share 17 = .ok (.aload_n 0, 1) := by decide +kernel
theorem dX5_share_18 : decode cX5_share 18 = .ok (.getfield 19, 3) := by decide +kernel
theorem dX5_share_21 : decode cX5_share 21 = .ok (.iload_n 2, 1) := by decide +kernel
theorem dX5_share_22 : decode cX5_share 22 = .ok (.invokevirtual 199, 3) := by decide +kernel
theorem dX5_share_25 : decode cX5_share 25 = .ok (.aload_n 0, 1) := by decide +kernel
theorem dX5_share_26 : decode cX5_share 26 = .ok (.getfield 19, 3) := by decide +kernel
theorem dX5_share_29 : decode cX5_share 29 = .ok (.getfield 78, 3) := by decide +kernel
theorem dX5_share_32 : decode cX5_share 32 = .ok (.istore 4, 2) := by decide +kernel
theorem dX5_share_34 : decode cX5_share 34 = .ok (.iconst 1, 1) := by decide +kernel
theorem dX5_share_35 : decode cX5_share 35 = .ok (.iload_n 1, 1) := by decide +kernel
theorem dX5_share_36 : decode cX5_share 36 = .ok (.ishl, 1) := by decide +kernel
theorem dX5_share_37 : decode cX5_share 37 = .ok (.istore 5, 2) := by decide +kernel
theorem dX5_share_39 : decode cX5_share 39 = .ok (.lconst 0, 1) := by decide +kernel
theorem dX5_share_40 : decode cX5_share 40 = .ok (.lstore 6, 2) := by decide +kernel
theorem dX5_share_42 : decode cX5_share 42 = .ok (.iconst 0, 1) := by decide +kernel
theorem dX5_share_43 : decode cX5_share 43 = .ok (.istore 8, 2) := by decide +kernel
theorem dX5_share_45 : decode cX5_share 45 = .ok (.iload 8, 2) := by decide +kernel
theorem dX5_share_47 : decode cX5_share 47 = .ok (.iconst 1, 1) := by decide +kernel
theorem dX5_share_48 : decode cX5_share 48 = .ok (.iload 4, 2) := by decide +kernel
theorem dX5_share_50 : decode cX5_share 50 = .ok (.ishl, 1) := by decide +kernel
theorem dX5_share_51 : decode cX5_share 51 = .ok (.if_icmp .ge 75, 3) := by decide +kernel
theorem dX5_share_54 : decode cX5_share 54 = .ok (.iload 8, 2) := by decide +kernel
theorem dX5_share_56 : decode cX5_share 56 = .ok (.iload 5, 2) := by decide +kernel
theorem dX5_share_58 : decode cX5_share 58 = .ok (.iand, 1) := by decide +kernel
theorem dX5_share_59 : decode cX5_share 59 = .ok (.ifCond .ne 61, 3) := by decide +kernel
theorem dX5_share_62 : decode cX5_share 62 = .ok (.aload_n 0, 1) := by decide +kernel
theorem dX5_share_63 : decode cX5_share 63 = .ok (.getfield 51, 3) := by decide +kernel
theorem dX5_share_66 : decode cX5_share 66 = .ok (.getfield 202, 3) := by decide +kernel
theorem dX5_share_69 : decode cX5_share 69 = .ok (.iload 8, 2) := by decide +kernel
theorem dX5_share_71 : decode cX5_share 71 = .ok (.iload 5, 2) := by decide +kernel
theorem dX5_share_73 : decode cX5_share 73 = .ok (.ior, 1) := by decide +kernel
theorem dX5_share_74 : decode cX5_share 74 = .ok (.iaload, 1) := by decide +kernel
theorem dX5_share_75 : decode cX5_share 75 = .ok (.aload_n 0, 1) := by decide +kernel
theorem dX5_share_76 : decode cX5_share 76 = .ok (.getfield 51, 3) := by decide +kernel
theorem dX5_share_79 : decode cX5_share 79 = .ok (.getfield 202, 3) := by decide +kernel
theorem dX5_share_82 : decode cX5_share 82 = .ok (.iload 8, 2) := by decide +kernel
theorem dX5_share_84 : decode cX5_share 84 = .ok (.iaload, 1) := by decide +kernel
theorem dX5_share_85 : decode cX5_share 85 = .ok (.if_icmp .le 35, 3) := by decide +kernel
theorem dX5_share_88 : decode cX5_share 88 = .ok (.iload 8, 2) := by decide +kernel
theorem dX5_share_90 : decode cX5_share 90 = .ok (.invokestatic 205, 3) := by decide +kernel
theorem dX5_share_93 : decode cX5_share 93 = .ok (.istore 9, 2) := by decide +kernel
theorem dX5_share_95 : decode cX5_share 95 = .ok (.lload 6, 2) := by decide +kernel
theorem dX5_share_97 : decode cX5_share 97 = .ok (.getstatic 211, 3) := by decide +kernel
theorem dX5_share_100 : decode cX5_share 100 = .ok (.iload 9, 2) := by decide +kernel
theorem dX5_share_102 : decode cX5_share 102 = .ok (.iaload, 1) := by decide +kernel
theorem dX5_share_103 : decode cX5_share 103 = .ok (.i2l, 1) := by decide +kernel
theorem dX5_share_104 : decode cX5_share 104 = .ok (.getstatic 211, 3) := by decide +kernel
theorem dX5_share_107 : decode cX5_share 107 = .ok (.iload 4, 2) := by decide +kernel
theorem dX5_share_109 : decode cX5_share 109 = .ok (.iconst 1, 1) := by decide +kernel
theorem dX5_share_110 : decode cX5_share 110 = .ok (.isub, 1) := by decide +kernel
theorem dX5_share_111 : decode cX5_share 111 = .ok (.iload 9, 2) := by decide +kernel
theorem dX5_share_113 : decode cX5_share 113 = .ok (.isub, 1) := by decide +kernel
theorem dX5_share_114 : decode cX5_share 114 = .ok (.iaload, 1) := by decide +kernel
theorem dX5_share_115 : decode cX5_share 115 = .ok (.i2l, 1) := by decide +kernel
theorem dX5_share_116 : decode cX5_share 116 = .ok (.lmul, 1) := by decide +kernel
theorem dX5_share_117 : decode cX5_share 117 = .ok (.ladd, 1) := by decide +kernel
theorem dX5_share_118 : decode cX5_share 118 = .ok (.lstore 6, 2) := by decide +kernel
theorem dX5_share_120 : decode cX5_share 120 = .ok (.iinc 8 1, 3) := by decide +kernel
theorem dX5_share_123 : decode cX5_share 123 = .ok (.goto (-78), 3) := by decide +kernel
theorem dX5_share_126 : decode cX5_share 126 = .ok (.lload 6, 2) := by decide +kernel
theorem dX5_share_128 : decode cX5_share 128 = .ok (.getstatic 211, 3) := by decide +kernel
theorem dX5_share_131 : decode cX5_share 131 = .ok (.iload 4, 2) := by decide +kernel
theorem dX5_share_133 : decode cX5_share 133 = .ok (.iaload, 1) := by decide +kernel
theorem dX5_share_134 : decode cX5_share 134 = .ok (.i2l, 1) := by decide +kernel
theorem dX5_share_135 : decode cX5_share 135 = .ok (.iload_n 3, 1) := by decide +kernel
theorem dX5_share_136 : decode cX5_share 136 = .ok (.invokestatic 148, 3) := by decide +kernel
theorem dX5_share_139 : decode cX5_share 139 = .ok (.l2i, 1) := by decide +kernel
theorem dX5_share_140 : decode cX5_share 140 = .ok (.ireturn, 1) := by decide +kernel
theorem dX5_lost_0 : decode cX5_lost 0 = .ok (.iload_n 1, 1) := by decide +kernel
theorem dX5_lost_1 : decode cX5_lost 1 = .ok (.ifCond .lt 9, 3) := by decide +kernel
theorem dX5_lost_4 : decode cX5_lost 4 = .ok (.iload_n 1, 1) := by decide +kernel
theorem dX5_lost_5 : decode cX5_lost 5 = .ok (.bipush 10, 2) := by decide +kernel
theorem dX5_lost_7 : decode cX5_lost 7 = .ok (.if_icmp .le 6, 3) := by decide +kernel
theorem dX5_lost_10 : decode cX5_lost 10 = .ok (.bipush (-2), 2) := by decide +kernel
theorem dX5_lost_12 : decode cX5_lost 12 = .ok (.ireturn, 1) := by decide +kernel
theorem dX5_lost_13 : decode cX5_lost 13 = .ok (.aload_n 0, 1) := by decide +kernel
theorem dX5_lost_14 : decode cX5_lost 14 = .ok (.getfield 51, 3) := by decide +kernel
theorem dX5_lost_17 : decode cX5_lost 17 = .ok (.aload_n 0, 1) := by decide +kernel
theorem dX5_lost_18 : decode cX5_lost 18 = .ok (.getfield 19, 3) := by decide +kernel
theorem dX5_lost_21 : decode cX5_lost 21 = .ok (.iload_n 2, 1) := by decide +kernel
theorem dX5_lost_22 : decode cX5_lost 22 = .ok (.invokevirtual 199, 3) := by decide +kernel
theorem dX5_lost_25 : decode cX5_lost 25 = .ok (.aload_n 0, 1) := by decide +kernel
theorem dX5_lost_26 : decode cX5_lost 26 = .ok (.getfield 19, 3) := by decide +kernel
theorem dX5_lost_29 : decode cX5_lost 29 = .ok (.getfield 78, 3) := by decide +kernel
theorem dX5_lost_32 : decode cX5_lost 32 = .ok (.istore 4, 2) := by decide +kernel
theorem dX5_lost_34 : decode cX5_lost 34 = .ok (.aload_n 0, 1) := by decide +kernel
theorem dX5_lost_35 : decode cX5_lost 35 = .ok (.getfield 19, 3) := by decide +kernel
theorem dX5_lost_38 : decode cX5_lost 38 = .ok (.iload_n 2, 1) := by decide +kernel
theorem dX5_lost_39 : decode cX5_lost 39 = .ok (.invokevirtual 214, 3) := by decide +kernel
theorem dX5_lost_42 : decode cX5_lost 42 = .ok (.istore 5, 2) := by decide +kernel
theorem dX5_lost_44 : decode cX5_lost 44 = .ok (.lconst 0, 1) := by decide +kernel
theorem dX5_lost_45 : decode cX5_lost 45 = .ok (.lstore 6, 2) := by decide +kernel
theorem dX5_lost_47 : decode cX5_lost 47 = .ok (.iconst 0, 1) := by decide +kernel
theorem dX5_lost_48 : decode cX5_lost 48 = .ok (.istore 8, 2) := by decide +kernel
theorem dX5_lost_50 : decode cX5_lost 50 = .ok (.iload 8, 2) := by decide +kernel
theorem dX5_lost_52 : decode cX5_lost 52 = .ok (.iconst 1, 1) := by decide +kernel
theorem dX5_lost_53 : decode cX5_lost 53 = .ok (.iload 4, 2) := by decide +kernel
theorem dX5_lost_55 : decode cX5_lost 55 = .ok (.ishl, 1) := by decide +kernel
theorem dX5_lost_56 : decode cX5_lost 56 = .ok (.if_icmp .ge 57, 3) := by decide +kernel
theorem dX5_lost_59 : decode cX5_lost 59 = .ok (.aload_n 0, 1) := by decide +kernel
theorem dX5_lost_60 : decode cX5_lost 60 = .ok (.getfield 51, 3) := by decide +kernel
theorem dX5_lost_63 : decode cX5_lost 63 = .ok (.getfield 202, 3) := by decide +kernel
theorem dX5_lost_66 : decode cX5_lost 66 = .ok (.iload 8, 2) := by decide +kernel
theorem dX5_lost_68 : decode cX5_lost 68 = .ok (.iaload, 1) := by decide +kernel
theorem dX5_lost_69 : decode cX5_lost 69 = .ok (.iload 5, 2) := by decide +kernel
theorem dX5_lost_71 : decode cX5_lost 71 = .ok (.if_icmp .ne 36, 3) := by decide +kernel
theorem dX5_lost_74 : decode cX5_lost 74 = .ok (.iload 8, 2) := by decide +kernel
theorem dX5_lost_76 : decode cX5_lost 76 = .ok (.invokestatic 205, 3) := by decide +kernel
theorem dX5_lost_79 : decode cX5_lost 79 = .ok (.istore 9, 2) := by decide +kernel
theorem dX5_lost_81 : decode cX5_lost 81 = .ok (.lload 6, 2) := by decide +kernel
theorem dX5_lost_83 : decode cX5_lost 83 = .ok (.bipush 10, 2) := by decide +kernel
theorem dX5_lost_85 : decode cX5_lost 85 = .ok (.iload_n 1, 1) := by decide +kernel
theorem dX5_lost_86 : decode cX5_lost 86 = .ok (.isub, 1) := by decide +kernel
theorem dX5_lost_87 : decode cX5_lost 87 = .ok (.iload 9, 2) := by decide +kernel
theorem dX5_lost_89 : decode cX5_lost 89 = .ok (.invokestatic 169, 3) := by decide +kernel
theorem dX5_lost_92 : decode cX5_lost 92 = .ok (.i2l, 1) := by decide +kernel
theorem dX5_lost_93 : decode cX5_lost 93 = .ok (.iload_n 1, 1) := by decide +kernel
theorem dX5_lost_94 : decode cX5_lost 94 = .ok (.iload 4, 2) := by decide +kernel
theorem dX5_lost_96 : decode cX5_lost 96 = .ok (.iload 9, 2) := by decide +kernel
theorem dX5_lost_98 : decode cX5_lost 98 = .ok (.isub, 1) := by decide +kernel
theorem dX5_lost_99 : decode cX5_lost 99 = .ok (.invokestatic 169, 3) := by decide +kernel
theorem dX5_lost_102 : decode cX5_lost 102 = .ok (.i2l, 1) := by decide +kernel
theorem dX5_lost_103 : decode cX5_lost 103 = .ok (.lmul, 1) := by decide +kernel
theorem dX5_lost_104 : decode cX5_lost 104 = .ok (.ladd, 1) := by decide +kernel
theorem dX5_lost_105 : decode cX5_lost 105 = .ok (.lstore 6, 2) := by decide +kernel
theorem dX5_lost_107 : decode cX5_lost 107 = .ok (.iinc 8 1, 3) := by decide +kernel
theorem dX5_lost_110 : decode cX5_lost 110 = .ok (.goto (-60), 3) := by decide +kernel
theorem dX5_lost_113 : decode cX5_lost 113 = .ok (.lload 6, 2) := by decide +kernel
theorem dX5_lost_115 : decode cX5_lost 115 = .ok (.bipush 10, 2) := by decide +kernel
theorem dX5_lost_117 : decode cX5_lost 117 = .ok (.iload 4, 2) := by decide +kernel
theorem dX5_lost_119 : decode cX5_lost 119 = .ok (.invokestatic 169, 3) := by decide +kernel
theorem dX5_lost_122 : decode cX5_lost 122 = .ok (.i2l, 1) := by decide +kernel
theorem dX5_lost_123 : decode cX5_lost 123 = .ok (.iload_n 3, 1) := by decide +kernel
theorem dX5_lost_124 : decode cX5_lost 124 = .ok (.invokestatic 148, 3) := by decide +kernel
theorem dX5_lost_127 : decode cX5_lost 127 = .ok (.l2i, 1) := by decide +kernel
theorem dX5_lost_128 : decode cX5_lost 128 = .ok (.ireturn, 1) := by decide +kernel
theorem dX5_seed_0 : decode cX5_seed 0 = .ok (.aload_n 0, 1) := by decide +kernel
theorem dX5_seed_1 : decode cX5_seed 1 = .ok (.getfield 55, 3) := by decide +kernel
theorem dX5_seed_4 : decode cX5_seed 4 = .ok (.lstore_n 3, 1) := by decide +kernel
theorem dX5_seed_5 : decode cX5_seed 5 = .ok (.aload_n 0, 1) := by decide +kernel
theorem dX5_seed_6 : decode cX5_seed 6 = .ok (.lload_n 1, 1) := by decide +kernel
theorem dX5_seed_7 : decode cX5_seed 7 = .ok (.putfield 55, 3) := by decide +kernel
theorem dX5_seed_10 : decode cX5_seed 10 = .ok (.lload_n 3, 1) := by decide +kernel
theorem dX5_seed_11 : decode cX5_seed 11 = .ok (.lreturn, 1) := by decide +kernel
theorem dX5_drawn_0 : decode cX5_drawn 0 = .ok (.iload_n 1, 1) := by decide +kernel
theorem dX5_drawn_1 : decode cX5_drawn 1 = .ok (.iconst 1, 1) := by decide +kernel
theorem dX5_drawn_2 : decode cX5_drawn 2 = .ok (.if_icmp .lt 9, 3) := by decide +kernel
theorem dX5_drawn_5 : decode cX5_drawn 5 = .ok (.iload_n 1, 1) := by decide +kernel
theorem dX5_drawn_6 : decode cX5_drawn 6 = .ok (.bipush 20, 2) := by decide +kernel
theorem dX5_drawn_8 : decode cX5_drawn 8 = .ok (.if_icmp .le 6, 3) := by decide +kernel
theorem dX5_drawn_11 : decode cX5_drawn 11 = .ok (.bipush (-2), 2) := by decide +kernel
theorem dX5_drawn_13 : decode cX5_drawn 13 = .ok (.ireturn, 1) := by decide +kernel
theorem dX5_drawn_14 : decode cX5_drawn 14 = .ok (.aload_n 0, 1) := by decide +kernel
theorem dX5_drawn_15 : decode cX5_drawn 15 = .ok (.getfield 44, 3) := by decide +kernel
theorem dX5_drawn_18 : decode cX5_drawn 18 = .ok (.aload_n 0, 1) := by decide +kernel
theorem dX5_drawn_19 : decode cX5_drawn 19 = .ok (.getfield 19, 3) := by decide +kernel
theorem dX5_drawn_22 : decode cX5_drawn 22 = .ok (.iconst 0, 1) := by decide +kernel
theorem dX5_drawn_23 : decode cX5_drawn 23 = .ok (.invokevirtual 188, 3) := by decide +kernel
theorem dX5_drawn_26 : decode cX5_drawn 26 = .ok (.istore_n 2, 1) := by decide +kernel
theorem dX5_drawn_27 : decode cX5_drawn 27 = .ok (.iconst 0, 1) := by decide +kernel
theorem dX5_drawn_28 : decode cX5_drawn 28 = .ok (.istore_n 3, 1) := by decide +kernel
theorem dX5_drawn_29 : decode cX5_drawn 29 = .ok (.aload_n 0, 1) := by decide +kernel
theorem dX5_drawn_30 : decode cX5_drawn 30 = .ok (.getfield 23, 3) := by decide +kernel
theorem dX5_drawn_33 : decode cX5_drawn 33 = .ok (.aload_n 0, 1) := by decide +kernel
theorem dX5_drawn_34 : decode cX5_drawn 34 = .ok (.getfield 19, 3) := by decide +kernel
theorem dX5_drawn_37 : decode cX5_drawn 37 = .ok (.invokevirtual 166, 3) := by decide +kernel
theorem dX5_drawn_40 : decode cX5_drawn 40 = .ok (.iconst 0, 1) := by decide +kernel
theorem dX5_drawn_41 : decode cX5_drawn 41 = .ok (.istore 4, 2) := by decide +kernel
theorem dX5_drawn_43 : decode cX5_drawn 43 = .ok (.iload 4, 2) := by decide +kernel
theorem dX5_drawn_45 : decode cX5_drawn 45 = .ok (.iload_n 1, 1) := by decide +kernel
theorem dX5_drawn_46 : decode cX5_drawn 46 = .ok (.if_icmp .ge 56, 3) := by decide +kernel
theorem dX5_drawn_49 : decode cX5_drawn 49 = .ok (.aload_n 0, 1) := by decide +kernel
theorem dX5_drawn_50 : decode cX5_drawn 50 = .ok (.aload_n 0, 1) := by decide +kernel
theorem dX5_drawn_51 : decode cX5_drawn 51 = .ok (.getfield 55, 3) := by decide +kernel
theorem dX5_drawn_54 : decode cX5_drawn 54 = .ok (.ldc2_w 218, 3) := by decide +kernel
theorem dX5_drawn_57 : decode cX5_drawn 57 = .ok (.lmul, 1) := by decide +kernel
theorem dX5_drawn_58 : decode cX5_drawn 58 = .ok (.ldc2_w 220, 3) := by decide +kernel
theorem dX5_drawn_61 : decode cX5_drawn 61 = .ok (.ladd, 1) := by decide +kernel
theorem dX5_drawn_62 : decode cX5_drawn 62 = .ok (.putfield 55, 3) := by decide +kernel
theorem dX5_drawn_65 : decode cX5_drawn 65 = .ok (.aload_n 0, 1) := by decide +kernel
theorem dX5_drawn_66 : decode cX5_drawn 66 = .ok (.aload_n 0, 1) := by decide +kernel
theorem dX5_drawn_67 : decode cX5_drawn 67 = .ok (.getfield 55, 3) := by decide +kernel
theorem dX5_drawn_70 : decode cX5_drawn 70 = .ok (.bipush 33, 2) := by decide +kernel
theorem dX5_drawn_72 : decode cX5_drawn 72 = .ok (.lushr, 1) := by decide +kernel
theorem dX5_drawn_73 : decode cX5_drawn 73 = .ok (.l2i, 1) := by decide +kernel
theorem dX5_drawn_74 : decode cX5_drawn 74 = .ok (.invokevirtual 222, 3) := by decide +kernel
theorem dX5_drawn_77 : decode cX5_drawn 77 = .ok (.aload_n 0, 1) := by decide +kernel
theorem dX5_drawn_78 : decode cX5_drawn 78 = .ok (.getfield 44, 3) := by decide +kernel
theorem dX5_drawn_81 : decode cX5_drawn 81 = .ok (.aload_n 0, 1) := by decide +kernel
theorem dX5_drawn_82 : decode cX5_drawn 82 = .ok (.getfield 23, 3) := by decide +kernel
theorem dX5_drawn_85 : decode cX5_drawn 85 = .ok (.iconst 0, 1) := by decide +kernel
theorem dX5_drawn_86 : decode cX5_drawn 86 = .ok (.invokevirtual 188, 3) := by decide +kernel
theorem dX5_drawn_89 : decode cX5_drawn 89 = .ok (.iload_n 2, 1) := by decide +kernel
theorem dX5_drawn_90 : decode cX5_drawn 90 = .ok (.if_icmp .ne 6, 3) := by decide +kernel
theorem dX5_drawn_93 : decode cX5_drawn 93 = .ok (.iinc 3 1, 3) := by decide +kernel
theorem dX5_drawn_96 : decode cX5_drawn 96 = .ok (.iinc 4 1, 3) := by decide +kernel
theorem dX5_drawn_99 : decode cX5_drawn 99 = .ok (.goto (-56), 3) := by decide +kernel
theorem dX5_drawn_102 : decode cX5_drawn 102 = .ok (.iload_n 3, 1) := by decide +kernel
theorem dX5_drawn_103 : decode cX5_drawn 103 = .ok (.ireturn, 1) := by decide +kernel
theorem dX5_keep_0 : decode cX5_keep 0 = .ok (.iload_n 1, 1) := by decide +kernel
theorem dX5_keep_1 : decode cX5_keep 1 = .ok (.ifCond .lt 8, 3) := by decide +kernel
theorem dX5_keep_4 : decode cX5_keep 4 = .ok (.iload_n 1, 1) := by decide +kernel
theorem dX5_keep_5 : decode cX5_keep 5 = .ok (.iconst 2, 1) := by decide +kernel
theorem dX5_keep_6 : decode cX5_keep 6 = .ok (.if_icmp .lt 5, 3) := by decide +kernel
theorem dX5_keep_9 : decode cX5_keep 9 = .ok (.iconst (-1), 1) := by decide +kernel
theorem dX5_keep_10 : decode cX5_keep 10 = .ok (.ireturn, 1) := by decide +kernel
theorem dX5_keep_11 : decode cX5_keep 11 = .ok (.aload_n 0, 1) := by decide +kernel
theorem dX5_keep_12 : decode cX5_keep 12 = .ok (.getfield 33, 3) := by decide +kernel
theorem dX5_keep_15 : decode cX5_keep 15 = .ok (.iload_n 1, 1) := by decide +kernel
theorem dX5_keep_16 : decode cX5_keep 16 = .ok (.aaload, 1) := by decide +kernel
theorem dX5_keep_17 : decode cX5_keep 17 = .ok (.aload_n 0, 1) := by decide +kernel
theorem dX5_keep_18 : decode cX5_keep 18 = .ok (.getfield 19, 3) := by decide +kernel
theorem dX5_keep_21 : decode cX5_keep 21 = .ok (.invokevirtual 166, 3) := by decide +kernel
theorem dX5_keep_24 : decode cX5_keep 24 = .ok (.aload_n 0, 1) := by decide +kernel
theorem dX5_keep_25 : decode cX5_keep 25 = .ok (.getfield 37, 3) := by decide +kernel
theorem dX5_keep_28 : decode cX5_keep 28 = .ok (.iload_n 1, 1) := by decide +kernel
theorem dX5_keep_29 : decode cX5_keep 29 = .ok (.iconst 1, 1) := by decide +kernel
theorem dX5_keep_30 : decode cX5_keep 30 = .ok (.bastore, 1) := by decide +kernel
theorem dX5_keep_31 : decode cX5_keep 31 = .ok (.aload_n 0, 1) := by decide +kernel
theorem dX5_keep_32 : decode cX5_keep 32 = .ok (.getfield 19, 3) := by decide +kernel
theorem dX5_keep_35 : decode cX5_keep 35 = .ok (.getfield 78, 3) := by decide +kernel
theorem dX5_keep_38 : decode cX5_keep 38 = .ok (.ireturn, 1) := by decide +kernel
theorem dX5_again_0 : decode cX5_again 0 = .ok (.iload_n 1, 1) := by decide +kernel
theorem dX5_again_1 : decode cX5_again 1 = .ok (.ifCond .lt 8, 3) := by decide +kernel
theorem dX5_again_4 : decode cX5_again 4 = .ok (.iload_n 1, 1) := by decide +kernel
theorem dX5_again_5 : decode cX5_again 5 = .ok (.iconst 2, 1) := by decide +kernel
theorem dX5_again_6 : decode cX5_again 6 = .ok (.if_icmp .lt 5, 3) := by decide +kernel
theorem dX5_again_9 : decode cX5_again 9 = .ok (.iconst (-1), 1) := by decide +kernel
theorem dX5_again_10 : decode cX5_again 10 = .ok (.ireturn, 1) := by decide +kernel
theorem dX5_again_11 : decode cX5_again 11 = .ok (.aload_n 0, 1) := by decide +kernel
theorem dX5_again_12 : decode cX5_again 12 = .ok (.getfield 37, 3) := by decide +kernel
theorem dX5_again_15 : decode cX5_again 15 = .ok (.iload_n 1, 1) := by decide +kernel
theorem dX5_again_16 : decode cX5_again 16 = .ok (.baload, 1) := by decide +kernel
theorem dX5_again_17 : decode cX5_again 17 = .ok (.ifCond .ne 6, 3) := by decide +kernel
theorem dX5_again_20 : decode cX5_again 20 = .ok (.bipush (-3), 2) := by decide +kernel
theorem dX5_again_22 : decode cX5_again 22 = .ok (.ireturn, 1) := by decide +kernel
theorem dX5_again_23 : decode cX5_again 23 = .ok (.aload_n 0, 1) := by decide +kernel
theorem dX5_again_24 : decode cX5_again 24 = .ok (.getfield 19, 3) := by decide +kernel
theorem dX5_again_27 : decode cX5_again 27 = .ok (.aload_n 0, 1) := by decide +kernel
theorem dX5_again_28 : decode cX5_again 28 = .ok (.getfield 33, 3) := by decide +kernel
theorem dX5_again_31 : decode cX5_again 31 = .ok (.iload_n 1, 1) := by decide +kernel
theorem dX5_again_32 : decode cX5_again 32 = .ok (.aaload, 1) := by decide +kernel
theorem dX5_again_33 : decode cX5_again 33 = .ok (.invokevirtual 166, 3) := by decide +kernel
theorem dX5_again_36 : decode cX5_again 36 = .ok (.aload_n 0, 1) := by decide +kernel
theorem dX5_again_37 : decode cX5_again 37 = .ok (.getfield 29, 3) := by decide +kernel
theorem dX5_again_40 : decode cX5_again 40 = .ok (.invokevirtual 75, 3) := by decide +kernel
theorem dX5_again_43 : decode cX5_again 43 = .ok (.aload_n 0, 1) := by decide +kernel
theorem dX5_again_44 : decode cX5_again 44 = .ok (.getfield 19, 3) := by decide +kernel
theorem dX5_again_47 : decode cX5_again 47 = .ok (.getfield 78, 3) := by decide +kernel
theorem dX5_again_50 : decode cX5_again 50 = .ok (.ireturn, 1) := by decide +kernel
theorem dX5_count_0 : decode cX5_count 0 = .ok (.iload_n 1, 1) := by decide +kernel
theorem dX5_count_1 : decode cX5_count 1 = .ok (.tableswitch 75 0 4 #[35, 43, 51, 59, 67], 35) := by decide +kernel
theorem dX5_count_36 : decode cX5_count 36 = .ok (.aload_n 0, 1) := by decide +kernel
theorem dX5_count_37 : decode cX5_count 37 = .ok (.getfield 10, 3) := by decide +kernel
theorem dX5_count_40 : decode cX5_count 40 = .ok (.getfield 59, 3) := by decide +kernel
theorem dX5_count_43 : decode cX5_count 43 = .ok (.ireturn, 1) := by decide +kernel
theorem dX5_count_44 : decode cX5_count 44 = .ok (.aload_n 0, 1) := by decide +kernel
theorem dX5_count_45 : decode cX5_count 45 = .ok (.getfield 19, 3) := by decide +kernel
theorem dX5_count_48 : decode cX5_count 48 = .ok (.getfield 91, 3) := by decide +kernel
theorem dX5_count_51 : decode cX5_count 51 = .ok (.ireturn, 1) := by decide +kernel
theorem dX5_count_52 : decode cX5_count 52 = .ok (.aload_n 0, 1) := by decide +kernel
theorem dX5_count_53 : decode cX5_count 53 = .ok (.getfield 19, 3) := by decide +kernel
theorem dX5_count_56 : decode cX5_count 56 = .ok (.getfield 116, 3) := by decide +kernel
theorem dX5_count_59 : decode cX5_count 59 = .ok (.ireturn, 1) := by decide +kernel
theorem dX5_count_60 : decode cX5_count 60 = .ok (.aload_n 0, 1) := by decide +kernel
theorem dX5_count_61 : decode cX5_count 61 = .ok (.getfield 19, 3) := by decide +kernel
theorem dX5_count_64 : decode cX5_count 64 = .ok (.getfield 78, 3) := by decide +kernel
theorem dX5_count_67 : decode cX5_count 67 = .ok (.ireturn, 1) := by decide +kernel
theorem dX5_count_68 : decode cX5_count 68 = .ok (.aload_n 0, 1) := by decide +kernel
theorem dX5_count_69 : decode cX5_count 69 = .ok (.getfield 29, 3) := by decide +kernel
theorem dX5_count_72 : decode cX5_count 72 = .ok (.getfield 119, 3) := by decide +kernel
theorem dX5_count_75 : decode cX5_count 75 = .ok (.ireturn, 1) := by decide +kernel
theorem dX5_count_76 : decode cX5_count 76 = .ok (.bipush (-2), 2) := by decide +kernel
theorem dX5_count_78 : decode cX5_count 78 = .ok (.ireturn, 1) := by decide +kernel
theorem dX5_holds_0 : decode cX5_holds 0 = .ok (.iload_n 1, 1) := by decide +kernel
theorem dX5_holds_1 : decode cX5_holds 1 = .ok (.bipush 100, 2) := by decide +kernel
theorem dX5_holds_3 : decode cX5_holds 3 = .ok (.idiv, 1) := by decide +kernel
theorem dX5_holds_4 : decode cX5_holds 4 = .ok (.bipush 10, 2) := by decide +kernel
theorem dX5_holds_6 : decode cX5_holds 6 = .ok (.irem, 1) := by decide +kernel
theorem dX5_holds_7 : decode cX5_holds 7 = .ok (.istore_n 2, 1) := by decide +kernel
theorem dX5_holds_8 : decode cX5_holds 8 = .ok (.iload_n 1, 1) := by decide +kernel
theorem dX5_holds_9 : decode cX5_holds 9 = .ok (.bipush 10, 2) := by decide +kernel
theorem dX5_holds_11 : decode cX5_holds 11 = .ok (.idiv, 1) := by decide +kernel
theorem dX5_holds_12 : decode cX5_holds 12 = .ok (.bipush 10, 2) := by decide +kernel
theorem dX5_holds_14 : decode cX5_holds 14 = .ok (.irem, 1) := by decide +kernel
theorem dX5_holds_15 : decode cX5_holds 15 = .ok (.istore_n 3, 1) := by decide +kernel
theorem dX5_holds_16 : decode cX5_holds 16 = .ok (.iload_n 1, 1) := by decide +kernel
theorem dX5_holds_17 : decode cX5_holds 17 = .ok (.bipush 10, 2) := by decide +kernel
theorem dX5_holds_19 : decode cX5_holds 19 = .ok (.irem, 1) := by decide +kernel
theorem dX5_holds_20 : decode cX5_holds 20 = .ok (.istore 4, 2) := by decide +kernel
theorem dX5_holds_22 : decode cX5_holds 22 = .ok (.iload_n 1, 1) := by decide +kernel
theorem dX5_holds_23 : decode cX5_holds 23 = .ok (.bipush 100, 2) := by decide +kernel
theorem dX5_holds_25 : decode cX5_holds 25 = .ok (.irem, 1) := by decide +kernel
theorem dX5_holds_26 : decode cX5_holds 26 = .ok (.istore 5, 2) := by decide +kernel
theorem dX5_holds_28 : decode cX5_holds 28 = .ok (.iload_n 1, 1) := by decide +kernel
theorem dX5_holds_29 : decode cX5_holds 29 = .ok (.sipush 1000, 3) := by decide +kernel
theorem dX5_holds_32 : decode cX5_holds 32 = .ok (.idiv, 1) := by decide +kernel
theorem dX5_holds_33 : decode cX5_holds 33 = .ok (.tableswitch 206 1 6 #[39, 59, 78, 133, 160, 187], 39) := by decide +kernel
theorem dX5_holds_72 : decode cX5_holds 72 = .ok (.iload 4, 2) := by decide +kernel
theorem dX5_holds_74 : decode cX5_holds 74 = .ok (.ifCond .ne 16, 3) := by decide +kernel
theorem dX5_holds_77 : decode cX5_holds 77 = .ok (.aload_n 0, 1) := by decide +kernel
theorem dX5_holds_78 : decode cX5_holds 78 = .ok (.iload_n 2, 1) := by decide +kernel
theorem dX5_holds_79 : decode cX5_holds 79 = .ok (.iload_n 3, 1) := by decide +kernel
theorem dX5_holds_80 : decode cX5_holds 80 = .ok (.invokevirtual 225, 3) := by decide +kernel
theorem dX5_holds_83 : decode cX5_holds 83 = .ok (.ifCond .eq 7, 3) := by decide +kernel
theorem dX5_holds_86 : decode cX5_holds 86 = .ok (.iconst 1, 1) := by decide +kernel
theorem dX5_holds_87 : decode cX5_holds 87 = .ok (.goto 4, 3) := by decide +kernel
theorem dX5_holds_90 : decode cX5_holds 90 = .ok (.iconst 0, 1) := by decide +kernel
theorem dX5_holds_91 : decode cX5_holds 91 = .ok (.ireturn, 1) := by decide +kernel
theorem dX5_holds_92 : decode cX5_holds 92 = .ok (.iload 5, 2) := by decide +kernel
theorem dX5_holds_94 : decode cX5_holds 94 = .ok (.ifCond .ne 15, 3) := by decide +kernel
theorem dX5_holds_97 : decode cX5_holds 97 = .ok (.aload_n 0, 1) := by decide +kernel
theorem dX5_holds_98 : decode cX5_holds 98 = .ok (.iload_n 2, 1) := by decide +kernel
theorem dX5_holds_99 : decode cX5_holds 99 = .ok (.invokevirtual 228, 3) := by decide +kernel
theorem dX5_holds_102 : decode cX5_holds 102 = .ok (.ifCond .eq 7, 3) := by decide +kernel
theorem dX5_holds_105 : decode cX5_holds 105 = .ok (.iconst 1, 1) := by decide +kernel
theorem dX5_holds_106 : decode cX5_holds 106 = .ok (.goto 4, 3) := by decide +kernel
theorem dX5_holds_109 : decode cX5_holds 109 = .ok (.iconst 0, 1) := by decide +kernel
theorem dX5_holds_110 : decode cX5_holds 110 = .ok (.ireturn, 1) := by decide +kernel
theorem dX5_holds_111 : decode cX5_holds 111 = .ok (.iload_n 2, 1) := by decide +kernel
theorem dX5_holds_112 : decode cX5_holds 112 = .ok (.aload_n 0, 1) := by decide +kernel
theorem dX5_holds_113 : decode cX5_holds 113 = .ok (.getfield 23, 3) := by decide +kernel
theorem dX5_holds_116 : decode cX5_holds 116 = .ok (.getfield 91, 3) := by decide +kernel
theorem dX5_holds_119 : decode cX5_holds 119 = .ok (.if_icmp .ge 45, 3) := by decide +kernel
theorem dX5_holds_122 : decode cX5_holds 122 = .ok (.aload_n 0, 1) := by decide +kernel
theorem dX5_holds_123 : decode cX5_holds 123 = .ok (.getfield 44, 3) := by decide +kernel
theorem dX5_holds_126 : decode cX5_holds 126 = .ok (.aload_n 0, 1) := by decide +kernel
theorem dX5_holds_127 : decode cX5_holds 127 = .ok (.getfield 23, 3) := by decide +kernel
theorem dX5_holds_130 : decode cX5_holds 130 = .ok (.iconst 0, 1) := by decide +kernel
theorem dX5_holds_131 : decode cX5_holds 131 = .ok (.invokevirtual 135, 3) := by decide +kernel
theorem dX5_holds_134 : decode cX5_holds 134 = .ok (.ifCond .eq 30, 3) := by decide +kernel
theorem dX5_holds_137 : decode cX5_holds 137 = .ok (.aload_n 0, 1) := by decide +kernel
theorem dX5_holds_138 : decode cX5_holds 138 = .ok (.getfield 44, 3) := by decide +kernel
theorem dX5_holds_141 : decode cX5_holds 141 = .ok (.iload_n 2, 1) := by decide +kernel
theorem dX5_holds_142 : decode cX5_holds 142 = .ok (.invokevirtual 141, 3) := by decide +kernel
theorem dX5_holds_145 : decode cX5_holds 145 = .ok (.iload 5, 2) := by decide +kernel
theorem dX5_holds_147 : decode cX5_holds 147 = .ok (.i2l, 1) := by decide +kernel
theorem dX5_holds_148 : decode cX5_holds 148 = .ok (.aload_n 0, 1) := by decide +kernel
theorem dX5_holds_149 : decode cX5_holds 149 = .ok (.getfield 44, 3) := by decide +kernel
theorem dX5_holds_152 : decode cX5_holds 152 = .ok (.getfield 145, 3) := by decide +kernel
theorem dX5_holds_155 : decode cX5_holds 155 = .ok (.lmul, 1) := by decide +kernel
theorem dX5_holds_156 : decode cX5_holds 156 = .ok (.lcmp, 1) := by decide +kernel
theorem dX5_holds_157 : decode cX5_holds 157 = .ok (.ifCond .ne 7, 3) := by decide +kernel
theorem dX5_holds_160 : decode cX5_holds 160 = .ok (.iconst 1, 1) := by decide +kernel
theorem dX5_holds_161 : decode cX5_holds 161 = .ok (.goto 4, 3) := by decide +kernel
theorem dX5_holds_164 : decode cX5_holds 164 = .ok (.iconst 0, 1) := by decide +kernel
theorem dX5_holds_165 : decode cX5_holds 165 = .ok (.ireturn, 1) := by decide +kernel
theorem dX5_holds_166 : decode cX5_holds 166 = .ok (.iload 5, 2) := by decide +kernel
theorem dX5_holds_168 : decode cX5_holds 168 = .ok (.ifCond .ne 23, 3) := by decide +kernel
theorem dX5_holds_171 : decode cX5_holds 171 = .ok (.aload_n 0, 1) := by decide +kernel
theorem dX5_holds_172 : decode cX5_holds 172 = .ok (.getfield 51, 3) := by decide +kernel
theorem dX5_holds_175 : decode cX5_holds 175 = .ok (.aload_n 0, 1) := by decide +kernel
theorem dX5_holds_176 : decode cX5_holds 176 = .ok (.getfield 23, 3) := by decide +kernel
theorem dX5_holds_179 : decode cX5_holds 179 = .ok (.iconst 0, 1) := by decide +kernel
theorem dX5_holds_180 : decode cX5_holds 180 = .ok (.invokevirtual 125, 3) := by decide +kernel
theorem dX5_holds_183 : decode cX5_holds 183 = .ok (.iload_n 2, 1) := by decide +kernel
theorem dX5_holds_184 : decode cX5_holds 184 = .ok (.if_icmp .ne 7, 3) := by decide +kernel
theorem dX5_holds_187 : decode cX5_holds 187 = .ok (.iconst 1, 1) := by decide +kernel
theorem dX5_holds_188 : decode cX5_holds 188 = .ok (.goto 4, 3) := by decide +kernel
theorem dX5_holds_191 : decode cX5_holds 191 = .ok (.iconst 0, 1) := by decide +kernel
theorem dX5_holds_192 : decode cX5_holds 192 = .ok (.ireturn, 1) := by decide +kernel
theorem dX5_holds_193 : decode cX5_holds 193 = .ok (.iload 5, 2) := by decide +kernel
theorem dX5_holds_195 : decode cX5_holds 195 = .ok (.ifCond .ne 23, 3) := by decide +kernel
theorem dX5_holds_198 : decode cX5_holds 198 = .ok (.aload_n 0, 1) := by decide +kernel
theorem dX5_holds_199 : decode cX5_holds 199 = .ok (.getfield 44, 3) := by decide +kernel
theorem dX5_holds_202 : decode cX5_holds 202 = .ok (.aload_n 0, 1) := by decide +kernel
theorem dX5_holds_203 : decode cX5_holds 203 = .ok (.getfield 23, 3) := by decide +kernel
theorem dX5_holds_206 : decode cX5_holds 206 = .ok (.iconst 0, 1) := by decide +kernel
theorem dX5_holds_207 : decode cX5_holds 207 = .ok (.invokevirtual 188, 3) := by decide +kernel
theorem dX5_holds_210 : decode cX5_holds 210 = .ok (.iload_n 2, 1) := by decide +kernel
theorem dX5_holds_211 : decode cX5_holds 211 = .ok (.if_icmp .ne 7, 3) := by decide +kernel
theorem dX5_holds_214 : decode cX5_holds 214 = .ok (.iconst 1, 1) := by decide +kernel
theorem dX5_holds_215 : decode cX5_holds 215 = .ok (.goto 4, 3) := by decide +kernel
theorem dX5_holds_218 : decode cX5_holds 218 = .ok (.iconst 0, 1) := by decide +kernel
theorem dX5_holds_219 : decode cX5_holds 219 = .ok (.ireturn, 1) := by decide +kernel
theorem dX5_holds_220 : decode cX5_holds 220 = .ok (.iload_n 2, 1) := by decide +kernel
theorem dX5_holds_221 : decode cX5_holds 221 = .ok (.ifCond .ne 16, 3) := by decide +kernel
theorem dX5_holds_224 : decode cX5_holds 224 = .ok (.aload_n 0, 1) := by decide +kernel
theorem dX5_holds_225 : decode cX5_holds 225 = .ok (.iload 5, 2) := by decide +kernel
theorem dX5_holds_227 : decode cX5_holds 227 = .ok (.invokevirtual 231, 3) := by decide +kernel
theorem dX5_holds_230 : decode cX5_holds 230 = .ok (.ifCond .eq 7, 3) := by decide +kernel
theorem dX5_holds_233 : decode cX5_holds 233 = .ok (.iconst 1, 1) := by decide +kernel
theorem dX5_holds_234 : decode cX5_holds 234 = .ok (.goto 4, 3) := by decide +kernel
theorem dX5_holds_237 : decode cX5_holds 237 = .ok (.iconst 0, 1) := by decide +kernel
theorem dX5_holds_238 : decode cX5_holds 238 = .ok (.ireturn, 1) := by decide +kernel
theorem dX5_holds_239 : decode cX5_holds 239 = .ok (.iconst 0, 1) := by decide +kernel
theorem dX5_holds_240 : decode cX5_holds 240 = .ok (.ireturn, 1) := by decide +kernel
theorem dX5_exchanged_0 : decode cX5_exchanged 0 = .ok (.aload_n 0, 1) := by decide +kernel
theorem dX5_exchanged_1 : decode cX5_exchanged 1 = .ok (.getfield 23, 3) := by decide +kernel
theorem dX5_exchanged_4 : decode cX5_exchanged 4 = .ok (.iload_n 1, 1) := by decide +kernel
theorem dX5_exchanged_5 : decode cX5_exchanged 5 = .ok (.invokevirtual 81, 3) := by decide +kernel
theorem dX5_exchanged_8 : decode cX5_exchanged 8 = .ok (.ifCond .eq 19, 3) := by decide +kernel
theorem dX5_exchanged_11 : decode cX5_exchanged 11 = .ok (.aload_n 0, 1) := by decide +kernel
theorem dX5_exchanged_12 : decode cX5_exchanged 12 = .ok (.getfield 23, 3) := by decide +kernel
theorem dX5_exchanged_15 : decode cX5_exchanged 15 = .ok (.iload_n 2, 1) := by decide +kernel
theorem dX5_exchanged_16 : decode cX5_exchanged 16 = .ok (.invokevirtual 81, 3) := by decide +kernel
theorem dX5_exchanged_19 : decode cX5_exchanged 19 = .ok (.ifCond .eq 8, 3) := by decide +kernel
theorem dX5_exchanged_22 : decode cX5_exchanged 22 = .ok (.iload_n 1, 1) := by decide +kernel
theorem dX5_exchanged_23 : decode cX5_exchanged 23 = .ok (.iload_n 2, 1) := by decide +kernel
theorem dX5_exchanged_24 : decode cX5_exchanged 24 = .ok (.if_icmp .ne 5, 3) := by decide +kernel
theorem dX5_exchanged_27 : decode cX5_exchanged 27 = .ok (.iconst 0, 1) := by decide +kernel
theorem dX5_exchanged_28 : decode cX5_exchanged 28 = .ok (.ireturn, 1) := by decide +kernel
theorem dX5_exchanged_29 : decode cX5_exchanged 29 = .ok (.aload_n 0, 1) := by decide +kernel
theorem dX5_exchanged_30 : decode cX5_exchanged 30 = .ok (.getfield 23, 3) := by decide +kernel
theorem dX5_exchanged_33 : decode cX5_exchanged 33 = .ok (.iload_n 1, 1) := by decide +kernel
theorem dX5_exchanged_34 : decode cX5_exchanged 34 = .ok (.iload_n 2, 1) := by decide +kernel
theorem dX5_exchanged_35 : decode cX5_exchanged 35 = .ok (.invokevirtual 113, 3) := by decide +kernel
theorem dX5_exchanged_38 : decode cX5_exchanged 38 = .ok (.iconst 1, 1) := by decide +kernel
theorem dX5_exchanged_39 : decode cX5_exchanged 39 = .ok (.ireturn, 1) := by decide +kernel
theorem dX5_removed_0 : decode cX5_removed 0 = .ok (.aload_n 0, 1) := by decide +kernel
theorem dX5_removed_1 : decode cX5_removed 1 = .ok (.getfield 23, 3) := by decide +kernel
theorem dX5_removed_4 : decode cX5_removed 4 = .ok (.iload_n 1, 1) := by decide +kernel
theorem dX5_removed_5 : decode cX5_removed 5 = .ok (.invokevirtual 81, 3) := by decide +kernel
theorem dX5_removed_8 : decode cX5_removed 8 = .ok (.ifCond .ne 5, 3) := by decide +kernel
theorem dX5_removed_11 : decode cX5_removed 11 = .ok (.iconst 0, 1) := by decide +kernel
theorem dX5_removed_12 : decode cX5_removed 12 = .ok (.ireturn, 1) := by decide +kernel
theorem dX5_removed_13 : decode cX5_removed 13 = .ok (.aload_n 0, 1) := by decide +kernel
theorem dX5_removed_14 : decode cX5_removed 14 = .ok (.getfield 23, 3) := by decide +kernel
theorem dX5_removed_17 : decode cX5_removed 17 = .ok (.iload_n 1, 1) := by decide +kernel
theorem dX5_removed_18 : decode cX5_removed 18 = .ok (.invokevirtual 109, 3) := by decide +kernel
theorem dX5_removed_21 : decode cX5_removed 21 = .ok (.iconst 1, 1) := by decide +kernel
theorem dX5_removed_22 : decode cX5_removed 22 = .ok (.ireturn, 1) := by decide +kernel
theorem dX5_masterSet_0 : decode cX5_masterSet 0 = .ok (.aload_n 0, 1) := by decide +kernel
theorem dX5_masterSet_1 : decode cX5_masterSet 1 = .ok (.getfield 23, 3) := by decide +kernel
theorem dX5_masterSet_4 : decode cX5_masterSet 4 = .ok (.iload_n 1, 1) := by decide +kernel
theorem dX5_masterSet_5 : decode cX5_masterSet 5 = .ok (.putfield 116, 3) := by decide +kernel
theorem dX5_masterSet_8 : decode cX5_masterSet 8 = .ok (.iconst 1, 1) := by decide +kernel
theorem dX5_masterSet_9 : decode cX5_masterSet 9 = .ok (.ireturn, 1) := by decide +kernel
theorem dX5_drawReadings_0 : decode cX5_drawReadings 0 = .ok (.iconst 0, 1) := by decide +kernel
theorem dX5_drawReadings_1 : decode cX5_drawReadings 1 = .ok (.istore_n 2, 1) := by decide +kernel
theorem dX5_drawReadings_2 : decode cX5_drawReadings 2 = .ok (.iload_n 2, 1) := by decide +kernel
theorem dX5_drawReadings_3 : decode cX5_drawReadings 3 = .ok (.aload_n 0, 1) := by decide +kernel
theorem dX5_drawReadings_4 : decode cX5_drawReadings 4 = .ok (.getfield 19, 3) := by decide +kernel
theorem dX5_drawReadings_7 : decode cX5_drawReadings 7 = .ok (.getfield 78, 3) := by decide +kernel
theorem dX5_drawReadings_10 : decode cX5_drawReadings 10 = .ok (.if_icmp .ge 48, 3) := by decide +kernel
theorem dX5_drawReadings_13 : decode cX5_drawReadings 13 = .ok (.iload_n 1, 1) := by decide +kernel
theorem dX5_drawReadings_14 : decode cX5_drawReadings 14 = .ok (.iconst 2, 1) := by decide +kernel
theorem dX5_drawReadings_15 : decode cX5_drawReadings 15 = .ok (.iload_n 2, 1) := by decide +kernel
theorem dX5_drawReadings_16 : decode cX5_drawReadings 16 = .ok (.imul, 1) := by decide +kernel
theorem dX5_drawReadings_17 : decode cX5_drawReadings 17 = .ok (.ishr, 1) := by decide +kernel
theorem dX5_drawReadings_18 : decode cX5_drawReadings 18 = .ok (.iconst 3, 1) := by decide +kernel
theorem dX5_drawReadings_19 : decode cX5_drawReadings 19 = .ok (.iand, 1) := by decide +kernel
theorem dX5_drawReadings_20 : decode cX5_drawReadings 20 = .ok (.iconst 1, 1) := by decide +kernel
theorem dX5_drawReadings_21 : decode cX5_drawReadings 21 = .ok (.isub, 1) := by decide +kernel
theorem dX5_drawReadings_22 : decode cX5_drawReadings 22 = .ok (.istore_n 3, 1) := by decide +kernel
theorem dX5_drawReadings_23 : decode cX5_drawReadings 23 = .ok (.aload_n 0, 1) := by decide +kernel
theorem dX5_drawReadings_24 : decode cX5_drawReadings 24 = .ok (.getfield 23, 3) := by decide +kernel
theorem dX5_drawReadings_27 : decode cX5_drawReadings 27 = .ok (.getfield 88, 3) := by decide +kernel
theorem dX5_drawReadings_30 : decode cX5_drawReadings 30 = .ok (.iload_n 2, 1) := by decide +kernel
theorem dX5_drawReadings_31 : decode cX5_drawReadings 31 = .ok (.aload_n 0, 1) := by decide +kernel
theorem dX5_drawReadings_32 : decode cX5_drawReadings 32 = .ok (.getfield 19, 3) := by decide +kernel
theorem dX5_drawReadings_35 : decode cX5_drawReadings 35 = .ok (.getfield 88, 3) := by decide +kernel
theorem dX5_drawReadings_38 : decode cX5_drawReadings 38 = .ok (.iload_n 2, 1) := by decide +kernel
theorem dX5_drawReadings_39 : decode cX5_drawReadings 39 = .ok (.iaload, 1) := by decide +kernel
theorem dX5_drawReadings_40 : decode cX5_drawReadings 40 = .ok (.iload_n 3, 1) := by decide +kernel
theorem dX5_drawReadings_41 : decode cX5_drawReadings 41 = .ok (.iconst 2, 1) := by decide +kernel
theorem dX5_drawReadings_42 : decode cX5_drawReadings 42 = .ok (.if_icmp .ne 7, 3) := by decide +kernel
theorem dX5_drawReadings_45 : decode cX5_drawReadings 45 = .ok (.iconst 0, 1) := by decide +kernel
theorem dX5_drawReadings_46 : decode cX5_drawReadings 46 = .ok (.goto 4, 3) := by decide +kernel
theorem dX5_drawReadings_49 : decode cX5_drawReadings 49 = .ok (.iload_n 3, 1) := by decide +kernel
theorem dX5_drawReadings_50 : decode cX5_drawReadings 50 = .ok (.iadd, 1) := by decide +kernel
theorem dX5_drawReadings_51 : decode cX5_drawReadings 51 = .ok (.iastore, 1) := by decide +kernel
theorem dX5_drawReadings_52 : decode cX5_drawReadings 52 = .ok (.iinc 2 1, 3) := by decide +kernel
theorem dX5_drawReadings_55 : decode cX5_drawReadings 55 = .ok (.goto (-53), 3) := by decide +kernel
theorem dX5_drawReadings_58 : decode cX5_drawReadings 58 = .ok (.return_, 1) := by decide +kernel
theorem dX5_isReading_0 : decode cX5_isReading 0 = .ok (.iload_n 0, 1) := by decide +kernel
theorem dX5_isReading_1 : decode cX5_isReading 1 = .ok (.sipush (-999), 3) := by decide +kernel
theorem dX5_isReading_4 : decode cX5_isReading 4 = .ok (.if_icmp .lt 14, 3) := by decide +kernel
theorem dX5_isReading_7 : decode cX5_isReading 7 = .ok (.iload_n 0, 1) := by decide +kernel
theorem dX5_isReading_8 : decode cX5_isReading 8 = .ok (.sipush 999, 3) := by decide +kernel
theorem dX5_isReading_11 : decode cX5_isReading 11 = .ok (.if_icmp .gt 7, 3) := by decide +kernel
theorem dX5_isReading_14 : decode cX5_isReading 14 = .ok (.iconst 1, 1) := by decide +kernel
theorem dX5_isReading_15 : decode cX5_isReading 15 = .ok (.goto 4, 3) := by decide +kernel
theorem dX5_isReading_18 : decode cX5_isReading 18 = .ok (.iconst 0, 1) := by decide +kernel
theorem dX5_isReading_19 : decode cX5_isReading 19 = .ok (.ireturn, 1) := by decide +kernel
theorem dX5_isCode_0 : decode cX5_isCode 0 = .ok (.iload_n 0, 1) := by decide +kernel
theorem dX5_isCode_1 : decode cX5_isCode 1 = .ok (.istore_n 2, 1) := by decide +kernel
theorem dX5_isCode_2 : decode cX5_isCode 2 = .ok (.iconst 0, 1) := by decide +kernel
theorem dX5_isCode_3 : decode cX5_isCode 3 = .ok (.istore_n 3, 1) := by decide +kernel
theorem dX5_isCode_4 : decode cX5_isCode 4 = .ok (.iload_n 3, 1) := by decide +kernel
theorem dX5_isCode_5 : decode cX5_isCode 5 = .ok (.iload_n 1, 1) := by decide +kernel
theorem dX5_isCode_6 : decode cX5_isCode 6 = .ok (.if_icmp .gt 28, 3) := by decide +kernel
theorem dX5_isCode_9 : decode cX5_isCode 9 = .ok (.iload_n 2, 1) := by decide +kernel
theorem dX5_isCode_10 : decode cX5_isCode 10 = .ok (.ifCond .lt 11, 3) := by decide +kernel
theorem dX5_isCode_13 : decode cX5_isCode 13 = .ok (.iload_n 2, 1) := by decide +kernel
theorem dX5_isCode_14 : decode cX5_isCode 14 = .ok (.bipush 10, 2) := by decide +kernel
theorem dX5_isCode_16 : decode cX5_isCode 16 = .ok (.irem, 1) := by decide +kernel
theorem dX5_isCode_17 : decode cX5_isCode 17 = .ok (.iconst 2, 1) := by decide +kernel
theorem dX5_isCode_18 : decode cX5_isCode 18 = .ok (.if_icmp .le 5, 3) := by decide +kernel
theorem dX5_isCode_21 : decode cX5_isCode 21 = .ok (.iconst 0, 1) := by decide +kernel
theorem dX5_isCode_22 : decode cX5_isCode 22 = .ok (.ireturn, 1) := by decide +kernel
theorem dX5_isCode_23 : decode cX5_isCode 23 = .ok (.iload_n 2, 1) := by decide +kernel
theorem dX5_isCode_24 : decode cX5_isCode 24 = .ok (.bipush 10, 2) := by decide +kernel
theorem dX5_isCode_26 : decode cX5_isCode 26 = .ok (.idiv, 1) := by decide +kernel
theorem dX5_isCode_27 : decode cX5_isCode 27 = .ok (.istore_n 2, 1) := by decide +kernel
theorem dX5_isCode_28 : decode cX5_isCode 28 = .ok (.iinc 3 1, 3) := by decide +kernel
theorem dX5_isCode_31 : decode cX5_isCode 31 = .ok (.goto (-27), 3) := by decide +kernel
theorem dX5_isCode_34 : decode cX5_isCode 34 = .ok (.iload_n 2, 1) := by decide +kernel
theorem dX5_isCode_35 : decode cX5_isCode 35 = .ok (.ifCond .ne 7, 3) := by decide +kernel
theorem dX5_isCode_38 : decode cX5_isCode 38 = .ok (.iconst 1, 1) := by decide +kernel
theorem dX5_isCode_39 : decode cX5_isCode 39 = .ok (.goto 4, 3) := by decide +kernel
theorem dX5_isCode_42 : decode cX5_isCode 42 = .ok (.iconst 0, 1) := by decide +kernel
theorem dX5_isCode_43 : decode cX5_isCode 43 = .ok (.ireturn, 1) := by decide +kernel
theorem dX5_numbered_0 : decode cX5_numbered 0 = .ok (.iconst 0, 1) := by decide +kernel
theorem dX5_numbered_1 : decode cX5_numbered 1 = .ok (.istore_n 2, 1) := by decide +kernel
theorem dX5_numbered_2 : decode cX5_numbered 2 = .ok (.iconst 1, 1) := by decide +kernel
theorem dX5_numbered_3 : decode cX5_numbered 3 = .ok (.istore_n 3, 1) := by decide +kernel
theorem dX5_numbered_4 : decode cX5_numbered 4 = .ok (.iload_n 0, 1) := by decide +kernel
theorem dX5_numbered_5 : decode cX5_numbered 5 = .ok (.istore 4, 2) := by decide +kernel
theorem dX5_numbered_7 : decode cX5_numbered 7 = .ok (.iconst 0, 1) := by decide +kernel
theorem dX5_numbered_8 : decode cX5_numbered 8 = .ok (.istore 5, 2) := by decide +kernel
theorem dX5_numbered_10 : decode cX5_numbered 10 = .ok (.iload 5, 2) := by decide +kernel
theorem dX5_numbered_12 : decode cX5_numbered 12 = .ok (.iload_n 1, 1) := by decide +kernel
theorem dX5_numbered_13 : decode cX5_numbered 13 = .ok (.if_icmp .ge 29, 3) := by decide +kernel
theorem dX5_numbered_16 : decode cX5_numbered 16 = .ok (.iload_n 2, 1) := by decide +kernel
theorem dX5_numbered_17 : decode cX5_numbered 17 = .ok (.iload 4, 2) := by decide +kernel
theorem dX5_numbered_19 : decode cX5_numbered 19 = .ok (.iconst 3, 1) := by decide +kernel
theorem dX5_numbered_20 : decode cX5_numbered 20 = .ok (.irem, 1) := by decide +kernel
theorem dX5_numbered_21 : decode cX5_numbered 21 = .ok (.iload_n 3, 1) := by decide +kernel
theorem dX5_numbered_22 : decode cX5_numbered 22 = .ok (.imul, 1) := by decide +kernel
theorem dX5_numbered_23 : decode cX5_numbered 23 = .ok (.iadd, 1) := by decide +kernel
theorem dX5_numbered_24 : decode cX5_numbered 24 = .ok (.istore_n 2, 1) := by decide +kernel
theorem dX5_numbered_25 : decode cX5_numbered 25 = .ok (.iload 4, 2) := by decide +kernel
theorem dX5_numbered_27 : decode cX5_numbered 27 = .ok (.iconst 3, 1) := by decide +kernel
theorem dX5_numbered_28 : decode cX5_numbered 28 = .ok (.idiv, 1) := by decide +kernel
theorem dX5_numbered_29 : decode cX5_numbered 29 = .ok (.istore 4, 2) := by decide +kernel
theorem dX5_numbered_31 : decode cX5_numbered 31 = .ok (.iload_n 3, 1) := by decide +kernel
theorem dX5_numbered_32 : decode cX5_numbered 32 = .ok (.bipush 10, 2) := by decide +kernel
theorem dX5_numbered_34 : decode cX5_numbered 34 = .ok (.imul, 1) := by decide +kernel
theorem dX5_numbered_35 : decode cX5_numbered 35 = .ok (.istore_n 3, 1) := by decide +kernel
theorem dX5_numbered_36 : decode cX5_numbered 36 = .ok (.iinc 5 1, 3) := by decide +kernel
theorem dX5_numbered_39 : decode cX5_numbered 39 = .ok (.goto (-29), 3) := by decide +kernel
theorem dX5_numbered_42 : decode cX5_numbered 42 = .ok (.iload_n 2, 1) := by decide +kernel
theorem dX5_numbered_43 : decode cX5_numbered 43 = .ok (.ireturn, 1) := by decide +kernel
theorem dX5_power_0 : decode cX5_power 0 = .ok (.iconst 1, 1) := by decide +kernel
theorem dX5_power_1 : decode cX5_power 1 = .ok (.istore_n 2, 1) := by decide +kernel
theorem dX5_power_2 : decode cX5_power 2 = .ok (.iconst 0, 1) := by decide +kernel
theorem dX5_power_3 : decode cX5_power 3 = .ok (.istore_n 3, 1) := by decide +kernel
theorem dX5_power_4 : decode cX5_power 4 = .ok (.iload_n 3, 1) := by decide +kernel
theorem dX5_power_5 : decode cX5_power 5 = .ok (.iload_n 1, 1) := by decide +kernel
theorem dX5_power_6 : decode cX5_power 6 = .ok (.if_icmp .ge 13, 3) := by decide +kernel
theorem dX5_power_9 : decode cX5_power 9 = .ok (.iload_n 2, 1) := by decide +kernel
theorem dX5_power_10 : decode cX5_power 10 = .ok (.iload_n 0, 1) := by decide +kernel
theorem dX5_power_11 : decode cX5_power 11 = .ok (.imul, 1) := by decide +kernel
theorem dX5_power_12 : decode cX5_power 12 = .ok (.istore_n 2, 1) := by decide +kernel
theorem dX5_power_13 : decode cX5_power 13 = .ok (.iinc 3 1, 3) := by decide +kernel
theorem dX5_power_16 : decode cX5_power 16 = .ok (.goto (-12), 3) := by decide +kernel
theorem dX5_power_19 : decode cX5_power 19 = .ok (.iload_n 2, 1) := by decide +kernel
theorem dX5_power_20 : decode cX5_power 20 = .ok (.ireturn, 1) := by decide +kernel
theorem dX5_isLess_0 : decode cX5_isLess 0 = .ok (.lload_n 0, 1) := by decide +kernel
theorem dX5_isLess_1 : decode cX5_isLess 1 = .ok (.lload 6, 2) := by decide +kernel
theorem dX5_isLess_3 : decode cX5_isLess 3 = .ok (.lmul, 1) := by decide +kernel
theorem dX5_isLess_4 : decode cX5_isLess 4 = .ok (.lload 4, 2) := by decide +kernel
theorem dX5_isLess_6 : decode cX5_isLess 6 = .ok (.lload_n 2, 1) := by decide +kernel
theorem dX5_isLess_7 : decode cX5_isLess 7 = .ok (.lmul, 1) := by decide +kernel
theorem dX5_isLess_8 : decode cX5_isLess 8 = .ok (.lcmp, 1) := by decide +kernel
theorem dX5_isLess_9 : decode cX5_isLess 9 = .ok (.ifCond .ge 7, 3) := by decide +kernel
theorem dX5_isLess_12 : decode cX5_isLess 12 = .ok (.iconst 1, 1) := by decide +kernel
theorem dX5_isLess_13 : decode cX5_isLess 13 = .ok (.goto 4, 3) := by decide +kernel
theorem dX5_isLess_16 : decode cX5_isLess 16 = .ok (.iconst 0, 1) := by decide +kernel
theorem dX5_isLess_17 : decode cX5_isLess 17 = .ok (.ireturn, 1) := by decide +kernel
theorem dX5_told_0 : decode cX5_told 0 = .ok (.lload_n 0, 1) := by decide +kernel
theorem dX5_told_1 : decode cX5_told 1 = .ok (.invokestatic 234, 3) := by decide +kernel
theorem dX5_told_4 : decode cX5_told 4 = .ok (.lload_n 2, 1) := by decide +kernel
theorem dX5_told_5 : decode cX5_told 5 = .ok (.invokestatic 240, 3) := by decide +kernel
theorem dX5_told_8 : decode cX5_told 8 = .ok (.lstore 5, 2) := by decide +kernel
theorem dX5_told_10 : decode cX5_told 10 = .ok (.lload 5, 2) := by decide +kernel
theorem dX5_told_12 : decode cX5_told 12 = .ok (.lconst 0, 1) := by decide +kernel
theorem dX5_told_13 : decode cX5_told 13 = .ok (.lcmp, 1) := by decide +kernel
theorem dX5_told_14 : decode cX5_told 14 = .ok (.ifCond .ne 5, 3) := by decide +kernel
theorem dX5_told_17 : decode cX5_told 17 = .ok (.lconst 0, 1) := by decide +kernel
theorem dX5_told_18 : decode cX5_told 18 = .ok (.lreturn, 1) := by decide +kernel
theorem dX5_told_19 : decode cX5_told 19 = .ok (.iload 4, 2) := by decide +kernel
theorem dX5_told_21 : decode cX5_told 21 = .ok (.ifCond .eq 7, 3) := by decide +kernel
theorem dX5_told_24 : decode cX5_told 24 = .ok (.lload_n 0, 1) := by decide +kernel
theorem dX5_told_25 : decode cX5_told 25 = .ok (.goto 4, 3) := by decide +kernel
theorem dX5_told_28 : decode cX5_told 28 = .ok (.lload_n 2, 1) := by decide +kernel
theorem dX5_told_29 : decode cX5_told 29 = .ok (.lload 5, 2) := by decide +kernel
theorem dX5_told_31 : decode cX5_told 31 = .ok (.ldiv, 1) := by decide +kernel
theorem dX5_told_32 : decode cX5_told 32 = .ok (.lreturn, 1) := by decide +kernel
theorem dX5_commonDivisor_0 : decode cX5_commonDivisor 0 = .ok (.lload_n 0, 1) := by decide +kernel
theorem dX5_commonDivisor_1 : decode cX5_commonDivisor 1 = .ok (.lstore 4, 2) := by decide +kernel
theorem dX5_commonDivisor_3 : decode cX5_commonDivisor 3 = .ok (.lload_n 2, 1) := by decide +kernel
theorem dX5_commonDivisor_4 : decode cX5_commonDivisor 4 = .ok (.lstore 6, 2) := by decide +kernel
theorem dX5_commonDivisor_6 : decode cX5_commonDivisor 6 = .ok (.iconst 0, 1) := by decide +kernel
theorem dX5_commonDivisor_7 : decode cX5_commonDivisor 7 = .ok (.istore 8, 2) := by decide +kernel
theorem dX5_commonDivisor_9 : decode cX5_commonDivisor 9 = .ok (.iload 8, 2) := by decide +kernel
theorem dX5_commonDivisor_11 : decode cX5_commonDivisor 11 = .ok (.sipush 130, 3) := by decide +kernel
theorem dX5_commonDivisor_14 : decode cX5_commonDivisor 14 = .ok (.if_icmp .ge 31, 3) := by decide +kernel
theorem dX5_commonDivisor_17 : decode cX5_commonDivisor 17 = .ok (.lload 6, 2) := by decide +kernel
theorem dX5_commonDivisor_19 : decode cX5_commonDivisor 19 = .ok (.lconst 0, 1) := by decide +kernel
theorem dX5_commonDivisor_20 : decode cX5_commonDivisor 20 = .ok (.lcmp, 1) := by decide +kernel
theorem dX5_commonDivisor_21 : decode cX5_commonDivisor 21 = .ok (.ifCond .eq 24, 3) := by decide +kernel
theorem dX5_commonDivisor_24 : decode cX5_commonDivisor 24 = .ok (.lload 4, 2) := by decide +kernel
theorem dX5_commonDivisor_26 : decode cX5_commonDivisor 26 = .ok (.lload 6, 2) := by decide +kernel
theorem dX5_commonDivisor_28 : decode cX5_commonDivisor 28 = .ok (.lrem, 1) := by decide +kernel
theorem dX5_commonDivisor_29 : decode cX5_commonDivisor 29 = .ok (.lstore 9, 2) := by decide +kernel
theorem dX5_commonDivisor_31 : decode cX5_commonDivisor 31 = .ok (.lload 6, 2) := by decide +kernel
theorem dX5_commonDivisor_33 : decode cX5_commonDivisor 33 = .ok (.lstore 4, 2) := by decide +kernel
theorem dX5_commonDivisor_35 : decode cX5_commonDivisor 35 = .ok (.lload 9, 2) := by decide +kernel
theorem dX5_commonDivisor_37 : decode cX5_commonDivisor 37 = .ok (.lstore 6, 2) := by decide +kernel
theorem dX5_commonDivisor_39 : decode cX5_commonDivisor 39 = .ok (.iinc 8 1, 3) := by decide +kernel
theorem dX5_commonDivisor_42 : decode cX5_commonDivisor 42 = .ok (.goto (-33), 3) := by decide +kernel
theorem dX5_commonDivisor_45 : decode cX5_commonDivisor 45 = .ok (.lload 4, 2) := by decide +kernel
theorem dX5_commonDivisor_47 : decode cX5_commonDivisor 47 = .ok (.lreturn, 1) := by decide +kernel
theorem dX6_init_0 : decode cX6_init 0 = .ok (.aload_n 0, 1) := by decide +kernel
theorem dX6_init_1 : decode cX6_init 1 = .ok (.invokespecial 7, 3) := by decide +kernel
theorem dX6_init_4 : decode cX6_init 4 = .ok (.aload_n 0, 1) := by decide +kernel
theorem dX6_init_5 : decode cX6_init 5 = .ok (.bipush 90, 2) := by decide +kernel
theorem dX6_init_7 : decode cX6_init 7 = .ok (.newarray .int, 2) := by decide +kernel
theorem dX6_init_9 : decode cX6_init 9 = .ok (.putfield 13, 3) := by decide +kernel
theorem dX6_init_12 : decode cX6_init 12 = .ok (.aload_n 0, 1) := by decide +kernel
theorem dX6_init_13 : decode cX6_init 13 = .ok (.iconst 1, 1) := by decide +kernel
theorem dX6_init_14 : decode cX6_init 14 = .ok (.putfield 17, 3) := by decide +kernel
theorem dX6_init_17 : decode cX6_init 17 = .ok (.aload_n 0, 1) := by decide +kernel
theorem dX6_init_18 : decode cX6_init 18 = .ok (.bipush 18, 2) := by decide +kernel
theorem dX6_init_20 : decode cX6_init 20 = .ok (.newarray .int, 2) := by decide +kernel
theorem dX6_init_22 : decode cX6_init 22 = .ok (.putfield 20, 3) := by decide +kernel
theorem dX6_init_25 : decode cX6_init 25 = .ok (.aload_n 0, 1) := by decide +kernel
theorem dX6_init_26 : decode cX6_init 26 = .ok (.bipush 18, 2) := by decide +kernel
theorem dX6_init_28 : decode cX6_init 28 = .ok (.newarray .int, 2) := by decide +kernel
theorem dX6_init_30 : decode cX6_init 30 = .ok (.putfield 23, 3) := by decide +kernel
theorem dX6_init_33 : decode cX6_init 33 = .ok (.aload_n 0, 1) := by decide +kernel
theorem dX6_init_34 : decode cX6_init 34 = .ok (.bipush 18, 2) := by decide +kernel
theorem dX6_init_36 : decode cX6_init 36 = .ok (.newarray .int, 2) := by decide +kernel
theorem dX6_init_38 : decode cX6_init 38 = .ok (.putfield 26, 3) := by decide +kernel
theorem dX6_init_41 : decode cX6_init 41 = .ok (.aload_n 0, 1) := by decide +kernel
theorem dX6_init_42 : decode cX6_init 42 = .ok (.bipush 18, 2) := by decide +kernel
theorem dX6_init_44 : decode cX6_init 44 = .ok (.newarray .int, 2) := by decide +kernel
theorem dX6_init_46 : decode cX6_init 46 = .ok (.putfield 29, 3) := by decide +kernel
theorem dX6_init_49 : decode cX6_init 49 = .ok (.aload_n 0, 1) := by decide +kernel
theorem dX6_init_50 : decode cX6_init 50 = .ok (.sipush 252, 3) := by decide +kernel
theorem dX6_init_53 : decode cX6_init 53 = .ok (.newarray .int, 2) := by decide +kernel
theorem dX6_init_55 : decode cX6_init 55 = .ok (.putfield 32, 3) := by decide +kernel
theorem dX6_init_58 : decode cX6_init 58 = .ok (.aload_n 0, 1) := by decide +kernel
theorem dX6_init_59 : decode cX6_init 59 = .ok (.bipush 36, 2) := by decide +kernel
theorem dX6_init_61 : decode cX6_init 61 = .ok (.newarray .int, 2) := by decide +kernel
theorem dX6_init_63 : decode cX6_init 63 = .ok (.putfield 35, 3) := by decide +kernel
theorem dX6_init_66 : decode cX6_init 66 = .ok (.aload_n 0, 1) := by decide +kernel
theorem dX6_init_67 : decode cX6_init 67 = .ok (.iconst 2, 1) := by decide +kernel
theorem dX6_init_68 : decode cX6_init 68 = .ok (.newarray .boolean, 2) := by decide +kernel
theorem dX6_init_70 : decode cX6_init 70 = .ok (.putfield 38, 3) := by decide +kernel
theorem dX6_init_73 : decode cX6_init 73 = .ok (.aload_n 0, 1) := by decide +kernel
theorem dX6_init_74 : decode cX6_init 74 = .ok (.bipush 25, 2) := by decide +kernel
theorem dX6_init_76 : decode cX6_init 76 = .ok (.newarray .long, 2) := by decide +kernel
theorem dX6_init_78 : decode cX6_init 78 = .ok (.putfield 42, 3) := by decide +kernel
theorem dX6_init_81 : decode cX6_init 81 = .ok (.aload_n 0, 1) := by decide +kernel
theorem dX6_init_82 : decode cX6_init 82 = .ok (.iconst 5, 1) := by decide +kernel
theorem dX6_init_83 : decode cX6_init 83 = .ok (.newarray .long, 2) := by decide +kernel
theorem dX6_init_85 : decode cX6_init 85 = .ok (.putfield 46, 3) := by decide +kernel
theorem dX6_init_88 : decode cX6_init 88 = .ok (.aload_n 0, 1) := by decide +kernel
theorem dX6_init_89 : decode cX6_init 89 = .ok (.bipush 25, 2) := by decide +kernel
theorem dX6_init_91 : decode cX6_init 91 = .ok (.newarray .long, 2) := by decide +kernel
theorem dX6_init_93 : decode cX6_init 93 = .ok (.putfield 49, 3) := by decide +kernel
theorem dX6_init_96 : decode cX6_init 96 = .ok (.aload_n 0, 1) := by decide +kernel
theorem dX6_init_97 : decode cX6_init 97 = .ok (.iconst 5, 1) := by decide +kernel
theorem dX6_init_98 : decode cX6_init 98 = .ok (.newarray .int, 2) := by decide +kernel
theorem dX6_init_100 : decode cX6_init 100 = .ok (.putfield 52, 3) := by decide +kernel
theorem dX6_init_103 : decode cX6_init 103 = .ok (.aload_n 0, 1) := by decide +kernel
theorem dX6_init_104 : decode cX6_init 104 = .ok (.iconst 5, 1) := by decide +kernel
theorem dX6_init_105 : decode cX6_init 105 = .ok (.newarray .int, 2) := by decide +kernel
theorem dX6_init_107 : decode cX6_init 107 = .ok (.putfield 55, 3) := by decide +kernel
theorem dX6_init_110 : decode cX6_init 110 = .ok (.aload_n 0, 1) := by decide +kernel
theorem dX6_init_111 : decode cX6_init 111 = .ok (.iconst 1, 1) := by decide +kernel
theorem dX6_init_112 : decode cX6_init 112 = .ok (.putfield 58, 3) := by decide +kernel
theorem dX6_init_115 : decode cX6_init 115 = .ok (.return_, 1) := by decide +kernel
theorem dX6_in_0 : decode cX6_in 0 = .ok (.lload_n 0, 1) := by decide +kernel
theorem dX6_in_1 : decode cX6_in 1 = .ok (.lload_n 2, 1) := by decide +kernel
theorem dX6_in_2 : decode cX6_in 2 = .ok (.lcmp, 1) := by decide +kernel
theorem dX6_in_3 : decode cX6_in 3 = .ok (.ifCond .lt 14, 3) := by decide +kernel
theorem dX6_in_6 : decode cX6_in 6 = .ok (.lload_n 0, 1) := by decide +kernel
theorem dX6_in_7 : decode cX6_in 7 = .ok (.lload 4, 2) := by decide +kernel
theorem dX6_in_9 : decode cX6_in 9 = .ok (.lcmp, 1) := by decide +kernel
theorem dX6_in_10 : decode cX6_in 10 = .ok (.ifCond .gt 7, 3) := by decide +kernel
theorem dX6_in_13 : decode cX6_in 13 = .ok (.iconst 1, 1) := by decide +kernel
theorem dX6_in_14 : decode cX6_in 14 = .ok (.goto 4, 3) := by decide +kernel
theorem dX6_in_17 : decode cX6_in 17 = .ok (.iconst 0, 1) := by decide +kernel
theorem dX6_in_18 : decode cX6_in 18 = .ok (.ireturn, 1) := by decide +kernel
theorem dX6_has_0 : decode cX6_has 0 = .ok (.iload_n 0, 1) := by decide +kernel
theorem dX6_has_1 : decode cX6_has 1 = .ok (.iload_n 1, 1) := by decide +kernel
theorem dX6_has_2 : decode cX6_has 2 = .ok (.ishr, 1) := by decide +kernel
theorem dX6_has_3 : decode cX6_has 3 = .ok (.iconst 1, 1) := by decide +kernel
theorem dX6_has_4 : decode cX6_has 4 = .ok (.iand, 1) := by decide +kernel
theorem dX6_has_5 : decode cX6_has 5 = .ok (.iconst 1, 1) := by decide +kernel
theorem dX6_has_6 : decode cX6_has 6 = .ok (.if_icmp .ne 7, 3) := by decide +kernel
theorem dX6_has_9 : decode cX6_has 9 = .ok (.iconst 1, 1) := by decide +kernel
theorem dX6_has_10 : decode cX6_has 10 = .ok (.goto 4, 3) := by decide +kernel
theorem dX6_has_13 : decode cX6_has 13 = .ok (.iconst 0, 1) := by decide +kernel
theorem dX6_has_14 : decode cX6_has 14 = .ok (.ireturn, 1) := by decide +kernel
theorem dX6_ones_0 : decode cX6_ones 0 = .ok (.iconst 0, 1) := by decide +kernel
theorem dX6_ones_1 : decode cX6_ones 1 = .ok (.istore_n 1, 1) := by decide +kernel
theorem dX6_ones_2 : decode cX6_ones 2 = .ok (.iconst 0, 1) := by decide +kernel
theorem dX6_ones_3 : decode cX6_ones 3 = .ok (.istore_n 2, 1) := by decide +kernel
theorem dX6_ones_4 : decode cX6_ones 4 = .ok (.iload_n 2, 1) := by decide +kernel
theorem dX6_ones_5 : decode cX6_ones 5 = .ok (.bipush 8, 2) := by decide +kernel
theorem dX6_ones_7 : decode cX6_ones 7 = .ok (.if_icmp .ge 17, 3) := by decide +kernel
theorem dX6_ones_10 : decode cX6_ones 10 = .ok (.iload_n 1, 1) := by decide +kernel
theorem dX6_ones_11 : decode cX6_ones 11 = .ok (.iload_n 0, 1) := by decide +kernel
theorem dX6_ones_12 : decode cX6_ones 12 = .ok (.iload_n 2, 1) := by decide +kernel
theorem dX6_ones_13 : decode cX6_ones 13 = .ok (.ishr, 1) := by decide +kernel
theorem dX6_ones_14 : decode cX6_ones 14 = .ok (.iconst 1, 1) := by decide +kernel
theorem dX6_ones_15 : decode cX6_ones 15 = .ok (.iand, 1) := by decide +kernel
theorem dX6_ones_16 : decode cX6_ones 16 = .ok (.iadd, 1) := by decide +kernel
theorem dX6_ones_17 : decode cX6_ones 17 = .ok (.istore_n 1, 1) := by decide +kernel
theorem dX6_ones_18 : decode cX6_ones 18 = .ok (.iinc 2 1, 3) := by decide +kernel
theorem dX6_ones_21 : decode cX6_ones 21 = .ok (.goto (-17), 3) := by decide +kernel
theorem dX6_ones_24 : decode cX6_ones 24 = .ok (.iload_n 1, 1) := by decide +kernel
theorem dX6_ones_25 : decode cX6_ones 25 = .ok (.ireturn, 1) := by decide +kernel
theorem dX6_power_0 : decode cX6_power 0 = .ok (.iconst 1, 1) := by decide +kernel
theorem dX6_power_1 : decode cX6_power 1 = .ok (.istore_n 2, 1) := by decide +kernel
theorem dX6_power_2 : decode cX6_power 2 = .ok (.iconst 0, 1) := by decide +kernel
theorem dX6_power_3 : decode cX6_power 3 = .ok (.istore_n 3, 1) := by decide +kernel
theorem dX6_power_4 : decode cX6_power 4 = .ok (.iload_n 3, 1) := by decide +kernel
theorem dX6_power_5 : decode cX6_power 5 = .ok (.iload_n 1, 1) := by decide +kernel
theorem dX6_power_6 : decode cX6_power 6 = .ok (.if_icmp .ge 13, 3) := by decide +kernel
theorem dX6_power_9 : decode cX6_power 9 = .ok (.iload_n 2, 1) := by decide +kernel
theorem dX6_power_10 : decode cX6_power 10 = .ok (.iload_n 0, 1) := by decide +kernel
theorem dX6_power_11 : decode cX6_power 11 = .ok (.imul, 1) := by decide +kernel
theorem dX6_power_12 : decode cX6_power 12 = .ok (.istore_n 2, 1) := by decide +kernel
theorem dX6_power_13 : decode cX6_power 13 = .ok (.iinc 3 1, 3) := by decide +kernel
theorem dX6_power_16 : decode cX6_power 16 = .ok (.goto (-12), 3) := by decide +kernel
theorem dX6_power_19 : decode cX6_power 19 = .ok (.iload_n 2, 1) := by decide +kernel
theorem dX6_power_20 : decode cX6_power 20 = .ok (.ireturn, 1) := by decide +kernel
theorem dX6_copy_0 : decode cX6_copy 0 = .ok (.iconst 0, 1) := by decide +kernel
theorem dX6_copy_1 : decode cX6_copy 1 = .ok (.istore_n 2, 1) := by decide +kernel
theorem dX6_copy_2 : decode cX6_copy 2 = .ok (.iload_n 2, 1) := by decide +kernel
theorem dX6_copy_3 : decode cX6_copy 3 = .ok (.bipush 18, 2) := by decide +kernel
theorem dX6_copy_5 : decode cX6_copy 5 = .ok (.if_icmp .ge 15, 3) := by decide +kernel
theorem dX6_copy_8 : decode cX6_copy 8 = .ok (.aload_n 1, 1) := by decide +kernel
theorem dX6_copy_9 : decode cX6_copy 9 = .ok (.iload_n 2, 1) := by decide +kernel
theorem dX6_copy_10 : decode cX6_copy 10 = .ok (.aload_n 0, 1) := by decide +kernel
theorem dX6_copy_11 : decode cX6_copy 11 = .ok (.iload_n 2, 1) := by decide +kernel
theorem dX6_copy_12 : decode cX6_copy 12 = .ok (.iaload, 1) := by decide +kernel
theorem dX6_copy_13 : decode cX6_copy 13 = .ok (.iastore, 1) := by decide +kernel
theorem dX6_copy_14 : decode cX6_copy 14 = .ok (.iinc 2 1, 3) := by decide +kernel
theorem dX6_copy_17 : decode cX6_copy 17 = .ok (.goto (-15), 3) := by decide +kernel
theorem dX6_copy_20 : decode cX6_copy 20 = .ok (.return_, 1) := by decide +kernel
theorem dX6_noWeighing_0 : decode cX6_noWeighing 0 = .ok (.iload_n 1, 1) := by decide +kernel
theorem dX6_noWeighing_1 : decode cX6_noWeighing 1 = .ok (.i2l, 1) := by decide +kernel
theorem dX6_noWeighing_2 : decode cX6_noWeighing 2 = .ok (.lconst 0, 1) := by decide +kernel
theorem dX6_noWeighing_3 : decode cX6_noWeighing 3 = .ok (.aload_n 0, 1) := by decide +kernel
theorem dX6_noWeighing_4 : decode cX6_noWeighing 4 = .ok (.getfield 23, 3) := by decide +kernel
theorem dX6_noWeighing_7 : decode cX6_noWeighing 7 = .ok (.iconst 1, 1) := by decide +kernel
theorem dX6_noWeighing_8 : decode cX6_noWeighing 8 = .ok (.iaload, 1) := by decide +kernel
theorem dX6_noWeighing_9 : decode cX6_noWeighing 9 = .ok (.iconst 1, 1) := by decide +kernel
theorem dX6_noWeighing_10 : decode cX6_noWeighing 10 = .ok (.isub, 1) := by decide +kernel
theorem dX6_noWeighing_11 : decode cX6_noWeighing 11 = .ok (.i2l, 1) := by decide +kernel
theorem dX6_noWeighing_12 : decode cX6_noWeighing 12 = .ok (.invokestatic 61, 3) := by decide +kernel
theorem dX6_noWeighing_15 : decode cX6_noWeighing 15 = .ok (.ifCond .ne 7, 3) := by decide +kernel
theorem dX6_noWeighing_18 : decode cX6_noWeighing 18 = .ok (.iconst 1, 1) := by decide +kernel
theorem dX6_noWeighing_19 : decode cX6_noWeighing 19 = .ok (.goto 4, 3) := by decide +kernel
theorem dX6_noWeighing_22 : decode cX6_noWeighing 22 = .ok (.iconst 0, 1) := by decide +kernel
theorem dX6_noWeighing_23 : decode cX6_noWeighing 23 = .ok (.ireturn, 1) := by decide +kernel
theorem dX6_allOf_0 : decode cX6_allOf 0 = .ok (.iconst 1, 1) := by decide +kernel
theorem dX6_allOf_1 : decode cX6_allOf 1 = .ok (.aload_n 0, 1) := by decide +kernel
theorem dX6_allOf_2 : decode cX6_allOf 2 = .ok (.iconst 1, 1) := by decide +kernel
theorem dX6_allOf_3 : decode cX6_allOf 3 = .ok (.iaload, 1) := by decide +kernel
theorem dX6_allOf_4 : decode cX6_allOf 4 = .ok (.ishl, 1) := by decide +kernel
theorem dX6_allOf_5 : decode cX6_allOf 5 = .ok (.iconst 1, 1) := by decide +kernel
theorem dX6_allOf_6 : decode cX6_allOf 6 = .ok (.isub, 1) := by decide +kernel
theorem dX6_allOf_7 : decode cX6_allOf 7 = .ok (.ireturn, 1) := by decide +kernel
theorem dX6_write_0 : decode cX6_write 0 = .ok (.aload_n 0, 1) := by decide +kernel
theorem dX6_write_1 : decode cX6_write 1 = .ok (.iconst 0, 1) := by decide +kernel
theorem dX6_write_2 : decode cX6_write 2 = .ok (.putfield 1, 3) := by decide +kernel
theorem dX6_write_5 : decode cX6_write 5 = .ok (.iload_n 1, 1) := by decide +kernel
theorem dX6_write_6 : decode cX6_write 6 = .ok (.i2l, 1) := by decide +kernel
theorem dX6_write_7 : decode cX6_write 7 = .ok (.lconst 0, 1) := by decide +kernel
theorem dX6_write_8 : decode cX6_write 8 = .ok (.ldc2_w 65, 3) := by decide +kernel
theorem dX6_write_11 : decode cX6_write 11 = .ok (.invokestatic 61, 3) := by decide +kernel
theorem dX6_write_14 : decode cX6_write 14 = .ok (.ifCond .ne 6, 3) := by decide +kernel
theorem dX6_write_17 : decode cX6_write 17 = .ok (.bipush (-2), 2) := by decide +kernel
theorem dX6_write_19 : decode cX6_write 19 = .ok (.ireturn, 1) := by decide +kernel
theorem dX6_write_20 : decode cX6_write 20 = .ok (.aload_n 0, 1) := by decide +kernel
theorem dX6_write_21 : decode cX6_write 21 = .ok (.getfield 67, 3) := by decide +kernel
theorem dX6_write_24 : decode cX6_write 24 = .ok (.bipush 90, 2) := by decide +kernel
