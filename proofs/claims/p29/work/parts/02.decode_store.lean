theorem dX7_init_0 : decode cX7_init 0 = .ok (.aload_n 0, 1) := by decide +kernel
theorem dX7_init_1 : decode cX7_init 1 = .ok (.invokespecial 1, 3) := by decide +kernel
theorem dX7_init_4 : decode cX7_init 4 = .ok (.aload_n 0, 1) := by decide +kernel
theorem dX7_init_5 : decode cX7_init 5 = .ok (.iconst 5, 1) := by decide +kernel
theorem dX7_init_6 : decode cX7_init 6 = .ok (.anewarray 9, 3) := by decide +kernel
theorem dX7_init_9 : decode cX7_init 9 = .ok (.putfield 11, 3) := by decide +kernel
theorem dX7_init_12 : decode cX7_init 12 = .ok (.aload_n 0, 1) := by decide +kernel
theorem dX7_init_13 : decode cX7_init 13 = .ok (.bipush 6, 2) := by decide +kernel
theorem dX7_init_15 : decode cX7_init 15 = .ok (.anewarray 15, 3) := by decide +kernel
theorem dX7_init_18 : decode cX7_init 18 = .ok (.putfield 17, 3) := by decide +kernel
theorem dX7_init_21 : decode cX7_init 21 = .ok (.aload_n 0, 1) := by decide +kernel
theorem dX7_init_22 : decode cX7_init 22 = .ok (.new 21, 3) := by decide +kernel
theorem dX7_init_25 : decode cX7_init 25 = .ok (.dup, 1) := by decide +kernel
theorem dX7_init_26 : decode cX7_init 26 = .ok (.invokespecial 23, 3) := by decide +kernel
theorem dX7_init_29 : decode cX7_init 29 = .ok (.putfield 24, 3) := by decide +kernel
theorem dX7_init_32 : decode cX7_init 32 = .ok (.aload_n 0, 1) := by decide +kernel
theorem dX7_init_33 : decode cX7_init 33 = .ok (.iconst 3, 1) := by decide +kernel
theorem dX7_init_34 : decode cX7_init 34 = .ok (.putfield 28, 3) := by decide +kernel
theorem dX7_init_37 : decode cX7_init 37 = .ok (.aload_n 0, 1) := by decide +kernel
theorem dX7_init_38 : decode cX7_init 38 = .ok (.iconst 1, 1) := by decide +kernel
theorem dX7_init_39 : decode cX7_init 39 = .ok (.putfield 32, 3) := by decide +kernel
theorem dX7_init_42 : decode cX7_init 42 = .ok (.iconst 0, 1) := by decide +kernel
theorem dX7_init_43 : decode cX7_init 43 = .ok (.istore_n 1, 1) := by decide +kernel
theorem dX7_init_44 : decode cX7_init 44 = .ok (.iload_n 1, 1) := by decide +kernel
theorem dX7_init_45 : decode cX7_init 45 = .ok (.iconst 5, 1) := by decide +kernel
theorem dX7_init_46 : decode cX7_init 46 = .ok (.if_icmp .ge 22, 3) := by decide +kernel
theorem dX7_init_49 : decode cX7_init 49 = .ok (.aload_n 0, 1) := by decide +kernel
theorem dX7_init_50 : decode cX7_init 50 = .ok (.getfield 11, 3) := by decide +kernel
theorem dX7_init_53 : decode cX7_init 53 = .ok (.iload_n 1, 1) := by decide +kernel
theorem dX7_init_54 : decode cX7_init 54 = .ok (.new 9, 3) := by decide +kernel
theorem dX7_init_57 : decode cX7_init 57 = .ok (.dup, 1) := by decide +kernel
theorem dX7_init_58 : decode cX7_init 58 = .ok (.invokespecial 35, 3) := by decide +kernel
theorem dX7_init_61 : decode cX7_init 61 = .ok (.aastore, 1) := by decide +kernel
theorem dX7_init_62 : decode cX7_init 62 = .ok (.iinc 1 1, 3) := by decide +kernel
theorem dX7_init_65 : decode cX7_init 65 = .ok (.goto (-21), 3) := by decide +kernel
theorem dX7_init_68 : decode cX7_init 68 = .ok (.iconst 0, 1) := by decide +kernel
theorem dX7_init_69 : decode cX7_init 69 = .ok (.istore_n 1, 1) := by decide +kernel
theorem dX7_init_70 : decode cX7_init 70 = .ok (.iload_n 1, 1) := by decide +kernel
theorem dX7_init_71 : decode cX7_init 71 = .ok (.bipush 6, 2) := by decide +kernel
theorem dX7_init_73 : decode cX7_init 73 = .ok (.if_icmp .ge 22, 3) := by decide +kernel
theorem dX7_init_76 : decode cX7_init 76 = .ok (.aload_n 0, 1) := by decide +kernel
theorem dX7_init_77 : decode cX7_init 77 = .ok (.getfield 17, 3) := by decide +kernel
theorem dX7_init_80 : decode cX7_init 80 = .ok (.iload_n 1, 1) := by decide +kernel
theorem dX7_init_81 : decode cX7_init 81 = .ok (.new 15, 3) := by decide +kernel
theorem dX7_init_84 : decode cX7_init 84 = .ok (.dup, 1) := by decide +kernel
theorem dX7_init_85 : decode cX7_init 85 = .ok (.invokespecial 36, 3) := by decide +kernel
theorem dX7_init_88 : decode cX7_init 88 = .ok (.aastore, 1) := by decide +kernel
theorem dX7_init_89 : decode cX7_init 89 = .ok (.iinc 1 1, 3) := by decide +kernel
theorem dX7_init_92 : decode cX7_init 92 = .ok (.goto (-22), 3) := by decide +kernel
theorem dX7_init_95 : decode cX7_init 95 = .ok (.return_, 1) := by decide +kernel
theorem dX7_reset_0 : decode cX7_reset 0 = .ok (.iload_n 1, 1) := by decide +kernel
theorem dX7_reset_1 : decode cX7_reset 1 = .ok (.iconst 2, 1) := by decide +kernel
theorem dX7_reset_2 : decode cX7_reset 2 = .ok (.if_icmp .lt 8, 3) := by decide +kernel
theorem dX7_reset_5 : decode cX7_reset 5 = .ok (.iload_n 1, 1) := by decide +kernel
theorem dX7_reset_6 : decode cX7_reset 6 = .ok (.iconst 5, 1) := by decide +kernel
theorem dX7_reset_7 : decode cX7_reset 7 = .ok (.if_icmp .le 7, 3) := by decide +kernel
theorem dX7_reset_10 : decode cX7_reset 10 = .ok (.sipush (-10002), 3) := by decide +kernel
theorem dX7_reset_13 : decode cX7_reset 13 = .ok (.ireturn, 1) := by decide +kernel
theorem dX7_reset_14 : decode cX7_reset 14 = .ok (.aload_n 0, 1) := by decide +kernel
theorem dX7_reset_15 : decode cX7_reset 15 = .ok (.getfield 28, 3) := by decide +kernel
theorem dX7_reset_18 : decode cX7_reset 18 = .ok (.istore_n 2, 1) := by decide +kernel
theorem dX7_reset_19 : decode cX7_reset 19 = .ok (.aload_n 0, 1) := by decide +kernel
theorem dX7_reset_20 : decode cX7_reset 20 = .ok (.iload_n 1, 1) := by decide +kernel
theorem dX7_reset_21 : decode cX7_reset 21 = .ok (.putfield 28, 3) := by decide +kernel
theorem dX7_reset_24 : decode cX7_reset 24 = .ok (.aload_n 0, 1) := by decide +kernel
theorem dX7_reset_25 : decode cX7_reset 25 = .ok (.iconst 1, 1) := by decide +kernel
theorem dX7_reset_26 : decode cX7_reset 26 = .ok (.putfield 32, 3) := by decide +kernel
theorem dX7_reset_29 : decode cX7_reset 29 = .ok (.iconst 0, 1) := by decide +kernel
theorem dX7_reset_30 : decode cX7_reset 30 = .ok (.istore_n 3, 1) := by decide +kernel
theorem dX7_reset_31 : decode cX7_reset 31 = .ok (.iload_n 3, 1) := by decide +kernel
theorem dX7_reset_32 : decode cX7_reset 32 = .ok (.iconst 5, 1) := by decide +kernel
theorem dX7_reset_33 : decode cX7_reset 33 = .ok (.if_icmp .ge 18, 3) := by decide +kernel
theorem dX7_reset_36 : decode cX7_reset 36 = .ok (.aload_n 0, 1) := by decide +kernel
theorem dX7_reset_37 : decode cX7_reset 37 = .ok (.getfield 11, 3) := by decide +kernel
theorem dX7_reset_40 : decode cX7_reset 40 = .ok (.iload_n 3, 1) := by decide +kernel
theorem dX7_reset_41 : decode cX7_reset 41 = .ok (.aaload, 1) := by decide +kernel
theorem dX7_reset_42 : decode cX7_reset 42 = .ok (.invokevirtual 37, 3) := by decide +kernel
theorem dX7_reset_45 : decode cX7_reset 45 = .ok (.iinc 3 1, 3) := by decide +kernel
theorem dX7_reset_48 : decode cX7_reset 48 = .ok (.goto (-17), 3) := by decide +kernel
theorem dX7_reset_51 : decode cX7_reset 51 = .ok (.aload_n 0, 1) := by decide +kernel
theorem dX7_reset_52 : decode cX7_reset 52 = .ok (.getfield 17, 3) := by decide +kernel
theorem dX7_reset_55 : decode cX7_reset 55 = .ok (.iconst 0, 1) := by decide +kernel
theorem dX7_reset_56 : decode cX7_reset 56 = .ok (.aaload, 1) := by decide +kernel
theorem dX7_reset_57 : decode cX7_reset 57 = .ok (.invokevirtual 40, 3) := by decide +kernel
theorem dX7_reset_60 : decode cX7_reset 60 = .ok (.iload_n 2, 1) := by decide +kernel
theorem dX7_reset_61 : decode cX7_reset 61 = .ok (.ireturn, 1) := by decide +kernel
theorem dX7_write_0 : decode cX7_write 0 = .ok (.aload_n 0, 1) := by decide +kernel
theorem dX7_write_1 : decode cX7_write 1 = .ok (.iload_n 1, 1) := by decide +kernel
theorem dX7_write_2 : decode cX7_write 2 = .ok (.invokevirtual 41, 3) := by decide +kernel
theorem dX7_write_5 : decode cX7_write 5 = .ok (.ifCond .ne 7, 3) := by decide +kernel
theorem dX7_write_8 : decode cX7_write 8 = .ok (.sipush (-10001), 3) := by decide +kernel
theorem dX7_write_11 : decode cX7_write 11 = .ok (.ireturn, 1) := by decide +kernel
theorem dX7_write_12 : decode cX7_write 12 = .ok (.iload_n 2, 1) := by decide +kernel
theorem dX7_write_13 : decode cX7_write 13 = .ok (.sipush (-1000), 3) := by decide +kernel
theorem dX7_write_16 : decode cX7_write 16 = .ok (.if_icmp .lt 10, 3) := by decide +kernel
theorem dX7_write_19 : decode cX7_write 19 = .ok (.iload_n 2, 1) := by decide +kernel
theorem dX7_write_20 : decode cX7_write 20 = .ok (.sipush 1000, 3) := by decide +kernel
theorem dX7_write_23 : decode cX7_write 23 = .ok (.if_icmp .le 7, 3) := by decide +kernel
theorem dX7_write_26 : decode cX7_write 26 = .ok (.sipush (-10002), 3) := by decide +kernel
theorem dX7_write_29 : decode cX7_write 29 = .ok (.ireturn, 1) := by decide +kernel
theorem dX7_write_30 : decode cX7_write 30 = .ok (.aload_n 0, 1) := by decide +kernel
theorem dX7_write_31 : decode cX7_write 31 = .ok (.getfield 11, 3) := by decide +kernel
theorem dX7_write_34 : decode cX7_write 34 = .ok (.iload_n 1, 1) := by decide +kernel
theorem dX7_write_35 : decode cX7_write 35 = .ok (.aaload, 1) := by decide +kernel
theorem dX7_write_36 : decode cX7_write 36 = .ok (.getfield 45, 3) := by decide +kernel
theorem dX7_write_39 : decode cX7_write 39 = .ok (.ifCond .eq 7, 3) := by decide +kernel
theorem dX7_write_42 : decode cX7_write 42 = .ok (.sipush (-10003), 3) := by decide +kernel
theorem dX7_write_45 : decode cX7_write 45 = .ok (.ireturn, 1) := by decide +kernel
theorem dX7_write_46 : decode cX7_write 46 = .ok (.aload_n 0, 1) := by decide +kernel
theorem dX7_write_47 : decode cX7_write 47 = .ok (.iload_n 1, 1) := by decide +kernel
theorem dX7_write_48 : decode cX7_write 48 = .ok (.invokevirtual 48, 3) := by decide +kernel
theorem dX7_write_51 : decode cX7_write 51 = .ok (.istore_n 3, 1) := by decide +kernel
theorem dX7_write_52 : decode cX7_write 52 = .ok (.iload_n 3, 1) := by decide +kernel
theorem dX7_write_53 : decode cX7_write 53 = .ok (.ifCond .ne 14, 3) := by decide +kernel
theorem dX7_write_56 : decode cX7_write 56 = .ok (.aload_n 0, 1) := by decide +kernel
theorem dX7_write_57 : decode cX7_write 57 = .ok (.iload_n 1, 1) := by decide +kernel
theorem dX7_write_58 : decode cX7_write 58 = .ok (.invokevirtual 52, 3) := by decide +kernel
theorem dX7_write_61 : decode cX7_write 61 = .ok (.getfield 56, 3) := by decide +kernel
theorem dX7_write_64 : decode cX7_write 64 = .ok (.iload_n 1, 1) := by decide +kernel
theorem dX7_write_65 : decode cX7_write 65 = .ok (.iload_n 2, 1) := by decide +kernel
theorem dX7_write_66 : decode cX7_write 66 = .ok (.iastore, 1) := by decide +kernel
theorem dX7_write_67 : decode cX7_write 67 = .ok (.iload_n 3, 1) := by decide +kernel
theorem dX7_write_68 : decode cX7_write 68 = .ok (.ireturn, 1) := by decide +kernel
theorem dX7_read_0 : decode cX7_read 0 = .ok (.aload_n 0, 1) := by decide +kernel
theorem dX7_read_1 : decode cX7_read 1 = .ok (.iload_n 1, 1) := by decide +kernel
theorem dX7_read_2 : decode cX7_read 2 = .ok (.invokevirtual 41, 3) := by decide +kernel
theorem dX7_read_5 : decode cX7_read 5 = .ok (.ifCond .eq 11, 3) := by decide +kernel
theorem dX7_read_8 : decode cX7_read 8 = .ok (.aload_n 0, 1) := by decide +kernel
theorem dX7_read_9 : decode cX7_read 9 = .ok (.iload_n 2, 1) := by decide +kernel
theorem dX7_read_10 : decode cX7_read 10 = .ok (.invokevirtual 41, 3) := by decide +kernel
theorem dX7_read_13 : decode cX7_read 13 = .ok (.ifCond .ne 7, 3) := by decide +kernel
theorem dX7_read_16 : decode cX7_read 16 = .ok (.sipush (-10001), 3) := by decide +kernel
theorem dX7_read_19 : decode cX7_read 19 = .ok (.ireturn, 1) := by decide +kernel
theorem dX7_read_20 : decode cX7_read 20 = .ok (.aload_n 0, 1) := by decide +kernel
theorem dX7_read_21 : decode cX7_read 21 = .ok (.getfield 11, 3) := by decide +kernel
theorem dX7_read_24 : decode cX7_read 24 = .ok (.iload_n 1, 1) := by decide +kernel
theorem dX7_read_25 : decode cX7_read 25 = .ok (.aaload, 1) := by decide +kernel
theorem dX7_read_26 : decode cX7_read 26 = .ok (.getfield 45, 3) := by decide +kernel
theorem dX7_read_29 : decode cX7_read 29 = .ok (.ifCond .eq 7, 3) := by decide +kernel
theorem dX7_read_32 : decode cX7_read 32 = .ok (.sipush (-10003), 3) := by decide +kernel
theorem dX7_read_35 : decode cX7_read 35 = .ok (.ireturn, 1) := by decide +kernel
theorem dX7_read_36 : decode cX7_read 36 = .ok (.aload_n 0, 1) := by decide +kernel
theorem dX7_read_37 : decode cX7_read 37 = .ok (.iload_n 1, 1) := by decide +kernel
theorem dX7_read_38 : decode cX7_read 38 = .ok (.invokevirtual 48, 3) := by decide +kernel
theorem dX7_read_41 : decode cX7_read 41 = .ok (.istore_n 3, 1) := by decide +kernel
theorem dX7_read_42 : decode cX7_read 42 = .ok (.iload_n 3, 1) := by decide +kernel
theorem dX7_read_43 : decode cX7_read 43 = .ok (.ifCond .ne 22, 3) := by decide +kernel
theorem dX7_read_46 : decode cX7_read 46 = .ok (.aload_n 0, 1) := by decide +kernel
theorem dX7_read_47 : decode cX7_read 47 = .ok (.getfield 11, 3) := by decide +kernel
theorem dX7_read_50 : decode cX7_read 50 = .ok (.iload_n 1, 1) := by decide +kernel
theorem dX7_read_51 : decode cX7_read 51 = .ok (.aaload, 1) := by decide +kernel
theorem dX7_read_52 : decode cX7_read 52 = .ok (.aload_n 0, 1) := by decide +kernel
theorem dX7_read_53 : decode cX7_read 53 = .ok (.iload_n 1, 1) := by decide +kernel
theorem dX7_read_54 : decode cX7_read 54 = .ok (.invokevirtual 52, 3) := by decide +kernel
theorem dX7_read_57 : decode cX7_read 57 = .ok (.getfield 56, 3) := by decide +kernel
theorem dX7_read_60 : decode cX7_read 60 = .ok (.iload_n 2, 1) := by decide +kernel
theorem dX7_read_61 : decode cX7_read 61 = .ok (.iaload, 1) := by decide +kernel
theorem dX7_read_62 : decode cX7_read 62 = .ok (.invokevirtual 62, 3) := by decide +kernel
theorem dX7_read_65 : decode cX7_read 65 = .ok (.iload_n 3, 1) := by decide +kernel
theorem dX7_read_66 : decode cX7_read 66 = .ok (.ireturn, 1) := by decide +kernel
theorem dX7_lastRead_0 : decode cX7_lastRead 0 = .ok (.aload_n 0, 1) := by decide +kernel
theorem dX7_lastRead_1 : decode cX7_lastRead 1 = .ok (.iload_n 1, 1) := by decide +kernel
theorem dX7_lastRead_2 : decode cX7_lastRead 2 = .ok (.invokevirtual 41, 3) := by decide +kernel
theorem dX7_lastRead_5 : decode cX7_lastRead 5 = .ok (.ifCond .ne 7, 3) := by decide +kernel
theorem dX7_lastRead_8 : decode cX7_lastRead 8 = .ok (.sipush (-10001), 3) := by decide +kernel
theorem dX7_lastRead_11 : decode cX7_lastRead 11 = .ok (.ireturn, 1) := by decide +kernel
theorem dX7_lastRead_12 : decode cX7_lastRead 12 = .ok (.aload_n 0, 1) := by decide +kernel
theorem dX7_lastRead_13 : decode cX7_lastRead 13 = .ok (.getfield 11, 3) := by decide +kernel
theorem dX7_lastRead_16 : decode cX7_lastRead 16 = .ok (.iload_n 1, 1) := by decide +kernel
theorem dX7_lastRead_17 : decode cX7_lastRead 17 = .ok (.aaload, 1) := by decide +kernel
theorem dX7_lastRead_18 : decode cX7_lastRead 18 = .ok (.getfield 66, 3) := by decide +kernel
theorem dX7_lastRead_21 : decode cX7_lastRead 21 = .ok (.ifCond .ne 7, 3) := by decide +kernel
theorem dX7_lastRead_24 : decode cX7_lastRead 24 = .ok (.sipush (-10005), 3) := by decide +kernel
theorem dX7_lastRead_27 : decode cX7_lastRead 27 = .ok (.ireturn, 1) := by decide +kernel
theorem dX7_lastRead_28 : decode cX7_lastRead 28 = .ok (.aload_n 0, 1) := by decide +kernel
theorem dX7_lastRead_29 : decode cX7_lastRead 29 = .ok (.getfield 11, 3) := by decide +kernel
theorem dX7_lastRead_32 : decode cX7_lastRead 32 = .ok (.iload_n 1, 1) := by decide +kernel
theorem dX7_lastRead_33 : decode cX7_lastRead 33 = .ok (.aaload, 1) := by decide +kernel
theorem dX7_lastRead_34 : decode cX7_lastRead 34 = .ok (.getfield 70, 3) := by decide +kernel
theorem dX7_lastRead_37 : decode cX7_lastRead 37 = .ok (.ireturn, 1) := by decide +kernel
theorem dX7_check_0 : decode cX7_check 0 = .ok (.aload_n 0, 1) := by decide +kernel
theorem dX7_check_1 : decode cX7_check 1 = .ok (.iload_n 1, 1) := by decide +kernel
theorem dX7_check_2 : decode cX7_check 2 = .ok (.invokevirtual 41, 3) := by decide +kernel
theorem dX7_check_5 : decode cX7_check 5 = .ok (.ifCond .ne 7, 3) := by decide +kernel
theorem dX7_check_8 : decode cX7_check 8 = .ok (.sipush (-10001), 3) := by decide +kernel
theorem dX7_check_11 : decode cX7_check 11 = .ok (.ireturn, 1) := by decide +kernel
theorem dX7_check_12 : decode cX7_check 12 = .ok (.aload_n 0, 1) := by decide +kernel
theorem dX7_check_13 : decode cX7_check 13 = .ok (.getfield 11, 3) := by decide +kernel
theorem dX7_check_16 : decode cX7_check 16 = .ok (.iload_n 1, 1) := by decide +kernel
theorem dX7_check_17 : decode cX7_check 17 = .ok (.aaload, 1) := by decide +kernel
theorem dX7_check_18 : decode cX7_check 18 = .ok (.getfield 45, 3) := by decide +kernel
theorem dX7_check_21 : decode cX7_check 21 = .ok (.ifCond .eq 7, 3) := by decide +kernel
theorem dX7_check_24 : decode cX7_check 24 = .ok (.sipush (-10003), 3) := by decide +kernel
theorem dX7_check_27 : decode cX7_check 27 = .ok (.ireturn, 1) := by decide +kernel
theorem dX7_check_28 : decode cX7_check 28 = .ok (.aload_n 0, 1) := by decide +kernel
theorem dX7_check_29 : decode cX7_check 29 = .ok (.iload_n 1, 1) := by decide +kernel
theorem dX7_check_30 : decode cX7_check 30 = .ok (.invokevirtual 73, 3) := by decide +kernel
theorem dX7_check_33 : decode cX7_check 33 = .ok (.ireturn, 1) := by decide +kernel
theorem dX7_fork_0 : decode cX7_fork 0 = .ok (.aload_n 0, 1) := by decide +kernel
theorem dX7_fork_1 : decode cX7_fork 1 = .ok (.iload_n 1, 1) := by decide +kernel
theorem dX7_fork_2 : decode cX7_fork 2 = .ok (.invokevirtual 76, 3) := by decide +kernel
theorem dX7_fork_5 : decode cX7_fork 5 = .ok (.ifCond .ne 7, 3) := by decide +kernel
theorem dX7_fork_8 : decode cX7_fork 8 = .ok (.sipush (-10001), 3) := by decide +kernel
theorem dX7_fork_11 : decode cX7_fork 11 = .ok (.ireturn, 1) := by decide +kernel
theorem dX7_fork_12 : decode cX7_fork 12 = .ok (.iload_n 2, 1) := by decide +kernel
theorem dX7_fork_13 : decode cX7_fork 13 = .ok (.ifCond .eq 15, 3) := by decide +kernel
theorem dX7_fork_16 : decode cX7_fork 16 = .ok (.iload_n 2, 1) := by decide +kernel
theorem dX7_fork_17 : decode cX7_fork 17 = .ok (.aload_n 0, 1) := by decide +kernel
theorem dX7_fork_18 : decode cX7_fork 18 = .ok (.iload_n 1, 1) := by decide +kernel
theorem dX7_fork_19 : decode cX7_fork 19 = .ok (.invokevirtual 79, 3) := by decide +kernel
theorem dX7_fork_22 : decode cX7_fork 22 = .ok (.iconst (-1), 1) := by decide +kernel
theorem dX7_fork_23 : decode cX7_fork 23 = .ok (.ixor, 1) := by decide +kernel
theorem dX7_fork_24 : decode cX7_fork 24 = .ok (.iand, 1) := by decide +kernel
theorem dX7_fork_25 : decode cX7_fork 25 = .ok (.ifCond .eq 7, 3) := by decide +kernel
theorem dX7_fork_28 : decode cX7_fork 28 = .ok (.sipush (-10002), 3) := by decide +kernel
theorem dX7_fork_31 : decode cX7_fork 31 = .ok (.ireturn, 1) := by decide +kernel
theorem dX7_fork_32 : decode cX7_fork 32 = .ok (.aload_n 0, 1) := by decide +kernel
theorem dX7_fork_33 : decode cX7_fork 33 = .ok (.getfield 32, 3) := by decide +kernel
theorem dX7_fork_36 : decode cX7_fork 36 = .ok (.bipush 6, 2) := by decide +kernel
theorem dX7_fork_38 : decode cX7_fork 38 = .ok (.if_icmp .lt 7, 3) := by decide +kernel
theorem dX7_fork_41 : decode cX7_fork 41 = .ok (.sipush (-10004), 3) := by decide +kernel
theorem dX7_fork_44 : decode cX7_fork 44 = .ok (.ireturn, 1) := by decide +kernel
theorem dX7_fork_45 : decode cX7_fork 45 = .ok (.aload_n 0, 1) := by decide +kernel
theorem dX7_fork_46 : decode cX7_fork 46 = .ok (.getfield 32, 3) := by decide +kernel
theorem dX7_fork_49 : decode cX7_fork 49 = .ok (.istore_n 3, 1) := by decide +kernel
theorem dX7_fork_50 : decode cX7_fork 50 = .ok (.aload_n 0, 1) := by decide +kernel
theorem dX7_fork_51 : decode cX7_fork 51 = .ok (.dup, 1) := by decide +kernel
theorem dX7_fork_52 : decode cX7_fork 52 = .ok (.getfield 32, 3) := by decide +kernel
theorem dX7_fork_55 : decode cX7_fork 55 = .ok (.iconst 1, 1) := by decide +kernel
theorem dX7_fork_56 : decode cX7_fork 56 = .ok (.iadd, 1) := by decide +kernel
theorem dX7_fork_57 : decode cX7_fork 57 = .ok (.putfield 32, 3) := by decide +kernel
theorem dX7_fork_60 : decode cX7_fork 60 = .ok (.aload_n 0, 1) := by decide +kernel
theorem dX7_fork_61 : decode cX7_fork 61 = .ok (.getfield 17, 3) := by decide +kernel
theorem dX7_fork_64 : decode cX7_fork 64 = .ok (.iload_n 3, 1) := by decide +kernel
theorem dX7_fork_65 : decode cX7_fork 65 = .ok (.aaload, 1) := by decide +kernel
theorem dX7_fork_66 : decode cX7_fork 66 = .ok (.aload_n 0, 1) := by decide +kernel
theorem dX7_fork_67 : decode cX7_fork 67 = .ok (.getfield 17, 3) := by decide +kernel
theorem dX7_fork_70 : decode cX7_fork 70 = .ok (.iload_n 1, 1) := by decide +kernel
theorem dX7_fork_71 : decode cX7_fork 71 = .ok (.aaload, 1) := by decide +kernel
theorem dX7_fork_72 : decode cX7_fork 72 = .ok (.invokevirtual 82, 3) := by decide +kernel
theorem dX7_fork_75 : decode cX7_fork 75 = .ok (.iconst 0, 1) := by decide +kernel
theorem dX7_fork_76 : decode cX7_fork 76 = .ok (.istore 4, 2) := by decide +kernel
theorem dX7_fork_78 : decode cX7_fork 78 = .ok (.iload 4, 2) := by decide +kernel
theorem dX7_fork_80 : decode cX7_fork 80 = .ok (.aload_n 0, 1) := by decide +kernel
theorem dX7_fork_81 : decode cX7_fork 81 = .ok (.getfield 28, 3) := by decide +kernel
theorem dX7_fork_84 : decode cX7_fork 84 = .ok (.if_icmp .ge 29, 3) := by decide +kernel
theorem dX7_fork_87 : decode cX7_fork 87 = .ok (.iload_n 2, 1) := by decide +kernel
theorem dX7_fork_88 : decode cX7_fork 88 = .ok (.iload 4, 2) := by decide +kernel
theorem dX7_fork_90 : decode cX7_fork 90 = .ok (.invokestatic 86, 3) := by decide +kernel
theorem dX7_fork_93 : decode cX7_fork 93 = .ok (.ifCond .eq 14, 3) := by decide +kernel
theorem dX7_fork_96 : decode cX7_fork 96 = .ok (.aload_n 0, 1) := by decide +kernel
theorem dX7_fork_97 : decode cX7_fork 97 = .ok (.getfield 11, 3) := by decide +kernel
theorem dX7_fork_100 : decode cX7_fork 100 = .ok (.iload 4, 2) := by decide +kernel
theorem dX7_fork_102 : decode cX7_fork 102 = .ok (.aaload, 1) := by decide +kernel
theorem dX7_fork_103 : decode cX7_fork 103 = .ok (.iload_n 3, 1) := by decide +kernel
theorem dX7_fork_104 : decode cX7_fork 104 = .ok (.putfield 90, 3) := by decide +kernel
theorem dX7_fork_107 : decode cX7_fork 107 = .ok (.iinc 4 1, 3) := by decide +kernel
theorem dX7_fork_110 : decode cX7_fork 110 = .ok (.goto (-32), 3) := by decide +kernel
theorem dX7_fork_113 : decode cX7_fork 113 = .ok (.iload_n 3, 1) := by decide +kernel
theorem dX7_fork_114 : decode cX7_fork 114 = .ok (.ireturn, 1) := by decide +kernel
theorem dX7_attach_0 : decode cX7_attach 0 = .ok (.aload_n 0, 1) := by decide +kernel
theorem dX7_attach_1 : decode cX7_attach 1 = .ok (.iload_n 1, 1) := by decide +kernel
theorem dX7_attach_2 : decode cX7_attach 2 = .ok (.invokevirtual 41, 3) := by decide +kernel
theorem dX7_attach_5 : decode cX7_attach 5 = .ok (.ifCond .eq 11, 3) := by decide +kernel
theorem dX7_attach_8 : decode cX7_attach 8 = .ok (.aload_n 0, 1) := by decide +kernel
theorem dX7_attach_9 : decode cX7_attach 9 = .ok (.iload_n 2, 1) := by decide +kernel
theorem dX7_attach_10 : decode cX7_attach 10 = .ok (.invokevirtual 76, 3) := by decide +kernel
theorem dX7_attach_13 : decode cX7_attach 13 = .ok (.ifCond .ne 7, 3) := by decide +kernel
theorem dX7_attach_16 : decode cX7_attach 16 = .ok (.sipush (-10001), 3) := by decide +kernel
theorem dX7_attach_19 : decode cX7_attach 19 = .ok (.ireturn, 1) := by decide +kernel
theorem dX7_attach_20 : decode cX7_attach 20 = .ok (.aload_n 0, 1) := by decide +kernel
theorem dX7_attach_21 : decode cX7_attach 21 = .ok (.getfield 11, 3) := by decide +kernel
theorem dX7_attach_24 : decode cX7_attach 24 = .ok (.iload_n 1, 1) := by decide +kernel
theorem dX7_attach_25 : decode cX7_attach 25 = .ok (.aaload, 1) := by decide +kernel
theorem dX7_attach_26 : decode cX7_attach 26 = .ok (.getfield 90, 3) := by decide +kernel
theorem dX7_attach_29 : decode cX7_attach 29 = .ok (.istore_n 3, 1) := by decide +kernel
theorem dX7_attach_30 : decode cX7_attach 30 = .ok (.aload_n 0, 1) := by decide +kernel
theorem dX7_attach_31 : decode cX7_attach 31 = .ok (.getfield 11, 3) := by decide +kernel
theorem dX7_attach_34 : decode cX7_attach 34 = .ok (.iload_n 1, 1) := by decide +kernel
theorem dX7_attach_35 : decode cX7_attach 35 = .ok (.aaload, 1) := by decide +kernel
theorem dX7_attach_36 : decode cX7_attach 36 = .ok (.iload_n 2, 1) := by decide +kernel
theorem dX7_attach_37 : decode cX7_attach 37 = .ok (.putfield 90, 3) := by decide +kernel
theorem dX7_attach_40 : decode cX7_attach 40 = .ok (.iload_n 3, 1) := by decide +kernel
theorem dX7_attach_41 : decode cX7_attach 41 = .ok (.ireturn, 1) := by decide +kernel
theorem dX7_rollBack_0 : decode cX7_rollBack 0 = .ok (.aload_n 0, 1) := by decide +kernel
theorem dX7_rollBack_1 : decode cX7_rollBack 1 = .ok (.iload_n 1, 1) := by decide +kernel
theorem dX7_rollBack_2 : decode cX7_rollBack 2 = .ok (.invokevirtual 76, 3) := by decide +kernel
theorem dX7_rollBack_5 : decode cX7_rollBack 5 = .ok (.ifCond .ne 7, 3) := by decide +kernel
theorem dX7_rollBack_8 : decode cX7_rollBack 8 = .ok (.sipush (-10001), 3) := by decide +kernel
theorem dX7_rollBack_11 : decode cX7_rollBack 11 = .ok (.ireturn, 1) := by decide +kernel
theorem dX7_rollBack_12 : decode cX7_rollBack 12 = .ok (.iload_n 2, 1) := by decide +kernel
theorem dX7_rollBack_13 : decode cX7_rollBack 13 = .ok (.iconst 1, 1) := by decide +kernel
theorem dX7_rollBack_14 : decode cX7_rollBack 14 = .ok (.if_icmp .lt 8, 3) := by decide +kernel
theorem dX7_rollBack_17 : decode cX7_rollBack 17 = .ok (.iload_n 2, 1) := by decide +kernel
theorem dX7_rollBack_18 : decode cX7_rollBack 18 = .ok (.iconst 5, 1) := by decide +kernel
theorem dX7_rollBack_19 : decode cX7_rollBack 19 = .ok (.if_icmp .le 7, 3) := by decide +kernel
theorem dX7_rollBack_22 : decode cX7_rollBack 22 = .ok (.sipush (-10002), 3) := by decide +kernel
theorem dX7_rollBack_25 : decode cX7_rollBack 25 = .ok (.ireturn, 1) := by decide +kernel
theorem dX7_rollBack_26 : decode cX7_rollBack 26 = .ok (.iload_n 2, 1) := by decide +kernel
theorem dX7_rollBack_27 : decode cX7_rollBack 27 = .ok (.aload_n 0, 1) := by decide +kernel
theorem dX7_rollBack_28 : decode cX7_rollBack 28 = .ok (.getfield 17, 3) := by decide +kernel
theorem dX7_rollBack_31 : decode cX7_rollBack 31 = .ok (.iload_n 1, 1) := by decide +kernel
theorem dX7_rollBack_32 : decode cX7_rollBack 32 = .ok (.aaload, 1) := by decide +kernel
theorem dX7_rollBack_33 : decode cX7_rollBack 33 = .ok (.getfield 93, 3) := by decide +kernel
theorem dX7_rollBack_36 : decode cX7_rollBack 36 = .ok (.if_icmp .le 7, 3) := by decide +kernel
theorem dX7_rollBack_39 : decode cX7_rollBack 39 = .ok (.sipush (-10005), 3) := by decide +kernel
theorem dX7_rollBack_42 : decode cX7_rollBack 42 = .ok (.ireturn, 1) := by decide +kernel
theorem dX7_rollBack_43 : decode cX7_rollBack 43 = .ok (.aload_n 0, 1) := by decide +kernel
theorem dX7_rollBack_44 : decode cX7_rollBack 44 = .ok (.getfield 17, 3) := by decide +kernel
theorem dX7_rollBack_47 : decode cX7_rollBack 47 = .ok (.iload_n 1, 1) := by decide +kernel
theorem dX7_rollBack_48 : decode cX7_rollBack 48 = .ok (.aaload, 1) := by decide +kernel
theorem dX7_rollBack_49 : decode cX7_rollBack 49 = .ok (.iload_n 2, 1) := by decide +kernel
theorem dX7_rollBack_50 : decode cX7_rollBack 50 = .ok (.invokevirtual 96, 3) := by decide +kernel
theorem dX7_rollBack_53 : decode cX7_rollBack 53 = .ok (.aload_n 0, 1) := by decide +kernel
theorem dX7_rollBack_54 : decode cX7_rollBack 54 = .ok (.getfield 17, 3) := by decide +kernel
theorem dX7_rollBack_57 : decode cX7_rollBack 57 = .ok (.iload_n 1, 1) := by decide +kernel
theorem dX7_rollBack_58 : decode cX7_rollBack 58 = .ok (.aaload, 1) := by decide +kernel
theorem dX7_rollBack_59 : decode cX7_rollBack 59 = .ok (.getfield 93, 3) := by decide +kernel
theorem dX7_rollBack_62 : decode cX7_rollBack 62 = .ok (.ireturn, 1) := by decide +kernel
theorem dX7_mix_0 : decode cX7_mix 0 = .ok (.aload_n 0, 1) := by decide +kernel
theorem dX7_mix_1 : decode cX7_mix 1 = .ok (.iload_n 1, 1) := by decide +kernel
theorem dX7_mix_2 : decode cX7_mix 2 = .ok (.invokevirtual 76, 3) := by decide +kernel
theorem dX7_mix_5 : decode cX7_mix 5 = .ok (.ifCond .eq 11, 3) := by decide +kernel
theorem dX7_mix_8 : decode cX7_mix 8 = .ok (.aload_n 0, 1) := by decide +kernel
theorem dX7_mix_9 : decode cX7_mix 9 = .ok (.iload_n 2, 1) := by decide +kernel
theorem dX7_mix_10 : decode cX7_mix 10 = .ok (.invokevirtual 76, 3) := by decide +kernel
theorem dX7_mix_13 : decode cX7_mix 13 = .ok (.ifCond .ne 7, 3) := by decide +kernel
theorem dX7_mix_16 : decode cX7_mix 16 = .ok (.sipush (-10001), 3) := by decide +kernel
theorem dX7_mix_19 : decode cX7_mix 19 = .ok (.ireturn, 1) := by decide +kernel
theorem dX7_mix_20 : decode cX7_mix 20 = .ok (.iload_n 1, 1) := by decide +kernel
theorem dX7_mix_21 : decode cX7_mix 21 = .ok (.iload_n 2, 1) := by decide +kernel
theorem dX7_mix_22 : decode cX7_mix 22 = .ok (.if_icmp .ne 7, 3) := by decide +kernel
theorem dX7_mix_25 : decode cX7_mix 25 = .ok (.sipush (-10002), 3) := by decide +kernel
theorem dX7_mix_28 : decode cX7_mix 28 = .ok (.ireturn, 1) := by decide +kernel
theorem dX7_mix_29 : decode cX7_mix 29 = .ok (.iconst 0, 1) := by decide +kernel
theorem dX7_mix_30 : decode cX7_mix 30 = .ok (.istore_n 3, 1) := by decide +kernel
theorem dX7_mix_31 : decode cX7_mix 31 = .ok (.iload_n 3, 1) := by decide +kernel
theorem dX7_mix_32 : decode cX7_mix 32 = .ok (.aload_n 0, 1) := by decide +kernel
theorem dX7_mix_33 : decode cX7_mix 33 = .ok (.getfield 28, 3) := by decide +kernel
theorem dX7_mix_36 : decode cX7_mix 36 = .ok (.if_icmp .ge 32, 3) := by decide +kernel
theorem dX7_mix_39 : decode cX7_mix 39 = .ok (.aload_n 0, 1) := by decide +kernel
theorem dX7_mix_40 : decode cX7_mix 40 = .ok (.getfield 11, 3) := by decide +kernel
theorem dX7_mix_43 : decode cX7_mix 43 = .ok (.iload_n 3, 1) := by decide +kernel
theorem dX7_mix_44 : decode cX7_mix 44 = .ok (.aaload, 1) := by decide +kernel
theorem dX7_mix_45 : decode cX7_mix 45 = .ok (.getfield 90, 3) := by decide +kernel
theorem dX7_mix_48 : decode cX7_mix 48 = .ok (.iload_n 2, 1) := by decide +kernel
theorem dX7_mix_49 : decode cX7_mix 49 = .ok (.if_icmp .ne 13, 3) := by decide +kernel
theorem dX7_mix_52 : decode cX7_mix 52 = .ok (.aload_n 0, 1) := by decide +kernel
theorem dX7_mix_53 : decode cX7_mix 53 = .ok (.getfield 11, 3) := by decide +kernel
theorem dX7_mix_56 : decode cX7_mix 56 = .ok (.iload_n 3, 1) := by decide +kernel
theorem dX7_mix_57 : decode cX7_mix 57 = .ok (.aaload, 1) := by decide +kernel
theorem dX7_mix_58 : decode cX7_mix 58 = .ok (.iload_n 1, 1) := by decide +kernel
theorem dX7_mix_59 : decode cX7_mix 59 = .ok (.putfield 90, 3) := by decide +kernel
theorem dX7_mix_62 : decode cX7_mix 62 = .ok (.iinc 3 1, 3) := by decide +kernel
theorem dX7_mix_65 : decode cX7_mix 65 = .ok (.goto (-34), 3) := by decide +kernel
theorem dX7_mix_68 : decode cX7_mix 68 = .ok (.aload_n 0, 1) := by decide +kernel
theorem dX7_mix_69 : decode cX7_mix 69 = .ok (.getfield 17, 3) := by decide +kernel
theorem dX7_mix_72 : decode cX7_mix 72 = .ok (.iload_n 1, 1) := by decide +kernel
theorem dX7_mix_73 : decode cX7_mix 73 = .ok (.aaload, 1) := by decide +kernel
theorem dX7_mix_74 : decode cX7_mix 74 = .ok (.invokevirtual 99, 3) := by decide +kernel
theorem dX7_mix_77 : decode cX7_mix 77 = .ok (.aload_n 0, 1) := by decide +kernel
theorem dX7_mix_78 : decode cX7_mix 78 = .ok (.getfield 17, 3) := by decide +kernel
theorem dX7_mix_81 : decode cX7_mix 81 = .ok (.iload_n 1, 1) := by decide +kernel
theorem dX7_mix_82 : decode cX7_mix 82 = .ok (.aaload, 1) := by decide +kernel
theorem dX7_mix_83 : decode cX7_mix 83 = .ok (.getfield 102, 3) := by decide +kernel
theorem dX7_mix_86 : decode cX7_mix 86 = .ok (.aload_n 0, 1) := by decide +kernel
theorem dX7_mix_87 : decode cX7_mix 87 = .ok (.getfield 17, 3) := by decide +kernel
theorem dX7_mix_90 : decode cX7_mix 90 = .ok (.iload_n 2, 1) := by decide +kernel
theorem dX7_mix_91 : decode cX7_mix 91 = .ok (.aaload, 1) := by decide +kernel
theorem dX7_mix_92 : decode cX7_mix 92 = .ok (.getfield 102, 3) := by decide +kernel
theorem dX7_mix_95 : decode cX7_mix 95 = .ok (.invokevirtual 106, 3) := by decide +kernel
theorem dX7_mix_98 : decode cX7_mix 98 = .ok (.ireturn, 1) := by decide +kernel
theorem dX7_sendLetter_0 : decode cX7_sendLetter 0 = .ok (.aload_n 0, 1) := by decide +kernel
theorem dX7_sendLetter_1 : decode cX7_sendLetter 1 = .ok (.iload_n 1, 1) := by decide +kernel
theorem dX7_sendLetter_2 : decode cX7_sendLetter 2 = .ok (.invokevirtual 41, 3) := by decide +kernel
theorem dX7_sendLetter_5 : decode cX7_sendLetter 5 = .ok (.ifCond .eq 11, 3) := by decide +kernel
theorem dX7_sendLetter_8 : decode cX7_sendLetter 8 = .ok (.aload_n 0, 1) := by decide +kernel
theorem dX7_sendLetter_9 : decode cX7_sendLetter 9 = .ok (.iload_n 2, 1) := by decide +kernel
theorem dX7_sendLetter_10 : decode cX7_sendLetter 10 = .ok (.invokevirtual 41, 3) := by decide +kernel
theorem dX7_sendLetter_13 : decode cX7_sendLetter 13 = .ok (.ifCond .ne 7, 3) := by decide +kernel
theorem dX7_sendLetter_16 : decode cX7_sendLetter 16 = .ok (.sipush (-10001), 3) := by decide +kernel
theorem dX7_sendLetter_19 : decode cX7_sendLetter 19 = .ok (.ireturn, 1) := by decide +kernel
theorem dX7_sendLetter_20 : decode cX7_sendLetter 20 = .ok (.iload_n 1, 1) := by decide +kernel
theorem dX7_sendLetter_21 : decode cX7_sendLetter 21 = .ok (.iload_n 2, 1) := by decide +kernel
theorem dX7_sendLetter_22 : decode cX7_sendLetter 22 = .ok (.if_icmp .ne 7, 3) := by decide +kernel
theorem dX7_sendLetter_25 : decode cX7_sendLetter 25 = .ok (.sipush (-10002), 3) := by decide +kernel
theorem dX7_sendLetter_28 : decode cX7_sendLetter 28 = .ok (.ireturn, 1) := by decide +kernel
theorem dX7_sendLetter_29 : decode cX7_sendLetter 29 = .ok (.aload_n 0, 1) := by decide +kernel
theorem dX7_sendLetter_30 : decode cX7_sendLetter 30 = .ok (.getfield 11, 3) := by decide +kernel
theorem dX7_sendLetter_33 : decode cX7_sendLetter 33 = .ok (.iload_n 2, 1) := by decide +kernel
theorem dX7_sendLetter_34 : decode cX7_sendLetter 34 = .ok (.aaload, 1) := by decide +kernel
theorem dX7_sendLetter_35 : decode cX7_sendLetter 35 = .ok (.getfield 110, 3) := by decide +kernel
theorem dX7_sendLetter_38 : decode cX7_sendLetter 38 = .ok (.astore_n 3, 1) := by decide +kernel
theorem dX7_sendLetter_39 : decode cX7_sendLetter 39 = .ok (.aload_n 3, 1) := by decide +kernel
theorem dX7_sendLetter_40 : decode cX7_sendLetter 40 = .ok (.getfield 114, 3) := by decide +kernel
theorem dX7_sendLetter_43 : decode cX7_sendLetter 43 = .ok (.iconst 4, 1) := by decide +kernel
theorem dX7_sendLetter_44 : decode cX7_sendLetter 44 = .ok (.if_icmp .lt 7, 3) := by decide +kernel
theorem dX7_sendLetter_47 : decode cX7_sendLetter 47 = .ok (.sipush (-10004), 3) := by decide +kernel
theorem dX7_sendLetter_50 : decode cX7_sendLetter 50 = .ok (.ireturn, 1) := by decide +kernel
theorem dX7_sendLetter_51 : decode cX7_sendLetter 51 = .ok (.aload_n 3, 1) := by decide +kernel
theorem dX7_sendLetter_52 : decode cX7_sendLetter 52 = .ok (.aload_n 0, 1) := by decide +kernel
theorem dX7_sendLetter_53 : decode cX7_sendLetter 53 = .ok (.getfield 11, 3) := by decide +kernel
theorem dX7_sendLetter_56 : decode cX7_sendLetter 56 = .ok (.iload_n 1, 1) := by decide +kernel
theorem dX7_sendLetter_57 : decode cX7_sendLetter 57 = .ok (.aaload, 1) := by decide +kernel
theorem dX7_sendLetter_58 : decode cX7_sendLetter 58 = .ok (.getfield 119, 3) := by decide +kernel
theorem dX7_sendLetter_61 : decode cX7_sendLetter 61 = .ok (.invokevirtual 123, 3) := by decide +kernel
theorem dX7_sendLetter_64 : decode cX7_sendLetter 64 = .ok (.aload_n 0, 1) := by decide +kernel
theorem dX7_sendLetter_65 : decode cX7_sendLetter 65 = .ok (.getfield 11, 3) := by decide +kernel
theorem dX7_sendLetter_68 : decode cX7_sendLetter 68 = .ok (.iload_n 1, 1) := by decide +kernel
theorem dX7_sendLetter_69 : decode cX7_sendLetter 69 = .ok (.aaload, 1) := by decide +kernel
theorem dX7_sendLetter_70 : decode cX7_sendLetter 70 = .ok (.dup, 1) := by decide +kernel
theorem dX7_sendLetter_71 : decode cX7_sendLetter 71 = .ok (.getfield 127, 3) := by decide +kernel
theorem dX7_sendLetter_74 : decode cX7_sendLetter 74 = .ok (.aload_n 0, 1) := by decide +kernel
theorem dX7_sendLetter_75 : decode cX7_sendLetter 75 = .ok (.getfield 28, 3) := by decide +kernel
theorem dX7_sendLetter_78 : decode cX7_sendLetter 78 = .ok (.iadd, 1) := by decide +kernel
theorem dX7_sendLetter_79 : decode cX7_sendLetter 79 = .ok (.putfield 127, 3) := by decide +kernel
theorem dX7_sendLetter_82 : decode cX7_sendLetter 82 = .ok (.aload_n 3, 1) := by decide +kernel
theorem dX7_sendLetter_83 : decode cX7_sendLetter 83 = .ok (.getfield 114, 3) := by decide +kernel
theorem dX7_sendLetter_86 : decode cX7_sendLetter 86 = .ok (.ireturn, 1) := by decide +kernel
theorem dX7_readLetter_0 : decode cX7_readLetter 0 = .ok (.aload_n 0, 1) := by decide +kernel
theorem dX7_readLetter_1 : decode cX7_readLetter 1 = .ok (.iload_n 1, 1) := by decide +kernel
theorem dX7_readLetter_2 : decode cX7_readLetter 2 = .ok (.invokevirtual 41, 3) := by decide +kernel
theorem dX7_readLetter_5 : decode cX7_readLetter 5 = .ok (.ifCond .ne 7, 3) := by decide +kernel
theorem dX7_readLetter_8 : decode cX7_readLetter 8 = .ok (.sipush (-10001), 3) := by decide +kernel
theorem dX7_readLetter_11 : decode cX7_readLetter 11 = .ok (.ireturn, 1) := by decide +kernel
theorem dX7_readLetter_12 : decode cX7_readLetter 12 = .ok (.aload_n 0, 1) := by decide +kernel
theorem dX7_readLetter_13 : decode cX7_readLetter 13 = .ok (.getfield 11, 3) := by decide +kernel
theorem dX7_readLetter_16 : decode cX7_readLetter 16 = .ok (.iload_n 1, 1) := by decide +kernel
theorem dX7_readLetter_17 : decode cX7_readLetter 17 = .ok (.aaload, 1) := by decide +kernel
theorem dX7_readLetter_18 : decode cX7_readLetter 18 = .ok (.getfield 110, 3) := by decide +kernel
theorem dX7_readLetter_21 : decode cX7_readLetter 21 = .ok (.astore_n 2, 1) := by decide +kernel
theorem dX7_readLetter_22 : decode cX7_readLetter 22 = .ok (.aload_n 2, 1) := by decide +kernel
theorem dX7_readLetter_23 : decode cX7_readLetter 23 = .ok (.getfield 114, 3) := by decide +kernel
theorem dX7_readLetter_26 : decode cX7_readLetter 26 = .ok (.ifCond .ne 7, 3) := by decide +kernel
theorem dX7_readLetter_29 : decode cX7_readLetter 29 = .ok (.sipush (-10005), 3) := by decide +kernel
theorem dX7_readLetter_32 : decode cX7_readLetter 32 = .ok (.ireturn, 1) := by decide +kernel
theorem dX7_readLetter_33 : decode cX7_readLetter 33 = .ok (.aload_n 0, 1) := by decide +kernel
theorem dX7_readLetter_34 : decode cX7_readLetter 34 = .ok (.getfield 11, 3) := by decide +kernel
theorem dX7_readLetter_37 : decode cX7_readLetter 37 = .ok (.iload_n 1, 1) := by decide +kernel
theorem dX7_readLetter_38 : decode cX7_readLetter 38 = .ok (.aaload, 1) := by decide +kernel
theorem dX7_readLetter_39 : decode cX7_readLetter 39 = .ok (.aload_n 2, 1) := by decide +kernel
theorem dX7_readLetter_40 : decode cX7_readLetter 40 = .ok (.getfield 130, 3) := by decide +kernel
theorem dX7_readLetter_43 : decode cX7_readLetter 43 = .ok (.iconst 0, 1) := by decide +kernel
theorem dX7_readLetter_44 : decode cX7_readLetter 44 = .ok (.aaload, 1) := by decide +kernel
theorem dX7_readLetter_45 : decode cX7_readLetter 45 = .ok (.invokevirtual 134, 3) := by decide +kernel
theorem dX7_readLetter_48 : decode cX7_readLetter 48 = .ok (.istore_n 3, 1) := by decide +kernel
theorem dX7_readLetter_49 : decode cX7_readLetter 49 = .ok (.aload_n 2, 1) := by decide +kernel
theorem dX7_readLetter_50 : decode cX7_readLetter 50 = .ok (.invokevirtual 138, 3) := by decide +kernel
theorem dX7_readLetter_53 : decode cX7_readLetter 53 = .ok (.iload_n 3, 1) := by decide +kernel
theorem dX7_readLetter_54 : decode cX7_readLetter 54 = .ok (.ireturn, 1) := by decide +kernel
theorem dX7_loseLetter_0 : decode cX7_loseLetter 0 = .ok (.aload_n 0, 1) := by decide +kernel
theorem dX7_loseLetter_1 : decode cX7_loseLetter 1 = .ok (.iload_n 1, 1) := by decide +kernel
theorem dX7_loseLetter_2 : decode cX7_loseLetter 2 = .ok (.invokevirtual 41, 3) := by decide +kernel
theorem dX7_loseLetter_5 : decode cX7_loseLetter 5 = .ok (.ifCond .ne 7, 3) := by decide +kernel
theorem dX7_loseLetter_8 : decode cX7_loseLetter 8 = .ok (.sipush (-10001), 3) := by decide +kernel
theorem dX7_loseLetter_11 : decode cX7_loseLetter 11 = .ok (.ireturn, 1) := by decide +kernel
theorem dX7_loseLetter_12 : decode cX7_loseLetter 12 = .ok (.aload_n 0, 1) := by decide +kernel
theorem dX7_loseLetter_13 : decode cX7_loseLetter 13 = .ok (.getfield 11, 3) := by decide +kernel
theorem dX7_loseLetter_16 : decode cX7_loseLetter 16 = .ok (.iload_n 1, 1) := by decide +kernel
theorem dX7_loseLetter_17 : decode cX7_loseLetter 17 = .ok (.aaload, 1) := by decide +kernel
theorem dX7_loseLetter_18 : decode cX7_loseLetter 18 = .ok (.getfield 110, 3) := by decide +kernel
theorem dX7_loseLetter_21 : decode cX7_loseLetter 21 = .ok (.astore_n 2, 1) := by decide +kernel
theorem dX7_loseLetter_22 : decode cX7_loseLetter 22 = .ok (.aload_n 2, 1) := by decide +kernel
theorem dX7_loseLetter_23 : decode cX7_loseLetter 23 = .ok (.getfield 114, 3) := by decide +kernel
theorem dX7_loseLetter_26 : decode cX7_loseLetter 26 = .ok (.ifCond .ne 7, 3) := by decide +kernel
theorem dX7_loseLetter_29 : decode cX7_loseLetter 29 = .ok (.sipush (-10005), 3) := by decide +kernel
theorem dX7_loseLetter_32 : decode cX7_loseLetter 32 = .ok (.ireturn, 1) := by decide +kernel
theorem dX7_loseLetter_33 : decode cX7_loseLetter 33 = .ok (.aload_n 2, 1) := by decide +kernel
theorem dX7_loseLetter_34 : decode cX7_loseLetter 34 = .ok (.invokevirtual 138, 3) := by decide +kernel
theorem dX7_loseLetter_37 : decode cX7_loseLetter 37 = .ok (.aload_n 2, 1) := by decide +kernel
theorem dX7_loseLetter_38 : decode cX7_loseLetter 38 = .ok (.getfield 114, 3) := by decide +kernel
theorem dX7_loseLetter_41 : decode cX7_loseLetter 41 = .ok (.ireturn, 1) := by decide +kernel
theorem dX7_passProof_0 : decode cX7_passProof 0 = .ok (.aload_n 0, 1) := by decide +kernel
theorem dX7_passProof_1 : decode cX7_passProof 1 = .ok (.iload_n 1, 1) := by decide +kernel
theorem dX7_passProof_2 : decode cX7_passProof 2 = .ok (.invokevirtual 41, 3) := by decide +kernel
theorem dX7_passProof_5 : decode cX7_passProof 5 = .ok (.ifCond .eq 11, 3) := by decide +kernel
theorem dX7_passProof_8 : decode cX7_passProof 8 = .ok (.aload_n 0, 1) := by decide +kernel
theorem dX7_passProof_9 : decode cX7_passProof 9 = .ok (.iload_n 2, 1) := by decide +kernel
theorem dX7_passProof_10 : decode cX7_passProof 10 = .ok (.invokevirtual 41, 3) := by decide +kernel
theorem dX7_passProof_13 : decode cX7_passProof 13 = .ok (.ifCond .ne 7, 3) := by decide +kernel
theorem dX7_passProof_16 : decode cX7_passProof 16 = .ok (.sipush (-10001), 3) := by decide +kernel
theorem dX7_passProof_19 : decode cX7_passProof 19 = .ok (.ireturn, 1) := by decide +kernel
theorem dX7_passProof_20 : decode cX7_passProof 20 = .ok (.iload_n 1, 1) := by decide +kernel
theorem dX7_passProof_21 : decode cX7_passProof 21 = .ok (.iload_n 2, 1) := by decide +kernel
theorem dX7_passProof_22 : decode cX7_passProof 22 = .ok (.if_icmp .ne 7, 3) := by decide +kernel
theorem dX7_passProof_25 : decode cX7_passProof 25 = .ok (.sipush (-10002), 3) := by decide +kernel
theorem dX7_passProof_28 : decode cX7_passProof 28 = .ok (.ireturn, 1) := by decide +kernel
theorem dX7_passProof_29 : decode cX7_passProof 29 = .ok (.aload_n 0, 1) := by decide +kernel
theorem dX7_passProof_30 : decode cX7_passProof 30 = .ok (.getfield 11, 3) := by decide +kernel
theorem dX7_passProof_33 : decode cX7_passProof 33 = .ok (.iload_n 1, 1) := by decide +kernel
theorem dX7_passProof_34 : decode cX7_passProof 34 = .ok (.aaload, 1) := by decide +kernel
theorem dX7_passProof_35 : decode cX7_passProof 35 = .ok (.getfield 141, 3) := by decide +kernel
theorem dX7_passProof_38 : decode cX7_passProof 38 = .ok (.astore_n 3, 1) := by decide +kernel
theorem dX7_passProof_39 : decode cX7_passProof 39 = .ok (.aload_n 3, 1) := by decide +kernel
theorem dX7_passProof_40 : decode cX7_passProof 40 = .ok (.getfield 145, 3) := by decide +kernel
theorem dX7_passProof_43 : decode cX7_passProof 43 = .ok (.ifCond .ne 7, 3) := by decide +kernel
theorem dX7_passProof_46 : decode cX7_passProof 46 = .ok (.sipush (-10003), 3) := by decide +kernel
theorem dX7_passProof_49 : decode cX7_passProof 49 = .ok (.ireturn, 1) := by decide +kernel
theorem dX7_passProof_50 : decode cX7_passProof 50 = .ok (.aload_n 0, 1) := by decide +kernel
theorem dX7_passProof_51 : decode cX7_passProof 51 = .ok (.getfield 11, 3) := by decide +kernel
theorem dX7_passProof_54 : decode cX7_passProof 54 = .ok (.iload_n 2, 1) := by decide +kernel
theorem dX7_passProof_55 : decode cX7_passProof 55 = .ok (.aaload, 1) := by decide +kernel
theorem dX7_passProof_56 : decode cX7_passProof 56 = .ok (.astore 4, 2) := by decide +kernel
theorem dX7_passProof_58 : decode cX7_passProof 58 = .ok (.aload 4, 2) := by decide +kernel
theorem dX7_passProof_60 : decode cX7_passProof 60 = .ok (.getfield 45, 3) := by decide +kernel
theorem dX7_passProof_63 : decode cX7_passProof 63 = .ok (.ifCond .ne 7, 3) := by decide +kernel
theorem dX7_passProof_66 : decode cX7_passProof 66 = .ok (.iconst 1, 1) := by decide +kernel
theorem dX7_passProof_67 : decode cX7_passProof 67 = .ok (.goto 4, 3) := by decide +kernel
theorem dX7_passProof_70 : decode cX7_passProof 70 = .ok (.iconst 0, 1) := by decide +kernel
theorem dX7_passProof_71 : decode cX7_passProof 71 = .ok (.istore 5, 2) := by decide +kernel
theorem dX7_passProof_73 : decode cX7_passProof 73 = .ok (.aload 4, 2) := by decide +kernel
theorem dX7_passProof_75 : decode cX7_passProof 75 = .ok (.getfield 141, 3) := by decide +kernel
theorem dX7_passProof_78 : decode cX7_passProof 78 = .ok (.aload_n 3, 1) := by decide +kernel
theorem dX7_passProof_79 : decode cX7_passProof 79 = .ok (.getfield 150, 3) := by decide +kernel
theorem dX7_passProof_82 : decode cX7_passProof 82 = .ok (.aload_n 3, 1) := by decide +kernel
theorem dX7_passProof_83 : decode cX7_passProof 83 = .ok (.getfield 153, 3) := by decide +kernel
theorem dX7_passProof_86 : decode cX7_passProof 86 = .ok (.aload_n 3, 1) := by decide +kernel
theorem dX7_passProof_87 : decode cX7_passProof 87 = .ok (.getfield 156, 3) := by decide +kernel
theorem dX7_passProof_90 : decode cX7_passProof 90 = .ok (.iconst 1, 1) := by decide +kernel
theorem dX7_passProof_91 : decode cX7_passProof 91 = .ok (.iadd, 1) := by decide +kernel
theorem dX7_passProof_92 : decode cX7_passProof 92 = .ok (.invokevirtual 159, 3) := by decide +kernel
theorem dX7_passProof_95 : decode cX7_passProof 95 = .ok (.aload 4, 2) := by decide +kernel
theorem dX7_passProof_97 : decode cX7_passProof 97 = .ok (.iconst 5, 1) := by decide +kernel
theorem dX7_passProof_98 : decode cX7_passProof 98 = .ok (.invokevirtual 163, 3) := by decide +kernel
theorem dX7_passProof_101 : decode cX7_passProof 101 = .ok (.aload_n 0, 1) := by decide +kernel
theorem dX7_passProof_102 : decode cX7_passProof 102 = .ok (.getfield 11, 3) := by decide +kernel
theorem dX7_passProof_105 : decode cX7_passProof 105 = .ok (.iload_n 1, 1) := by decide +kernel
theorem dX7_passProof_106 : decode cX7_passProof 106 = .ok (.aaload, 1) := by decide +kernel
theorem dX7_passProof_107 : decode cX7_passProof 107 = .ok (.dup, 1) := by decide +kernel
theorem dX7_passProof_108 : decode cX7_passProof 108 = .ok (.getfield 127, 3) := by decide +kernel
theorem dX7_passProof_111 : decode cX7_passProof 111 = .ok (.iconst 2, 1) := by decide +kernel
theorem dX7_passProof_112 : decode cX7_passProof 112 = .ok (.aload_n 0, 1) := by decide +kernel
theorem dX7_passProof_113 : decode cX7_passProof 113 = .ok (.getfield 28, 3) := by decide +kernel
theorem dX7_passProof_116 : decode cX7_passProof 116 = .ok (.imul, 1) := by decide +kernel
theorem dX7_passProof_117 : decode cX7_passProof 117 = .ok (.iadd, 1) := by decide +kernel
theorem dX7_passProof_118 : decode cX7_passProof 118 = .ok (.putfield 127, 3) := by decide +kernel
theorem dX7_passProof_121 : decode cX7_passProof 121 = .ok (.iload 5, 2) := by decide +kernel
theorem dX7_passProof_123 : decode cX7_passProof 123 = .ok (.invokestatic 166, 3) := by decide +kernel
theorem dX7_passProof_126 : decode cX7_passProof 126 = .ok (.ireturn, 1) := by decide +kernel
theorem dX7_count_0 : decode cX7_count 0 = .ok (.iload_n 1, 1) := by decide +kernel
theorem dX7_count_1 : decode cX7_count 1 = .ok (.tableswitch 69 0 5 #[39, 44, 49, 54, 59, 64], 39) := by decide +kernel
theorem dX7_count_40 : decode cX7_count 40 = .ok (.aload_n 0, 1) := by decide +kernel
theorem dX7_count_41 : decode cX7_count 41 = .ok (.getfield 28, 3) := by decide +kernel
theorem dX7_count_44 : decode cX7_count 44 = .ok (.ireturn, 1) := by decide +kernel
theorem dX7_count_45 : decode cX7_count 45 = .ok (.aload_n 0, 1) := by decide +kernel
theorem dX7_count_46 : decode cX7_count 46 = .ok (.getfield 32, 3) := by decide +kernel
theorem dX7_count_49 : decode cX7_count 49 = .ok (.ireturn, 1) := by decide +kernel
theorem dX7_count_50 : decode cX7_count 50 = .ok (.aload_n 0, 1) := by decide +kernel
theorem dX7_count_51 : decode cX7_count 51 = .ok (.invokevirtual 170, 3) := by decide +kernel
theorem dX7_count_54 : decode cX7_count 54 = .ok (.ireturn, 1) := by decide +kernel
theorem dX7_count_55 : decode cX7_count 55 = .ok (.aload_n 0, 1) := by decide +kernel
theorem dX7_count_56 : decode cX7_count 56 = .ok (.invokevirtual 174, 3) := by decide +kernel
theorem dX7_count_59 : decode cX7_count 59 = .ok (.ireturn, 1) := by decide +kernel
theorem dX7_count_60 : decode cX7_count 60 = .ok (.aload_n 0, 1) := by decide +kernel
theorem dX7_count_61 : decode cX7_count 61 = .ok (.invokevirtual 177, 3) := by decide +kernel
theorem dX7_count_64 : decode cX7_count 64 = .ok (.ireturn, 1) := by decide +kernel
theorem dX7_count_65 : decode cX7_count 65 = .ok (.aload_n 0, 1) := by decide +kernel
theorem dX7_count_66 : decode cX7_count 66 = .ok (.invokevirtual 180, 3) := by decide +kernel
theorem dX7_count_69 : decode cX7_count 69 = .ok (.ireturn, 1) := by decide +kernel
theorem dX7_count_70 : decode cX7_count 70 = .ok (.sipush (-10002), 3) := by decide +kernel
theorem dX7_count_73 : decode cX7_count 73 = .ok (.ireturn, 1) := by decide +kernel
theorem dX7_user_0 : decode cX7_user 0 = .ok (.aload_n 0, 1) := by decide +kernel
theorem dX7_user_1 : decode cX7_user 1 = .ok (.iload_n 1, 1) := by decide +kernel
theorem dX7_user_2 : decode cX7_user 2 = .ok (.invokevirtual 41, 3) := by decide +kernel
theorem dX7_user_5 : decode cX7_user 5 = .ok (.ifCond .ne 7, 3) := by decide +kernel
theorem dX7_user_8 : decode cX7_user 8 = .ok (.sipush (-10001), 3) := by decide +kernel
theorem dX7_user_11 : decode cX7_user 11 = .ok (.ireturn, 1) := by decide +kernel
theorem dX7_user_12 : decode cX7_user 12 = .ok (.aload_n 0, 1) := by decide +kernel
theorem dX7_user_13 : decode cX7_user 13 = .ok (.getfield 11, 3) := by decide +kernel
theorem dX7_user_16 : decode cX7_user 16 = .ok (.iload_n 1, 1) := by decide +kernel
theorem dX7_user_17 : decode cX7_user 17 = .ok (.aaload, 1) := by decide +kernel
theorem dX7_user_18 : decode cX7_user 18 = .ok (.astore_n 3, 1) := by decide +kernel
theorem dX7_user_19 : decode cX7_user 19 = .ok (.iload_n 2, 1) := by decide +kernel
theorem dX7_user_20 : decode cX7_user 20 = .ok (.tableswitch 116 0 7 #[48, 53, 58, 69, 77, 82, 87, 92], 48) := by decide +kernel
theorem dX7_user_68 : decode cX7_user 68 = .ok (.aload_n 3, 1) := by decide +kernel
theorem dX7_user_69 : decode cX7_user 69 = .ok (.getfield 90, 3) := by decide +kernel
theorem dX7_user_72 : decode cX7_user 72 = .ok (.ireturn, 1) := by decide +kernel
theorem dX7_user_73 : decode cX7_user 73 = .ok (.aload_n 3, 1) := by decide +kernel
theorem dX7_user_74 : decode cX7_user 74 = .ok (.getfield 45, 3) := by decide +kernel
theorem dX7_user_77 : decode cX7_user 77 = .ok (.ireturn, 1) := by decide +kernel
theorem dX7_user_78 : decode cX7_user 78 = .ok (.aload_n 3, 1) := by decide +kernel
theorem dX7_user_79 : decode cX7_user 79 = .ok (.getfield 141, 3) := by decide +kernel
theorem dX7_user_82 : decode cX7_user 82 = .ok (.getfield 145, 3) := by decide +kernel
theorem dX7_user_85 : decode cX7_user 85 = .ok (.invokestatic 166, 3) := by decide +kernel
theorem dX7_user_88 : decode cX7_user 88 = .ok (.ireturn, 1) := by decide +kernel
theorem dX7_user_89 : decode cX7_user 89 = .ok (.aload_n 3, 1) := by decide +kernel
theorem dX7_user_90 : decode cX7_user 90 = .ok (.getfield 110, 3) := by decide +kernel
theorem dX7_user_93 : decode cX7_user 93 = .ok (.getfield 114, 3) := by decide +kernel
theorem dX7_user_96 : decode cX7_user 96 = .ok (.ireturn, 1) := by decide +kernel
theorem dX7_user_97 : decode cX7_user 97 = .ok (.aload_n 3, 1) := by decide +kernel
theorem dX7_user_98 : decode cX7_user 98 = .ok (.getfield 183, 3) := by decide +kernel
theorem dX7_user_101 : decode cX7_user 101 = .ok (.ireturn, 1) := by decide +kernel
theorem dX7_user_102 : decode cX7_user 102 = .ok (.aload_n 3, 1) := by decide +kernel
theorem dX7_user_103 : decode cX7_user 103 = .ok (.getfield 186, 3) := by decide +kernel
theorem dX7_user_106 : decode cX7_user 106 = .ok (.ireturn, 1) := by decide +kernel
theorem dX7_user_107 : decode cX7_user 107 = .ok (.aload_n 3, 1) := by decide +kernel
theorem dX7_user_108 : decode cX7_user 108 = .ok (.getfield 127, 3) := by decide +kernel
theorem dX7_user_111 : decode cX7_user 111 = .ok (.ireturn, 1) := by decide +kernel
theorem dX7_user_112 : decode cX7_user 112 = .ok (.aload_n 3, 1) := by decide +kernel
theorem dX7_user_113 : decode cX7_user 113 = .ok (.getfield 141, 3) := by decide +kernel
theorem dX7_user_116 : decode cX7_user 116 = .ok (.getfield 145, 3) := by decide +kernel
theorem dX7_user_119 : decode cX7_user 119 = .ok (.ifCond .eq 13, 3) := by decide +kernel
theorem dX7_user_122 : decode cX7_user 122 = .ok (.aload_n 3, 1) := by decide +kernel
theorem dX7_user_123 : decode cX7_user 123 = .ok (.getfield 141, 3) := by decide +kernel
theorem dX7_user_126 : decode cX7_user 126 = .ok (.getfield 156, 3) := by decide +kernel
theorem dX7_user_129 : decode cX7_user 129 = .ok (.goto 6, 3) := by decide +kernel
theorem dX7_user_132 : decode cX7_user 132 = .ok (.sipush (-10005), 3) := by decide +kernel
theorem dX7_user_135 : decode cX7_user 135 = .ok (.ireturn, 1) := by decide +kernel
theorem dX7_user_136 : decode cX7_user 136 = .ok (.sipush (-10002), 3) := by decide +kernel
theorem dX7_user_139 : decode cX7_user 139 = .ok (.ireturn, 1) := by decide +kernel
theorem dX7_vector_0 : decode cX7_vector 0 = .ok (.aload_n 0, 1) := by decide +kernel
theorem dX7_vector_1 : decode cX7_vector 1 = .ok (.iload_n 1, 1) := by decide +kernel
theorem dX7_vector_2 : decode cX7_vector 2 = .ok (.invokevirtual 41, 3) := by decide +kernel
theorem dX7_vector_5 : decode cX7_vector 5 = .ok (.ifCond .eq 11, 3) := by decide +kernel
theorem dX7_vector_8 : decode cX7_vector 8 = .ok (.aload_n 0, 1) := by decide +kernel
theorem dX7_vector_9 : decode cX7_vector 9 = .ok (.iload_n 3, 1) := by decide +kernel
theorem dX7_vector_10 : decode cX7_vector 10 = .ok (.invokevirtual 41, 3) := by decide +kernel
theorem dX7_vector_13 : decode cX7_vector 13 = .ok (.ifCond .ne 7, 3) := by decide +kernel
theorem dX7_vector_16 : decode cX7_vector 16 = .ok (.sipush (-10001), 3) := by decide +kernel
theorem dX7_vector_19 : decode cX7_vector 19 = .ok (.ireturn, 1) := by decide +kernel
theorem dX7_vector_20 : decode cX7_vector 20 = .ok (.iload_n 2, 1) := by decide +kernel
theorem dX7_vector_21 : decode cX7_vector 21 = .ok (.ifCond .lt 8, 3) := by decide +kernel
theorem dX7_vector_24 : decode cX7_vector 24 = .ok (.iload_n 2, 1) := by decide +kernel
theorem dX7_vector_25 : decode cX7_vector 25 = .ok (.iconst 3, 1) := by decide +kernel
theorem dX7_vector_26 : decode cX7_vector 26 = .ok (.if_icmp .le 7, 3) := by decide +kernel
theorem dX7_vector_29 : decode cX7_vector 29 = .ok (.sipush (-10002), 3) := by decide +kernel
theorem dX7_vector_32 : decode cX7_vector 32 = .ok (.ireturn, 1) := by decide +kernel
theorem dX7_vector_33 : decode cX7_vector 33 = .ok (.aload_n 0, 1) := by decide +kernel
theorem dX7_vector_34 : decode cX7_vector 34 = .ok (.getfield 11, 3) := by decide +kernel
theorem dX7_vector_37 : decode cX7_vector 37 = .ok (.iload_n 1, 1) := by decide +kernel
theorem dX7_vector_38 : decode cX7_vector 38 = .ok (.aaload, 1) := by decide +kernel
theorem dX7_vector_39 : decode cX7_vector 39 = .ok (.astore 4, 2) := by decide +kernel
theorem dX7_vector_41 : decode cX7_vector 41 = .ok (.iload_n 2, 1) := by decide +kernel
theorem dX7_vector_42 : decode cX7_vector 42 = .ok (.ifCond .ne 14, 3) := by decide +kernel
theorem dX7_vector_45 : decode cX7_vector 45 = .ok (.aload 4, 2) := by decide +kernel
theorem dX7_vector_47 : decode cX7_vector 47 = .ok (.getfield 189, 3) := by decide +kernel
theorem dX7_vector_50 : decode cX7_vector 50 = .ok (.getfield 192, 3) := by decide +kernel
theorem dX7_vector_53 : decode cX7_vector 53 = .ok (.iload_n 3, 1) := by decide +kernel
theorem dX7_vector_54 : decode cX7_vector 54 = .ok (.iaload, 1) := by decide +kernel
theorem dX7_vector_55 : decode cX7_vector 55 = .ok (.ireturn, 1) := by decide +kernel
theorem dX7_vector_56 : decode cX7_vector 56 = .ok (.iload_n 2, 1) := by decide +kernel
theorem dX7_vector_57 : decode cX7_vector 57 = .ok (.iconst 1, 1) := by decide +kernel
theorem dX7_vector_58 : decode cX7_vector 58 = .ok (.if_icmp .ne 14, 3) := by decide +kernel
theorem dX7_vector_61 : decode cX7_vector 61 = .ok (.aload 4, 2) := by decide +kernel
theorem dX7_vector_63 : decode cX7_vector 63 = .ok (.getfield 119, 3) := by decide +kernel
theorem dX7_vector_66 : decode cX7_vector 66 = .ok (.getfield 192, 3) := by decide +kernel
theorem dX7_vector_69 : decode cX7_vector 69 = .ok (.iload_n 3, 1) := by decide +kernel
theorem dX7_vector_70 : decode cX7_vector 70 = .ok (.iaload, 1) := by decide +kernel
theorem dX7_vector_71 : decode cX7_vector 71 = .ok (.ireturn, 1) := by decide +kernel
theorem dX7_vector_72 : decode cX7_vector 72 = .ok (.aload 4, 2) := by decide +kernel
theorem dX7_vector_74 : decode cX7_vector 74 = .ok (.getfield 141, 3) := by decide +kernel
theorem dX7_vector_77 : decode cX7_vector 77 = .ok (.getfield 145, 3) := by decide +kernel
theorem dX7_vector_80 : decode cX7_vector 80 = .ok (.ifCond .ne 7, 3) := by decide +kernel
theorem dX7_vector_83 : decode cX7_vector 83 = .ok (.sipush (-10005), 3) := by decide +kernel
theorem dX7_vector_86 : decode cX7_vector 86 = .ok (.ireturn, 1) := by decide +kernel
theorem dX7_vector_87 : decode cX7_vector 87 = .ok (.iload_n 2, 1) := by decide +kernel
theorem dX7_vector_88 : decode cX7_vector 88 = .ok (.iconst 2, 1) := by decide +kernel
theorem dX7_vector_89 : decode cX7_vector 89 = .ok (.if_icmp .ne 19, 3) := by decide +kernel
theorem dX7_vector_92 : decode cX7_vector 92 = .ok (.aload 4, 2) := by decide +kernel
theorem dX7_vector_94 : decode cX7_vector 94 = .ok (.getfield 141, 3) := by decide +kernel
theorem dX7_vector_97 : decode cX7_vector 97 = .ok (.getfield 150, 3) := by decide +kernel
theorem dX7_vector_100 : decode cX7_vector 100 = .ok (.getfield 192, 3) := by decide +kernel
theorem dX7_vector_103 : decode cX7_vector 103 = .ok (.iload_n 3, 1) := by decide +kernel
theorem dX7_vector_104 : decode cX7_vector 104 = .ok (.iaload, 1) := by decide +kernel
theorem dX7_vector_105 : decode cX7_vector 105 = .ok (.goto 16, 3) := by decide +kernel
theorem dX7_vector_108 : decode cX7_vector 108 = .ok (.aload 4, 2) := by decide +kernel
theorem dX7_vector_110 : decode cX7_vector 110 = .ok (.getfield 141, 3) := by decide +kernel
theorem dX7_vector_113 : decode cX7_vector 113 = .ok (.getfield 153, 3) := by decide +kernel
theorem dX7_vector_116 : decode cX7_vector 116 = .ok (.getfield 192, 3) := by decide +kernel
theorem dX7_vector_119 : decode cX7_vector 119 = .ok (.iload_n 3, 1) := by decide +kernel
theorem dX7_vector_120 : decode cX7_vector 120 = .ok (.iaload, 1) := by decide +kernel
theorem dX7_vector_121 : decode cX7_vector 121 = .ok (.ireturn, 1) := by decide +kernel
theorem dX7_entry_0 : decode cX7_entry 0 = .ok (.aload_n 0, 1) := by decide +kernel
theorem dX7_entry_1 : decode cX7_entry 1 = .ok (.iload_n 1, 1) := by decide +kernel
theorem dX7_entry_2 : decode cX7_entry 2 = .ok (.invokevirtual 76, 3) := by decide +kernel
theorem dX7_entry_5 : decode cX7_entry 5 = .ok (.ifCond .eq 19, 3) := by decide +kernel
theorem dX7_entry_8 : decode cX7_entry 8 = .ok (.aload_n 0, 1) := by decide +kernel
theorem dX7_entry_9 : decode cX7_entry 9 = .ok (.iload_n 2, 1) := by decide +kernel
theorem dX7_entry_10 : decode cX7_entry 10 = .ok (.invokevirtual 41, 3) := by decide +kernel
theorem dX7_entry_13 : decode cX7_entry 13 = .ok (.ifCond .eq 11, 3) := by decide +kernel
theorem dX7_entry_16 : decode cX7_entry 16 = .ok (.aload_n 0, 1) := by decide +kernel
theorem dX7_entry_17 : decode cX7_entry 17 = .ok (.iload_n 3, 1) := by decide +kernel
theorem dX7_entry_18 : decode cX7_entry 18 = .ok (.invokevirtual 41, 3) := by decide +kernel
theorem dX7_entry_21 : decode cX7_entry 21 = .ok (.ifCond .ne 7, 3) := by decide +kernel
theorem dX7_entry_24 : decode cX7_entry 24 = .ok (.sipush (-10001), 3) := by decide +kernel
theorem dX7_entry_27 : decode cX7_entry 27 = .ok (.ireturn, 1) := by decide +kernel
theorem dX7_entry_28 : decode cX7_entry 28 = .ok (.aload_n 0, 1) := by decide +kernel
theorem dX7_entry_29 : decode cX7_entry 29 = .ok (.getfield 17, 3) := by decide +kernel
theorem dX7_entry_32 : decode cX7_entry 32 = .ok (.iload_n 1, 1) := by decide +kernel
theorem dX7_entry_33 : decode cX7_entry 33 = .ok (.aaload, 1) := by decide +kernel
theorem dX7_entry_34 : decode cX7_entry 34 = .ok (.getfield 102, 3) := by decide +kernel
theorem dX7_entry_37 : decode cX7_entry 37 = .ok (.getfield 197, 3) := by decide +kernel
theorem dX7_entry_40 : decode cX7_entry 40 = .ok (.iload_n 2, 1) := by decide +kernel
theorem dX7_entry_41 : decode cX7_entry 41 = .ok (.aaload, 1) := by decide +kernel
theorem dX7_entry_42 : decode cX7_entry 42 = .ok (.getfield 192, 3) := by decide +kernel
theorem dX7_entry_45 : decode cX7_entry 45 = .ok (.iload_n 3, 1) := by decide +kernel
theorem dX7_entry_46 : decode cX7_entry 46 = .ok (.iaload, 1) := by decide +kernel
theorem dX7_entry_47 : decode cX7_entry 47 = .ok (.ireturn, 1) := by decide +kernel
theorem dX7_content_0 : decode cX7_content 0 = .ok (.aload_n 0, 1) := by decide +kernel
theorem dX7_content_1 : decode cX7_content 1 = .ok (.iload_n 1, 1) := by decide +kernel
theorem dX7_content_2 : decode cX7_content 2 = .ok (.invokevirtual 76, 3) := by decide +kernel
theorem dX7_content_5 : decode cX7_content 5 = .ok (.ifCond .eq 11, 3) := by decide +kernel
theorem dX7_content_8 : decode cX7_content 8 = .ok (.aload_n 0, 1) := by decide +kernel
theorem dX7_content_9 : decode cX7_content 9 = .ok (.iload_n 2, 1) := by decide +kernel
theorem dX7_content_10 : decode cX7_content 10 = .ok (.invokevirtual 41, 3) := by decide +kernel
theorem dX7_content_13 : decode cX7_content 13 = .ok (.ifCond .ne 7, 3) := by decide +kernel
theorem dX7_content_16 : decode cX7_content 16 = .ok (.sipush (-10001), 3) := by decide +kernel
theorem dX7_content_19 : decode cX7_content 19 = .ok (.ireturn, 1) := by decide +kernel
theorem dX7_content_20 : decode cX7_content 20 = .ok (.aload_n 0, 1) := by decide +kernel
theorem dX7_content_21 : decode cX7_content 21 = .ok (.getfield 17, 3) := by decide +kernel
theorem dX7_content_24 : decode cX7_content 24 = .ok (.iload_n 1, 1) := by decide +kernel
theorem dX7_content_25 : decode cX7_content 25 = .ok (.aaload, 1) := by decide +kernel
theorem dX7_content_26 : decode cX7_content 26 = .ok (.getfield 102, 3) := by decide +kernel
theorem dX7_content_29 : decode cX7_content 29 = .ok (.getfield 56, 3) := by decide +kernel
theorem dX7_content_32 : decode cX7_content 32 = .ok (.iload_n 2, 1) := by decide +kernel
theorem dX7_content_33 : decode cX7_content 33 = .ok (.iaload, 1) := by decide +kernel
theorem dX7_content_34 : decode cX7_content 34 = .ok (.ireturn, 1) := by decide +kernel
theorem dX7_view_0 : decode cX7_view 0 = .ok (.aload_n 0, 1) := by decide +kernel
theorem dX7_view_1 : decode cX7_view 1 = .ok (.iload_n 1, 1) := by decide +kernel
theorem dX7_view_2 : decode cX7_view 2 = .ok (.invokevirtual 76, 3) := by decide +kernel
theorem dX7_view_5 : decode cX7_view 5 = .ok (.ifCond .ne 7, 3) := by decide +kernel
theorem dX7_view_8 : decode cX7_view 8 = .ok (.sipush (-10001), 3) := by decide +kernel
theorem dX7_view_11 : decode cX7_view 11 = .ok (.ireturn, 1) := by decide +kernel
theorem dX7_view_12 : decode cX7_view 12 = .ok (.aload_n 0, 1) := by decide +kernel
theorem dX7_view_13 : decode cX7_view 13 = .ok (.getfield 17, 3) := by decide +kernel
theorem dX7_view_16 : decode cX7_view 16 = .ok (.iload_n 1, 1) := by decide +kernel
theorem dX7_view_17 : decode cX7_view 17 = .ok (.aaload, 1) := by decide +kernel
theorem dX7_view_18 : decode cX7_view 18 = .ok (.getfield 102, 3) := by decide +kernel
theorem dX7_view_21 : decode cX7_view 21 = .ok (.astore_n 3, 1) := by decide +kernel
theorem dX7_view_22 : decode cX7_view 22 = .ok (.iload_n 2, 1) := by decide +kernel
theorem dX7_view_23 : decode cX7_view 23 = .ok (.tableswitch 82 0 3 #[29, 35, 45, 61], 29) := by decide +kernel
theorem dX7_view_52 : decode cX7_view 52 = .ok (.aload_n 0, 1) := by decide +kernel
theorem dX7_view_53 : decode cX7_view 53 = .ok (.iload_n 1, 1) := by decide +kernel
theorem dX7_view_54 : decode cX7_view 54 = .ok (.invokevirtual 79, 3) := by decide +kernel
theorem dX7_view_57 : decode cX7_view 57 = .ok (.ireturn, 1) := by decide +kernel
theorem dX7_view_58 : decode cX7_view 58 = .ok (.aload_n 0, 1) := by decide +kernel
theorem dX7_view_59 : decode cX7_view 59 = .ok (.getfield 17, 3) := by decide +kernel
theorem dX7_view_62 : decode cX7_view 62 = .ok (.iload_n 1, 1) := by decide +kernel
theorem dX7_view_63 : decode cX7_view 63 = .ok (.aaload, 1) := by decide +kernel
theorem dX7_view_64 : decode cX7_view 64 = .ok (.getfield 93, 3) := by decide +kernel
theorem dX7_view_67 : decode cX7_view 67 = .ok (.ireturn, 1) := by decide +kernel
theorem dX7_view_68 : decode cX7_view 68 = .ok (.aload_n 3, 1) := by decide +kernel
theorem dX7_view_69 : decode cX7_view 69 = .ok (.invokevirtual 200, 3) := by decide +kernel
theorem dX7_view_72 : decode cX7_view 72 = .ok (.ifCond .ne 7, 3) := by decide +kernel
theorem dX7_view_75 : decode cX7_view 75 = .ok (.iconst 1, 1) := by decide +kernel
theorem dX7_view_76 : decode cX7_view 76 = .ok (.goto 4, 3) := by decide +kernel
theorem dX7_view_79 : decode cX7_view 79 = .ok (.iconst 0, 1) := by decide +kernel
theorem dX7_view_80 : decode cX7_view 80 = .ok (.invokestatic 166, 3) := by decide +kernel
theorem dX7_view_83 : decode cX7_view 83 = .ok (.ireturn, 1) := by decide +kernel
theorem dX7_view_84 : decode cX7_view 84 = .ok (.aload_n 3, 1) := by decide +kernel
theorem dX7_view_85 : decode cX7_view 85 = .ok (.invokevirtual 200, 3) := by decide +kernel
theorem dX7_view_88 : decode cX7_view 88 = .ok (.ifCond .eq 9, 3) := by decide +kernel
theorem dX7_view_91 : decode cX7_view 91 = .ok (.sipush (-10005), 3) := by decide +kernel
theorem dX7_view_94 : decode cX7_view 94 = .ok (.goto 10, 3) := by decide +kernel
theorem dX7_view_97 : decode cX7_view 97 = .ok (.aload_n 3, 1) := by decide +kernel
theorem dX7_view_98 : decode cX7_view 98 = .ok (.invokevirtual 204, 3) := by decide +kernel
theorem dX7_view_101 : decode cX7_view 101 = .ok (.invokevirtual 208, 3) := by decide +kernel
theorem dX7_view_104 : decode cX7_view 104 = .ok (.ireturn, 1) := by decide +kernel
theorem dX7_view_105 : decode cX7_view 105 = .ok (.sipush (-10002), 3) := by decide +kernel
theorem dX7_view_108 : decode cX7_view 108 = .ok (.ireturn, 1) := by decide +kernel
theorem dX7_compare_0 : decode cX7_compare 0 = .ok (.aload_n 0, 1) := by decide +kernel
theorem dX7_compare_1 : decode cX7_compare 1 = .ok (.iload_n 1, 1) := by decide +kernel
theorem dX7_compare_2 : decode cX7_compare 2 = .ok (.invokevirtual 41, 3) := by decide +kernel
theorem dX7_compare_5 : decode cX7_compare 5 = .ok (.ifCond .eq 11, 3) := by decide +kernel
theorem dX7_compare_8 : decode cX7_compare 8 = .ok (.aload_n 0, 1) := by decide +kernel
theorem dX7_compare_9 : decode cX7_compare 9 = .ok (.iload_n 2, 1) := by decide +kernel
theorem dX7_compare_10 : decode cX7_compare 10 = .ok (.invokevirtual 41, 3) := by decide +kernel
theorem dX7_compare_13 : decode cX7_compare 13 = .ok (.ifCond .ne 7, 3) := by decide +kernel
theorem dX7_compare_16 : decode cX7_compare 16 = .ok (.sipush (-10001), 3) := by decide +kernel
theorem dX7_compare_19 : decode cX7_compare 19 = .ok (.ireturn, 1) := by decide +kernel
theorem dX7_compare_20 : decode cX7_compare 20 = .ok (.iload_n 3, 1) := by decide +kernel
theorem dX7_compare_21 : decode cX7_compare 21 = .ok (.ifCond .eq 25, 3) := by decide +kernel
theorem dX7_compare_24 : decode cX7_compare 24 = .ok (.aload_n 0, 1) := by decide +kernel
theorem dX7_compare_25 : decode cX7_compare 25 = .ok (.getfield 11, 3) := by decide +kernel
theorem dX7_compare_28 : decode cX7_compare 28 = .ok (.iload_n 1, 1) := by decide +kernel
theorem dX7_compare_29 : decode cX7_compare 29 = .ok (.aaload, 1) := by decide +kernel
theorem dX7_compare_30 : decode cX7_compare 30 = .ok (.getfield 119, 3) := by decide +kernel
theorem dX7_compare_33 : decode cX7_compare 33 = .ok (.aload_n 0, 1) := by decide +kernel
theorem dX7_compare_34 : decode cX7_compare 34 = .ok (.getfield 11, 3) := by decide +kernel
theorem dX7_compare_37 : decode cX7_compare 37 = .ok (.iload_n 2, 1) := by decide +kernel
theorem dX7_compare_38 : decode cX7_compare 38 = .ok (.aaload, 1) := by decide +kernel
theorem dX7_compare_39 : decode cX7_compare 39 = .ok (.getfield 119, 3) := by decide +kernel
theorem dX7_compare_42 : decode cX7_compare 42 = .ok (.invokevirtual 211, 3) := by decide +kernel
theorem dX7_compare_45 : decode cX7_compare 45 = .ok (.ireturn, 1) := by decide +kernel
theorem dX7_compare_46 : decode cX7_compare 46 = .ok (.aload_n 0, 1) := by decide +kernel
theorem dX7_compare_47 : decode cX7_compare 47 = .ok (.getfield 11, 3) := by decide +kernel
theorem dX7_compare_50 : decode cX7_compare 50 = .ok (.iload_n 1, 1) := by decide +kernel
theorem dX7_compare_51 : decode cX7_compare 51 = .ok (.aaload, 1) := by decide +kernel
theorem dX7_compare_52 : decode cX7_compare 52 = .ok (.getfield 189, 3) := by decide +kernel
theorem dX7_compare_55 : decode cX7_compare 55 = .ok (.aload_n 0, 1) := by decide +kernel
theorem dX7_compare_56 : decode cX7_compare 56 = .ok (.getfield 11, 3) := by decide +kernel
theorem dX7_compare_59 : decode cX7_compare 59 = .ok (.iload_n 2, 1) := by decide +kernel
theorem dX7_compare_60 : decode cX7_compare 60 = .ok (.aaload, 1) := by decide +kernel
theorem dX7_compare_61 : decode cX7_compare 61 = .ok (.getfield 189, 3) := by decide +kernel
theorem dX7_compare_64 : decode cX7_compare 64 = .ok (.invokevirtual 211, 3) := by decide +kernel
theorem dX7_compare_67 : decode cX7_compare 67 = .ok (.ireturn, 1) := by decide +kernel
theorem dX7_forkedPairs_0 : decode cX7_forkedPairs 0 = .ok (.iconst 0, 1) := by decide +kernel
theorem dX7_forkedPairs_1 : decode cX7_forkedPairs 1 = .ok (.istore_n 1, 1) := by decide +kernel
theorem dX7_forkedPairs_2 : decode cX7_forkedPairs 2 = .ok (.iconst 0, 1) := by decide +kernel
theorem dX7_forkedPairs_3 : decode cX7_forkedPairs 3 = .ok (.istore_n 2, 1) := by decide +kernel
theorem dX7_forkedPairs_4 : decode cX7_forkedPairs 4 = .ok (.iload_n 2, 1) := by decide +kernel
theorem dX7_forkedPairs_5 : decode cX7_forkedPairs 5 = .ok (.aload_n 0, 1) := by decide +kernel
theorem dX7_forkedPairs_6 : decode cX7_forkedPairs 6 = .ok (.getfield 28, 3) := by decide +kernel
theorem dX7_forkedPairs_9 : decode cX7_forkedPairs 9 = .ok (.if_icmp .ge 39, 3) := by decide +kernel
theorem dX7_forkedPairs_12 : decode cX7_forkedPairs 12 = .ok (.iload_n 2, 1) := by decide +kernel
theorem dX7_forkedPairs_13 : decode cX7_forkedPairs 13 = .ok (.iconst 1, 1) := by decide +kernel
theorem dX7_forkedPairs_14 : decode cX7_forkedPairs 14 = .ok (.iadd, 1) := by decide +kernel
theorem dX7_forkedPairs_15 : decode cX7_forkedPairs 15 = .ok (.istore_n 3, 1) := by decide +kernel
theorem dX7_forkedPairs_16 : decode cX7_forkedPairs 16 = .ok (.iload_n 3, 1) := by decide +kernel
theorem dX7_forkedPairs_17 : decode cX7_forkedPairs 17 = .ok (.aload_n 0, 1) := by decide +kernel
theorem dX7_forkedPairs_18 : decode cX7_forkedPairs 18 = .ok (.getfield 28, 3) := by decide +kernel
theorem dX7_forkedPairs_21 : decode cX7_forkedPairs 21 = .ok (.if_icmp .ge 21, 3) := by decide +kernel
theorem dX7_forkedPairs_24 : decode cX7_forkedPairs 24 = .ok (.aload_n 0, 1) := by decide +kernel
theorem dX7_forkedPairs_25 : decode cX7_forkedPairs 25 = .ok (.iload_n 2, 1) := by decide +kernel
theorem dX7_forkedPairs_26 : decode cX7_forkedPairs 26 = .ok (.iload_n 3, 1) := by decide +kernel
theorem dX7_forkedPairs_27 : decode cX7_forkedPairs 27 = .ok (.invokevirtual 214, 3) := by decide +kernel
theorem dX7_forkedPairs_30 : decode cX7_forkedPairs 30 = .ok (.ifCond .eq 6, 3) := by decide +kernel
theorem dX7_forkedPairs_33 : decode cX7_forkedPairs 33 = .ok (.iinc 1 1, 3) := by decide +kernel
theorem dX7_forkedPairs_36 : decode cX7_forkedPairs 36 = .ok (.iinc 3 1, 3) := by decide +kernel
theorem dX7_forkedPairs_39 : decode cX7_forkedPairs 39 = .ok (.goto (-23), 3) := by decide +kernel
theorem dX7_forkedPairs_42 : decode cX7_forkedPairs 42 = .ok (.iinc 2 1, 3) := by decide +kernel
theorem dX7_forkedPairs_45 : decode cX7_forkedPairs 45 = .ok (.goto (-41), 3) := by decide +kernel
theorem dX7_forkedPairs_48 : decode cX7_forkedPairs 48 = .ok (.iload_n 1, 1) := by decide +kernel
theorem dX7_forkedPairs_49 : decode cX7_forkedPairs 49 = .ok (.ireturn, 1) := by decide +kernel
theorem dX7_tellingLetter_0 : decode cX7_tellingLetter 0 = .ok (.iconst 0, 1) := by decide +kernel
theorem dX7_tellingLetter_1 : decode cX7_tellingLetter 1 = .ok (.istore_n 1, 1) := by decide +kernel
theorem dX7_tellingLetter_2 : decode cX7_tellingLetter 2 = .ok (.iload_n 1, 1) := by decide +kernel
theorem dX7_tellingLetter_3 : decode cX7_tellingLetter 3 = .ok (.aload_n 0, 1) := by decide +kernel
theorem dX7_tellingLetter_4 : decode cX7_tellingLetter 4 = .ok (.getfield 28, 3) := by decide +kernel
theorem dX7_tellingLetter_7 : decode cX7_tellingLetter 7 = .ok (.if_icmp .ge 53, 3) := by decide +kernel
theorem dX7_tellingLetter_10 : decode cX7_tellingLetter 10 = .ok (.iconst 0, 1) := by decide +kernel
theorem dX7_tellingLetter_11 : decode cX7_tellingLetter 11 = .ok (.istore_n 2, 1) := by decide +kernel
theorem dX7_tellingLetter_12 : decode cX7_tellingLetter 12 = .ok (.iload_n 2, 1) := by decide +kernel
theorem dX7_tellingLetter_13 : decode cX7_tellingLetter 13 = .ok (.aload_n 0, 1) := by decide +kernel
theorem dX7_tellingLetter_14 : decode cX7_tellingLetter 14 = .ok (.getfield 28, 3) := by decide +kernel
theorem dX7_tellingLetter_17 : decode cX7_tellingLetter 17 = .ok (.if_icmp .ge 37, 3) := by decide +kernel
theorem dX7_tellingLetter_20 : decode cX7_tellingLetter 20 = .ok (.aload_n 0, 1) := by decide +kernel
theorem dX7_tellingLetter_21 : decode cX7_tellingLetter 21 = .ok (.getfield 11, 3) := by decide +kernel
theorem dX7_tellingLetter_24 : decode cX7_tellingLetter 24 = .ok (.iload_n 2, 1) := by decide +kernel
theorem dX7_tellingLetter_25 : decode cX7_tellingLetter 25 = .ok (.aaload, 1) := by decide +kernel
theorem dX7_tellingLetter_26 : decode cX7_tellingLetter 26 = .ok (.getfield 45, 3) := by decide +kernel
theorem dX7_tellingLetter_29 : decode cX7_tellingLetter 29 = .ok (.ifCond .ne 19, 3) := by decide +kernel
theorem dX7_tellingLetter_32 : decode cX7_tellingLetter 32 = .ok (.aload_n 0, 1) := by decide +kernel
theorem dX7_tellingLetter_33 : decode cX7_tellingLetter 33 = .ok (.iload_n 1, 1) := by decide +kernel
theorem dX7_tellingLetter_34 : decode cX7_tellingLetter 34 = .ok (.iload_n 2, 1) := by decide +kernel
theorem dX7_tellingLetter_35 : decode cX7_tellingLetter 35 = .ok (.invokevirtual 214, 3) := by decide +kernel
theorem dX7_tellingLetter_38 : decode cX7_tellingLetter 38 = .ok (.ifCond .eq 10, 3) := by decide +kernel
theorem dX7_tellingLetter_41 : decode cX7_tellingLetter 41 = .ok (.bipush 10, 2) := by decide +kernel
theorem dX7_tellingLetter_43 : decode cX7_tellingLetter 43 = .ok (.iload_n 1, 1) := by decide +kernel
theorem dX7_tellingLetter_44 : decode cX7_tellingLetter 44 = .ok (.imul, 1) := by decide +kernel
theorem dX7_tellingLetter_45 : decode cX7_tellingLetter 45 = .ok (.iload_n 2, 1) := by decide +kernel
theorem dX7_tellingLetter_46 : decode cX7_tellingLetter 46 = .ok (.iadd, 1) := by decide +kernel
theorem dX7_tellingLetter_47 : decode cX7_tellingLetter 47 = .ok (.ireturn, 1) := by decide +kernel
theorem dX7_tellingLetter_48 : decode cX7_tellingLetter 48 = .ok (.iinc 2 1, 3) := by decide +kernel
theorem dX7_tellingLetter_51 : decode cX7_tellingLetter 51 = .ok (.goto (-39), 3) := by decide +kernel
theorem dX7_tellingLetter_54 : decode cX7_tellingLetter 54 = .ok (.iinc 1 1, 3) := by decide +kernel
theorem dX7_tellingLetter_57 : decode cX7_tellingLetter 57 = .ok (.goto (-55), 3) := by decide +kernel
theorem dX7_tellingLetter_60 : decode cX7_tellingLetter 60 = .ok (.sipush (-10005), 3) := by decide +kernel
theorem dX7_tellingLetter_63 : decode cX7_tellingLetter 63 = .ok (.ireturn, 1) := by decide +kernel
theorem dX7_unaware_0 : decode cX7_unaware 0 = .ok (.iconst 0, 1) := by decide +kernel
theorem dX7_unaware_1 : decode cX7_unaware 1 = .ok (.istore_n 1, 1) := by decide +kernel
theorem dX7_unaware_2 : decode cX7_unaware 2 = .ok (.iconst 0, 1) := by decide +kernel
theorem dX7_unaware_3 : decode cX7_unaware 3 = .ok (.istore_n 2, 1) := by decide +kernel
theorem dX7_unaware_4 : decode cX7_unaware 4 = .ok (.iload_n 2, 1) := by decide +kernel
theorem dX7_unaware_5 : decode cX7_unaware 5 = .ok (.aload_n 0, 1) := by decide +kernel
theorem dX7_unaware_6 : decode cX7_unaware 6 = .ok (.getfield 28, 3) := by decide +kernel
theorem dX7_unaware_9 : decode cX7_unaware 9 = .ok (.if_icmp .ge 23, 3) := by decide +kernel
theorem dX7_unaware_12 : decode cX7_unaware 12 = .ok (.aload_n 0, 1) := by decide +kernel
theorem dX7_unaware_13 : decode cX7_unaware 13 = .ok (.iload_n 2, 1) := by decide +kernel
theorem dX7_unaware_14 : decode cX7_unaware 14 = .ok (.invokevirtual 217, 3) := by decide +kernel
theorem dX7_unaware_17 : decode cX7_unaware 17 = .ok (.ifCond .eq 9, 3) := by decide +kernel
theorem dX7_unaware_20 : decode cX7_unaware 20 = .ok (.iload_n 1, 1) := by decide +kernel
theorem dX7_unaware_21 : decode cX7_unaware 21 = .ok (.iconst 1, 1) := by decide +kernel
theorem dX7_unaware_22 : decode cX7_unaware 22 = .ok (.iload_n 2, 1) := by decide +kernel
theorem dX7_unaware_23 : decode cX7_unaware 23 = .ok (.ishl, 1) := by decide +kernel
theorem dX7_unaware_24 : decode cX7_unaware 24 = .ok (.ior, 1) := by decide +kernel
theorem dX7_unaware_25 : decode cX7_unaware 25 = .ok (.istore_n 1, 1) := by decide +kernel
theorem dX7_unaware_26 : decode cX7_unaware 26 = .ok (.iinc 2 1, 3) := by decide +kernel
theorem dX7_unaware_29 : decode cX7_unaware 29 = .ok (.goto (-25), 3) := by decide +kernel
theorem dX7_unaware_32 : decode cX7_unaware 32 = .ok (.iload_n 1, 1) := by decide +kernel
theorem dX7_unaware_33 : decode cX7_unaware 33 = .ok (.ireturn, 1) := by decide +kernel
theorem dX7_type_0 : decode cX7_type 0 = .ok (.aload_n 0, 1) := by decide +kernel
theorem dX7_type_1 : decode cX7_type 1 = .ok (.getfield 24, 3) := by decide +kernel
theorem dX7_type_4 : decode cX7_type 4 = .ok (.getfield 220, 3) := by decide +kernel
theorem dX7_type_7 : decode cX7_type 7 = .ok (.bipush 60, 2) := by decide +kernel
theorem dX7_type_9 : decode cX7_type 9 = .ok (.if_icmp .lt 7, 3) := by decide +kernel
theorem dX7_type_12 : decode cX7_type 12 = .ok (.sipush (-10004), 3) := by decide +kernel
theorem dX7_type_15 : decode cX7_type 15 = .ok (.ireturn, 1) := by decide +kernel
theorem dX7_type_16 : decode cX7_type 16 = .ok (.aload_n 0, 1) := by decide +kernel
theorem dX7_type_17 : decode cX7_type 17 = .ok (.getfield 24, 3) := by decide +kernel
theorem dX7_type_20 : decode cX7_type 20 = .ok (.iload_n 1, 1) := by decide +kernel
theorem dX7_type_21 : decode cX7_type 21 = .ok (.invokevirtual 223, 3) := by decide +kernel
theorem dX7_type_24 : decode cX7_type 24 = .ok (.aload_n 0, 1) := by decide +kernel
theorem dX7_type_25 : decode cX7_type 25 = .ok (.getfield 24, 3) := by decide +kernel
theorem dX7_type_28 : decode cX7_type 28 = .ok (.getfield 220, 3) := by decide +kernel
theorem dX7_type_31 : decode cX7_type 31 = .ok (.ireturn, 1) := by decide +kernel
theorem dX7_clearText_0 : decode cX7_clearText 0 = .ok (.aload_n 0, 1) := by decide +kernel
theorem dX7_clearText_1 : decode cX7_clearText 1 = .ok (.getfield 24, 3) := by decide +kernel
theorem dX7_clearText_4 : decode cX7_clearText 4 = .ok (.getfield 220, 3) := by decide +kernel
theorem dX7_clearText_7 : decode cX7_clearText 7 = .ok (.istore_n 1, 1) := by decide +kernel
theorem dX7_clearText_8 : decode cX7_clearText 8 = .ok (.aload_n 0, 1) := by decide +kernel
theorem dX7_clearText_9 : decode cX7_clearText 9 = .ok (.getfield 24, 3) := by decide +kernel
theorem dX7_clearText_12 : decode cX7_clearText 12 = .ok (.iconst 0, 1) := by decide +kernel
theorem dX7_clearText_13 : decode cX7_clearText 13 = .ok (.putfield 220, 3) := by decide +kernel
theorem dX7_clearText_16 : decode cX7_clearText 16 = .ok (.iload_n 1, 1) := by decide +kernel
theorem dX7_clearText_17 : decode cX7_clearText 17 = .ok (.ireturn, 1) := by decide +kernel
theorem dX7_run_0 : decode cX7_run 0 = .ok (.aload_n 0, 1) := by decide +kernel
theorem dX7_run_1 : decode cX7_run 1 = .ok (.getfield 24, 3) := by decide +kernel
theorem dX7_run_4 : decode cX7_run 4 = .ok (.invokevirtual 227, 3) := by decide +kernel
theorem dX7_run_7 : decode cX7_run 7 = .ok (.istore_n 1, 1) := by decide +kernel
theorem dX7_run_8 : decode cX7_run 8 = .ok (.iload_n 1, 1) := by decide +kernel
theorem dX7_run_9 : decode cX7_run 9 = .ok (.iconst (-1), 1) := by decide +kernel
theorem dX7_run_10 : decode cX7_run 10 = .ok (.if_icmp .eq 8, 3) := by decide +kernel
theorem dX7_run_13 : decode cX7_run 13 = .ok (.bipush (-100), 2) := by decide +kernel
theorem dX7_run_15 : decode cX7_run 15 = .ok (.iload_n 1, 1) := by decide +kernel
theorem dX7_run_16 : decode cX7_run 16 = .ok (.isub, 1) := by decide +kernel
theorem dX7_run_17 : decode cX7_run 17 = .ok (.ireturn, 1) := by decide +kernel
theorem dX7_run_18 : decode cX7_run 18 = .ok (.iconst 0, 1) := by decide +kernel
theorem dX7_run_19 : decode cX7_run 19 = .ok (.istore_n 2, 1) := by decide +kernel
theorem dX7_run_20 : decode cX7_run 20 = .ok (.iconst 0, 1) := by decide +kernel
theorem dX7_run_21 : decode cX7_run 21 = .ok (.istore_n 3, 1) := by decide +kernel
theorem dX7_run_22 : decode cX7_run 22 = .ok (.iload_n 3, 1) := by decide +kernel
theorem dX7_run_23 : decode cX7_run 23 = .ok (.iconst 3, 1) := by decide +kernel
theorem dX7_run_24 : decode cX7_run 24 = .ok (.iadd, 1) := by decide +kernel
theorem dX7_run_25 : decode cX7_run 25 = .ok (.aload_n 0, 1) := by decide +kernel
theorem dX7_run_26 : decode cX7_run 26 = .ok (.getfield 24, 3) := by decide +kernel
theorem dX7_run_29 : decode cX7_run 29 = .ok (.getfield 220, 3) := by decide +kernel
theorem dX7_run_32 : decode cX7_run 32 = .ok (.if_icmp .gt 50, 3) := by decide +kernel
theorem dX7_run_35 : decode cX7_run 35 = .ok (.aload_n 0, 1) := by decide +kernel
theorem dX7_run_36 : decode cX7_run 36 = .ok (.aload_n 0, 1) := by decide +kernel
theorem dX7_run_37 : decode cX7_run 37 = .ok (.getfield 24, 3) := by decide +kernel
theorem dX7_run_40 : decode cX7_run 40 = .ok (.getfield 230, 3) := by decide +kernel
theorem dX7_run_43 : decode cX7_run 43 = .ok (.iload_n 3, 1) := by decide +kernel
theorem dX7_run_44 : decode cX7_run 44 = .ok (.iaload, 1) := by decide +kernel
theorem dX7_run_45 : decode cX7_run 45 = .ok (.aload_n 0, 1) := by decide +kernel
theorem dX7_run_46 : decode cX7_run 46 = .ok (.getfield 24, 3) := by decide +kernel
theorem dX7_run_49 : decode cX7_run 49 = .ok (.iload_n 3, 1) := by decide +kernel
theorem dX7_run_50 : decode cX7_run 50 = .ok (.iconst 1, 1) := by decide +kernel
theorem dX7_run_51 : decode cX7_run 51 = .ok (.iadd, 1) := by decide +kernel
theorem dX7_run_52 : decode cX7_run 52 = .ok (.invokevirtual 233, 3) := by decide +kernel
theorem dX7_run_55 : decode cX7_run 55 = .ok (.aload_n 0, 1) := by decide +kernel
theorem dX7_run_56 : decode cX7_run 56 = .ok (.getfield 24, 3) := by decide +kernel
theorem dX7_run_59 : decode cX7_run 59 = .ok (.iload_n 3, 1) := by decide +kernel
theorem dX7_run_60 : decode cX7_run 60 = .ok (.iconst 2, 1) := by decide +kernel
theorem dX7_run_61 : decode cX7_run 61 = .ok (.iadd, 1) := by decide +kernel
theorem dX7_run_62 : decode cX7_run 62 = .ok (.invokevirtual 233, 3) := by decide +kernel
theorem dX7_run_65 : decode cX7_run 65 = .ok (.invokevirtual 236, 3) := by decide +kernel
theorem dX7_run_68 : decode cX7_run 68 = .ok (.ifCond .ne 5, 3) := by decide +kernel
theorem dX7_run_71 : decode cX7_run 71 = .ok (.iload_n 2, 1) := by decide +kernel
theorem dX7_run_72 : decode cX7_run 72 = .ok (.ireturn, 1) := by decide +kernel
theorem dX7_run_73 : decode cX7_run 73 = .ok (.iinc 2 1, 3) := by decide +kernel
theorem dX7_run_76 : decode cX7_run 76 = .ok (.iinc 3 3, 3) := by decide +kernel
theorem dX7_run_79 : decode cX7_run 79 = .ok (.goto (-57), 3) := by decide +kernel
theorem dX7_run_82 : decode cX7_run 82 = .ok (.iload_n 2, 1) := by decide +kernel
theorem dX7_run_83 : decode cX7_run 83 = .ok (.ireturn, 1) := by decide +kernel
theorem dX7_isUser_0 : decode cX7_isUser 0 = .ok (.iload_n 1, 1) := by decide +kernel
theorem dX7_isUser_1 : decode cX7_isUser 1 = .ok (.ifCond .lt 15, 3) := by decide +kernel
theorem dX7_isUser_4 : decode cX7_isUser 4 = .ok (.iload_n 1, 1) := by decide +kernel
theorem dX7_isUser_5 : decode cX7_isUser 5 = .ok (.aload_n 0, 1) := by decide +kernel
theorem dX7_isUser_6 : decode cX7_isUser 6 = .ok (.getfield 28, 3) := by decide +kernel
theorem dX7_isUser_9 : decode cX7_isUser 9 = .ok (.if_icmp .ge 7, 3) := by decide +kernel
theorem dX7_isUser_12 : decode cX7_isUser 12 = .ok (.iconst 1, 1) := by decide +kernel
theorem dX7_isUser_13 : decode cX7_isUser 13 = .ok (.goto 4, 3) := by decide +kernel
theorem dX7_isUser_16 : decode cX7_isUser 16 = .ok (.iconst 0, 1) := by decide +kernel
theorem dX7_isUser_17 : decode cX7_isUser 17 = .ok (.ireturn, 1) := by decide +kernel
theorem dX7_isView_0 : decode cX7_isView 0 = .ok (.iload_n 1, 1) := by decide +kernel
theorem dX7_isView_1 : decode cX7_isView 1 = .ok (.ifCond .lt 15, 3) := by decide +kernel
theorem dX7_isView_4 : decode cX7_isView 4 = .ok (.iload_n 1, 1) := by decide +kernel
theorem dX7_isView_5 : decode cX7_isView 5 = .ok (.aload_n 0, 1) := by decide +kernel
theorem dX7_isView_6 : decode cX7_isView 6 = .ok (.getfield 32, 3) := by decide +kernel
theorem dX7_isView_9 : decode cX7_isView 9 = .ok (.if_icmp .ge 7, 3) := by decide +kernel
theorem dX7_isView_12 : decode cX7_isView 12 = .ok (.iconst 1, 1) := by decide +kernel
theorem dX7_isView_13 : decode cX7_isView 13 = .ok (.goto 4, 3) := by decide +kernel
theorem dX7_isView_16 : decode cX7_isView 16 = .ok (.iconst 0, 1) := by decide +kernel
theorem dX7_isView_17 : decode cX7_isView 17 = .ok (.ireturn, 1) := by decide +kernel
theorem dX7_contains_0 : decode cX7_contains 0 = .ok (.iload_n 0, 1) := by decide +kernel
theorem dX7_contains_1 : decode cX7_contains 1 = .ok (.iload_n 1, 1) := by decide +kernel
theorem dX7_contains_2 : decode cX7_contains 2 = .ok (.ishr, 1) := by decide +kernel
theorem dX7_contains_3 : decode cX7_contains 3 = .ok (.iconst 1, 1) := by decide +kernel
theorem dX7_contains_4 : decode cX7_contains 4 = .ok (.iand, 1) := by decide +kernel
theorem dX7_contains_5 : decode cX7_contains 5 = .ok (.iconst 1, 1) := by decide +kernel
theorem dX7_contains_6 : decode cX7_contains 6 = .ok (.if_icmp .ne 7, 3) := by decide +kernel
theorem dX7_contains_9 : decode cX7_contains 9 = .ok (.iconst 1, 1) := by decide +kernel
theorem dX7_contains_10 : decode cX7_contains 10 = .ok (.goto 4, 3) := by decide +kernel
theorem dX7_contains_13 : decode cX7_contains 13 = .ok (.iconst 0, 1) := by decide +kernel
theorem dX7_contains_14 : decode cX7_contains 14 = .ok (.ireturn, 1) := by decide +kernel
theorem dX7_oneIf_0 : decode cX7_oneIf 0 = .ok (.iload_n 0, 1) := by decide +kernel
theorem dX7_oneIf_1 : decode cX7_oneIf 1 = .ok (.ifCond .eq 7, 3) := by decide +kernel
theorem dX7_oneIf_4 : decode cX7_oneIf 4 = .ok (.iconst 1, 1) := by decide +kernel
theorem dX7_oneIf_5 : decode cX7_oneIf 5 = .ok (.goto 4, 3) := by decide +kernel
theorem dX7_oneIf_8 : decode cX7_oneIf 8 = .ok (.iconst 0, 1) := by decide +kernel
theorem dX7_oneIf_9 : decode cX7_oneIf 9 = .ok (.ireturn, 1) := by decide +kernel
theorem dX7_entriesShownTo_0 : decode cX7_entriesShownTo 0 = .ok (.aload_n 0, 1) := by decide +kernel
theorem dX7_entriesShownTo_1 : decode cX7_entriesShownTo 1 = .ok (.getfield 17, 3) := by decide +kernel
theorem dX7_entriesShownTo_4 : decode cX7_entriesShownTo 4 = .ok (.aload_n 0, 1) := by decide +kernel
theorem dX7_entriesShownTo_5 : decode cX7_entriesShownTo 5 = .ok (.getfield 11, 3) := by decide +kernel
theorem dX7_entriesShownTo_8 : decode cX7_entriesShownTo 8 = .ok (.iload_n 1, 1) := by decide +kernel
theorem dX7_entriesShownTo_9 : decode cX7_entriesShownTo 9 = .ok (.aaload, 1) := by decide +kernel
theorem dX7_entriesShownTo_10 : decode cX7_entriesShownTo 10 = .ok (.getfield 90, 3) := by decide +kernel
theorem dX7_entriesShownTo_13 : decode cX7_entriesShownTo 13 = .ok (.aaload, 1) := by decide +kernel
theorem dX7_entriesShownTo_14 : decode cX7_entriesShownTo 14 = .ok (.getfield 102, 3) := by decide +kernel
theorem dX7_entriesShownTo_17 : decode cX7_entriesShownTo 17 = .ok (.areturn, 1) := by decide +kernel
theorem dX7_usersAttachedTo_0 : decode cX7_usersAttachedTo 0 = .ok (.iconst 0, 1) := by decide +kernel
theorem dX7_usersAttachedTo_1 : decode cX7_usersAttachedTo 1 = .ok (.istore_n 2, 1) := by decide +kernel
theorem dX7_usersAttachedTo_2 : decode cX7_usersAttachedTo 2 = .ok (.iconst 0, 1) := by decide +kernel
theorem dX7_usersAttachedTo_3 : decode cX7_usersAttachedTo 3 = .ok (.istore_n 3, 1) := by decide +kernel
theorem dX7_usersAttachedTo_4 : decode cX7_usersAttachedTo 4 = .ok (.iload_n 3, 1) := by decide +kernel
theorem dX7_usersAttachedTo_5 : decode cX7_usersAttachedTo 5 = .ok (.aload_n 0, 1) := by decide +kernel
theorem dX7_usersAttachedTo_6 : decode cX7_usersAttachedTo 6 = .ok (.getfield 28, 3) := by decide +kernel
theorem dX7_usersAttachedTo_9 : decode cX7_usersAttachedTo 9 = .ok (.if_icmp .ge 28, 3) := by decide +kernel
theorem dX7_usersAttachedTo_12 : decode cX7_usersAttachedTo 12 = .ok (.aload_n 0, 1) := by decide +kernel
theorem dX7_usersAttachedTo_13 : decode cX7_usersAttachedTo 13 = .ok (.getfield 11, 3) := by decide +kernel
theorem dX7_usersAttachedTo_16 : decode cX7_usersAttachedTo 16 = .ok (.iload_n 3, 1) := by decide +kernel
theorem dX7_usersAttachedTo_17 : decode cX7_usersAttachedTo 17 = .ok (.aaload, 1) := by decide +kernel
theorem dX7_usersAttachedTo_18 : decode cX7_usersAttachedTo 18 = .ok (.getfield 90, 3) := by decide +kernel
theorem dX7_usersAttachedTo_21 : decode cX7_usersAttachedTo 21 = .ok (.iload_n 1, 1) := by decide +kernel
theorem dX7_usersAttachedTo_22 : decode cX7_usersAttachedTo 22 = .ok (.if_icmp .ne 9, 3) := by decide +kernel
theorem dX7_usersAttachedTo_25 : decode cX7_usersAttachedTo 25 = .ok (.iload_n 2, 1) := by decide +kernel
theorem dX7_usersAttachedTo_26 : decode cX7_usersAttachedTo 26 = .ok (.iconst 1, 1) := by decide +kernel
theorem dX7_usersAttachedTo_27 : decode cX7_usersAttachedTo 27 = .ok (.iload_n 3, 1) := by decide +kernel
theorem dX7_usersAttachedTo_28 : decode cX7_usersAttachedTo 28 = .ok (.ishl, 1) := by decide +kernel
theorem dX7_usersAttachedTo_29 : decode cX7_usersAttachedTo 29 = .ok (.ior, 1) := by decide +kernel
theorem dX7_usersAttachedTo_30 : decode cX7_usersAttachedTo 30 = .ok (.istore_n 2, 1) := by decide +kernel
theorem dX7_usersAttachedTo_31 : decode cX7_usersAttachedTo 31 = .ok (.iinc 3 1, 3) := by decide +kernel
theorem dX7_usersAttachedTo_34 : decode cX7_usersAttachedTo 34 = .ok (.goto (-30), 3) := by decide +kernel
theorem dX7_usersAttachedTo_37 : decode cX7_usersAttachedTo 37 = .ok (.iload_n 2, 1) := by decide +kernel
theorem dX7_usersAttachedTo_38 : decode cX7_usersAttachedTo 38 = .ok (.ireturn, 1) := by decide +kernel
theorem dX7_alarmAhead_0 : decode cX7_alarmAhead 0 = .ok (.aload_n 0, 1) := by decide +kernel
theorem dX7_alarmAhead_1 : decode cX7_alarmAhead 1 = .ok (.getfield 11, 3) := by decide +kernel
theorem dX7_alarmAhead_4 : decode cX7_alarmAhead 4 = .ok (.iload_n 1, 1) := by decide +kernel
theorem dX7_alarmAhead_5 : decode cX7_alarmAhead 5 = .ok (.aaload, 1) := by decide +kernel
theorem dX7_alarmAhead_6 : decode cX7_alarmAhead 6 = .ok (.astore_n 2, 1) := by decide +kernel
theorem dX7_alarmAhead_7 : decode cX7_alarmAhead 7 = .ok (.aload_n 0, 1) := by decide +kernel
theorem dX7_alarmAhead_8 : decode cX7_alarmAhead 8 = .ok (.iload_n 1, 1) := by decide +kernel
theorem dX7_alarmAhead_9 : decode cX7_alarmAhead 9 = .ok (.invokevirtual 52, 3) := by decide +kernel
theorem dX7_alarmAhead_12 : decode cX7_alarmAhead 12 = .ok (.astore_n 3, 1) := by decide +kernel
theorem dX7_alarmAhead_13 : decode cX7_alarmAhead 13 = .ok (.aload_n 3, 1) := by decide +kernel
theorem dX7_alarmAhead_14 : decode cX7_alarmAhead 14 = .ok (.getfield 197, 3) := by decide +kernel
theorem dX7_alarmAhead_17 : decode cX7_alarmAhead 17 = .ok (.iload_n 1, 1) := by decide +kernel
theorem dX7_alarmAhead_18 : decode cX7_alarmAhead 18 = .ok (.aaload, 1) := by decide +kernel
theorem dX7_alarmAhead_19 : decode cX7_alarmAhead 19 = .ok (.aload_n 2, 1) := by decide +kernel
theorem dX7_alarmAhead_20 : decode cX7_alarmAhead 20 = .ok (.getfield 189, 3) := by decide +kernel
theorem dX7_alarmAhead_23 : decode cX7_alarmAhead 23 = .ok (.invokevirtual 211, 3) := by decide +kernel
theorem dX7_alarmAhead_26 : decode cX7_alarmAhead 26 = .ok (.ifCond .eq 5, 3) := by decide +kernel
theorem dX7_alarmAhead_29 : decode cX7_alarmAhead 29 = .ok (.iconst 1, 1) := by decide +kernel
theorem dX7_alarmAhead_30 : decode cX7_alarmAhead 30 = .ok (.ireturn, 1) := by decide +kernel
theorem dX7_alarmAhead_31 : decode cX7_alarmAhead 31 = .ok (.aload_n 3, 1) := by decide +kernel
theorem dX7_alarmAhead_32 : decode cX7_alarmAhead 32 = .ok (.invokevirtual 200, 3) := by decide +kernel
theorem dX7_alarmAhead_35 : decode cX7_alarmAhead 35 = .ok (.ifCond .eq 5, 3) := by decide +kernel
theorem dX7_alarmAhead_38 : decode cX7_alarmAhead 38 = .ok (.iconst 2, 1) := by decide +kernel
theorem dX7_alarmAhead_39 : decode cX7_alarmAhead 39 = .ok (.ireturn, 1) := by decide +kernel
theorem dX7_alarmAhead_40 : decode cX7_alarmAhead 40 = .ok (.aload_n 2, 1) := by decide +kernel
theorem dX7_alarmAhead_41 : decode cX7_alarmAhead 41 = .ok (.getfield 119, 3) := by decide +kernel
theorem dX7_alarmAhead_44 : decode cX7_alarmAhead 44 = .ok (.aload_n 3, 1) := by decide +kernel
theorem dX7_alarmAhead_45 : decode cX7_alarmAhead 45 = .ok (.invokevirtual 204, 3) := by decide +kernel
theorem dX7_alarmAhead_48 : decode cX7_alarmAhead 48 = .ok (.invokevirtual 240, 3) := by decide +kernel
theorem dX7_alarmAhead_51 : decode cX7_alarmAhead 51 = .ok (.ifCond .ne 5, 3) := by decide +kernel
theorem dX7_alarmAhead_54 : decode cX7_alarmAhead 54 = .ok (.iconst 3, 1) := by decide +kernel
theorem dX7_alarmAhead_55 : decode cX7_alarmAhead 55 = .ok (.ireturn, 1) := by decide +kernel
theorem dX7_alarmAhead_56 : decode cX7_alarmAhead 56 = .ok (.iconst 0, 1) := by decide +kernel
theorem dX7_alarmAhead_57 : decode cX7_alarmAhead 57 = .ok (.ireturn, 1) := by decide +kernel
theorem dX7_operate_0 : decode cX7_operate 0 = .ok (.aload_n 0, 1) := by decide +kernel
theorem dX7_operate_1 : decode cX7_operate 1 = .ok (.getfield 11, 3) := by decide +kernel
theorem dX7_operate_4 : decode cX7_operate 4 = .ok (.iload_n 1, 1) := by decide +kernel
theorem dX7_operate_5 : decode cX7_operate 5 = .ok (.aaload, 1) := by decide +kernel
theorem dX7_operate_6 : decode cX7_operate 6 = .ok (.astore_n 2, 1) := by decide +kernel
theorem dX7_operate_7 : decode cX7_operate 7 = .ok (.aload_n 0, 1) := by decide +kernel
theorem dX7_operate_8 : decode cX7_operate 8 = .ok (.getfield 17, 3) := by decide +kernel
theorem dX7_operate_11 : decode cX7_operate 11 = .ok (.aload_n 2, 1) := by decide +kernel
theorem dX7_operate_12 : decode cX7_operate 12 = .ok (.getfield 90, 3) := by decide +kernel
theorem dX7_operate_15 : decode cX7_operate 15 = .ok (.aaload, 1) := by decide +kernel
theorem dX7_operate_16 : decode cX7_operate 16 = .ok (.astore_n 3, 1) := by decide +kernel
theorem dX7_operate_17 : decode cX7_operate 17 = .ok (.aload_n 2, 1) := by decide +kernel
theorem dX7_operate_18 : decode cX7_operate 18 = .ok (.dup, 1) := by decide +kernel
theorem dX7_operate_19 : decode cX7_operate 19 = .ok (.getfield 186, 3) := by decide +kernel
theorem dX7_operate_22 : decode cX7_operate 22 = .ok (.aload_n 0, 1) := by decide +kernel
theorem dX7_operate_23 : decode cX7_operate 23 = .ok (.getfield 28, 3) := by decide +kernel
theorem dX7_operate_26 : decode cX7_operate 26 = .ok (.aload_n 0, 1) := by decide +kernel
theorem dX7_operate_27 : decode cX7_operate 27 = .ok (.getfield 28, 3) := by decide +kernel
theorem dX7_operate_30 : decode cX7_operate 30 = .ok (.imul, 1) := by decide +kernel
theorem dX7_operate_31 : decode cX7_operate 31 = .ok (.iadd, 1) := by decide +kernel
theorem dX7_operate_32 : decode cX7_operate 32 = .ok (.putfield 186, 3) := by decide +kernel
theorem dX7_operate_35 : decode cX7_operate 35 = .ok (.aload_n 0, 1) := by decide +kernel
theorem dX7_operate_36 : decode cX7_operate 36 = .ok (.iload_n 1, 1) := by decide +kernel
theorem dX7_operate_37 : decode cX7_operate 37 = .ok (.invokevirtual 73, 3) := by decide +kernel
theorem dX7_operate_40 : decode cX7_operate 40 = .ok (.istore 4, 2) := by decide +kernel
theorem dX7_operate_42 : decode cX7_operate 42 = .ok (.iload 4, 2) := by decide +kernel
theorem dX7_operate_44 : decode cX7_operate 44 = .ok (.ifCond .ne 31, 3) := by decide +kernel
theorem dX7_operate_47 : decode cX7_operate 47 = .ok (.aload_n 3, 1) := by decide +kernel
theorem dX7_operate_48 : decode cX7_operate 48 = .ok (.invokevirtual 244, 3) := by decide +kernel
theorem dX7_operate_51 : decode cX7_operate 51 = .ok (.aload_n 2, 1) := by decide +kernel
theorem dX7_operate_52 : decode cX7_operate 52 = .ok (.iload_n 1, 1) := by decide +kernel
theorem dX7_operate_53 : decode cX7_operate 53 = .ok (.aload_n 3, 1) := by decide +kernel
theorem dX7_operate_54 : decode cX7_operate 54 = .ok (.getfield 102, 3) := by decide +kernel
theorem dX7_operate_57 : decode cX7_operate 57 = .ok (.invokevirtual 247, 3) := by decide +kernel
theorem dX7_operate_60 : decode cX7_operate 60 = .ok (.aload_n 2, 1) := by decide +kernel
theorem dX7_operate_61 : decode cX7_operate 61 = .ok (.dup, 1) := by decide +kernel
theorem dX7_operate_62 : decode cX7_operate 62 = .ok (.getfield 127, 3) := by decide +kernel
theorem dX7_operate_65 : decode cX7_operate 65 = .ok (.aload_n 0, 1) := by decide +kernel
theorem dX7_operate_66 : decode cX7_operate 66 = .ok (.getfield 28, 3) := by decide +kernel
theorem dX7_operate_69 : decode cX7_operate 69 = .ok (.iadd, 1) := by decide +kernel
theorem dX7_operate_70 : decode cX7_operate 70 = .ok (.putfield 127, 3) := by decide +kernel
theorem dX7_operate_73 : decode cX7_operate 73 = .ok (.iconst 0, 1) := by decide +kernel
theorem dX7_operate_74 : decode cX7_operate 74 = .ok (.ireturn, 1) := by decide +kernel
theorem dX7_operate_75 : decode cX7_operate 75 = .ok (.aload_n 2, 1) := by decide +kernel
theorem dX7_operate_76 : decode cX7_operate 76 = .ok (.iload 4, 2) := by decide +kernel
theorem dX7_operate_78 : decode cX7_operate 78 = .ok (.invokevirtual 163, 3) := by decide +kernel
theorem dX7_operate_81 : decode cX7_operate 81 = .ok (.iload 4, 2) := by decide +kernel
theorem dX7_operate_83 : decode cX7_operate 83 = .ok (.iconst 2, 1) := by decide +kernel
theorem dX7_operate_84 : decode cX7_operate 84 = .ok (.if_icmp .ne 14, 3) := by decide +kernel
theorem dX7_operate_87 : decode cX7_operate 87 = .ok (.aload_n 3, 1) := by decide +kernel
theorem dX7_operate_88 : decode cX7_operate 88 = .ok (.getfield 102, 3) := by decide +kernel
theorem dX7_operate_91 : decode cX7_operate 91 = .ok (.aload_n 2, 1) := by decide +kernel
theorem dX7_operate_92 : decode cX7_operate 92 = .ok (.getfield 141, 3) := by decide +kernel
theorem dX7_operate_95 : decode cX7_operate 95 = .ok (.invokevirtual 251, 3) := by decide +kernel
theorem dX7_operate_98 : decode cX7_operate 98 = .ok (.iload 4, 2) := by decide +kernel
theorem dX7_operate_100 : decode cX7_operate 100 = .ok (.iconst 3, 1) := by decide +kernel
theorem dX7_operate_101 : decode cX7_operate 101 = .ok (.if_icmp .ne 14, 3) := by decide +kernel
theorem dX7_operate_104 : decode cX7_operate 104 = .ok (.aload_n 2, 1) := by decide +kernel
theorem dX7_operate_105 : decode cX7_operate 105 = .ok (.aload_n 3, 1) := by decide +kernel
theorem dX7_operate_106 : decode cX7_operate 106 = .ok (.getfield 102, 3) := by decide +kernel
theorem dX7_operate_109 : decode cX7_operate 109 = .ok (.invokevirtual 204, 3) := by decide +kernel
theorem dX7_operate_112 : decode cX7_operate 112 = .ok (.invokevirtual 255, 3) := by decide +kernel
theorem dX7_operate_115 : decode cX7_operate 115 = .ok (.iload 4, 2) := by decide +kernel
theorem dX7_operate_117 : decode cX7_operate 117 = .ok (.ireturn, 1) := by decide +kernel
theorem dX7_usersWithAlarm_0 : decode cX7_usersWithAlarm 0 = .ok (.iconst 0, 1) := by decide +kernel
theorem dX7_usersWithAlarm_1 : decode cX7_usersWithAlarm 1 = .ok (.istore_n 1, 1) := by decide +kernel
theorem dX7_usersWithAlarm_2 : decode cX7_usersWithAlarm 2 = .ok (.iconst 0, 1) := by decide +kernel
theorem dX7_usersWithAlarm_3 : decode cX7_usersWithAlarm 3 = .ok (.istore_n 2, 1) := by decide +kernel
theorem dX7_usersWithAlarm_4 : decode cX7_usersWithAlarm 4 = .ok (.iload_n 2, 1) := by decide +kernel
theorem dX7_usersWithAlarm_5 : decode cX7_usersWithAlarm 5 = .ok (.aload_n 0, 1) := by decide +kernel
theorem dX7_usersWithAlarm_6 : decode cX7_usersWithAlarm 6 = .ok (.getfield 28, 3) := by decide +kernel
theorem dX7_usersWithAlarm_9 : decode cX7_usersWithAlarm 9 = .ok (.if_icmp .ge 32, 3) := by decide +kernel
theorem dX7_usersWithAlarm_12 : decode cX7_usersWithAlarm 12 = .ok (.iload_n 1, 1) := by decide +kernel
theorem dX7_usersWithAlarm_13 : decode cX7_usersWithAlarm 13 = .ok (.aload_n 0, 1) := by decide +kernel
theorem dX7_usersWithAlarm_14 : decode cX7_usersWithAlarm 14 = .ok (.getfield 11, 3) := by decide +kernel
theorem dX7_usersWithAlarm_17 : decode cX7_usersWithAlarm 17 = .ok (.iload_n 2, 1) := by decide +kernel
theorem dX7_usersWithAlarm_18 : decode cX7_usersWithAlarm 18 = .ok (.aaload, 1) := by decide +kernel
theorem dX7_usersWithAlarm_19 : decode cX7_usersWithAlarm 19 = .ok (.getfield 45, 3) := by decide +kernel
theorem dX7_usersWithAlarm_22 : decode cX7_usersWithAlarm 22 = .ok (.ifCond .eq 7, 3) := by decide +kernel
theorem dX7_usersWithAlarm_25 : decode cX7_usersWithAlarm 25 = .ok (.iconst 1, 1) := by decide +kernel
theorem dX7_usersWithAlarm_26 : decode cX7_usersWithAlarm 26 = .ok (.goto 4, 3) := by decide +kernel
theorem dX7_usersWithAlarm_29 : decode cX7_usersWithAlarm 29 = .ok (.iconst 0, 1) := by decide +kernel
theorem dX7_usersWithAlarm_30 : decode cX7_usersWithAlarm 30 = .ok (.invokestatic 166, 3) := by decide +kernel
theorem dX7_usersWithAlarm_33 : decode cX7_usersWithAlarm 33 = .ok (.iadd, 1) := by decide +kernel
theorem dX7_usersWithAlarm_34 : decode cX7_usersWithAlarm 34 = .ok (.istore_n 1, 1) := by decide +kernel
theorem dX7_usersWithAlarm_35 : decode cX7_usersWithAlarm 35 = .ok (.iinc 2 1, 3) := by decide +kernel
theorem dX7_usersWithAlarm_38 : decode cX7_usersWithAlarm 38 = .ok (.goto (-34), 3) := by decide +kernel
theorem dX7_usersWithAlarm_41 : decode cX7_usersWithAlarm 41 = .ok (.iload_n 1, 1) := by decide +kernel
theorem dX7_usersWithAlarm_42 : decode cX7_usersWithAlarm 42 = .ok (.ireturn, 1) := by decide +kernel
theorem dX7_usersWithProof_0 : decode cX7_usersWithProof 0 = .ok (.iconst 0, 1) := by decide +kernel
theorem dX7_usersWithProof_1 : decode cX7_usersWithProof 1 = .ok (.istore_n 1, 1) := by decide +kernel
theorem dX7_usersWithProof_2 : decode cX7_usersWithProof 2 = .ok (.iconst 0, 1) := by decide +kernel
theorem dX7_usersWithProof_3 : decode cX7_usersWithProof 3 = .ok (.istore_n 2, 1) := by decide +kernel
theorem dX7_usersWithProof_4 : decode cX7_usersWithProof 4 = .ok (.iload_n 2, 1) := by decide +kernel
theorem dX7_usersWithProof_5 : decode cX7_usersWithProof 5 = .ok (.aload_n 0, 1) := by decide +kernel
theorem dX7_usersWithProof_6 : decode cX7_usersWithProof 6 = .ok (.getfield 28, 3) := by decide +kernel
theorem dX7_usersWithProof_9 : decode cX7_usersWithProof 9 = .ok (.if_icmp .ge 27, 3) := by decide +kernel
theorem dX7_usersWithProof_12 : decode cX7_usersWithProof 12 = .ok (.iload_n 1, 1) := by decide +kernel
theorem dX7_usersWithProof_13 : decode cX7_usersWithProof 13 = .ok (.aload_n 0, 1) := by decide +kernel
theorem dX7_usersWithProof_14 : decode cX7_usersWithProof 14 = .ok (.getfield 11, 3) := by decide +kernel
theorem dX7_usersWithProof_17 : decode cX7_usersWithProof 17 = .ok (.iload_n 2, 1) := by decide +kernel
theorem dX7_usersWithProof_18 : decode cX7_usersWithProof 18 = .ok (.aaload, 1) := by decide +kernel
theorem dX7_usersWithProof_19 : decode cX7_usersWithProof 19 = .ok (.getfield 141, 3) := by decide +kernel
theorem dX7_usersWithProof_22 : decode cX7_usersWithProof 22 = .ok (.getfield 145, 3) := by decide +kernel
theorem dX7_usersWithProof_25 : decode cX7_usersWithProof 25 = .ok (.invokestatic 166, 3) := by decide +kernel
theorem dX7_usersWithProof_28 : decode cX7_usersWithProof 28 = .ok (.iadd, 1) := by decide +kernel
theorem dX7_usersWithProof_29 : decode cX7_usersWithProof 29 = .ok (.istore_n 1, 1) := by decide +kernel
theorem dX7_usersWithProof_30 : decode cX7_usersWithProof 30 = .ok (.iinc 2 1, 3) := by decide +kernel
theorem dX7_usersWithProof_33 : decode cX7_usersWithProof 33 = .ok (.goto (-29), 3) := by decide +kernel
theorem dX7_usersWithProof_36 : decode cX7_usersWithProof 36 = .ok (.iload_n 1, 1) := by decide +kernel
theorem dX7_usersWithProof_37 : decode cX7_usersWithProof 37 = .ok (.ireturn, 1) := by decide +kernel
theorem dX7_operationsOfAll_0 : decode cX7_operationsOfAll 0 = .ok (.iconst 0, 1) := by decide +kernel
theorem dX7_operationsOfAll_1 : decode cX7_operationsOfAll 1 = .ok (.istore_n 1, 1) := by decide +kernel
theorem dX7_operationsOfAll_2 : decode cX7_operationsOfAll 2 = .ok (.iconst 0, 1) := by decide +kernel
theorem dX7_operationsOfAll_3 : decode cX7_operationsOfAll 3 = .ok (.istore_n 2, 1) := by decide +kernel
theorem dX7_operationsOfAll_4 : decode cX7_operationsOfAll 4 = .ok (.iload_n 2, 1) := by decide +kernel
theorem dX7_operationsOfAll_5 : decode cX7_operationsOfAll 5 = .ok (.aload_n 0, 1) := by decide +kernel
theorem dX7_operationsOfAll_6 : decode cX7_operationsOfAll 6 = .ok (.getfield 28, 3) := by decide +kernel
theorem dX7_operationsOfAll_9 : decode cX7_operationsOfAll 9 = .ok (.if_icmp .ge 21, 3) := by decide +kernel
theorem dX7_operationsOfAll_12 : decode cX7_operationsOfAll 12 = .ok (.iload_n 1, 1) := by decide +kernel
theorem dX7_operationsOfAll_13 : decode cX7_operationsOfAll 13 = .ok (.aload_n 0, 1) := by decide +kernel
theorem dX7_operationsOfAll_14 : decode cX7_operationsOfAll 14 = .ok (.getfield 11, 3) := by decide +kernel
theorem dX7_operationsOfAll_17 : decode cX7_operationsOfAll 17 = .ok (.iload_n 2, 1) := by decide +kernel
theorem dX7_operationsOfAll_18 : decode cX7_operationsOfAll 18 = .ok (.aaload, 1) := by decide +kernel
theorem dX7_operationsOfAll_19 : decode cX7_operationsOfAll 19 = .ok (.getfield 183, 3) := by decide +kernel
theorem dX7_operationsOfAll_22 : decode cX7_operationsOfAll 22 = .ok (.iadd, 1) := by decide +kernel
theorem dX7_operationsOfAll_23 : decode cX7_operationsOfAll 23 = .ok (.istore_n 1, 1) := by decide +kernel
theorem dX7_operationsOfAll_24 : decode cX7_operationsOfAll 24 = .ok (.iinc 2 1, 3) := by decide +kernel
theorem dX7_operationsOfAll_27 : decode cX7_operationsOfAll 27 = .ok (.goto (-23), 3) := by decide +kernel
theorem dX7_operationsOfAll_30 : decode cX7_operationsOfAll 30 = .ok (.iload_n 1, 1) := by decide +kernel
theorem dX7_operationsOfAll_31 : decode cX7_operationsOfAll 31 = .ok (.ireturn, 1) := by decide +kernel
theorem dX7_lettersInBoxes_0 : decode cX7_lettersInBoxes 0 = .ok (.iconst 0, 1) := by decide +kernel
theorem dX7_lettersInBoxes_1 : decode cX7_lettersInBoxes 1 = .ok (.istore_n 1, 1) := by decide +kernel
theorem dX7_lettersInBoxes_2 : decode cX7_lettersInBoxes 2 = .ok (.iconst 0, 1) := by decide +kernel
theorem dX7_lettersInBoxes_3 : decode cX7_lettersInBoxes 3 = .ok (.istore_n 2, 1) := by decide +kernel
theorem dX7_lettersInBoxes_4 : decode cX7_lettersInBoxes 4 = .ok (.iload_n 2, 1) := by decide +kernel
theorem dX7_lettersInBoxes_5 : decode cX7_lettersInBoxes 5 = .ok (.aload_n 0, 1) := by decide +kernel
theorem dX7_lettersInBoxes_6 : decode cX7_lettersInBoxes 6 = .ok (.getfield 28, 3) := by decide +kernel
theorem dX7_lettersInBoxes_9 : decode cX7_lettersInBoxes 9 = .ok (.if_icmp .ge 24, 3) := by decide +kernel
theorem dX7_lettersInBoxes_12 : decode cX7_lettersInBoxes 12 = .ok (.iload_n 1, 1) := by decide +kernel
theorem dX7_lettersInBoxes_13 : decode cX7_lettersInBoxes 13 = .ok (.aload_n 0, 1) := by decide +kernel
theorem dX7_lettersInBoxes_14 : decode cX7_lettersInBoxes 14 = .ok (.getfield 11, 3) := by decide +kernel
theorem dX7_lettersInBoxes_17 : decode cX7_lettersInBoxes 17 = .ok (.iload_n 2, 1) := by decide +kernel
theorem dX7_lettersInBoxes_18 : decode cX7_lettersInBoxes 18 = .ok (.aaload, 1) := by decide +kernel
theorem dX7_lettersInBoxes_19 : decode cX7_lettersInBoxes 19 = .ok (.getfield 110, 3) := by decide +kernel
theorem dX7_lettersInBoxes_22 : decode cX7_lettersInBoxes 22 = .ok (.getfield 114, 3) := by decide +kernel
theorem dX7_lettersInBoxes_25 : decode cX7_lettersInBoxes 25 = .ok (.iadd, 1) := by decide +kernel
theorem dX7_lettersInBoxes_26 : decode cX7_lettersInBoxes 26 = .ok (.istore_n 1, 1) := by decide +kernel
theorem dX7_lettersInBoxes_27 : decode cX7_lettersInBoxes 27 = .ok (.iinc 2 1, 3) := by decide +kernel
theorem dX7_lettersInBoxes_30 : decode cX7_lettersInBoxes 30 = .ok (.goto (-26), 3) := by decide +kernel
theorem dX7_lettersInBoxes_33 : decode cX7_lettersInBoxes 33 = .ok (.iload_n 1, 1) := by decide +kernel
theorem dX7_lettersInBoxes_34 : decode cX7_lettersInBoxes 34 = .ok (.ireturn, 1) := by decide +kernel
theorem dX7_knowForkedVectors_0 : decode cX7_knowForkedVectors 0 = .ok (.aload_n 0, 1) := by decide +kernel
theorem dX7_knowForkedVectors_1 : decode cX7_knowForkedVectors 1 = .ok (.getfield 11, 3) := by decide +kernel
theorem dX7_knowForkedVectors_4 : decode cX7_knowForkedVectors 4 = .ok (.iload_n 1, 1) := by decide +kernel
theorem dX7_knowForkedVectors_5 : decode cX7_knowForkedVectors 5 = .ok (.aaload, 1) := by decide +kernel
theorem dX7_knowForkedVectors_6 : decode cX7_knowForkedVectors 6 = .ok (.getfield 119, 3) := by decide +kernel
theorem dX7_knowForkedVectors_9 : decode cX7_knowForkedVectors 9 = .ok (.aload_n 0, 1) := by decide +kernel
theorem dX7_knowForkedVectors_10 : decode cX7_knowForkedVectors 10 = .ok (.getfield 11, 3) := by decide +kernel
theorem dX7_knowForkedVectors_13 : decode cX7_knowForkedVectors 13 = .ok (.iload_n 2, 1) := by decide +kernel
theorem dX7_knowForkedVectors_14 : decode cX7_knowForkedVectors 14 = .ok (.aaload, 1) := by decide +kernel
theorem dX7_knowForkedVectors_15 : decode cX7_knowForkedVectors 15 = .ok (.getfield 119, 3) := by decide +kernel
theorem dX7_knowForkedVectors_18 : decode cX7_knowForkedVectors 18 = .ok (.invokevirtual 211, 3) := by decide +kernel
theorem dX7_knowForkedVectors_21 : decode cX7_knowForkedVectors 21 = .ok (.iconst 2, 1) := by decide +kernel
theorem dX7_knowForkedVectors_22 : decode cX7_knowForkedVectors 22 = .ok (.if_icmp .ne 7, 3) := by decide +kernel
theorem dX7_knowForkedVectors_25 : decode cX7_knowForkedVectors 25 = .ok (.iconst 1, 1) := by decide +kernel
theorem dX7_knowForkedVectors_26 : decode cX7_knowForkedVectors 26 = .ok (.goto 4, 3) := by decide +kernel
theorem dX7_knowForkedVectors_29 : decode cX7_knowForkedVectors 29 = .ok (.iconst 0, 1) := by decide +kernel
theorem dX7_knowForkedVectors_30 : decode cX7_knowForkedVectors 30 = .ok (.ireturn, 1) := by decide +kernel
theorem dX7_isUnaware_0 : decode cX7_isUnaware 0 = .ok (.aload_n 0, 1) := by decide +kernel
theorem dX7_isUnaware_1 : decode cX7_isUnaware 1 = .ok (.getfield 11, 3) := by decide +kernel
theorem dX7_isUnaware_4 : decode cX7_isUnaware 4 = .ok (.iload_n 1, 1) := by decide +kernel
theorem dX7_isUnaware_5 : decode cX7_isUnaware 5 = .ok (.aaload, 1) := by decide +kernel
theorem dX7_isUnaware_6 : decode cX7_isUnaware 6 = .ok (.getfield 45, 3) := by decide +kernel
theorem dX7_isUnaware_9 : decode cX7_isUnaware 9 = .ok (.ifCond .ne 11, 3) := by decide +kernel
theorem dX7_isUnaware_12 : decode cX7_isUnaware 12 = .ok (.aload_n 0, 1) := by decide +kernel
theorem dX7_isUnaware_13 : decode cX7_isUnaware 13 = .ok (.iload_n 1, 1) := by decide +kernel
theorem dX7_isUnaware_14 : decode cX7_isUnaware 14 = .ok (.invokevirtual 73, 3) := by decide +kernel
theorem dX7_isUnaware_17 : decode cX7_isUnaware 17 = .ok (.ifCond .eq 5, 3) := by decide +kernel
theorem dX7_isUnaware_20 : decode cX7_isUnaware 20 = .ok (.iconst 0, 1) := by decide +kernel
theorem dX7_isUnaware_21 : decode cX7_isUnaware 21 = .ok (.ireturn, 1) := by decide +kernel
theorem dX7_isUnaware_22 : decode cX7_isUnaware 22 = .ok (.iconst 0, 1) := by decide +kernel
theorem dX7_isUnaware_23 : decode cX7_isUnaware 23 = .ok (.istore_n 2, 1) := by decide +kernel
theorem dX7_isUnaware_24 : decode cX7_isUnaware 24 = .ok (.iload_n 2, 1) := by decide +kernel
theorem dX7_isUnaware_25 : decode cX7_isUnaware 25 = .ok (.aload_n 0, 1) := by decide +kernel
theorem dX7_isUnaware_26 : decode cX7_isUnaware 26 = .ok (.getfield 28, 3) := by decide +kernel
theorem dX7_isUnaware_29 : decode cX7_isUnaware 29 = .ok (.if_icmp .ge 20, 3) := by decide +kernel
theorem dX7_isUnaware_32 : decode cX7_isUnaware 32 = .ok (.aload_n 0, 1) := by decide +kernel
theorem dX7_isUnaware_33 : decode cX7_isUnaware 33 = .ok (.iload_n 1, 1) := by decide +kernel
theorem dX7_isUnaware_34 : decode cX7_isUnaware 34 = .ok (.iload_n 2, 1) := by decide +kernel
theorem dX7_isUnaware_35 : decode cX7_isUnaware 35 = .ok (.invokevirtual 214, 3) := by decide +kernel
theorem dX7_isUnaware_38 : decode cX7_isUnaware 38 = .ok (.ifCond .eq 5, 3) := by decide +kernel
theorem dX7_isUnaware_41 : decode cX7_isUnaware 41 = .ok (.iconst 0, 1) := by decide +kernel
theorem dX7_isUnaware_42 : decode cX7_isUnaware 42 = .ok (.ireturn, 1) := by decide +kernel
theorem dX7_isUnaware_43 : decode cX7_isUnaware 43 = .ok (.iinc 2 1, 3) := by decide +kernel
theorem dX7_isUnaware_46 : decode cX7_isUnaware 46 = .ok (.goto (-22), 3) := by decide +kernel
theorem dX7_isUnaware_49 : decode cX7_isUnaware 49 = .ok (.iconst 1, 1) := by decide +kernel
theorem dX7_isUnaware_50 : decode cX7_isUnaware 50 = .ok (.ireturn, 1) := by decide +kernel
theorem dX7_carryOut_0 : decode cX7_carryOut 0 = .ok (.iload_n 1, 1) := by decide +kernel
theorem dX7_carryOut_1 : decode cX7_carryOut 1 = .ok (.lookupswitch 118 #[(103, 96), (109, 103), (114, 66), (115, 81), (119, 51)], 51) := by decide +kernel
theorem dX7_carryOut_52 : decode cX7_carryOut 52 = .ok (.aload_n 0, 1) := by decide +kernel
theorem dX7_carryOut_53 : decode cX7_carryOut 53 = .ok (.iload_n 2, 1) := by decide +kernel
theorem dX7_carryOut_54 : decode cX7_carryOut 54 = .ok (.iload_n 3, 1) := by decide +kernel
theorem dX7_carryOut_55 : decode cX7_carryOut 55 = .ok (.invokevirtual 258, 3) := by decide +kernel
theorem dX7_carryOut_58 : decode cX7_carryOut 58 = .ok (.ifCond .lt 7, 3) := by decide +kernel
theorem dX7_carryOut_61 : decode cX7_carryOut 61 = .ok (.iconst 1, 1) := by decide +kernel
theorem dX7_carryOut_62 : decode cX7_carryOut 62 = .ok (.goto 4, 3) := by decide +kernel
theorem dX7_carryOut_65 : decode cX7_carryOut 65 = .ok (.iconst 0, 1) := by decide +kernel
theorem dX7_carryOut_66 : decode cX7_carryOut 66 = .ok (.ireturn, 1) := by decide +kernel
theorem dX7_carryOut_67 : decode cX7_carryOut 67 = .ok (.aload_n 0, 1) := by decide +kernel
theorem dX7_carryOut_68 : decode cX7_carryOut 68 = .ok (.iload_n 2, 1) := by decide +kernel
theorem dX7_carryOut_69 : decode cX7_carryOut 69 = .ok (.iload_n 3, 1) := by decide +kernel
theorem dX7_carryOut_70 : decode cX7_carryOut 70 = .ok (.invokevirtual 262, 3) := by decide +kernel
theorem dX7_carryOut_73 : decode cX7_carryOut 73 = .ok (.ifCond .lt 7, 3) := by decide +kernel
theorem dX7_carryOut_76 : decode cX7_carryOut 76 = .ok (.iconst 1, 1) := by decide +kernel
theorem dX7_carryOut_77 : decode cX7_carryOut 77 = .ok (.goto 4, 3) := by decide +kernel
theorem dX7_carryOut_80 : decode cX7_carryOut 80 = .ok (.iconst 0, 1) := by decide +kernel
theorem dX7_carryOut_81 : decode cX7_carryOut 81 = .ok (.ireturn, 1) := by decide +kernel
theorem dX7_carryOut_82 : decode cX7_carryOut 82 = .ok (.aload_n 0, 1) := by decide +kernel
theorem dX7_carryOut_83 : decode cX7_carryOut 83 = .ok (.iload_n 2, 1) := by decide +kernel
theorem dX7_carryOut_84 : decode cX7_carryOut 84 = .ok (.iload_n 3, 1) := by decide +kernel
theorem dX7_carryOut_85 : decode cX7_carryOut 85 = .ok (.invokevirtual 265, 3) := by decide +kernel
theorem dX7_carryOut_88 : decode cX7_carryOut 88 = .ok (.ifCond .lt 7, 3) := by decide +kernel
theorem dX7_carryOut_91 : decode cX7_carryOut 91 = .ok (.iconst 1, 1) := by decide +kernel
theorem dX7_carryOut_92 : decode cX7_carryOut 92 = .ok (.goto 4, 3) := by decide +kernel
theorem dX7_carryOut_95 : decode cX7_carryOut 95 = .ok (.iconst 0, 1) := by decide +kernel
theorem dX7_carryOut_96 : decode cX7_carryOut 96 = .ok (.ireturn, 1) := by decide +kernel
theorem dX7_carryOut_97 : decode cX7_carryOut 97 = .ok (.aload_n 0, 1) := by decide +kernel
theorem dX7_carryOut_98 : decode cX7_carryOut 98 = .ok (.iload_n 2, 1) := by decide +kernel
theorem dX7_carryOut_99 : decode cX7_carryOut 99 = .ok (.iload_n 3, 1) := by decide +kernel
theorem dX7_carryOut_100 : decode cX7_carryOut 100 = .ok (.invokevirtual 268, 3) := by decide +kernel
theorem dX7_carryOut_103 : decode cX7_carryOut 103 = .ok (.ireturn, 1) := by decide +kernel
theorem dX7_carryOut_104 : decode cX7_carryOut 104 = .ok (.aload_n 0, 1) := by decide +kernel
theorem dX7_carryOut_105 : decode cX7_carryOut 105 = .ok (.iload_n 2, 1) := by decide +kernel
theorem dX7_carryOut_106 : decode cX7_carryOut 106 = .ok (.iload_n 3, 1) := by decide +kernel
theorem dX7_carryOut_107 : decode cX7_carryOut 107 = .ok (.invokevirtual 271, 3) := by decide +kernel
theorem dX7_carryOut_110 : decode cX7_carryOut 110 = .ok (.ifCond .lt 7, 3) := by decide +kernel
theorem dX7_carryOut_113 : decode cX7_carryOut 113 = .ok (.iconst 1, 1) := by decide +kernel
theorem dX7_carryOut_114 : decode cX7_carryOut 114 = .ok (.goto 4, 3) := by decide +kernel
theorem dX7_carryOut_117 : decode cX7_carryOut 117 = .ok (.iconst 0, 1) := by decide +kernel
theorem dX7_carryOut_118 : decode cX7_carryOut 118 = .ok (.ireturn, 1) := by decide +kernel
theorem dX7_carryOut_119 : decode cX7_carryOut 119 = .ok (.iconst 0, 1) := by decide +kernel
theorem dX7_carryOut_120 : decode cX7_carryOut 120 = .ok (.ireturn, 1) := by decide +kernel
theorem dX7_readLetters_0 : decode cX7_readLetters 0 = .ok (.iconst 0, 1) := by decide +kernel
theorem dX7_readLetters_1 : decode cX7_readLetters 1 = .ok (.istore_n 3, 1) := by decide +kernel
theorem dX7_readLetters_2 : decode cX7_readLetters 2 = .ok (.iload_n 3, 1) := by decide +kernel
theorem dX7_readLetters_3 : decode cX7_readLetters 3 = .ok (.iload_n 2, 1) := by decide +kernel
theorem dX7_readLetters_4 : decode cX7_readLetters 4 = .ok (.if_icmp .ge 19, 3) := by decide +kernel
theorem dX7_readLetters_7 : decode cX7_readLetters 7 = .ok (.aload_n 0, 1) := by decide +kernel
theorem dX7_readLetters_8 : decode cX7_readLetters 8 = .ok (.iload_n 1, 1) := by decide +kernel
theorem dX7_readLetters_9 : decode cX7_readLetters 9 = .ok (.invokevirtual 274, 3) := by decide +kernel
theorem dX7_readLetters_12 : decode cX7_readLetters 12 = .ok (.ifCond .ge 5, 3) := by decide +kernel
theorem dX7_readLetters_15 : decode cX7_readLetters 15 = .ok (.iconst 0, 1) := by decide +kernel
theorem dX7_readLetters_16 : decode cX7_readLetters 16 = .ok (.ireturn, 1) := by decide +kernel
theorem dX7_readLetters_17 : decode cX7_readLetters 17 = .ok (.iinc 3 1, 3) := by decide +kernel
theorem dX7_readLetters_20 : decode cX7_readLetters 20 = .ok (.goto (-18), 3) := by decide +kernel
theorem dX7_readLetters_23 : decode cX7_readLetters 23 = .ok (.aload_n 0, 1) := by decide +kernel
theorem dX7_readLetters_24 : decode cX7_readLetters 24 = .ok (.iload_n 1, 1) := by decide +kernel
theorem dX7_readLetters_25 : decode cX7_readLetters 25 = .ok (.invokevirtual 41, 3) := by decide +kernel
theorem dX7_readLetters_28 : decode cX7_readLetters 28 = .ok (.ireturn, 1) := by decide +kernel
