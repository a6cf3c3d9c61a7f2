theorem dX0_init_0 : decode cX0_init 0 = .ok (.aload_n 0, 1) := by decide +kernel
theorem dX0_init_1 : decode cX0_init 1 = .ok (.invokespecial 3, 3) := by decide +kernel
theorem dX0_init_4 : decode cX0_init 4 = .ok (.aload_n 0, 1) := by decide +kernel
theorem dX0_init_5 : decode cX0_init 5 = .ok (.iconst 4, 1) := by decide +kernel
theorem dX0_init_6 : decode cX0_init 6 = .ok (.anewarray 9, 3) := by decide +kernel
theorem dX0_init_9 : decode cX0_init 9 = .ok (.putfield 11, 3) := by decide +kernel
theorem dX0_init_12 : decode cX0_init 12 = .ok (.iconst 0, 1) := by decide +kernel
theorem dX0_init_13 : decode cX0_init 13 = .ok (.istore_n 1, 1) := by decide +kernel
theorem dX0_init_14 : decode cX0_init 14 = .ok (.iload_n 1, 1) := by decide +kernel
theorem dX0_init_15 : decode cX0_init 15 = .ok (.iconst 4, 1) := by decide +kernel
theorem dX0_init_16 : decode cX0_init 16 = .ok (.if_icmp .ge 22, 3) := by decide +kernel
theorem dX0_init_19 : decode cX0_init 19 = .ok (.aload_n 0, 1) := by decide +kernel
theorem dX0_init_20 : decode cX0_init 20 = .ok (.getfield 11, 3) := by decide +kernel
theorem dX0_init_23 : decode cX0_init 23 = .ok (.iload_n 1, 1) := by decide +kernel
theorem dX0_init_24 : decode cX0_init 24 = .ok (.new 9, 3) := by decide +kernel
theorem dX0_init_27 : decode cX0_init 27 = .ok (.dup, 1) := by decide +kernel
theorem dX0_init_28 : decode cX0_init 28 = .ok (.invokespecial 17, 3) := by decide +kernel
theorem dX0_init_31 : decode cX0_init 31 = .ok (.aastore, 1) := by decide +kernel
theorem dX0_init_32 : decode cX0_init 32 = .ok (.iinc 1 1, 3) := by decide +kernel
theorem dX0_init_35 : decode cX0_init 35 = .ok (.goto (-21), 3) := by decide +kernel
theorem dX0_init_38 : decode cX0_init 38 = .ok (.return_, 1) := by decide +kernel
theorem dX0_put_0 : decode cX0_put 0 = .ok (.aload_n 0, 1) := by decide +kernel
theorem dX0_put_1 : decode cX0_put 1 = .ok (.getfield 18, 3) := by decide +kernel
theorem dX0_put_4 : decode cX0_put 4 = .ok (.iconst 4, 1) := by decide +kernel
theorem dX0_put_5 : decode cX0_put 5 = .ok (.if_icmp .ge 26, 3) := by decide +kernel
theorem dX0_put_8 : decode cX0_put 8 = .ok (.aload_n 0, 1) := by decide +kernel
theorem dX0_put_9 : decode cX0_put 9 = .ok (.getfield 11, 3) := by decide +kernel
theorem dX0_put_12 : decode cX0_put 12 = .ok (.aload_n 0, 1) := by decide +kernel
theorem dX0_put_13 : decode cX0_put 13 = .ok (.getfield 18, 3) := by decide +kernel
theorem dX0_put_16 : decode cX0_put 16 = .ok (.aaload, 1) := by decide +kernel
theorem dX0_put_17 : decode cX0_put 17 = .ok (.aload_n 1, 1) := by decide +kernel
theorem dX0_put_18 : decode cX0_put 18 = .ok (.invokevirtual 22, 3) := by decide +kernel
theorem dX0_put_21 : decode cX0_put 21 = .ok (.aload_n 0, 1) := by decide +kernel
theorem dX0_put_22 : decode cX0_put 22 = .ok (.dup, 1) := by decide +kernel
theorem dX0_put_23 : decode cX0_put 23 = .ok (.getfield 18, 3) := by decide +kernel
theorem dX0_put_26 : decode cX0_put 26 = .ok (.iconst 1, 1) := by decide +kernel
theorem dX0_put_27 : decode cX0_put 27 = .ok (.iadd, 1) := by decide +kernel
theorem dX0_put_28 : decode cX0_put 28 = .ok (.putfield 18, 3) := by decide +kernel
theorem dX0_put_31 : decode cX0_put 31 = .ok (.return_, 1) := by decide +kernel
theorem dX0_dropFirst_0 : decode cX0_dropFirst 0 = .ok (.iconst 1, 1) := by decide +kernel
theorem dX0_dropFirst_1 : decode cX0_dropFirst 1 = .ok (.istore_n 1, 1) := by decide +kernel
theorem dX0_dropFirst_2 : decode cX0_dropFirst 2 = .ok (.iload_n 1, 1) := by decide +kernel
theorem dX0_dropFirst_3 : decode cX0_dropFirst 3 = .ok (.aload_n 0, 1) := by decide +kernel
theorem dX0_dropFirst_4 : decode cX0_dropFirst 4 = .ok (.getfield 18, 3) := by decide +kernel
theorem dX0_dropFirst_7 : decode cX0_dropFirst 7 = .ok (.if_icmp .ge 26, 3) := by decide +kernel
theorem dX0_dropFirst_10 : decode cX0_dropFirst 10 = .ok (.aload_n 0, 1) := by decide +kernel
theorem dX0_dropFirst_11 : decode cX0_dropFirst 11 = .ok (.getfield 11, 3) := by decide +kernel
theorem dX0_dropFirst_14 : decode cX0_dropFirst 14 = .ok (.iload_n 1, 1) := by decide +kernel
theorem dX0_dropFirst_15 : decode cX0_dropFirst 15 = .ok (.iconst 1, 1) := by decide +kernel
theorem dX0_dropFirst_16 : decode cX0_dropFirst 16 = .ok (.isub, 1) := by decide +kernel
theorem dX0_dropFirst_17 : decode cX0_dropFirst 17 = .ok (.aaload, 1) := by decide +kernel
theorem dX0_dropFirst_18 : decode cX0_dropFirst 18 = .ok (.aload_n 0, 1) := by decide +kernel
theorem dX0_dropFirst_19 : decode cX0_dropFirst 19 = .ok (.getfield 11, 3) := by decide +kernel
theorem dX0_dropFirst_22 : decode cX0_dropFirst 22 = .ok (.iload_n 1, 1) := by decide +kernel
theorem dX0_dropFirst_23 : decode cX0_dropFirst 23 = .ok (.aaload, 1) := by decide +kernel
theorem dX0_dropFirst_24 : decode cX0_dropFirst 24 = .ok (.invokevirtual 22, 3) := by decide +kernel
theorem dX0_dropFirst_27 : decode cX0_dropFirst 27 = .ok (.iinc 1 1, 3) := by decide +kernel
theorem dX0_dropFirst_30 : decode cX0_dropFirst 30 = .ok (.goto (-28), 3) := by decide +kernel
theorem dX0_dropFirst_33 : decode cX0_dropFirst 33 = .ok (.aload_n 0, 1) := by decide +kernel
theorem dX0_dropFirst_34 : decode cX0_dropFirst 34 = .ok (.getfield 18, 3) := by decide +kernel
theorem dX0_dropFirst_37 : decode cX0_dropFirst 37 = .ok (.ifCond .le 13, 3) := by decide +kernel
theorem dX0_dropFirst_40 : decode cX0_dropFirst 40 = .ok (.aload_n 0, 1) := by decide +kernel
theorem dX0_dropFirst_41 : decode cX0_dropFirst 41 = .ok (.dup, 1) := by decide +kernel
theorem dX0_dropFirst_42 : decode cX0_dropFirst 42 = .ok (.getfield 18, 3) := by decide +kernel
theorem dX0_dropFirst_45 : decode cX0_dropFirst 45 = .ok (.iconst 1, 1) := by decide +kernel
theorem dX0_dropFirst_46 : decode cX0_dropFirst 46 = .ok (.isub, 1) := by decide +kernel
theorem dX0_dropFirst_47 : decode cX0_dropFirst 47 = .ok (.putfield 18, 3) := by decide +kernel
theorem dX0_dropFirst_50 : decode cX0_dropFirst 50 = .ok (.return_, 1) := by decide +kernel
theorem dX1_init_0 : decode cX1_init 0 = .ok (.aload_n 0, 1) := by decide +kernel
theorem dX1_init_1 : decode cX1_init 1 = .ok (.invokespecial 3, 3) := by decide +kernel
theorem dX1_init_4 : decode cX1_init 4 = .ok (.aload_n 0, 1) := by decide +kernel
theorem dX1_init_5 : decode cX1_init 5 = .ok (.iconst 5, 1) := by decide +kernel
theorem dX1_init_6 : decode cX1_init 6 = .ok (.anewarray 9, 3) := by decide +kernel
theorem dX1_init_9 : decode cX1_init 9 = .ok (.putfield 11, 3) := by decide +kernel
theorem dX1_init_12 : decode cX1_init 12 = .ok (.aload_n 0, 1) := by decide +kernel
theorem dX1_init_13 : decode cX1_init 13 = .ok (.iconst 5, 1) := by decide +kernel
theorem dX1_init_14 : decode cX1_init 14 = .ok (.newarray .int, 2) := by decide +kernel
theorem dX1_init_16 : decode cX1_init 16 = .ok (.putfield 17, 3) := by decide +kernel
theorem dX1_init_19 : decode cX1_init 19 = .ok (.iconst 0, 1) := by decide +kernel
theorem dX1_init_20 : decode cX1_init 20 = .ok (.istore_n 1, 1) := by decide +kernel
theorem dX1_init_21 : decode cX1_init 21 = .ok (.iload_n 1, 1) := by decide +kernel
theorem dX1_init_22 : decode cX1_init 22 = .ok (.iconst 5, 1) := by decide +kernel
theorem dX1_init_23 : decode cX1_init 23 = .ok (.if_icmp .ge 22, 3) := by decide +kernel
theorem dX1_init_26 : decode cX1_init 26 = .ok (.aload_n 0, 1) := by decide +kernel
theorem dX1_init_27 : decode cX1_init 27 = .ok (.getfield 11, 3) := by decide +kernel
theorem dX1_init_30 : decode cX1_init 30 = .ok (.iload_n 1, 1) := by decide +kernel
theorem dX1_init_31 : decode cX1_init 31 = .ok (.new 9, 3) := by decide +kernel
theorem dX1_init_34 : decode cX1_init 34 = .ok (.dup, 1) := by decide +kernel
theorem dX1_init_35 : decode cX1_init 35 = .ok (.invokespecial 21, 3) := by decide +kernel
theorem dX1_init_38 : decode cX1_init 38 = .ok (.aastore, 1) := by decide +kernel
theorem dX1_init_39 : decode cX1_init 39 = .ok (.iinc 1 1, 3) := by decide +kernel
theorem dX1_init_42 : decode cX1_init 42 = .ok (.goto (-21), 3) := by decide +kernel
theorem dX1_init_45 : decode cX1_init 45 = .ok (.return_, 1) := by decide +kernel
theorem dX1_clear_0 : decode cX1_clear 0 = .ok (.iconst 0, 1) := by decide +kernel
theorem dX1_clear_1 : decode cX1_clear 1 = .ok (.istore_n 1, 1) := by decide +kernel
theorem dX1_clear_2 : decode cX1_clear 2 = .ok (.iload_n 1, 1) := by decide +kernel
theorem dX1_clear_3 : decode cX1_clear 3 = .ok (.iconst 5, 1) := by decide +kernel
theorem dX1_clear_4 : decode cX1_clear 4 = .ok (.if_icmp .ge 25, 3) := by decide +kernel
theorem dX1_clear_7 : decode cX1_clear 7 = .ok (.aload_n 0, 1) := by decide +kernel
theorem dX1_clear_8 : decode cX1_clear 8 = .ok (.getfield 11, 3) := by decide +kernel
theorem dX1_clear_11 : decode cX1_clear 11 = .ok (.iload_n 1, 1) := by decide +kernel
theorem dX1_clear_12 : decode cX1_clear 12 = .ok (.aaload, 1) := by decide +kernel
theorem dX1_clear_13 : decode cX1_clear 13 = .ok (.invokevirtual 22, 3) := by decide +kernel
theorem dX1_clear_16 : decode cX1_clear 16 = .ok (.aload_n 0, 1) := by decide +kernel
theorem dX1_clear_17 : decode cX1_clear 17 = .ok (.getfield 17, 3) := by decide +kernel
theorem dX1_clear_20 : decode cX1_clear 20 = .ok (.iload_n 1, 1) := by decide +kernel
theorem dX1_clear_21 : decode cX1_clear 21 = .ok (.iconst 0, 1) := by decide +kernel
theorem dX1_clear_22 : decode cX1_clear 22 = .ok (.iastore, 1) := by decide +kernel
theorem dX1_clear_23 : decode cX1_clear 23 = .ok (.iinc 1 1, 3) := by decide +kernel
theorem dX1_clear_26 : decode cX1_clear 26 = .ok (.goto (-24), 3) := by decide +kernel
theorem dX1_clear_29 : decode cX1_clear 29 = .ok (.return_, 1) := by decide +kernel
theorem dX1_copyFrom_0 : decode cX1_copyFrom 0 = .ok (.iconst 0, 1) := by decide +kernel
theorem dX1_copyFrom_1 : decode cX1_copyFrom 1 = .ok (.istore_n 2, 1) := by decide +kernel
theorem dX1_copyFrom_2 : decode cX1_copyFrom 2 = .ok (.iload_n 2, 1) := by decide +kernel
theorem dX1_copyFrom_3 : decode cX1_copyFrom 3 = .ok (.iconst 5, 1) := by decide +kernel
theorem dX1_copyFrom_4 : decode cX1_copyFrom 4 = .ok (.if_icmp .ge 36, 3) := by decide +kernel
theorem dX1_copyFrom_7 : decode cX1_copyFrom 7 = .ok (.aload_n 0, 1) := by decide +kernel
theorem dX1_copyFrom_8 : decode cX1_copyFrom 8 = .ok (.getfield 11, 3) := by decide +kernel
theorem dX1_copyFrom_11 : decode cX1_copyFrom 11 = .ok (.iload_n 2, 1) := by decide +kernel
theorem dX1_copyFrom_12 : decode cX1_copyFrom 12 = .ok (.aaload, 1) := by decide +kernel
theorem dX1_copyFrom_13 : decode cX1_copyFrom 13 = .ok (.aload_n 1, 1) := by decide +kernel
theorem dX1_copyFrom_14 : decode cX1_copyFrom 14 = .ok (.getfield 11, 3) := by decide +kernel
theorem dX1_copyFrom_17 : decode cX1_copyFrom 17 = .ok (.iload_n 2, 1) := by decide +kernel
theorem dX1_copyFrom_18 : decode cX1_copyFrom 18 = .ok (.aaload, 1) := by decide +kernel
theorem dX1_copyFrom_19 : decode cX1_copyFrom 19 = .ok (.invokevirtual 25, 3) := by decide +kernel
theorem dX1_copyFrom_22 : decode cX1_copyFrom 22 = .ok (.aload_n 0, 1) := by decide +kernel
theorem dX1_copyFrom_23 : decode cX1_copyFrom 23 = .ok (.getfield 17, 3) := by decide +kernel
theorem dX1_copyFrom_26 : decode cX1_copyFrom 26 = .ok (.iload_n 2, 1) := by decide +kernel
theorem dX1_copyFrom_27 : decode cX1_copyFrom 27 = .ok (.aload_n 1, 1) := by decide +kernel
theorem dX1_copyFrom_28 : decode cX1_copyFrom 28 = .ok (.getfield 17, 3) := by decide +kernel
theorem dX1_copyFrom_31 : decode cX1_copyFrom 31 = .ok (.iload_n 2, 1) := by decide +kernel
theorem dX1_copyFrom_32 : decode cX1_copyFrom 32 = .ok (.iaload, 1) := by decide +kernel
theorem dX1_copyFrom_33 : decode cX1_copyFrom 33 = .ok (.iastore, 1) := by decide +kernel
theorem dX1_copyFrom_34 : decode cX1_copyFrom 34 = .ok (.iinc 2 1, 3) := by decide +kernel
theorem dX1_copyFrom_37 : decode cX1_copyFrom 37 = .ok (.goto (-35), 3) := by decide +kernel
theorem dX1_copyFrom_40 : decode cX1_copyFrom 40 = .ok (.return_, 1) := by decide +kernel
theorem dX1_replaceByLater_0 : decode cX1_replaceByLater 0 = .ok (.iconst 0, 1) := by decide +kernel
theorem dX1_replaceByLater_1 : decode cX1_replaceByLater 1 = .ok (.istore_n 2, 1) := by decide +kernel
theorem dX1_replaceByLater_2 : decode cX1_replaceByLater 2 = .ok (.iconst 0, 1) := by decide +kernel
theorem dX1_replaceByLater_3 : decode cX1_replaceByLater 3 = .ok (.istore_n 3, 1) := by decide +kernel
theorem dX1_replaceByLater_4 : decode cX1_replaceByLater 4 = .ok (.iload_n 3, 1) := by decide +kernel
theorem dX1_replaceByLater_5 : decode cX1_replaceByLater 5 = .ok (.iconst 5, 1) := by decide +kernel
theorem dX1_replaceByLater_6 : decode cX1_replaceByLater 6 = .ok (.if_icmp .ge 64, 3) := by decide +kernel
theorem dX1_replaceByLater_9 : decode cX1_replaceByLater 9 = .ok (.aload_n 1, 1) := by decide +kernel
theorem dX1_replaceByLater_10 : decode cX1_replaceByLater 10 = .ok (.getfield 11, 3) := by decide +kernel
theorem dX1_replaceByLater_13 : decode cX1_replaceByLater 13 = .ok (.iload_n 3, 1) := by decide +kernel
theorem dX1_replaceByLater_14 : decode cX1_replaceByLater 14 = .ok (.aaload, 1) := by decide +kernel
theorem dX1_replaceByLater_15 : decode cX1_replaceByLater 15 = .ok (.getfield 29, 3) := by decide +kernel
theorem dX1_replaceByLater_18 : decode cX1_replaceByLater 18 = .ok (.iload_n 3, 1) := by decide +kernel
theorem dX1_replaceByLater_19 : decode cX1_replaceByLater 19 = .ok (.iaload, 1) := by decide +kernel
theorem dX1_replaceByLater_20 : decode cX1_replaceByLater 20 = .ok (.aload_n 0, 1) := by decide +kernel
theorem dX1_replaceByLater_21 : decode cX1_replaceByLater 21 = .ok (.getfield 11, 3) := by decide +kernel
theorem dX1_replaceByLater_24 : decode cX1_replaceByLater 24 = .ok (.iload_n 3, 1) := by decide +kernel
theorem dX1_replaceByLater_25 : decode cX1_replaceByLater 25 = .ok (.aaload, 1) := by decide +kernel
theorem dX1_replaceByLater_26 : decode cX1_replaceByLater 26 = .ok (.getfield 29, 3) := by decide +kernel
theorem dX1_replaceByLater_29 : decode cX1_replaceByLater 29 = .ok (.iload_n 3, 1) := by decide +kernel
theorem dX1_replaceByLater_30 : decode cX1_replaceByLater 30 = .ok (.iaload, 1) := by decide +kernel
theorem dX1_replaceByLater_31 : decode cX1_replaceByLater 31 = .ok (.if_icmp .le 33, 3) := by decide +kernel
theorem dX1_replaceByLater_34 : decode cX1_replaceByLater 34 = .ok (.aload_n 0, 1) := by decide +kernel
theorem dX1_replaceByLater_35 : decode cX1_replaceByLater 35 = .ok (.getfield 11, 3) := by decide +kernel
theorem dX1_replaceByLater_38 : decode cX1_replaceByLater 38 = .ok (.iload_n 3, 1) := by decide +kernel
theorem dX1_replaceByLater_39 : decode cX1_replaceByLater 39 = .ok (.aaload, 1) := by decide +kernel
theorem dX1_replaceByLater_40 : decode cX1_replaceByLater 40 = .ok (.aload_n 1, 1) := by decide +kernel
theorem dX1_replaceByLater_41 : decode cX1_replaceByLater 41 = .ok (.getfield 11, 3) := by decide +kernel
theorem dX1_replaceByLater_44 : decode cX1_replaceByLater 44 = .ok (.iload_n 3, 1) := by decide +kernel
theorem dX1_replaceByLater_45 : decode cX1_replaceByLater 45 = .ok (.aaload, 1) := by decide +kernel
theorem dX1_replaceByLater_46 : decode cX1_replaceByLater 46 = .ok (.invokevirtual 25, 3) := by decide +kernel
theorem dX1_replaceByLater_49 : decode cX1_replaceByLater 49 = .ok (.aload_n 0, 1) := by decide +kernel
theorem dX1_replaceByLater_50 : decode cX1_replaceByLater 50 = .ok (.getfield 17, 3) := by decide +kernel
theorem dX1_replaceByLater_53 : decode cX1_replaceByLater 53 = .ok (.iload_n 3, 1) := by decide +kernel
theorem dX1_replaceByLater_54 : decode cX1_replaceByLater 54 = .ok (.aload_n 1, 1) := by decide +kernel
theorem dX1_replaceByLater_55 : decode cX1_replaceByLater 55 = .ok (.getfield 17, 3) := by decide +kernel
theorem dX1_replaceByLater_58 : decode cX1_replaceByLater 58 = .ok (.iload_n 3, 1) := by decide +kernel
theorem dX1_replaceByLater_59 : decode cX1_replaceByLater 59 = .ok (.iaload, 1) := by decide +kernel
theorem dX1_replaceByLater_60 : decode cX1_replaceByLater 60 = .ok (.iastore, 1) := by decide +kernel
theorem dX1_replaceByLater_61 : decode cX1_replaceByLater 61 = .ok (.iinc 2 1, 3) := by decide +kernel
theorem dX1_replaceByLater_64 : decode cX1_replaceByLater 64 = .ok (.iinc 3 1, 3) := by decide +kernel
theorem dX1_replaceByLater_67 : decode cX1_replaceByLater 67 = .ok (.goto (-63), 3) := by decide +kernel
theorem dX1_replaceByLater_70 : decode cX1_replaceByLater 70 = .ok (.iload_n 2, 1) := by decide +kernel
theorem dX1_replaceByLater_71 : decode cX1_replaceByLater 71 = .ok (.ireturn, 1) := by decide +kernel
theorem dX1_areForked_0 : decode cX1_areForked 0 = .ok (.iconst 0, 1) := by decide +kernel
theorem dX1_areForked_1 : decode cX1_areForked 1 = .ok (.istore_n 1, 1) := by decide +kernel
theorem dX1_areForked_2 : decode cX1_areForked 2 = .ok (.iload_n 1, 1) := by decide +kernel
theorem dX1_areForked_3 : decode cX1_areForked 3 = .ok (.iconst 5, 1) := by decide +kernel
theorem dX1_areForked_4 : decode cX1_areForked 4 = .ok (.if_icmp .ge 45, 3) := by decide +kernel
theorem dX1_areForked_7 : decode cX1_areForked 7 = .ok (.iload_n 1, 1) := by decide +kernel
theorem dX1_areForked_8 : decode cX1_areForked 8 = .ok (.iconst 1, 1) := by decide +kernel
theorem dX1_areForked_9 : decode cX1_areForked 9 = .ok (.iadd, 1) := by decide +kernel
theorem dX1_areForked_10 : decode cX1_areForked 10 = .ok (.istore_n 2, 1) := by decide +kernel
theorem dX1_areForked_11 : decode cX1_areForked 11 = .ok (.iload_n 2, 1) := by decide +kernel
theorem dX1_areForked_12 : decode cX1_areForked 12 = .ok (.iconst 5, 1) := by decide +kernel
theorem dX1_areForked_13 : decode cX1_areForked 13 = .ok (.if_icmp .ge 30, 3) := by decide +kernel
theorem dX1_areForked_16 : decode cX1_areForked 16 = .ok (.aload_n 0, 1) := by decide +kernel
theorem dX1_areForked_17 : decode cX1_areForked 17 = .ok (.getfield 11, 3) := by decide +kernel
theorem dX1_areForked_20 : decode cX1_areForked 20 = .ok (.iload_n 1, 1) := by decide +kernel
theorem dX1_areForked_21 : decode cX1_areForked 21 = .ok (.aaload, 1) := by decide +kernel
theorem dX1_areForked_22 : decode cX1_areForked 22 = .ok (.aload_n 0, 1) := by decide +kernel
theorem dX1_areForked_23 : decode cX1_areForked 23 = .ok (.getfield 11, 3) := by decide +kernel
theorem dX1_areForked_26 : decode cX1_areForked 26 = .ok (.iload_n 2, 1) := by decide +kernel
theorem dX1_areForked_27 : decode cX1_areForked 27 = .ok (.aaload, 1) := by decide +kernel
theorem dX1_areForked_28 : decode cX1_areForked 28 = .ok (.invokevirtual 32, 3) := by decide +kernel
theorem dX1_areForked_31 : decode cX1_areForked 31 = .ok (.iconst 2, 1) := by decide +kernel
theorem dX1_areForked_32 : decode cX1_areForked 32 = .ok (.if_icmp .ne 5, 3) := by decide +kernel
theorem dX1_areForked_35 : decode cX1_areForked 35 = .ok (.iconst 1, 1) := by decide +kernel
theorem dX1_areForked_36 : decode cX1_areForked 36 = .ok (.ireturn, 1) := by decide +kernel
theorem dX1_areForked_37 : decode cX1_areForked 37 = .ok (.iinc 2 1, 3) := by decide +kernel
theorem dX1_areForked_40 : decode cX1_areForked 40 = .ok (.goto (-29), 3) := by decide +kernel
theorem dX1_areForked_43 : decode cX1_areForked 43 = .ok (.iinc 1 1, 3) := by decide +kernel
theorem dX1_areForked_46 : decode cX1_areForked 46 = .ok (.goto (-44), 3) := by decide +kernel
theorem dX1_areForked_49 : decode cX1_areForked 49 = .ok (.iconst 0, 1) := by decide +kernel
theorem dX1_areForked_50 : decode cX1_areForked 50 = .ok (.ireturn, 1) := by decide +kernel
theorem dX1_greatest_0 : decode cX1_greatest 0 = .ok (.aload_n 0, 1) := by decide +kernel
theorem dX1_greatest_1 : decode cX1_greatest 1 = .ok (.getfield 11, 3) := by decide +kernel
theorem dX1_greatest_4 : decode cX1_greatest 4 = .ok (.iconst 0, 1) := by decide +kernel
theorem dX1_greatest_5 : decode cX1_greatest 5 = .ok (.aaload, 1) := by decide +kernel
theorem dX1_greatest_6 : decode cX1_greatest 6 = .ok (.astore_n 1, 1) := by decide +kernel
theorem dX1_greatest_7 : decode cX1_greatest 7 = .ok (.iconst 1, 1) := by decide +kernel
theorem dX1_greatest_8 : decode cX1_greatest 8 = .ok (.istore_n 2, 1) := by decide +kernel
theorem dX1_greatest_9 : decode cX1_greatest 9 = .ok (.iload_n 2, 1) := by decide +kernel
theorem dX1_greatest_10 : decode cX1_greatest 10 = .ok (.iconst 5, 1) := by decide +kernel
theorem dX1_greatest_11 : decode cX1_greatest 11 = .ok (.if_icmp .ge 29, 3) := by decide +kernel
theorem dX1_greatest_14 : decode cX1_greatest 14 = .ok (.aload_n 1, 1) := by decide +kernel
theorem dX1_greatest_15 : decode cX1_greatest 15 = .ok (.aload_n 0, 1) := by decide +kernel
theorem dX1_greatest_16 : decode cX1_greatest 16 = .ok (.getfield 11, 3) := by decide +kernel
theorem dX1_greatest_19 : decode cX1_greatest 19 = .ok (.iload_n 2, 1) := by decide +kernel
theorem dX1_greatest_20 : decode cX1_greatest 20 = .ok (.aaload, 1) := by decide +kernel
theorem dX1_greatest_21 : decode cX1_greatest 21 = .ok (.invokevirtual 36, 3) := by decide +kernel
theorem dX1_greatest_24 : decode cX1_greatest 24 = .ok (.ifCond .eq 10, 3) := by decide +kernel
theorem dX1_greatest_27 : decode cX1_greatest 27 = .ok (.aload_n 0, 1) := by decide +kernel
theorem dX1_greatest_28 : decode cX1_greatest 28 = .ok (.getfield 11, 3) := by decide +kernel
theorem dX1_greatest_31 : decode cX1_greatest 31 = .ok (.iload_n 2, 1) := by decide +kernel
theorem dX1_greatest_32 : decode cX1_greatest 32 = .ok (.aaload, 1) := by decide +kernel
theorem dX1_greatest_33 : decode cX1_greatest 33 = .ok (.astore_n 1, 1) := by decide +kernel
theorem dX1_greatest_34 : decode cX1_greatest 34 = .ok (.iinc 2 1, 3) := by decide +kernel
theorem dX1_greatest_37 : decode cX1_greatest 37 = .ok (.goto (-28), 3) := by decide +kernel
theorem dX1_greatest_40 : decode cX1_greatest 40 = .ok (.aload_n 1, 1) := by decide +kernel
theorem dX1_greatest_41 : decode cX1_greatest 41 = .ok (.areturn, 1) := by decide +kernel
theorem dX1_prove_0 : decode cX1_prove 0 = .ok (.iconst 0, 1) := by decide +kernel
theorem dX1_prove_1 : decode cX1_prove 1 = .ok (.istore_n 2, 1) := by decide +kernel
theorem dX1_prove_2 : decode cX1_prove 2 = .ok (.iload_n 2, 1) := by decide +kernel
theorem dX1_prove_3 : decode cX1_prove 3 = .ok (.iconst 5, 1) := by decide +kernel
theorem dX1_prove_4 : decode cX1_prove 4 = .ok (.if_icmp .ge 61, 3) := by decide +kernel
theorem dX1_prove_7 : decode cX1_prove 7 = .ok (.iload_n 2, 1) := by decide +kernel
theorem dX1_prove_8 : decode cX1_prove 8 = .ok (.iconst 1, 1) := by decide +kernel
theorem dX1_prove_9 : decode cX1_prove 9 = .ok (.iadd, 1) := by decide +kernel
theorem dX1_prove_10 : decode cX1_prove 10 = .ok (.istore_n 3, 1) := by decide +kernel
theorem dX1_prove_11 : decode cX1_prove 11 = .ok (.iload_n 3, 1) := by decide +kernel
theorem dX1_prove_12 : decode cX1_prove 12 = .ok (.iconst 5, 1) := by decide +kernel
theorem dX1_prove_13 : decode cX1_prove 13 = .ok (.if_icmp .ge 46, 3) := by decide +kernel
theorem dX1_prove_16 : decode cX1_prove 16 = .ok (.aload_n 0, 1) := by decide +kernel
theorem dX1_prove_17 : decode cX1_prove 17 = .ok (.getfield 11, 3) := by decide +kernel
theorem dX1_prove_20 : decode cX1_prove 20 = .ok (.iload_n 2, 1) := by decide +kernel
theorem dX1_prove_21 : decode cX1_prove 21 = .ok (.aaload, 1) := by decide +kernel
theorem dX1_prove_22 : decode cX1_prove 22 = .ok (.aload_n 0, 1) := by decide +kernel
theorem dX1_prove_23 : decode cX1_prove 23 = .ok (.getfield 11, 3) := by decide +kernel
theorem dX1_prove_26 : decode cX1_prove 26 = .ok (.iload_n 3, 1) := by decide +kernel
theorem dX1_prove_27 : decode cX1_prove 27 = .ok (.aaload, 1) := by decide +kernel
theorem dX1_prove_28 : decode cX1_prove 28 = .ok (.invokevirtual 32, 3) := by decide +kernel
theorem dX1_prove_31 : decode cX1_prove 31 = .ok (.iconst 2, 1) := by decide +kernel
theorem dX1_prove_32 : decode cX1_prove 32 = .ok (.if_icmp .ne 21, 3) := by decide +kernel
theorem dX1_prove_35 : decode cX1_prove 35 = .ok (.aload_n 1, 1) := by decide +kernel
theorem dX1_prove_36 : decode cX1_prove 36 = .ok (.aload_n 0, 1) := by decide +kernel
theorem dX1_prove_37 : decode cX1_prove 37 = .ok (.getfield 11, 3) := by decide +kernel
theorem dX1_prove_40 : decode cX1_prove 40 = .ok (.iload_n 2, 1) := by decide +kernel
theorem dX1_prove_41 : decode cX1_prove 41 = .ok (.aaload, 1) := by decide +kernel
theorem dX1_prove_42 : decode cX1_prove 42 = .ok (.aload_n 0, 1) := by decide +kernel
theorem dX1_prove_43 : decode cX1_prove 43 = .ok (.getfield 11, 3) := by decide +kernel
theorem dX1_prove_46 : decode cX1_prove 46 = .ok (.iload_n 3, 1) := by decide +kernel
theorem dX1_prove_47 : decode cX1_prove 47 = .ok (.aaload, 1) := by decide +kernel
theorem dX1_prove_48 : decode cX1_prove 48 = .ok (.iconst 0, 1) := by decide +kernel
theorem dX1_prove_49 : decode cX1_prove 49 = .ok (.invokevirtual 40, 3) := by decide +kernel
theorem dX1_prove_52 : decode cX1_prove 52 = .ok (.return_, 1) := by decide +kernel
theorem dX1_prove_53 : decode cX1_prove 53 = .ok (.iinc 3 1, 3) := by decide +kernel
theorem dX1_prove_56 : decode cX1_prove 56 = .ok (.goto (-45), 3) := by decide +kernel
theorem dX1_prove_59 : decode cX1_prove 59 = .ok (.iinc 2 1, 3) := by decide +kernel
theorem dX1_prove_62 : decode cX1_prove 62 = .ok (.goto (-60), 3) := by decide +kernel
theorem dX1_prove_65 : decode cX1_prove 65 = .ok (.return_, 1) := by decide +kernel
theorem dX2_init_0 : decode cX2_init 0 = .ok (.aload_n 0, 1) := by decide +kernel
theorem dX2_init_1 : decode cX2_init 1 = .ok (.invokespecial 3, 3) := by decide +kernel
theorem dX2_init_4 : decode cX2_init 4 = .ok (.aload_n 0, 1) := by decide +kernel
theorem dX2_init_5 : decode cX2_init 5 = .ok (.new 9, 3) := by decide +kernel
theorem dX2_init_8 : decode cX2_init 8 = .ok (.dup, 1) := by decide +kernel
theorem dX2_init_9 : decode cX2_init 9 = .ok (.invokespecial 11, 3) := by decide +kernel
theorem dX2_init_12 : decode cX2_init 12 = .ok (.putfield 12, 3) := by decide +kernel
theorem dX2_init_15 : decode cX2_init 15 = .ok (.aload_n 0, 1) := by decide +kernel
theorem dX2_init_16 : decode cX2_init 16 = .ok (.new 9, 3) := by decide +kernel
theorem dX2_init_19 : decode cX2_init 19 = .ok (.dup, 1) := by decide +kernel
theorem dX2_init_20 : decode cX2_init 20 = .ok (.invokespecial 11, 3) := by decide +kernel
theorem dX2_init_23 : decode cX2_init 23 = .ok (.putfield 18, 3) := by decide +kernel
theorem dX2_init_26 : decode cX2_init 26 = .ok (.aload_n 0, 1) := by decide +kernel
theorem dX2_init_27 : decode cX2_init 27 = .ok (.new 21, 3) := by decide +kernel
theorem dX2_init_30 : decode cX2_init 30 = .ok (.dup, 1) := by decide +kernel
theorem dX2_init_31 : decode cX2_init 31 = .ok (.invokespecial 23, 3) := by decide +kernel
theorem dX2_init_34 : decode cX2_init 34 = .ok (.putfield 24, 3) := by decide +kernel
theorem dX2_init_37 : decode cX2_init 37 = .ok (.aload_n 0, 1) := by decide +kernel
theorem dX2_init_38 : decode cX2_init 38 = .ok (.new 28, 3) := by decide +kernel
theorem dX2_init_41 : decode cX2_init 41 = .ok (.dup, 1) := by decide +kernel
theorem dX2_init_42 : decode cX2_init 42 = .ok (.invokespecial 30, 3) := by decide +kernel
theorem dX2_init_45 : decode cX2_init 45 = .ok (.putfield 31, 3) := by decide +kernel
theorem dX2_init_48 : decode cX2_init 48 = .ok (.return_, 1) := by decide +kernel
theorem dX2_clear_0 : decode cX2_clear 0 = .ok (.aload_n 0, 1) := by decide +kernel
theorem dX2_clear_1 : decode cX2_clear 1 = .ok (.getfield 12, 3) := by decide +kernel
theorem dX2_clear_4 : decode cX2_clear 4 = .ok (.invokevirtual 35, 3) := by decide +kernel
theorem dX2_clear_7 : decode cX2_clear 7 = .ok (.aload_n 0, 1) := by decide +kernel
theorem dX2_clear_8 : decode cX2_clear 8 = .ok (.getfield 18, 3) := by decide +kernel
theorem dX2_clear_11 : decode cX2_clear 11 = .ok (.invokevirtual 35, 3) := by decide +kernel
theorem dX2_clear_14 : decode cX2_clear 14 = .ok (.aload_n 0, 1) := by decide +kernel
theorem dX2_clear_15 : decode cX2_clear 15 = .ok (.getfield 24, 3) := by decide +kernel
theorem dX2_clear_18 : decode cX2_clear 18 = .ok (.invokevirtual 38, 3) := by decide +kernel
theorem dX2_clear_21 : decode cX2_clear 21 = .ok (.aload_n 0, 1) := by decide +kernel
theorem dX2_clear_22 : decode cX2_clear 22 = .ok (.getfield 31, 3) := by decide +kernel
theorem dX2_clear_25 : decode cX2_clear 25 = .ok (.iconst 0, 1) := by decide +kernel
theorem dX2_clear_26 : decode cX2_clear 26 = .ok (.putfield 39, 3) := by decide +kernel
theorem dX2_clear_29 : decode cX2_clear 29 = .ok (.aload_n 0, 1) := by decide +kernel
theorem dX2_clear_30 : decode cX2_clear 30 = .ok (.iconst 0, 1) := by decide +kernel
theorem dX2_clear_31 : decode cX2_clear 31 = .ok (.putfield 43, 3) := by decide +kernel
theorem dX2_clear_34 : decode cX2_clear 34 = .ok (.aload_n 0, 1) := by decide +kernel
theorem dX2_clear_35 : decode cX2_clear 35 = .ok (.iconst 0, 1) := by decide +kernel
theorem dX2_clear_36 : decode cX2_clear 36 = .ok (.putfield 46, 3) := by decide +kernel
theorem dX2_clear_39 : decode cX2_clear 39 = .ok (.aload_n 0, 1) := by decide +kernel
theorem dX2_clear_40 : decode cX2_clear 40 = .ok (.iconst 0, 1) := by decide +kernel
theorem dX2_clear_41 : decode cX2_clear 41 = .ok (.putfield 49, 3) := by decide +kernel
theorem dX2_clear_44 : decode cX2_clear 44 = .ok (.aload_n 0, 1) := by decide +kernel
theorem dX2_clear_45 : decode cX2_clear 45 = .ok (.iconst 0, 1) := by decide +kernel
theorem dX2_clear_46 : decode cX2_clear 46 = .ok (.putfield 53, 3) := by decide +kernel
theorem dX2_clear_49 : decode cX2_clear 49 = .ok (.aload_n 0, 1) := by decide +kernel
theorem dX2_clear_50 : decode cX2_clear 50 = .ok (.iconst 0, 1) := by decide +kernel
theorem dX2_clear_51 : decode cX2_clear 51 = .ok (.putfield 56, 3) := by decide +kernel
theorem dX2_clear_54 : decode cX2_clear 54 = .ok (.aload_n 0, 1) := by decide +kernel
theorem dX2_clear_55 : decode cX2_clear 55 = .ok (.iconst 0, 1) := by decide +kernel
theorem dX2_clear_56 : decode cX2_clear 56 = .ok (.putfield 59, 3) := by decide +kernel
theorem dX2_clear_59 : decode cX2_clear 59 = .ok (.return_, 1) := by decide +kernel
theorem dX2_hear_0 : decode cX2_hear 0 = .ok (.aload_n 0, 1) := by decide +kernel
theorem dX2_hear_1 : decode cX2_hear 1 = .ok (.iload_n 1, 1) := by decide +kernel
theorem dX2_hear_2 : decode cX2_hear 2 = .ok (.putfield 62, 3) := by decide +kernel
theorem dX2_hear_5 : decode cX2_hear 5 = .ok (.aload_n 0, 1) := by decide +kernel
theorem dX2_hear_6 : decode cX2_hear 6 = .ok (.iconst 1, 1) := by decide +kernel
theorem dX2_hear_7 : decode cX2_hear 7 = .ok (.putfield 49, 3) := by decide +kernel
theorem dX2_hear_10 : decode cX2_hear 10 = .ok (.return_, 1) := by decide +kernel
theorem dX2_raise_0 : decode cX2_raise 0 = .ok (.aload_n 0, 1) := by decide +kernel
theorem dX2_raise_1 : decode cX2_raise 1 = .ok (.getfield 46, 3) := by decide +kernel
theorem dX2_raise_4 : decode cX2_raise 4 = .ok (.ifCond .ne 8, 3) := by decide +kernel
theorem dX2_raise_7 : decode cX2_raise 7 = .ok (.aload_n 0, 1) := by decide +kernel
theorem dX2_raise_8 : decode cX2_raise 8 = .ok (.iload_n 1, 1) := by decide +kernel
theorem dX2_raise_9 : decode cX2_raise 9 = .ok (.putfield 46, 3) := by decide +kernel
theorem dX2_raise_12 : decode cX2_raise 12 = .ok (.return_, 1) := by decide +kernel
theorem dX2_sign_0 : decode cX2_sign 0 = .ok (.aload_n 0, 1) := by decide +kernel
theorem dX2_sign_1 : decode cX2_sign 1 = .ok (.getfield 18, 3) := by decide +kernel
theorem dX2_sign_4 : decode cX2_sign 4 = .ok (.aload_n 2, 1) := by decide +kernel
theorem dX2_sign_5 : decode cX2_sign 5 = .ok (.invokevirtual 65, 3) := by decide +kernel
theorem dX2_sign_8 : decode cX2_sign 8 = .ok (.invokevirtual 71, 3) := by decide +kernel
theorem dX2_sign_11 : decode cX2_sign 11 = .ok (.aload_n 0, 1) := by decide +kernel
theorem dX2_sign_12 : decode cX2_sign 12 = .ok (.getfield 18, 3) := by decide +kernel
theorem dX2_sign_15 : decode cX2_sign 15 = .ok (.getfield 75, 3) := by decide +kernel
theorem dX2_sign_18 : decode cX2_sign 18 = .ok (.iload_n 1, 1) := by decide +kernel
theorem dX2_sign_19 : decode cX2_sign 19 = .ok (.dup2, 1) := by decide +kernel
theorem dX2_sign_20 : decode cX2_sign 20 = .ok (.iaload, 1) := by decide +kernel
theorem dX2_sign_21 : decode cX2_sign 21 = .ok (.iconst 1, 1) := by decide +kernel
theorem dX2_sign_22 : decode cX2_sign 22 = .ok (.iadd, 1) := by decide +kernel
theorem dX2_sign_23 : decode cX2_sign 23 = .ok (.iastore, 1) := by decide +kernel
theorem dX2_sign_24 : decode cX2_sign 24 = .ok (.aload_n 0, 1) := by decide +kernel
theorem dX2_sign_25 : decode cX2_sign 25 = .ok (.getfield 12, 3) := by decide +kernel
theorem dX2_sign_28 : decode cX2_sign 28 = .ok (.aload_n 0, 1) := by decide +kernel
theorem dX2_sign_29 : decode cX2_sign 29 = .ok (.getfield 18, 3) := by decide +kernel
theorem dX2_sign_32 : decode cX2_sign 32 = .ok (.invokevirtual 71, 3) := by decide +kernel
theorem dX2_sign_35 : decode cX2_sign 35 = .ok (.aload_n 2, 1) := by decide +kernel
theorem dX2_sign_36 : decode cX2_sign 36 = .ok (.getfield 79, 3) := by decide +kernel
theorem dX2_sign_39 : decode cX2_sign 39 = .ok (.iload_n 1, 1) := by decide +kernel
theorem dX2_sign_40 : decode cX2_sign 40 = .ok (.aaload, 1) := by decide +kernel
theorem dX2_sign_41 : decode cX2_sign 41 = .ok (.aload_n 0, 1) := by decide +kernel
theorem dX2_sign_42 : decode cX2_sign 42 = .ok (.getfield 18, 3) := by decide +kernel
theorem dX2_sign_45 : decode cX2_sign 45 = .ok (.invokevirtual 71, 3) := by decide +kernel
theorem dX2_sign_48 : decode cX2_sign 48 = .ok (.aload_n 0, 1) := by decide +kernel
theorem dX2_sign_49 : decode cX2_sign 49 = .ok (.dup, 1) := by decide +kernel
theorem dX2_sign_50 : decode cX2_sign 50 = .ok (.getfield 53, 3) := by decide +kernel
theorem dX2_sign_53 : decode cX2_sign 53 = .ok (.iconst 1, 1) := by decide +kernel
theorem dX2_sign_54 : decode cX2_sign 54 = .ok (.iadd, 1) := by decide +kernel
theorem dX2_sign_55 : decode cX2_sign 55 = .ok (.putfield 53, 3) := by decide +kernel
theorem dX2_sign_58 : decode cX2_sign 58 = .ok (.return_, 1) := by decide +kernel
theorem dX2_proveLack_0 : decode cX2_proveLack 0 = .ok (.aload_n 0, 1) := by decide +kernel
theorem dX2_proveLack_1 : decode cX2_proveLack 1 = .ok (.getfield 18, 3) := by decide +kernel
theorem dX2_proveLack_4 : decode cX2_proveLack 4 = .ok (.aload_n 1, 1) := by decide +kernel
theorem dX2_proveLack_5 : decode cX2_proveLack 5 = .ok (.invokevirtual 83, 3) := by decide +kernel
theorem dX2_proveLack_8 : decode cX2_proveLack 8 = .ok (.iconst 2, 1) := by decide +kernel
theorem dX2_proveLack_9 : decode cX2_proveLack 9 = .ok (.if_icmp .ne 16, 3) := by decide +kernel
theorem dX2_proveLack_12 : decode cX2_proveLack 12 = .ok (.aload_n 0, 1) := by decide +kernel
theorem dX2_proveLack_13 : decode cX2_proveLack 13 = .ok (.getfield 24, 3) := by decide +kernel
theorem dX2_proveLack_16 : decode cX2_proveLack 16 = .ok (.aload_n 0, 1) := by decide +kernel
theorem dX2_proveLack_17 : decode cX2_proveLack 17 = .ok (.getfield 18, 3) := by decide +kernel
theorem dX2_proveLack_20 : decode cX2_proveLack 20 = .ok (.aload_n 1, 1) := by decide +kernel
theorem dX2_proveLack_21 : decode cX2_proveLack 21 = .ok (.iconst 0, 1) := by decide +kernel
theorem dX2_proveLack_22 : decode cX2_proveLack 22 = .ok (.invokevirtual 87, 3) := by decide +kernel
theorem dX2_proveLack_25 : decode cX2_proveLack 25 = .ok (.return_, 1) := by decide +kernel
theorem dX2_learn_0 : decode cX2_learn 0 = .ok (.aload_n 1, 1) := by decide +kernel
theorem dX2_learn_1 : decode cX2_learn 1 = .ok (.aload_n 0, 1) := by decide +kernel
theorem dX2_learn_2 : decode cX2_learn 2 = .ok (.getfield 18, 3) := by decide +kernel
theorem dX2_learn_5 : decode cX2_learn 5 = .ok (.invokevirtual 91, 3) := by decide +kernel
theorem dX2_learn_8 : decode cX2_learn 8 = .ok (.ifCond .eq 5, 3) := by decide +kernel
theorem dX2_learn_11 : decode cX2_learn 11 = .ok (.iconst 0, 1) := by decide +kernel
theorem dX2_learn_12 : decode cX2_learn 12 = .ok (.ireturn, 1) := by decide +kernel
theorem dX2_learn_13 : decode cX2_learn 13 = .ok (.aload_n 0, 1) := by decide +kernel
theorem dX2_learn_14 : decode cX2_learn 14 = .ok (.getfield 18, 3) := by decide +kernel
theorem dX2_learn_17 : decode cX2_learn 17 = .ok (.aload_n 1, 1) := by decide +kernel
theorem dX2_learn_18 : decode cX2_learn 18 = .ok (.invokevirtual 91, 3) := by decide +kernel
theorem dX2_learn_21 : decode cX2_learn 21 = .ok (.ifCond .eq 13, 3) := by decide +kernel
theorem dX2_learn_24 : decode cX2_learn 24 = .ok (.aload_n 0, 1) := by decide +kernel
theorem dX2_learn_25 : decode cX2_learn 25 = .ok (.getfield 18, 3) := by decide +kernel
theorem dX2_learn_28 : decode cX2_learn 28 = .ok (.aload_n 1, 1) := by decide +kernel
theorem dX2_learn_29 : decode cX2_learn 29 = .ok (.invokevirtual 71, 3) := by decide +kernel
theorem dX2_learn_32 : decode cX2_learn 32 = .ok (.iconst 1, 1) := by decide +kernel
theorem dX2_learn_33 : decode cX2_learn 33 = .ok (.ireturn, 1) := by decide +kernel
theorem dX2_learn_34 : decode cX2_learn 34 = .ok (.aload_n 0, 1) := by decide +kernel
theorem dX2_learn_35 : decode cX2_learn 35 = .ok (.getfield 24, 3) := by decide +kernel
theorem dX2_learn_38 : decode cX2_learn 38 = .ok (.aload_n 0, 1) := by decide +kernel
theorem dX2_learn_39 : decode cX2_learn 39 = .ok (.getfield 18, 3) := by decide +kernel
theorem dX2_learn_42 : decode cX2_learn 42 = .ok (.aload_n 1, 1) := by decide +kernel
theorem dX2_learn_43 : decode cX2_learn 43 = .ok (.iconst 0, 1) := by decide +kernel
theorem dX2_learn_44 : decode cX2_learn 44 = .ok (.invokevirtual 87, 3) := by decide +kernel
theorem dX2_learn_47 : decode cX2_learn 47 = .ok (.aload_n 0, 1) := by decide +kernel
theorem dX2_learn_48 : decode cX2_learn 48 = .ok (.iconst 4, 1) := by decide +kernel
theorem dX2_learn_49 : decode cX2_learn 49 = .ok (.invokevirtual 95, 3) := by decide +kernel
theorem dX2_learn_52 : decode cX2_learn 52 = .ok (.iconst 2, 1) := by decide +kernel
theorem dX2_learn_53 : decode cX2_learn 53 = .ok (.ireturn, 1) := by decide +kernel
theorem dX3_init_0 : decode cX3_init 0 = .ok (.aload_n 0, 1) := by decide +kernel
theorem dX3_init_1 : decode cX3_init 1 = .ok (.invokespecial 1, 3) := by decide +kernel
theorem dX3_init_4 : decode cX3_init 4 = .ok (.aload_n 0, 1) := by decide +kernel
theorem dX3_init_5 : decode cX3_init 5 = .ok (.new 7, 3) := by decide +kernel
theorem dX3_init_8 : decode cX3_init 8 = .ok (.dup, 1) := by decide +kernel
theorem dX3_init_9 : decode cX3_init 9 = .ok (.invokespecial 9, 3) := by decide +kernel
theorem dX3_init_12 : decode cX3_init 12 = .ok (.putfield 10, 3) := by decide +kernel
theorem dX3_init_15 : decode cX3_init 15 = .ok (.aload_n 0, 1) := by decide +kernel
theorem dX3_init_16 : decode cX3_init 16 = .ok (.new 7, 3) := by decide +kernel
theorem dX3_init_19 : decode cX3_init 19 = .ok (.dup, 1) := by decide +kernel
theorem dX3_init_20 : decode cX3_init 20 = .ok (.invokespecial 9, 3) := by decide +kernel
theorem dX3_init_23 : decode cX3_init 23 = .ok (.putfield 16, 3) := by decide +kernel
theorem dX3_init_26 : decode cX3_init 26 = .ok (.return_, 1) := by decide +kernel
theorem dX3_clear_0 : decode cX3_clear 0 = .ok (.aload_n 0, 1) := by decide +kernel
theorem dX3_clear_1 : decode cX3_clear 1 = .ok (.iconst 0, 1) := by decide +kernel
theorem dX3_clear_2 : decode cX3_clear 2 = .ok (.putfield 19, 3) := by decide +kernel
theorem dX3_clear_5 : decode cX3_clear 5 = .ok (.return_, 1) := by decide +kernel
theorem dX3_keepFirst_0 : decode cX3_keepFirst 0 = .ok (.aload_n 0, 1) := by decide +kernel
theorem dX3_keepFirst_1 : decode cX3_keepFirst 1 = .ok (.getfield 19, 3) := by decide +kernel
theorem dX3_keepFirst_4 : decode cX3_keepFirst 4 = .ok (.ifCond .eq 4, 3) := by decide +kernel
theorem dX3_keepFirst_7 : decode cX3_keepFirst 7 = .ok (.return_, 1) := by decide +kernel
theorem dX3_keepFirst_8 : decode cX3_keepFirst 8 = .ok (.aload_n 0, 1) := by decide +kernel
theorem dX3_keepFirst_9 : decode cX3_keepFirst 9 = .ok (.getfield 10, 3) := by decide +kernel
theorem dX3_keepFirst_12 : decode cX3_keepFirst 12 = .ok (.aload_n 1, 1) := by decide +kernel
theorem dX3_keepFirst_13 : decode cX3_keepFirst 13 = .ok (.invokevirtual 23, 3) := by decide +kernel
theorem dX3_keepFirst_16 : decode cX3_keepFirst 16 = .ok (.aload_n 0, 1) := by decide +kernel
theorem dX3_keepFirst_17 : decode cX3_keepFirst 17 = .ok (.getfield 16, 3) := by decide +kernel
theorem dX3_keepFirst_20 : decode cX3_keepFirst 20 = .ok (.aload_n 2, 1) := by decide +kernel
theorem dX3_keepFirst_21 : decode cX3_keepFirst 21 = .ok (.invokevirtual 23, 3) := by decide +kernel
theorem dX3_keepFirst_24 : decode cX3_keepFirst 24 = .ok (.aload_n 0, 1) := by decide +kernel
theorem dX3_keepFirst_25 : decode cX3_keepFirst 25 = .ok (.iload_n 3, 1) := by decide +kernel
theorem dX3_keepFirst_26 : decode cX3_keepFirst 26 = .ok (.putfield 27, 3) := by decide +kernel
theorem dX3_keepFirst_29 : decode cX3_keepFirst 29 = .ok (.aload_n 0, 1) := by decide +kernel
theorem dX3_keepFirst_30 : decode cX3_keepFirst 30 = .ok (.iconst 1, 1) := by decide +kernel
theorem dX3_keepFirst_31 : decode cX3_keepFirst 31 = .ok (.putfield 19, 3) := by decide +kernel
theorem dX3_keepFirst_34 : decode cX3_keepFirst 34 = .ok (.return_, 1) := by decide +kernel
theorem dX4_init_0 : decode cX4_init 0 = .ok (.aload_n 0, 1) := by decide +kernel
theorem dX4_init_1 : decode cX4_init 1 = .ok (.invokespecial 3, 3) := by decide +kernel
theorem dX4_init_4 : decode cX4_init 4 = .ok (.aload_n 0, 1) := by decide +kernel
theorem dX4_init_5 : decode cX4_init 5 = .ok (.bipush 60, 2) := by decide +kernel
theorem dX4_init_7 : decode cX4_init 7 = .ok (.newarray .int, 2) := by decide +kernel
theorem dX4_init_9 : decode cX4_init 9 = .ok (.putfield 9, 3) := by decide +kernel
theorem dX4_init_12 : decode cX4_init 12 = .ok (.return_, 1) := by decide +kernel
theorem dX4_append_0 : decode cX4_append 0 = .ok (.aload_n 0, 1) := by decide +kernel
theorem dX4_append_1 : decode cX4_append 1 = .ok (.getfield 15, 3) := by decide +kernel
theorem dX4_append_4 : decode cX4_append 4 = .ok (.bipush 60, 2) := by decide +kernel
theorem dX4_append_6 : decode cX4_append 6 = .ok (.if_icmp .ge 23, 3) := by decide +kernel
theorem dX4_append_9 : decode cX4_append 9 = .ok (.aload_n 0, 1) := by decide +kernel
theorem dX4_append_10 : decode cX4_append 10 = .ok (.getfield 9, 3) := by decide +kernel
theorem dX4_append_13 : decode cX4_append 13 = .ok (.aload_n 0, 1) := by decide +kernel
theorem dX4_append_14 : decode cX4_append 14 = .ok (.getfield 15, 3) := by decide +kernel
theorem dX4_append_17 : decode cX4_append 17 = .ok (.iload_n 1, 1) := by decide +kernel
theorem dX4_append_18 : decode cX4_append 18 = .ok (.iastore, 1) := by decide +kernel
theorem dX4_append_19 : decode cX4_append 19 = .ok (.aload_n 0, 1) := by decide +kernel
theorem dX4_append_20 : decode cX4_append 20 = .ok (.dup, 1) := by decide +kernel
theorem dX4_append_21 : decode cX4_append 21 = .ok (.getfield 15, 3) := by decide +kernel
theorem dX4_append_24 : decode cX4_append 24 = .ok (.iconst 1, 1) := by decide +kernel
theorem dX4_append_25 : decode cX4_append 25 = .ok (.iadd, 1) := by decide +kernel
theorem dX4_append_26 : decode cX4_append 26 = .ok (.putfield 15, 3) := by decide +kernel
theorem dX4_append_29 : decode cX4_append 29 = .ok (.return_, 1) := by decide +kernel
theorem dX4_digit_0 : decode cX4_digit 0 = .ok (.iload_n 1, 1) := by decide +kernel
theorem dX4_digit_1 : decode cX4_digit 1 = .ok (.ifCond .lt 23, 3) := by decide +kernel
theorem dX4_digit_4 : decode cX4_digit 4 = .ok (.iload_n 1, 1) := by decide +kernel
theorem dX4_digit_5 : decode cX4_digit 5 = .ok (.aload_n 0, 1) := by decide +kernel
theorem dX4_digit_6 : decode cX4_digit 6 = .ok (.getfield 15, 3) := by decide +kernel
theorem dX4_digit_9 : decode cX4_digit 9 = .ok (.if_icmp .ge 15, 3) := by decide +kernel
theorem dX4_digit_12 : decode cX4_digit 12 = .ok (.aload_n 0, 1) := by decide +kernel
theorem dX4_digit_13 : decode cX4_digit 13 = .ok (.getfield 9, 3) := by decide +kernel
theorem dX4_digit_16 : decode cX4_digit 16 = .ok (.iload_n 1, 1) := by decide +kernel
theorem dX4_digit_17 : decode cX4_digit 17 = .ok (.iaload, 1) := by decide +kernel
theorem dX4_digit_18 : decode cX4_digit 18 = .ok (.bipush 48, 2) := by decide +kernel
theorem dX4_digit_20 : decode cX4_digit 20 = .ok (.isub, 1) := by decide +kernel
theorem dX4_digit_21 : decode cX4_digit 21 = .ok (.goto 4, 3) := by decide +kernel
theorem dX4_digit_24 : decode cX4_digit 24 = .ok (.iconst 0, 1) := by decide +kernel
theorem dX4_digit_25 : decode cX4_digit 25 = .ok (.ireturn, 1) := by decide +kernel
theorem dX4_fault_0 : decode cX4_fault 0 = .ok (.iconst 0, 1) := by decide +kernel
theorem dX4_fault_1 : decode cX4_fault 1 = .ok (.istore_n 1, 1) := by decide +kernel
theorem dX4_fault_2 : decode cX4_fault 2 = .ok (.iload_n 1, 1) := by decide +kernel
theorem dX4_fault_3 : decode cX4_fault 3 = .ok (.aload_n 0, 1) := by decide +kernel
theorem dX4_fault_4 : decode cX4_fault 4 = .ok (.getfield 15, 3) := by decide +kernel
theorem dX4_fault_7 : decode cX4_fault 7 = .ok (.if_icmp .ge 43, 3) := by decide +kernel
theorem dX4_fault_10 : decode cX4_fault 10 = .ok (.iload_n 1, 1) := by decide +kernel
theorem dX4_fault_11 : decode cX4_fault 11 = .ok (.iconst 3, 1) := by decide +kernel
theorem dX4_fault_12 : decode cX4_fault 12 = .ok (.irem, 1) := by decide +kernel
theorem dX4_fault_13 : decode cX4_fault 13 = .ok (.ifCond .ne 15, 3) := by decide +kernel
theorem dX4_fault_16 : decode cX4_fault 16 = .ok (.aload_n 0, 1) := by decide +kernel
theorem dX4_fault_17 : decode cX4_fault 17 = .ok (.getfield 9, 3) := by decide +kernel
theorem dX4_fault_20 : decode cX4_fault 20 = .ok (.iload_n 1, 1) := by decide +kernel
theorem dX4_fault_21 : decode cX4_fault 21 = .ok (.iaload, 1) := by decide +kernel
theorem dX4_fault_22 : decode cX4_fault 22 = .ok (.invokestatic 19, 3) := by decide +kernel
theorem dX4_fault_25 : decode cX4_fault 25 = .ok (.goto 12, 3) := by decide +kernel
theorem dX4_fault_28 : decode cX4_fault 28 = .ok (.aload_n 0, 1) := by decide +kernel
theorem dX4_fault_29 : decode cX4_fault 29 = .ok (.getfield 9, 3) := by decide +kernel
theorem dX4_fault_32 : decode cX4_fault 32 = .ok (.iload_n 1, 1) := by decide +kernel
theorem dX4_fault_33 : decode cX4_fault 33 = .ok (.iaload, 1) := by decide +kernel
theorem dX4_fault_34 : decode cX4_fault 34 = .ok (.invokestatic 23, 3) := by decide +kernel
theorem dX4_fault_37 : decode cX4_fault 37 = .ok (.istore_n 2, 1) := by decide +kernel
theorem dX4_fault_38 : decode cX4_fault 38 = .ok (.iload_n 2, 1) := by decide +kernel
theorem dX4_fault_39 : decode cX4_fault 39 = .ok (.ifCond .ne 5, 3) := by decide +kernel
theorem dX4_fault_42 : decode cX4_fault 42 = .ok (.iload_n 1, 1) := by decide +kernel
theorem dX4_fault_43 : decode cX4_fault 43 = .ok (.ireturn, 1) := by decide +kernel
theorem dX4_fault_44 : decode cX4_fault 44 = .ok (.iinc 1 1, 3) := by decide +kernel
theorem dX4_fault_47 : decode cX4_fault 47 = .ok (.goto (-45), 3) := by decide +kernel
theorem dX4_fault_50 : decode cX4_fault 50 = .ok (.aload_n 0, 1) := by decide +kernel
theorem dX4_fault_51 : decode cX4_fault 51 = .ok (.getfield 15, 3) := by decide +kernel
theorem dX4_fault_54 : decode cX4_fault 54 = .ok (.iconst 3, 1) := by decide +kernel
theorem dX4_fault_55 : decode cX4_fault 55 = .ok (.irem, 1) := by decide +kernel
theorem dX4_fault_56 : decode cX4_fault 56 = .ok (.ifCond .ne 7, 3) := by decide +kernel
theorem dX4_fault_59 : decode cX4_fault 59 = .ok (.iconst (-1), 1) := by decide +kernel
theorem dX4_fault_60 : decode cX4_fault 60 = .ok (.goto 7, 3) := by decide +kernel
theorem dX4_fault_63 : decode cX4_fault 63 = .ok (.aload_n 0, 1) := by decide +kernel
theorem dX4_fault_64 : decode cX4_fault 64 = .ok (.getfield 15, 3) := by decide +kernel
theorem dX4_fault_67 : decode cX4_fault 67 = .ok (.ireturn, 1) := by decide +kernel
theorem dX4_isLetter_0 : decode cX4_isLetter 0 = .ok (.iload_n 0, 1) := by decide +kernel
theorem dX4_isLetter_1 : decode cX4_isLetter 1 = .ok (.bipush 119, 2) := by decide +kernel
theorem dX4_isLetter_3 : decode cX4_isLetter 3 = .ok (.if_icmp .eq 27, 3) := by decide +kernel
theorem dX4_isLetter_6 : decode cX4_isLetter 6 = .ok (.iload_n 0, 1) := by decide +kernel
theorem dX4_isLetter_7 : decode cX4_isLetter 7 = .ok (.bipush 114, 2) := by decide +kernel
theorem dX4_isLetter_9 : decode cX4_isLetter 9 = .ok (.if_icmp .eq 21, 3) := by decide +kernel
theorem dX4_isLetter_12 : decode cX4_isLetter 12 = .ok (.iload_n 0, 1) := by decide +kernel
theorem dX4_isLetter_13 : decode cX4_isLetter 13 = .ok (.bipush 115, 2) := by decide +kernel
theorem dX4_isLetter_15 : decode cX4_isLetter 15 = .ok (.if_icmp .eq 15, 3) := by decide +kernel
theorem dX4_isLetter_18 : decode cX4_isLetter 18 = .ok (.iload_n 0, 1) := by decide +kernel
theorem dX4_isLetter_19 : decode cX4_isLetter 19 = .ok (.bipush 103, 2) := by decide +kernel
theorem dX4_isLetter_21 : decode cX4_isLetter 21 = .ok (.if_icmp .eq 9, 3) := by decide +kernel
theorem dX4_isLetter_24 : decode cX4_isLetter 24 = .ok (.iload_n 0, 1) := by decide +kernel
theorem dX4_isLetter_25 : decode cX4_isLetter 25 = .ok (.bipush 109, 2) := by decide +kernel
theorem dX4_isLetter_27 : decode cX4_isLetter 27 = .ok (.if_icmp .ne 7, 3) := by decide +kernel
theorem dX4_isLetter_30 : decode cX4_isLetter 30 = .ok (.iconst 1, 1) := by decide +kernel
theorem dX4_isLetter_31 : decode cX4_isLetter 31 = .ok (.goto 4, 3) := by decide +kernel
theorem dX4_isLetter_34 : decode cX4_isLetter 34 = .ok (.iconst 0, 1) := by decide +kernel
theorem dX4_isLetter_35 : decode cX4_isLetter 35 = .ok (.ireturn, 1) := by decide +kernel
theorem dX4_isDigit_0 : decode cX4_isDigit 0 = .ok (.iload_n 0, 1) := by decide +kernel
theorem dX4_isDigit_1 : decode cX4_isDigit 1 = .ok (.bipush 48, 2) := by decide +kernel
theorem dX4_isDigit_3 : decode cX4_isDigit 3 = .ok (.if_icmp .lt 13, 3) := by decide +kernel
theorem dX4_isDigit_6 : decode cX4_isDigit 6 = .ok (.iload_n 0, 1) := by decide +kernel
theorem dX4_isDigit_7 : decode cX4_isDigit 7 = .ok (.bipush 57, 2) := by decide +kernel
theorem dX4_isDigit_9 : decode cX4_isDigit 9 = .ok (.if_icmp .gt 7, 3) := by decide +kernel
theorem dX4_isDigit_12 : decode cX4_isDigit 12 = .ok (.iconst 1, 1) := by decide +kernel
theorem dX4_isDigit_13 : decode cX4_isDigit 13 = .ok (.goto 4, 3) := by decide +kernel
theorem dX4_isDigit_16 : decode cX4_isDigit 16 = .ok (.iconst 0, 1) := by decide +kernel
theorem dX4_isDigit_17 : decode cX4_isDigit 17 = .ok (.ireturn, 1) := by decide +kernel
theorem dX5_init_0 : decode cX5_init 0 = .ok (.aload_n 0, 1) := by decide +kernel
theorem dX5_init_1 : decode cX5_init 1 = .ok (.invokespecial 3, 3) := by decide +kernel
theorem dX5_init_4 : decode cX5_init 4 = .ok (.aload_n 0, 1) := by decide +kernel
theorem dX5_init_5 : decode cX5_init 5 = .ok (.iconst 5, 1) := by decide +kernel
theorem dX5_init_6 : decode cX5_init 6 = .ok (.newarray .int, 2) := by decide +kernel
theorem dX5_init_8 : decode cX5_init 8 = .ok (.putfield 9, 3) := by decide +kernel
theorem dX5_init_11 : decode cX5_init 11 = .ok (.return_, 1) := by decide +kernel
theorem dX5_clear_0 : decode cX5_clear 0 = .ok (.iconst 0, 1) := by decide +kernel
theorem dX5_clear_1 : decode cX5_clear 1 = .ok (.istore_n 1, 1) := by decide +kernel
theorem dX5_clear_2 : decode cX5_clear 2 = .ok (.iload_n 1, 1) := by decide +kernel
theorem dX5_clear_3 : decode cX5_clear 3 = .ok (.iconst 5, 1) := by decide +kernel
theorem dX5_clear_4 : decode cX5_clear 4 = .ok (.if_icmp .ge 16, 3) := by decide +kernel
theorem dX5_clear_7 : decode cX5_clear 7 = .ok (.aload_n 0, 1) := by decide +kernel
theorem dX5_clear_8 : decode cX5_clear 8 = .ok (.getfield 9, 3) := by decide +kernel
theorem dX5_clear_11 : decode cX5_clear 11 = .ok (.iload_n 1, 1) := by decide +kernel
theorem dX5_clear_12 : decode cX5_clear 12 = .ok (.iconst 0, 1) := by decide +kernel
theorem dX5_clear_13 : decode cX5_clear 13 = .ok (.iastore, 1) := by decide +kernel
theorem dX5_clear_14 : decode cX5_clear 14 = .ok (.iinc 1 1, 3) := by decide +kernel
theorem dX5_clear_17 : decode cX5_clear 17 = .ok (.goto (-15), 3) := by decide +kernel
theorem dX5_clear_20 : decode cX5_clear 20 = .ok (.return_, 1) := by decide +kernel
theorem dX5_copyFrom_0 : decode cX5_copyFrom 0 = .ok (.iconst 0, 1) := by decide +kernel
theorem dX5_copyFrom_1 : decode cX5_copyFrom 1 = .ok (.istore_n 2, 1) := by decide +kernel
theorem dX5_copyFrom_2 : decode cX5_copyFrom 2 = .ok (.iload_n 2, 1) := by decide +kernel
theorem dX5_copyFrom_3 : decode cX5_copyFrom 3 = .ok (.iconst 5, 1) := by decide +kernel
theorem dX5_copyFrom_4 : decode cX5_copyFrom 4 = .ok (.if_icmp .ge 21, 3) := by decide +kernel
theorem dX5_copyFrom_7 : decode cX5_copyFrom 7 = .ok (.aload_n 0, 1) := by decide +kernel
theorem dX5_copyFrom_8 : decode cX5_copyFrom 8 = .ok (.getfield 9, 3) := by decide +kernel
theorem dX5_copyFrom_11 : decode cX5_copyFrom 11 = .ok (.iload_n 2, 1) := by decide +kernel
theorem dX5_copyFrom_12 : decode cX5_copyFrom 12 = .ok (.aload_n 1, 1) := by decide +kernel
theorem dX5_copyFrom_13 : decode cX5_copyFrom 13 = .ok (.getfield 9, 3) := by decide +kernel
theorem dX5_copyFrom_16 : decode cX5_copyFrom 16 = .ok (.iload_n 2, 1) := by decide +kernel
theorem dX5_copyFrom_17 : decode cX5_copyFrom 17 = .ok (.iaload, 1) := by decide +kernel
theorem dX5_copyFrom_18 : decode cX5_copyFrom 18 = .ok (.iastore, 1) := by decide +kernel
theorem dX5_copyFrom_19 : decode cX5_copyFrom 19 = .ok (.iinc 2 1, 3) := by decide +kernel
theorem dX5_copyFrom_22 : decode cX5_copyFrom 22 = .ok (.goto (-20), 3) := by decide +kernel
theorem dX5_copyFrom_25 : decode cX5_copyFrom 25 = .ok (.return_, 1) := by decide +kernel
theorem dX5_isAtMost_0 : decode cX5_isAtMost 0 = .ok (.iconst 0, 1) := by decide +kernel
theorem dX5_isAtMost_1 : decode cX5_isAtMost 1 = .ok (.istore_n 2, 1) := by decide +kernel
theorem dX5_isAtMost_2 : decode cX5_isAtMost 2 = .ok (.iload_n 2, 1) := by decide +kernel
theorem dX5_isAtMost_3 : decode cX5_isAtMost 3 = .ok (.iconst 5, 1) := by decide +kernel
theorem dX5_isAtMost_4 : decode cX5_isAtMost 4 = .ok (.if_icmp .ge 26, 3) := by decide +kernel
theorem dX5_isAtMost_7 : decode cX5_isAtMost 7 = .ok (.aload_n 0, 1) := by decide +kernel
theorem dX5_isAtMost_8 : decode cX5_isAtMost 8 = .ok (.getfield 9, 3) := by decide +kernel
theorem dX5_isAtMost_11 : decode cX5_isAtMost 11 = .ok (.iload_n 2, 1) := by decide +kernel
theorem dX5_isAtMost_12 : decode cX5_isAtMost 12 = .ok (.iaload, 1) := by decide +kernel
theorem dX5_isAtMost_13 : decode cX5_isAtMost 13 = .ok (.aload_n 1, 1) := by decide +kernel
theorem dX5_isAtMost_14 : decode cX5_isAtMost 14 = .ok (.getfield 9, 3) := by decide +kernel
theorem dX5_isAtMost_17 : decode cX5_isAtMost 17 = .ok (.iload_n 2, 1) := by decide +kernel
theorem dX5_isAtMost_18 : decode cX5_isAtMost 18 = .ok (.iaload, 1) := by decide +kernel
theorem dX5_isAtMost_19 : decode cX5_isAtMost 19 = .ok (.if_icmp .le 5, 3) := by decide +kernel
theorem dX5_isAtMost_22 : decode cX5_isAtMost 22 = .ok (.iconst 0, 1) := by decide +kernel
theorem dX5_isAtMost_23 : decode cX5_isAtMost 23 = .ok (.ireturn, 1) := by decide +kernel
theorem dX5_isAtMost_24 : decode cX5_isAtMost 24 = .ok (.iinc 2 1, 3) := by decide +kernel
theorem dX5_isAtMost_27 : decode cX5_isAtMost 27 = .ok (.goto (-25), 3) := by decide +kernel
theorem dX5_isAtMost_30 : decode cX5_isAtMost 30 = .ok (.iconst 1, 1) := by decide +kernel
theorem dX5_isAtMost_31 : decode cX5_isAtMost 31 = .ok (.ireturn, 1) := by decide +kernel
theorem dX5_relationTo_0 : decode cX5_relationTo 0 = .ok (.iconst 0, 1) := by decide +kernel
theorem dX5_relationTo_1 : decode cX5_relationTo 1 = .ok (.istore_n 2, 1) := by decide +kernel
theorem dX5_relationTo_2 : decode cX5_relationTo 2 = .ok (.iconst 0, 1) := by decide +kernel
theorem dX5_relationTo_3 : decode cX5_relationTo 3 = .ok (.istore_n 3, 1) := by decide +kernel
theorem dX5_relationTo_4 : decode cX5_relationTo 4 = .ok (.iconst 0, 1) := by decide +kernel
theorem dX5_relationTo_5 : decode cX5_relationTo 5 = .ok (.istore 4, 2) := by decide +kernel
theorem dX5_relationTo_7 : decode cX5_relationTo 7 = .ok (.iload 4, 2) := by decide +kernel
theorem dX5_relationTo_9 : decode cX5_relationTo 9 = .ok (.iconst 5, 1) := by decide +kernel
theorem dX5_relationTo_10 : decode cX5_relationTo 10 = .ok (.if_icmp .ge 47, 3) := by decide +kernel
theorem dX5_relationTo_13 : decode cX5_relationTo 13 = .ok (.aload_n 0, 1) := by decide +kernel
theorem dX5_relationTo_14 : decode cX5_relationTo 14 = .ok (.getfield 9, 3) := by decide +kernel
theorem dX5_relationTo_17 : decode cX5_relationTo 17 = .ok (.iload 4, 2) := by decide +kernel
theorem dX5_relationTo_19 : decode cX5_relationTo 19 = .ok (.iaload, 1) := by decide +kernel
theorem dX5_relationTo_20 : decode cX5_relationTo 20 = .ok (.aload_n 1, 1) := by decide +kernel
theorem dX5_relationTo_21 : decode cX5_relationTo 21 = .ok (.getfield 9, 3) := by decide +kernel
theorem dX5_relationTo_24 : decode cX5_relationTo 24 = .ok (.iload 4, 2) := by decide +kernel
theorem dX5_relationTo_26 : decode cX5_relationTo 26 = .ok (.iaload, 1) := by decide +kernel
theorem dX5_relationTo_27 : decode cX5_relationTo 27 = .ok (.if_icmp .ge 5, 3) := by decide +kernel
theorem dX5_relationTo_30 : decode cX5_relationTo 30 = .ok (.iconst 1, 1) := by decide +kernel
theorem dX5_relationTo_31 : decode cX5_relationTo 31 = .ok (.istore_n 2, 1) := by decide +kernel
theorem dX5_relationTo_32 : decode cX5_relationTo 32 = .ok (.aload_n 0, 1) := by decide +kernel
theorem dX5_relationTo_33 : decode cX5_relationTo 33 = .ok (.getfield 9, 3) := by decide +kernel
theorem dX5_relationTo_36 : decode cX5_relationTo 36 = .ok (.iload 4, 2) := by decide +kernel
theorem dX5_relationTo_38 : decode cX5_relationTo 38 = .ok (.iaload, 1) := by decide +kernel
theorem dX5_relationTo_39 : decode cX5_relationTo 39 = .ok (.aload_n 1, 1) := by decide +kernel
theorem dX5_relationTo_40 : decode cX5_relationTo 40 = .ok (.getfield 9, 3) := by decide +kernel
theorem dX5_relationTo_43 : decode cX5_relationTo 43 = .ok (.iload 4, 2) := by decide +kernel
theorem dX5_relationTo_45 : decode cX5_relationTo 45 = .ok (.iaload, 1) := by decide +kernel
theorem dX5_relationTo_46 : decode cX5_relationTo 46 = .ok (.if_icmp .le 5, 3) := by decide +kernel
theorem dX5_relationTo_49 : decode cX5_relationTo 49 = .ok (.iconst 1, 1) := by decide +kernel
theorem dX5_relationTo_50 : decode cX5_relationTo 50 = .ok (.istore_n 3, 1) := by decide +kernel
theorem dX5_relationTo_51 : decode cX5_relationTo 51 = .ok (.iinc 4 1, 3) := by decide +kernel
theorem dX5_relationTo_54 : decode cX5_relationTo 54 = .ok (.goto (-47), 3) := by decide +kernel
theorem dX5_relationTo_57 : decode cX5_relationTo 57 = .ok (.iload_n 2, 1) := by decide +kernel
theorem dX5_relationTo_58 : decode cX5_relationTo 58 = .ok (.ifCond .eq 13, 3) := by decide +kernel
theorem dX5_relationTo_61 : decode cX5_relationTo 61 = .ok (.iload_n 3, 1) := by decide +kernel
theorem dX5_relationTo_62 : decode cX5_relationTo 62 = .ok (.ifCond .eq 7, 3) := by decide +kernel
theorem dX5_relationTo_65 : decode cX5_relationTo 65 = .ok (.iconst 2, 1) := by decide +kernel
theorem dX5_relationTo_66 : decode cX5_relationTo 66 = .ok (.goto 4, 3) := by decide +kernel
theorem dX5_relationTo_69 : decode cX5_relationTo 69 = .ok (.iconst (-1), 1) := by decide +kernel
theorem dX5_relationTo_70 : decode cX5_relationTo 70 = .ok (.ireturn, 1) := by decide +kernel
theorem dX5_relationTo_71 : decode cX5_relationTo 71 = .ok (.iload_n 3, 1) := by decide +kernel
theorem dX5_relationTo_72 : decode cX5_relationTo 72 = .ok (.ifCond .eq 7, 3) := by decide +kernel
theorem dX5_relationTo_75 : decode cX5_relationTo 75 = .ok (.iconst 1, 1) := by decide +kernel
theorem dX5_relationTo_76 : decode cX5_relationTo 76 = .ok (.goto 4, 3) := by decide +kernel
theorem dX5_relationTo_79 : decode cX5_relationTo 79 = .ok (.iconst 0, 1) := by decide +kernel
theorem dX5_relationTo_80 : decode cX5_relationTo 80 = .ok (.ireturn, 1) := by decide +kernel
theorem dX5_sum_0 : decode cX5_sum 0 = .ok (.iconst 0, 1) := by decide +kernel
theorem dX5_sum_1 : decode cX5_sum 1 = .ok (.istore_n 1, 1) := by decide +kernel
theorem dX5_sum_2 : decode cX5_sum 2 = .ok (.iconst 0, 1) := by decide +kernel
theorem dX5_sum_3 : decode cX5_sum 3 = .ok (.istore_n 2, 1) := by decide +kernel
theorem dX5_sum_4 : decode cX5_sum 4 = .ok (.iload_n 2, 1) := by decide +kernel
theorem dX5_sum_5 : decode cX5_sum 5 = .ok (.iconst 5, 1) := by decide +kernel
theorem dX5_sum_6 : decode cX5_sum 6 = .ok (.if_icmp .ge 18, 3) := by decide +kernel
theorem dX5_sum_9 : decode cX5_sum 9 = .ok (.iload_n 1, 1) := by decide +kernel
theorem dX5_sum_10 : decode cX5_sum 10 = .ok (.aload_n 0, 1) := by decide +kernel
theorem dX5_sum_11 : decode cX5_sum 11 = .ok (.getfield 9, 3) := by decide +kernel
theorem dX5_sum_14 : decode cX5_sum 14 = .ok (.iload_n 2, 1) := by decide +kernel
theorem dX5_sum_15 : decode cX5_sum 15 = .ok (.iaload, 1) := by decide +kernel
theorem dX5_sum_16 : decode cX5_sum 16 = .ok (.iadd, 1) := by decide +kernel
theorem dX5_sum_17 : decode cX5_sum 17 = .ok (.istore_n 1, 1) := by decide +kernel
theorem dX5_sum_18 : decode cX5_sum 18 = .ok (.iinc 2 1, 3) := by decide +kernel
theorem dX5_sum_21 : decode cX5_sum 21 = .ok (.goto (-17), 3) := by decide +kernel
theorem dX5_sum_24 : decode cX5_sum 24 = .ok (.iload_n 1, 1) := by decide +kernel
theorem dX5_sum_25 : decode cX5_sum 25 = .ok (.ireturn, 1) := by decide +kernel
theorem dX6_init_0 : decode cX6_init 0 = .ok (.aload_n 0, 1) := by decide +kernel
theorem dX6_init_1 : decode cX6_init 1 = .ok (.invokespecial 3, 3) := by decide +kernel
theorem dX6_init_4 : decode cX6_init 4 = .ok (.aload_n 0, 1) := by decide +kernel
theorem dX6_init_5 : decode cX6_init 5 = .ok (.new 9, 3) := by decide +kernel
theorem dX6_init_8 : decode cX6_init 8 = .ok (.dup, 1) := by decide +kernel
theorem dX6_init_9 : decode cX6_init 9 = .ok (.invokespecial 11, 3) := by decide +kernel
theorem dX6_init_12 : decode cX6_init 12 = .ok (.putfield 12, 3) := by decide +kernel
theorem dX6_init_15 : decode cX6_init 15 = .ok (.aload_n 0, 1) := by decide +kernel
theorem dX6_init_16 : decode cX6_init 16 = .ok (.iconst 5, 1) := by decide +kernel
theorem dX6_init_17 : decode cX6_init 17 = .ok (.anewarray 9, 3) := by decide +kernel
theorem dX6_init_20 : decode cX6_init 20 = .ok (.putfield 18, 3) := by decide +kernel
theorem dX6_init_23 : decode cX6_init 23 = .ok (.iconst 0, 1) := by decide +kernel
theorem dX6_init_24 : decode cX6_init 24 = .ok (.istore_n 1, 1) := by decide +kernel
theorem dX6_init_25 : decode cX6_init 25 = .ok (.iload_n 1, 1) := by decide +kernel
theorem dX6_init_26 : decode cX6_init 26 = .ok (.iconst 5, 1) := by decide +kernel
theorem dX6_init_27 : decode cX6_init 27 = .ok (.if_icmp .ge 22, 3) := by decide +kernel
theorem dX6_init_30 : decode cX6_init 30 = .ok (.aload_n 0, 1) := by decide +kernel
theorem dX6_init_31 : decode cX6_init 31 = .ok (.getfield 18, 3) := by decide +kernel
theorem dX6_init_34 : decode cX6_init 34 = .ok (.iload_n 1, 1) := by decide +kernel
theorem dX6_init_35 : decode cX6_init 35 = .ok (.new 9, 3) := by decide +kernel
theorem dX6_init_38 : decode cX6_init 38 = .ok (.dup, 1) := by decide +kernel
theorem dX6_init_39 : decode cX6_init 39 = .ok (.invokespecial 11, 3) := by decide +kernel
theorem dX6_init_42 : decode cX6_init 42 = .ok (.aastore, 1) := by decide +kernel
theorem dX6_init_43 : decode cX6_init 43 = .ok (.iinc 1 1, 3) := by decide +kernel
theorem dX6_init_46 : decode cX6_init 46 = .ok (.goto (-21), 3) := by decide +kernel
theorem dX6_init_49 : decode cX6_init 49 = .ok (.return_, 1) := by decide +kernel
theorem dX6_clear_0 : decode cX6_clear 0 = .ok (.aload_n 0, 1) := by decide +kernel
theorem dX6_clear_1 : decode cX6_clear 1 = .ok (.getfield 12, 3) := by decide +kernel
theorem dX6_clear_4 : decode cX6_clear 4 = .ok (.invokevirtual 22, 3) := by decide +kernel
theorem dX6_clear_7 : decode cX6_clear 7 = .ok (.aload_n 0, 1) := by decide +kernel
theorem dX6_clear_8 : decode cX6_clear 8 = .ok (.invokevirtual 25, 3) := by decide +kernel
theorem dX6_clear_11 : decode cX6_clear 11 = .ok (.return_, 1) := by decide +kernel
theorem dX6_forget_0 : decode cX6_forget 0 = .ok (.aload_n 0, 1) := by decide +kernel
theorem dX6_forget_1 : decode cX6_forget 1 = .ok (.iconst 0, 1) := by decide +kernel
theorem dX6_forget_2 : decode cX6_forget 2 = .ok (.putfield 28, 3) := by decide +kernel
theorem dX6_forget_5 : decode cX6_forget 5 = .ok (.aload_n 0, 1) := by decide +kernel
theorem dX6_forget_6 : decode cX6_forget 6 = .ok (.iconst 0, 1) := by decide +kernel
theorem dX6_forget_7 : decode cX6_forget 7 = .ok (.putfield 32, 3) := by decide +kernel
theorem dX6_forget_10 : decode cX6_forget 10 = .ok (.return_, 1) := by decide +kernel
theorem dX6_copyFrom_0 : decode cX6_copyFrom 0 = .ok (.aload_n 0, 1) := by decide +kernel
theorem dX6_copyFrom_1 : decode cX6_copyFrom 1 = .ok (.getfield 12, 3) := by decide +kernel
theorem dX6_copyFrom_4 : decode cX6_copyFrom 4 = .ok (.aload_n 1, 1) := by decide +kernel
theorem dX6_copyFrom_5 : decode cX6_copyFrom 5 = .ok (.getfield 12, 3) := by decide +kernel
theorem dX6_copyFrom_8 : decode cX6_copyFrom 8 = .ok (.invokevirtual 35, 3) := by decide +kernel
theorem dX6_copyFrom_11 : decode cX6_copyFrom 11 = .ok (.iconst 0, 1) := by decide +kernel
theorem dX6_copyFrom_12 : decode cX6_copyFrom 12 = .ok (.istore_n 2, 1) := by decide +kernel
theorem dX6_copyFrom_13 : decode cX6_copyFrom 13 = .ok (.iload_n 2, 1) := by decide +kernel
theorem dX6_copyFrom_14 : decode cX6_copyFrom 14 = .ok (.iconst 5, 1) := by decide +kernel
theorem dX6_copyFrom_15 : decode cX6_copyFrom 15 = .ok (.if_icmp .ge 24, 3) := by decide +kernel
theorem dX6_copyFrom_18 : decode cX6_copyFrom 18 = .ok (.aload_n 0, 1) := by decide +kernel
theorem dX6_copyFrom_19 : decode cX6_copyFrom 19 = .ok (.getfield 18, 3) := by decide +kernel
theorem dX6_copyFrom_22 : decode cX6_copyFrom 22 = .ok (.iload_n 2, 1) := by decide +kernel
theorem dX6_copyFrom_23 : decode cX6_copyFrom 23 = .ok (.aaload, 1) := by decide +kernel
theorem dX6_copyFrom_24 : decode cX6_copyFrom 24 = .ok (.aload_n 1, 1) := by decide +kernel
theorem dX6_copyFrom_25 : decode cX6_copyFrom 25 = .ok (.getfield 18, 3) := by decide +kernel
theorem dX6_copyFrom_28 : decode cX6_copyFrom 28 = .ok (.iload_n 2, 1) := by decide +kernel
theorem dX6_copyFrom_29 : decode cX6_copyFrom 29 = .ok (.aaload, 1) := by decide +kernel
theorem dX6_copyFrom_30 : decode cX6_copyFrom 30 = .ok (.invokevirtual 35, 3) := by decide +kernel
theorem dX6_copyFrom_33 : decode cX6_copyFrom 33 = .ok (.iinc 2 1, 3) := by decide +kernel
theorem dX6_copyFrom_36 : decode cX6_copyFrom 36 = .ok (.goto (-23), 3) := by decide +kernel
theorem dX6_copyFrom_39 : decode cX6_copyFrom 39 = .ok (.aload_n 0, 1) := by decide +kernel
theorem dX6_copyFrom_40 : decode cX6_copyFrom 40 = .ok (.aload_n 1, 1) := by decide +kernel
theorem dX6_copyFrom_41 : decode cX6_copyFrom 41 = .ok (.getfield 28, 3) := by decide +kernel
theorem dX6_copyFrom_44 : decode cX6_copyFrom 44 = .ok (.putfield 28, 3) := by decide +kernel
theorem dX6_copyFrom_47 : decode cX6_copyFrom 47 = .ok (.aload_n 0, 1) := by decide +kernel
theorem dX6_copyFrom_48 : decode cX6_copyFrom 48 = .ok (.aload_n 1, 1) := by decide +kernel
theorem dX6_copyFrom_49 : decode cX6_copyFrom 49 = .ok (.getfield 32, 3) := by decide +kernel
theorem dX6_copyFrom_52 : decode cX6_copyFrom 52 = .ok (.putfield 32, 3) := by decide +kernel
theorem dX6_copyFrom_55 : decode cX6_copyFrom 55 = .ok (.return_, 1) := by decide +kernel
theorem dX6_remember_0 : decode cX6_remember 0 = .ok (.aload_n 0, 1) := by decide +kernel
theorem dX6_remember_1 : decode cX6_remember 1 = .ok (.getfield 18, 3) := by decide +kernel
theorem dX6_remember_4 : decode cX6_remember 4 = .ok (.aload_n 0, 1) := by decide +kernel
theorem dX6_remember_5 : decode cX6_remember 5 = .ok (.getfield 32, 3) := by decide +kernel
theorem dX6_remember_8 : decode cX6_remember 8 = .ok (.aaload, 1) := by decide +kernel
theorem dX6_remember_9 : decode cX6_remember 9 = .ok (.aload_n 0, 1) := by decide +kernel
theorem dX6_remember_10 : decode cX6_remember 10 = .ok (.getfield 12, 3) := by decide +kernel
theorem dX6_remember_13 : decode cX6_remember 13 = .ok (.invokevirtual 35, 3) := by decide +kernel
theorem dX6_remember_16 : decode cX6_remember 16 = .ok (.aload_n 0, 1) := by decide +kernel
theorem dX6_remember_17 : decode cX6_remember 17 = .ok (.aload_n 0, 1) := by decide +kernel
theorem dX6_remember_18 : decode cX6_remember 18 = .ok (.getfield 32, 3) := by decide +kernel
theorem dX6_remember_21 : decode cX6_remember 21 = .ok (.iconst 1, 1) := by decide +kernel
theorem dX6_remember_22 : decode cX6_remember 22 = .ok (.iadd, 1) := by decide +kernel
theorem dX6_remember_23 : decode cX6_remember 23 = .ok (.iconst 5, 1) := by decide +kernel
theorem dX6_remember_24 : decode cX6_remember 24 = .ok (.irem, 1) := by decide +kernel
theorem dX6_remember_25 : decode cX6_remember 25 = .ok (.putfield 32, 3) := by decide +kernel
theorem dX6_remember_28 : decode cX6_remember 28 = .ok (.aload_n 0, 1) := by decide +kernel
theorem dX6_remember_29 : decode cX6_remember 29 = .ok (.getfield 28, 3) := by decide +kernel
theorem dX6_remember_32 : decode cX6_remember 32 = .ok (.iconst 5, 1) := by decide +kernel
theorem dX6_remember_33 : decode cX6_remember 33 = .ok (.if_icmp .ge 13, 3) := by decide +kernel
theorem dX6_remember_36 : decode cX6_remember 36 = .ok (.aload_n 0, 1) := by decide +kernel
theorem dX6_remember_37 : decode cX6_remember 37 = .ok (.dup, 1) := by decide +kernel
theorem dX6_remember_38 : decode cX6_remember 38 = .ok (.getfield 28, 3) := by decide +kernel
theorem dX6_remember_41 : decode cX6_remember 41 = .ok (.iconst 1, 1) := by decide +kernel
theorem dX6_remember_42 : decode cX6_remember 42 = .ok (.iadd, 1) := by decide +kernel
theorem dX6_remember_43 : decode cX6_remember 43 = .ok (.putfield 28, 3) := by decide +kernel
theorem dX6_remember_46 : decode cX6_remember 46 = .ok (.return_, 1) := by decide +kernel
theorem dX6_takeBack_0 : decode cX6_takeBack 0 = .ok (.aload_n 0, 1) := by decide +kernel
theorem dX6_takeBack_1 : decode cX6_takeBack 1 = .ok (.aload_n 0, 1) := by decide +kernel
theorem dX6_takeBack_2 : decode cX6_takeBack 2 = .ok (.getfield 32, 3) := by decide +kernel
theorem dX6_takeBack_5 : decode cX6_takeBack 5 = .ok (.iconst 5, 1) := by decide +kernel
theorem dX6_takeBack_6 : decode cX6_takeBack 6 = .ok (.iadd, 1) := by decide +kernel
theorem dX6_takeBack_7 : decode cX6_takeBack 7 = .ok (.iload_n 1, 1) := by decide +kernel
theorem dX6_takeBack_8 : decode cX6_takeBack 8 = .ok (.isub, 1) := by decide +kernel
theorem dX6_takeBack_9 : decode cX6_takeBack 9 = .ok (.iconst 5, 1) := by decide +kernel
theorem dX6_takeBack_10 : decode cX6_takeBack 10 = .ok (.irem, 1) := by decide +kernel
theorem dX6_takeBack_11 : decode cX6_takeBack 11 = .ok (.putfield 32, 3) := by decide +kernel
theorem dX6_takeBack_14 : decode cX6_takeBack 14 = .ok (.aload_n 0, 1) := by decide +kernel
theorem dX6_takeBack_15 : decode cX6_takeBack 15 = .ok (.getfield 12, 3) := by decide +kernel
theorem dX6_takeBack_18 : decode cX6_takeBack 18 = .ok (.aload_n 0, 1) := by decide +kernel
theorem dX6_takeBack_19 : decode cX6_takeBack 19 = .ok (.getfield 18, 3) := by decide +kernel
theorem dX6_takeBack_22 : decode cX6_takeBack 22 = .ok (.aload_n 0, 1) := by decide +kernel
theorem dX6_takeBack_23 : decode cX6_takeBack 23 = .ok (.getfield 32, 3) := by decide +kernel
theorem dX6_takeBack_26 : decode cX6_takeBack 26 = .ok (.aaload, 1) := by decide +kernel
theorem dX6_takeBack_27 : decode cX6_takeBack 27 = .ok (.invokevirtual 35, 3) := by decide +kernel
theorem dX6_takeBack_30 : decode cX6_takeBack 30 = .ok (.aload_n 0, 1) := by decide +kernel
theorem dX6_takeBack_31 : decode cX6_takeBack 31 = .ok (.dup, 1) := by decide +kernel
theorem dX6_takeBack_32 : decode cX6_takeBack 32 = .ok (.getfield 28, 3) := by decide +kernel
theorem dX6_takeBack_35 : decode cX6_takeBack 35 = .ok (.iload_n 1, 1) := by decide +kernel
theorem dX6_takeBack_36 : decode cX6_takeBack 36 = .ok (.isub, 1) := by decide +kernel
theorem dX6_takeBack_37 : decode cX6_takeBack 37 = .ok (.putfield 28, 3) := by decide +kernel
theorem dX6_takeBack_40 : decode cX6_takeBack 40 = .ok (.return_, 1) := by decide +kernel
