theorem dX3_init_0 : decode cX3_init 0 = .ok (.aload_n 0, 1) := by decide +kernel
theorem dX3_init_1 : decode cX3_init 1 = .ok (.invokespecial 1, 3) := by decide +kernel
theorem dX3_init_4 : decode cX3_init 4 = .ok (.aload_n 0, 1) := by decide +kernel
theorem dX3_init_5 : decode cX3_init 5 = .ok (.new 7, 3) := by decide +kernel
theorem dX3_init_8 : decode cX3_init 8 = .ok (.dup, 1) := by decide +kernel
theorem dX3_init_9 : decode cX3_init 9 = .ok (.invokespecial 9, 3) := by decide +kernel
theorem dX3_init_12 : decode cX3_init 12 = .ok (.putfield 10, 3) := by decide +kernel
theorem dX3_init_15 : decode cX3_init 15 = .ok (.aload_n 0, 1) := by decide +kernel
theorem dX3_init_16 : decode cX3_init 16 = .ok (.new 7, 3) := by decide +kernel
theorem dX3_init_19 : decode cX3_init 19 = .ok (.dup, 1) := by decide +kernel
theorem dX3_init_20 : decode cX3_init 20 = .ok (.invokespecial 9, 3) := by decide +kernel
theorem dX3_init_23 : decode cX3_init 23 = .ok (.putfield 16, 3) := by decide +kernel
theorem dX3_init_26 : decode cX3_init 26 = .ok (.aload_n 0, 1) := by decide +kernel
theorem dX3_init_27 : decode cX3_init 27 = .ok (.new 7, 3) := by decide +kernel
theorem dX3_init_30 : decode cX3_init 30 = .ok (.dup, 1) := by decide +kernel
theorem dX3_init_31 : decode cX3_init 31 = .ok (.invokespecial 9, 3) := by decide +kernel
theorem dX3_init_34 : decode cX3_init 34 = .ok (.putfield 19, 3) := by decide +kernel
theorem dX3_init_37 : decode cX3_init 37 = .ok (.aload_n 0, 1) := by decide +kernel
theorem dX3_init_38 : decode cX3_init 38 = .ok (.iconst 0, 1) := by decide +kernel
theorem dX3_init_39 : decode cX3_init 39 = .ok (.putfield 22, 3) := by decide +kernel
theorem dX3_init_42 : decode cX3_init 42 = .ok (.aload_n 0, 1) := by decide +kernel
theorem dX3_init_43 : decode cX3_init 43 = .ok (.iconst 4, 1) := by decide +kernel
theorem dX3_init_44 : decode cX3_init 44 = .ok (.anewarray 7, 3) := by decide +kernel
theorem dX3_init_47 : decode cX3_init 47 = .ok (.putfield 26, 3) := by decide +kernel
theorem dX3_init_50 : decode cX3_init 50 = .ok (.aload_n 0, 1) := by decide +kernel
theorem dX3_init_51 : decode cX3_init 51 = .ok (.iconst 0, 1) := by decide +kernel
theorem dX3_init_52 : decode cX3_init 52 = .ok (.putfield 30, 3) := by decide +kernel
theorem dX3_init_55 : decode cX3_init 55 = .ok (.aload_n 0, 1) := by decide +kernel
theorem dX3_init_56 : decode cX3_init 56 = .ok (.bipush 60, 2) := by decide +kernel
theorem dX3_init_58 : decode cX3_init 58 = .ok (.newarray .char, 2) := by decide +kernel
theorem dX3_init_60 : decode cX3_init 60 = .ok (.putfield 34, 3) := by decide +kernel
theorem dX3_init_63 : decode cX3_init 63 = .ok (.aload_n 0, 1) := by decide +kernel
theorem dX3_init_64 : decode cX3_init 64 = .ok (.iconst 0, 1) := by decide +kernel
theorem dX3_init_65 : decode cX3_init 65 = .ok (.putfield 38, 3) := by decide +kernel
theorem dX3_init_68 : decode cX3_init 68 = .ok (.iconst 0, 1) := by decide +kernel
theorem dX3_init_69 : decode cX3_init 69 = .ok (.istore_n 1, 1) := by decide +kernel
theorem dX3_init_70 : decode cX3_init 70 = .ok (.iload_n 1, 1) := by decide +kernel
theorem dX3_init_71 : decode cX3_init 71 = .ok (.iconst 4, 1) := by decide +kernel
theorem dX3_init_72 : decode cX3_init 72 = .ok (.if_icmp .ge 22, 3) := by decide +kernel
theorem dX3_init_75 : decode cX3_init 75 = .ok (.aload_n 0, 1) := by decide +kernel
theorem dX3_init_76 : decode cX3_init 76 = .ok (.getfield 26, 3) := by decide +kernel
theorem dX3_init_79 : decode cX3_init 79 = .ok (.iload_n 1, 1) := by decide +kernel
theorem dX3_init_80 : decode cX3_init 80 = .ok (.new 7, 3) := by decide +kernel
theorem dX3_init_83 : decode cX3_init 83 = .ok (.dup, 1) := by decide +kernel
theorem dX3_init_84 : decode cX3_init 84 = .ok (.invokespecial 9, 3) := by decide +kernel
theorem dX3_init_87 : decode cX3_init 87 = .ok (.aastore, 1) := by decide +kernel
theorem dX3_init_88 : decode cX3_init 88 = .ok (.iinc 1 1, 3) := by decide +kernel
theorem dX3_init_91 : decode cX3_init 91 = .ok (.goto (-21), 3) := by decide +kernel
theorem dX3_init_94 : decode cX3_init 94 = .ok (.return_, 1) := by decide +kernel
theorem dX3_setLane_0 : decode cX3_setLane 0 = .ok (.iload_n 1, 1) := by decide +kernel
theorem dX3_setLane_1 : decode cX3_setLane 1 = .ok (.invokestatic 41, 3) := by decide +kernel
theorem dX3_setLane_4 : decode cX3_setLane 4 = .ok (.ifCond .ne 5, 3) := by decide +kernel
theorem dX3_setLane_7 : decode cX3_setLane 7 = .ok (.iconst (-1), 1) := by decide +kernel
theorem dX3_setLane_8 : decode cX3_setLane 8 = .ok (.ireturn, 1) := by decide +kernel
theorem dX3_setLane_9 : decode cX3_setLane 9 = .ok (.iload_n 3, 1) := by decide +kernel
theorem dX3_setLane_10 : decode cX3_setLane 10 = .ok (.iconst 1, 1) := by decide +kernel
theorem dX3_setLane_11 : decode cX3_setLane 11 = .ok (.if_icmp .lt 11, 3) := by decide +kernel
theorem dX3_setLane_14 : decode cX3_setLane 14 = .ok (.iload_n 3, 1) := by decide +kernel
theorem dX3_setLane_15 : decode cX3_setLane 15 = .ok (.iload_n 2, 1) := by decide +kernel
theorem dX3_setLane_16 : decode cX3_setLane 16 = .ok (.invokestatic 45, 3) := by decide +kernel
theorem dX3_setLane_19 : decode cX3_setLane 19 = .ok (.if_icmp .le 6, 3) := by decide +kernel
theorem dX3_setLane_22 : decode cX3_setLane 22 = .ok (.bipush (-2), 2) := by decide +kernel
theorem dX3_setLane_24 : decode cX3_setLane 24 = .ok (.ireturn, 1) := by decide +kernel
theorem dX3_setLane_25 : decode cX3_setLane 25 = .ok (.aload_n 0, 1) := by decide +kernel
theorem dX3_setLane_26 : decode cX3_setLane 26 = .ok (.getfield 10, 3) := by decide +kernel
theorem dX3_setLane_29 : decode cX3_setLane 29 = .ok (.getfield 49, 3) := by decide +kernel
theorem dX3_setLane_32 : decode cX3_setLane 32 = .ok (.iload_n 1, 1) := by decide +kernel
theorem dX3_setLane_33 : decode cX3_setLane 33 = .ok (.aaload, 1) := by decide +kernel
theorem dX3_setLane_34 : decode cX3_setLane 34 = .ok (.astore 4, 2) := by decide +kernel
theorem dX3_setLane_36 : decode cX3_setLane 36 = .ok (.iload_n 2, 1) := by decide +kernel
theorem dX3_setLane_37 : decode cX3_setLane 37 = .ok (.ifCond .ne 15, 3) := by decide +kernel
theorem dX3_setLane_40 : decode cX3_setLane 40 = .ok (.aload 4, 2) := by decide +kernel
theorem dX3_setLane_42 : decode cX3_setLane 42 = .ok (.getfield 53, 3) := by decide +kernel
theorem dX3_setLane_45 : decode cX3_setLane 45 = .ok (.iload_n 3, 1) := by decide +kernel
theorem dX3_setLane_46 : decode cX3_setLane 46 = .ok (.if_icmp .le 6, 3) := by decide +kernel
theorem dX3_setLane_49 : decode cX3_setLane 49 = .ok (.bipush (-4), 2) := by decide +kernel
theorem dX3_setLane_51 : decode cX3_setLane 51 = .ok (.ireturn, 1) := by decide +kernel
theorem dX3_setLane_52 : decode cX3_setLane 52 = .ok (.aload 4, 2) := by decide +kernel
theorem dX3_setLane_54 : decode cX3_setLane 54 = .ok (.iload_n 2, 1) := by decide +kernel
theorem dX3_setLane_55 : decode cX3_setLane 55 = .ok (.invokevirtual 58, 3) := by decide +kernel
theorem dX3_setLane_58 : decode cX3_setLane 58 = .ok (.istore 5, 2) := by decide +kernel
theorem dX3_setLane_60 : decode cX3_setLane 60 = .ok (.iload 5, 2) := by decide +kernel
theorem dX3_setLane_62 : decode cX3_setLane 62 = .ok (.iload_n 3, 1) := by decide +kernel
theorem dX3_setLane_63 : decode cX3_setLane 63 = .ok (.if_icmp .ne 6, 3) := by decide +kernel
theorem dX3_setLane_66 : decode cX3_setLane 66 = .ok (.bipush (-5), 2) := by decide +kernel
theorem dX3_setLane_68 : decode cX3_setLane 68 = .ok (.ireturn, 1) := by decide +kernel
theorem dX3_setLane_69 : decode cX3_setLane 69 = .ok (.aload_n 0, 1) := by decide +kernel
theorem dX3_setLane_70 : decode cX3_setLane 70 = .ok (.invokevirtual 61, 3) := by decide +kernel
theorem dX3_setLane_73 : decode cX3_setLane 73 = .ok (.aload 4, 2) := by decide +kernel
theorem dX3_setLane_75 : decode cX3_setLane 75 = .ok (.iload_n 2, 1) := by decide +kernel
theorem dX3_setLane_76 : decode cX3_setLane 76 = .ok (.iload_n 3, 1) := by decide +kernel
theorem dX3_setLane_77 : decode cX3_setLane 77 = .ok (.invokevirtual 64, 3) := by decide +kernel
theorem dX3_setLane_80 : decode cX3_setLane 80 = .ok (.iload 5, 2) := by decide +kernel
theorem dX3_setLane_82 : decode cX3_setLane 82 = .ok (.ireturn, 1) := by decide +kernel
theorem dX3_set_0 : decode cX3_set 0 = .ok (.iload_n 2, 1) := by decide +kernel
theorem dX3_set_1 : decode cX3_set 1 = .ok (.ifCond .lt 11, 3) := by decide +kernel
theorem dX3_set_4 : decode cX3_set 4 = .ok (.iload_n 2, 1) := by decide +kernel
theorem dX3_set_5 : decode cX3_set 5 = .ok (.iload_n 1, 1) := by decide +kernel
theorem dX3_set_6 : decode cX3_set 6 = .ok (.invokestatic 68, 3) := by decide +kernel
theorem dX3_set_9 : decode cX3_set 9 = .ok (.if_icmp .le 6, 3) := by decide +kernel
theorem dX3_set_12 : decode cX3_set 12 = .ok (.bipush (-2), 2) := by decide +kernel
theorem dX3_set_14 : decode cX3_set 14 = .ok (.ireturn, 1) := by decide +kernel
theorem dX3_set_15 : decode cX3_set 15 = .ok (.iload_n 1, 1) := by decide +kernel
theorem dX3_set_16 : decode cX3_set 16 = .ok (.ifCond .ne 13, 3) := by decide +kernel
theorem dX3_set_19 : decode cX3_set 19 = .ok (.aload_n 0, 1) := by decide +kernel
theorem dX3_set_20 : decode cX3_set 20 = .ok (.getfield 10, 3) := by decide +kernel
theorem dX3_set_23 : decode cX3_set 23 = .ok (.getfield 71, 3) := by decide +kernel
theorem dX3_set_26 : decode cX3_set 26 = .ok (.goto 10, 3) := by decide +kernel
theorem dX3_set_29 : decode cX3_set 29 = .ok (.aload_n 0, 1) := by decide +kernel
theorem dX3_set_30 : decode cX3_set 30 = .ok (.getfield 10, 3) := by decide +kernel
theorem dX3_set_33 : decode cX3_set 33 = .ok (.getfield 74, 3) := by decide +kernel
theorem dX3_set_36 : decode cX3_set 36 = .ok (.istore_n 3, 1) := by decide +kernel
theorem dX3_set_37 : decode cX3_set 37 = .ok (.iload_n 3, 1) := by decide +kernel
theorem dX3_set_38 : decode cX3_set 38 = .ok (.iload_n 2, 1) := by decide +kernel
theorem dX3_set_39 : decode cX3_set 39 = .ok (.if_icmp .ne 6, 3) := by decide +kernel
theorem dX3_set_42 : decode cX3_set 42 = .ok (.bipush (-5), 2) := by decide +kernel
theorem dX3_set_44 : decode cX3_set 44 = .ok (.ireturn, 1) := by decide +kernel
theorem dX3_set_45 : decode cX3_set 45 = .ok (.aload_n 0, 1) := by decide +kernel
theorem dX3_set_46 : decode cX3_set 46 = .ok (.invokevirtual 61, 3) := by decide +kernel
theorem dX3_set_49 : decode cX3_set 49 = .ok (.iload_n 1, 1) := by decide +kernel
theorem dX3_set_50 : decode cX3_set 50 = .ok (.ifCond .ne 14, 3) := by decide +kernel
theorem dX3_set_53 : decode cX3_set 53 = .ok (.aload_n 0, 1) := by decide +kernel
theorem dX3_set_54 : decode cX3_set 54 = .ok (.getfield 10, 3) := by decide +kernel
theorem dX3_set_57 : decode cX3_set 57 = .ok (.iload_n 2, 1) := by decide +kernel
theorem dX3_set_58 : decode cX3_set 58 = .ok (.putfield 71, 3) := by decide +kernel
theorem dX3_set_61 : decode cX3_set 61 = .ok (.goto 11, 3) := by decide +kernel
theorem dX3_set_64 : decode cX3_set 64 = .ok (.aload_n 0, 1) := by decide +kernel
theorem dX3_set_65 : decode cX3_set 65 = .ok (.getfield 10, 3) := by decide +kernel
theorem dX3_set_68 : decode cX3_set 68 = .ok (.iload_n 2, 1) := by decide +kernel
theorem dX3_set_69 : decode cX3_set 69 = .ok (.putfield 74, 3) := by decide +kernel
theorem dX3_set_72 : decode cX3_set 72 = .ok (.iload_n 3, 1) := by decide +kernel
theorem dX3_set_73 : decode cX3_set 73 = .ok (.ireturn, 1) := by decide +kernel
theorem dX3_arrive_0 : decode cX3_arrive 0 = .ok (.iload_n 1, 1) := by decide +kernel
theorem dX3_arrive_1 : decode cX3_arrive 1 = .ok (.invokestatic 41, 3) := by decide +kernel
theorem dX3_arrive_4 : decode cX3_arrive 4 = .ok (.ifCond .eq 10, 3) := by decide +kernel
theorem dX3_arrive_7 : decode cX3_arrive 7 = .ok (.iload_n 2, 1) := by decide +kernel
theorem dX3_arrive_8 : decode cX3_arrive 8 = .ok (.invokestatic 41, 3) := by decide +kernel
theorem dX3_arrive_11 : decode cX3_arrive 11 = .ok (.ifCond .ne 5, 3) := by decide +kernel
theorem dX3_arrive_14 : decode cX3_arrive 14 = .ok (.iconst (-1), 1) := by decide +kernel
theorem dX3_arrive_15 : decode cX3_arrive 15 = .ok (.ireturn, 1) := by decide +kernel
theorem dX3_arrive_16 : decode cX3_arrive 16 = .ok (.aload_n 0, 1) := by decide +kernel
theorem dX3_arrive_17 : decode cX3_arrive 17 = .ok (.getfield 10, 3) := by decide +kernel
theorem dX3_arrive_20 : decode cX3_arrive 20 = .ok (.iload_n 1, 1) := by decide +kernel
theorem dX3_arrive_21 : decode cX3_arrive 21 = .ok (.iconst 1, 1) := by decide +kernel
theorem dX3_arrive_22 : decode cX3_arrive 22 = .ok (.invokevirtual 77, 3) := by decide +kernel
theorem dX3_arrive_25 : decode cX3_arrive 25 = .ok (.ifCond .ne 6, 3) := by decide +kernel
theorem dX3_arrive_28 : decode cX3_arrive 28 = .ok (.bipush (-3), 2) := by decide +kernel
theorem dX3_arrive_30 : decode cX3_arrive 30 = .ok (.ireturn, 1) := by decide +kernel
theorem dX3_arrive_31 : decode cX3_arrive 31 = .ok (.aload_n 0, 1) := by decide +kernel
theorem dX3_arrive_32 : decode cX3_arrive 32 = .ok (.invokevirtual 61, 3) := by decide +kernel
theorem dX3_arrive_35 : decode cX3_arrive 35 = .ok (.aload_n 0, 1) := by decide +kernel
theorem dX3_arrive_36 : decode cX3_arrive 36 = .ok (.getfield 10, 3) := by decide +kernel
theorem dX3_arrive_39 : decode cX3_arrive 39 = .ok (.iload_n 1, 1) := by decide +kernel
theorem dX3_arrive_40 : decode cX3_arrive 40 = .ok (.iload_n 2, 1) := by decide +kernel
theorem dX3_arrive_41 : decode cX3_arrive 41 = .ok (.invokevirtual 81, 3) := by decide +kernel
theorem dX3_arrive_44 : decode cX3_arrive 44 = .ok (.ireturn, 1) := by decide +kernel
theorem dX3_readArrivals_0 : decode cX3_readArrivals 0 = .ok (.aload_n 0, 1) := by decide +kernel
theorem dX3_readArrivals_1 : decode cX3_readArrivals 1 = .ok (.invokevirtual 85, 3) := by decide +kernel
theorem dX3_readArrivals_4 : decode cX3_readArrivals 4 = .ok (.istore_n 1, 1) := by decide +kernel
theorem dX3_readArrivals_5 : decode cX3_readArrivals 5 = .ok (.iload_n 1, 1) := by decide +kernel
theorem dX3_readArrivals_6 : decode cX3_readArrivals 6 = .ok (.iconst (-1), 1) := by decide +kernel
theorem dX3_readArrivals_7 : decode cX3_readArrivals 7 = .ok (.if_icmp .eq 8, 3) := by decide +kernel
theorem dX3_readArrivals_10 : decode cX3_readArrivals 10 = .ok (.bipush (-100), 2) := by decide +kernel
theorem dX3_readArrivals_12 : decode cX3_readArrivals 12 = .ok (.iload_n 1, 1) := by decide +kernel
theorem dX3_readArrivals_13 : decode cX3_readArrivals 13 = .ok (.isub, 1) := by decide +kernel
theorem dX3_readArrivals_14 : decode cX3_readArrivals 14 = .ok (.ireturn, 1) := by decide +kernel
theorem dX3_readArrivals_15 : decode cX3_readArrivals 15 = .ok (.aload_n 0, 1) := by decide +kernel
theorem dX3_readArrivals_16 : decode cX3_readArrivals 16 = .ok (.getfield 16, 3) := by decide +kernel
theorem dX3_readArrivals_19 : decode cX3_readArrivals 19 = .ok (.aload_n 0, 1) := by decide +kernel
theorem dX3_readArrivals_20 : decode cX3_readArrivals 20 = .ok (.getfield 10, 3) := by decide +kernel
theorem dX3_readArrivals_23 : decode cX3_readArrivals 23 = .ok (.invokevirtual 89, 3) := by decide +kernel
theorem dX3_readArrivals_26 : decode cX3_readArrivals 26 = .ok (.aload_n 0, 1) := by decide +kernel
theorem dX3_readArrivals_27 : decode cX3_readArrivals 27 = .ok (.invokevirtual 93, 3) := by decide +kernel
theorem dX3_readArrivals_30 : decode cX3_readArrivals 30 = .ok (.istore_n 2, 1) := by decide +kernel
theorem dX3_readArrivals_31 : decode cX3_readArrivals 31 = .ok (.iload_n 2, 1) := by decide +kernel
theorem dX3_readArrivals_32 : decode cX3_readArrivals 32 = .ok (.bipush (-3), 2) := by decide +kernel
theorem dX3_readArrivals_34 : decode cX3_readArrivals 34 = .ok (.if_icmp .ne 6, 3) := by decide +kernel
theorem dX3_readArrivals_37 : decode cX3_readArrivals 37 = .ok (.bipush (-3), 2) := by decide +kernel
theorem dX3_readArrivals_39 : decode cX3_readArrivals 39 = .ok (.ireturn, 1) := by decide +kernel
theorem dX3_readArrivals_40 : decode cX3_readArrivals 40 = .ok (.aload_n 0, 1) := by decide +kernel
theorem dX3_readArrivals_41 : decode cX3_readArrivals 41 = .ok (.invokevirtual 61, 3) := by decide +kernel
theorem dX3_readArrivals_44 : decode cX3_readArrivals 44 = .ok (.aload_n 0, 1) := by decide +kernel
theorem dX3_readArrivals_45 : decode cX3_readArrivals 45 = .ok (.getfield 10, 3) := by decide +kernel
theorem dX3_readArrivals_48 : decode cX3_readArrivals 48 = .ok (.aload_n 0, 1) := by decide +kernel
theorem dX3_readArrivals_49 : decode cX3_readArrivals 49 = .ok (.getfield 16, 3) := by decide +kernel
theorem dX3_readArrivals_52 : decode cX3_readArrivals 52 = .ok (.invokevirtual 89, 3) := by decide +kernel
theorem dX3_readArrivals_55 : decode cX3_readArrivals 55 = .ok (.iload_n 2, 1) := by decide +kernel
theorem dX3_readArrivals_56 : decode cX3_readArrivals 56 = .ok (.ireturn, 1) := by decide +kernel
theorem dX3_pass_0 : decode cX3_pass 0 = .ok (.iload_n 1, 1) := by decide +kernel
theorem dX3_pass_1 : decode cX3_pass 1 = .ok (.invokestatic 96, 3) := by decide +kernel
theorem dX3_pass_4 : decode cX3_pass 4 = .ok (.ifCond .ne 6, 3) := by decide +kernel
theorem dX3_pass_7 : decode cX3_pass 7 = .ok (.bipush (-2), 2) := by decide +kernel
theorem dX3_pass_9 : decode cX3_pass 9 = .ok (.ireturn, 1) := by decide +kernel
theorem dX3_pass_10 : decode cX3_pass 10 = .ok (.aload_n 0, 1) := by decide +kernel
theorem dX3_pass_11 : decode cX3_pass 11 = .ok (.getfield 10, 3) := by decide +kernel
theorem dX3_pass_14 : decode cX3_pass 14 = .ok (.getfield 99, 3) := by decide +kernel
theorem dX3_pass_17 : decode cX3_pass 17 = .ok (.iload_n 1, 1) := by decide +kernel
theorem dX3_pass_18 : decode cX3_pass 18 = .ok (.iadd, 1) := by decide +kernel
theorem dX3_pass_19 : decode cX3_pass 19 = .ok (.sipush 9999, 3) := by decide +kernel
theorem dX3_pass_22 : decode cX3_pass 22 = .ok (.if_icmp .le 6, 3) := by decide +kernel
theorem dX3_pass_25 : decode cX3_pass 25 = .ok (.bipush (-4), 2) := by decide +kernel
theorem dX3_pass_27 : decode cX3_pass 27 = .ok (.ireturn, 1) := by decide +kernel
theorem dX3_pass_28 : decode cX3_pass 28 = .ok (.aload_n 0, 1) := by decide +kernel
theorem dX3_pass_29 : decode cX3_pass 29 = .ok (.invokevirtual 61, 3) := by decide +kernel
theorem dX3_pass_32 : decode cX3_pass 32 = .ok (.aload_n 0, 1) := by decide +kernel
theorem dX3_pass_33 : decode cX3_pass 33 = .ok (.getfield 10, 3) := by decide +kernel
theorem dX3_pass_36 : decode cX3_pass 36 = .ok (.iload_n 1, 1) := by decide +kernel
theorem dX3_pass_37 : decode cX3_pass 37 = .ok (.invokevirtual 102, 3) := by decide +kernel
theorem dX3_pass_40 : decode cX3_pass 40 = .ok (.ireturn, 1) := by decide +kernel
theorem dX3_lose_0 : decode cX3_lose 0 = .ok (.iload_n 1, 1) := by decide +kernel
theorem dX3_lose_1 : decode cX3_lose 1 = .ok (.invokestatic 41, 3) := by decide +kernel
theorem dX3_lose_4 : decode cX3_lose 4 = .ok (.ifCond .ne 5, 3) := by decide +kernel
theorem dX3_lose_7 : decode cX3_lose 7 = .ok (.iconst (-1), 1) := by decide +kernel
theorem dX3_lose_8 : decode cX3_lose 8 = .ok (.ireturn, 1) := by decide +kernel
theorem dX3_lose_9 : decode cX3_lose 9 = .ok (.aload_n 0, 1) := by decide +kernel
theorem dX3_lose_10 : decode cX3_lose 10 = .ok (.getfield 10, 3) := by decide +kernel
theorem dX3_lose_13 : decode cX3_lose 13 = .ok (.getfield 49, 3) := by decide +kernel
theorem dX3_lose_16 : decode cX3_lose 16 = .ok (.iload_n 1, 1) := by decide +kernel
theorem dX3_lose_17 : decode cX3_lose 17 = .ok (.aaload, 1) := by decide +kernel
theorem dX3_lose_18 : decode cX3_lose 18 = .ok (.astore_n 2, 1) := by decide +kernel
theorem dX3_lose_19 : decode cX3_lose 19 = .ok (.aload_n 2, 1) := by decide +kernel
theorem dX3_lose_20 : decode cX3_lose 20 = .ok (.getfield 105, 3) := by decide +kernel
theorem dX3_lose_23 : decode cX3_lose 23 = .ok (.ifCond .ne 6, 3) := by decide +kernel
theorem dX3_lose_26 : decode cX3_lose 26 = .ok (.bipush (-4), 2) := by decide +kernel
theorem dX3_lose_28 : decode cX3_lose 28 = .ok (.ireturn, 1) := by decide +kernel
theorem dX3_lose_29 : decode cX3_lose 29 = .ok (.aload_n 0, 1) := by decide +kernel
theorem dX3_lose_30 : decode cX3_lose 30 = .ok (.invokevirtual 61, 3) := by decide +kernel
theorem dX3_lose_33 : decode cX3_lose 33 = .ok (.aload_n 2, 1) := by decide +kernel
theorem dX3_lose_34 : decode cX3_lose 34 = .ok (.invokevirtual 108, 3) := by decide +kernel
theorem dX3_lose_37 : decode cX3_lose 37 = .ok (.aload_n 2, 1) := by decide +kernel
theorem dX3_lose_38 : decode cX3_lose 38 = .ok (.getfield 105, 3) := by decide +kernel
theorem dX3_lose_41 : decode cX3_lose 41 = .ok (.ireturn, 1) := by decide +kernel
theorem dX3_forge_0 : decode cX3_forge 0 = .ok (.iload_n 1, 1) := by decide +kernel
theorem dX3_forge_1 : decode cX3_forge 1 = .ok (.invokestatic 41, 3) := by decide +kernel
theorem dX3_forge_4 : decode cX3_forge 4 = .ok (.ifCond .ne 5, 3) := by decide +kernel
theorem dX3_forge_7 : decode cX3_forge 7 = .ok (.iconst (-1), 1) := by decide +kernel
theorem dX3_forge_8 : decode cX3_forge 8 = .ok (.ireturn, 1) := by decide +kernel
theorem dX3_forge_9 : decode cX3_forge 9 = .ok (.aload_n 0, 1) := by decide +kernel
theorem dX3_forge_10 : decode cX3_forge 10 = .ok (.getfield 10, 3) := by decide +kernel
theorem dX3_forge_13 : decode cX3_forge 13 = .ok (.getfield 49, 3) := by decide +kernel
theorem dX3_forge_16 : decode cX3_forge 16 = .ok (.iload_n 1, 1) := by decide +kernel
theorem dX3_forge_17 : decode cX3_forge 17 = .ok (.aaload, 1) := by decide +kernel
theorem dX3_forge_18 : decode cX3_forge 18 = .ok (.astore_n 2, 1) := by decide +kernel
theorem dX3_forge_19 : decode cX3_forge 19 = .ok (.aload_n 2, 1) := by decide +kernel
theorem dX3_forge_20 : decode cX3_forge 20 = .ok (.getfield 111, 3) := by decide +kernel
theorem dX3_forge_23 : decode cX3_forge 23 = .ok (.bipush 16, 2) := by decide +kernel
theorem dX3_forge_25 : decode cX3_forge 25 = .ok (.if_icmp .lt 6, 3) := by decide +kernel
theorem dX3_forge_28 : decode cX3_forge 28 = .ok (.bipush (-3), 2) := by decide +kernel
theorem dX3_forge_30 : decode cX3_forge 30 = .ok (.ireturn, 1) := by decide +kernel
theorem dX3_forge_31 : decode cX3_forge 31 = .ok (.aload_n 0, 1) := by decide +kernel
theorem dX3_forge_32 : decode cX3_forge 32 = .ok (.invokevirtual 61, 3) := by decide +kernel
theorem dX3_forge_35 : decode cX3_forge 35 = .ok (.aload_n 2, 1) := by decide +kernel
theorem dX3_forge_36 : decode cX3_forge 36 = .ok (.dup, 1) := by decide +kernel
theorem dX3_forge_37 : decode cX3_forge 37 = .ok (.getfield 111, 3) := by decide +kernel
theorem dX3_forge_40 : decode cX3_forge 40 = .ok (.iconst 1, 1) := by decide +kernel
theorem dX3_forge_41 : decode cX3_forge 41 = .ok (.iadd, 1) := by decide +kernel
theorem dX3_forge_42 : decode cX3_forge 42 = .ok (.putfield 111, 3) := by decide +kernel
theorem dX3_forge_45 : decode cX3_forge 45 = .ok (.aload_n 2, 1) := by decide +kernel
theorem dX3_forge_46 : decode cX3_forge 46 = .ok (.getfield 111, 3) := by decide +kernel
theorem dX3_forge_49 : decode cX3_forge 49 = .ok (.bipush 100, 2) := by decide +kernel
theorem dX3_forge_51 : decode cX3_forge 51 = .ok (.iadd, 1) := by decide +kernel
theorem dX3_forge_52 : decode cX3_forge 52 = .ok (.ireturn, 1) := by decide +kernel
theorem dX3_repair_0 : decode cX3_repair 0 = .ok (.iload_n 1, 1) := by decide +kernel
theorem dX3_repair_1 : decode cX3_repair 1 = .ok (.invokestatic 41, 3) := by decide +kernel
theorem dX3_repair_4 : decode cX3_repair 4 = .ok (.ifCond .ne 5, 3) := by decide +kernel
theorem dX3_repair_7 : decode cX3_repair 7 = .ok (.iconst (-1), 1) := by decide +kernel
theorem dX3_repair_8 : decode cX3_repair 8 = .ok (.ireturn, 1) := by decide +kernel
theorem dX3_repair_9 : decode cX3_repair 9 = .ok (.aload_n 0, 1) := by decide +kernel
theorem dX3_repair_10 : decode cX3_repair 10 = .ok (.getfield 10, 3) := by decide +kernel
theorem dX3_repair_13 : decode cX3_repair 13 = .ok (.getfield 49, 3) := by decide +kernel
theorem dX3_repair_16 : decode cX3_repair 16 = .ok (.iload_n 1, 1) := by decide +kernel
theorem dX3_repair_17 : decode cX3_repair 17 = .ok (.aaload, 1) := by decide +kernel
theorem dX3_repair_18 : decode cX3_repair 18 = .ok (.astore_n 2, 1) := by decide +kernel
theorem dX3_repair_19 : decode cX3_repair 19 = .ok (.aload_n 2, 1) := by decide +kernel
theorem dX3_repair_20 : decode cX3_repair 20 = .ok (.invokevirtual 114, 3) := by decide +kernel
theorem dX3_repair_23 : decode cX3_repair 23 = .ok (.istore_n 3, 1) := by decide +kernel
theorem dX3_repair_24 : decode cX3_repair 24 = .ok (.iload_n 3, 1) := by decide +kernel
theorem dX3_repair_25 : decode cX3_repair 25 = .ok (.ifCond .ne 6, 3) := by decide +kernel
theorem dX3_repair_28 : decode cX3_repair 28 = .ok (.bipush (-5), 2) := by decide +kernel
theorem dX3_repair_30 : decode cX3_repair 30 = .ok (.ireturn, 1) := by decide +kernel
theorem dX3_repair_31 : decode cX3_repair 31 = .ok (.aload_n 0, 1) := by decide +kernel
theorem dX3_repair_32 : decode cX3_repair 32 = .ok (.invokevirtual 61, 3) := by decide +kernel
theorem dX3_repair_35 : decode cX3_repair 35 = .ok (.aload_n 2, 1) := by decide +kernel
theorem dX3_repair_36 : decode cX3_repair 36 = .ok (.invokevirtual 117, 3) := by decide +kernel
theorem dX3_repair_39 : decode cX3_repair 39 = .ok (.iload_n 3, 1) := by decide +kernel
theorem dX3_repair_40 : decode cX3_repair 40 = .ok (.bipush 100, 2) := by decide +kernel
theorem dX3_repair_42 : decode cX3_repair 42 = .ok (.iadd, 1) := by decide +kernel
theorem dX3_repair_43 : decode cX3_repair 43 = .ok (.ireturn, 1) := by decide +kernel
theorem dX3_type_0 : decode cX3_type 0 = .ok (.aload_n 0, 1) := by decide +kernel
theorem dX3_type_1 : decode cX3_type 1 = .ok (.getfield 38, 3) := by decide +kernel
theorem dX3_type_4 : decode cX3_type 4 = .ok (.bipush 60, 2) := by decide +kernel
theorem dX3_type_6 : decode cX3_type 6 = .ok (.if_icmp .lt 6, 3) := by decide +kernel
theorem dX3_type_9 : decode cX3_type 9 = .ok (.bipush (-3), 2) := by decide +kernel
theorem dX3_type_11 : decode cX3_type 11 = .ok (.ireturn, 1) := by decide +kernel
theorem dX3_type_12 : decode cX3_type 12 = .ok (.aload_n 0, 1) := by decide +kernel
theorem dX3_type_13 : decode cX3_type 13 = .ok (.getfield 34, 3) := by decide +kernel
theorem dX3_type_16 : decode cX3_type 16 = .ok (.aload_n 0, 1) := by decide +kernel
theorem dX3_type_17 : decode cX3_type 17 = .ok (.getfield 38, 3) := by decide +kernel
theorem dX3_type_20 : decode cX3_type 20 = .ok (.iload_n 1, 1) := by decide +kernel
theorem dX3_type_21 : decode cX3_type 21 = .ok (.castore, 1) := by decide +kernel
theorem dX3_type_22 : decode cX3_type 22 = .ok (.aload_n 0, 1) := by decide +kernel
theorem dX3_type_23 : decode cX3_type 23 = .ok (.dup, 1) := by decide +kernel
theorem dX3_type_24 : decode cX3_type 24 = .ok (.getfield 38, 3) := by decide +kernel
theorem dX3_type_27 : decode cX3_type 27 = .ok (.iconst 1, 1) := by decide +kernel
theorem dX3_type_28 : decode cX3_type 28 = .ok (.iadd, 1) := by decide +kernel
theorem dX3_type_29 : decode cX3_type 29 = .ok (.putfield 38, 3) := by decide +kernel
theorem dX3_type_32 : decode cX3_type 32 = .ok (.aload_n 0, 1) := by decide +kernel
theorem dX3_type_33 : decode cX3_type 33 = .ok (.getfield 38, 3) := by decide +kernel
theorem dX3_type_36 : decode cX3_type 36 = .ok (.ireturn, 1) := by decide +kernel
theorem dX3_clearText_0 : decode cX3_clearText 0 = .ok (.aload_n 0, 1) := by decide +kernel
theorem dX3_clearText_1 : decode cX3_clearText 1 = .ok (.getfield 38, 3) := by decide +kernel
theorem dX3_clearText_4 : decode cX3_clearText 4 = .ok (.istore_n 1, 1) := by decide +kernel
theorem dX3_clearText_5 : decode cX3_clearText 5 = .ok (.aload_n 0, 1) := by decide +kernel
theorem dX3_clearText_6 : decode cX3_clearText 6 = .ok (.iconst 0, 1) := by decide +kernel
theorem dX3_clearText_7 : decode cX3_clearText 7 = .ok (.putfield 38, 3) := by decide +kernel
theorem dX3_clearText_10 : decode cX3_clearText 10 = .ok (.iload_n 1, 1) := by decide +kernel
theorem dX3_clearText_11 : decode cX3_clearText 11 = .ok (.ireturn, 1) := by decide +kernel
theorem dX3_undo_0 : decode cX3_undo 0 = .ok (.aload_n 0, 1) := by decide +kernel
theorem dX3_undo_1 : decode cX3_undo 1 = .ok (.getfield 30, 3) := by decide +kernel
theorem dX3_undo_4 : decode cX3_undo 4 = .ok (.ifCond .ne 6, 3) := by decide +kernel
theorem dX3_undo_7 : decode cX3_undo 7 = .ok (.bipush (-5), 2) := by decide +kernel
theorem dX3_undo_9 : decode cX3_undo 9 = .ok (.ireturn, 1) := by decide +kernel
theorem dX3_undo_10 : decode cX3_undo 10 = .ok (.aload_n 0, 1) := by decide +kernel
theorem dX3_undo_11 : decode cX3_undo 11 = .ok (.dup, 1) := by decide +kernel
theorem dX3_undo_12 : decode cX3_undo 12 = .ok (.getfield 30, 3) := by decide +kernel
theorem dX3_undo_15 : decode cX3_undo 15 = .ok (.iconst 1, 1) := by decide +kernel
theorem dX3_undo_16 : decode cX3_undo 16 = .ok (.isub, 1) := by decide +kernel
theorem dX3_undo_17 : decode cX3_undo 17 = .ok (.putfield 30, 3) := by decide +kernel
theorem dX3_undo_20 : decode cX3_undo 20 = .ok (.aload_n 0, 1) := by decide +kernel
theorem dX3_undo_21 : decode cX3_undo 21 = .ok (.getfield 10, 3) := by decide +kernel
theorem dX3_undo_24 : decode cX3_undo 24 = .ok (.aload_n 0, 1) := by decide +kernel
theorem dX3_undo_25 : decode cX3_undo 25 = .ok (.getfield 26, 3) := by decide +kernel
theorem dX3_undo_28 : decode cX3_undo 28 = .ok (.aload_n 0, 1) := by decide +kernel
theorem dX3_undo_29 : decode cX3_undo 29 = .ok (.getfield 30, 3) := by decide +kernel
theorem dX3_undo_32 : decode cX3_undo 32 = .ok (.aaload, 1) := by decide +kernel
theorem dX3_undo_33 : decode cX3_undo 33 = .ok (.invokevirtual 89, 3) := by decide +kernel
theorem dX3_undo_36 : decode cX3_undo 36 = .ok (.aload_n 0, 1) := by decide +kernel
theorem dX3_undo_37 : decode cX3_undo 37 = .ok (.getfield 30, 3) := by decide +kernel
theorem dX3_undo_40 : decode cX3_undo 40 = .ok (.ireturn, 1) := by decide +kernel
theorem dX3_keep_0 : decode cX3_keep 0 = .ok (.aload_n 0, 1) := by decide +kernel
theorem dX3_keep_1 : decode cX3_keep 1 = .ok (.getfield 19, 3) := by decide +kernel
theorem dX3_keep_4 : decode cX3_keep 4 = .ok (.aload_n 0, 1) := by decide +kernel
theorem dX3_keep_5 : decode cX3_keep 5 = .ok (.getfield 10, 3) := by decide +kernel
theorem dX3_keep_8 : decode cX3_keep 8 = .ok (.invokevirtual 89, 3) := by decide +kernel
theorem dX3_keep_11 : decode cX3_keep 11 = .ok (.aload_n 0, 1) := by decide +kernel
theorem dX3_keep_12 : decode cX3_keep 12 = .ok (.iconst 1, 1) := by decide +kernel
theorem dX3_keep_13 : decode cX3_keep 13 = .ok (.putfield 22, 3) := by decide +kernel
theorem dX3_keep_16 : decode cX3_keep 16 = .ok (.aload_n 0, 1) := by decide +kernel
theorem dX3_keep_17 : decode cX3_keep 17 = .ok (.getfield 10, 3) := by decide +kernel
theorem dX3_keep_20 : decode cX3_keep 20 = .ok (.getfield 99, 3) := by decide +kernel
theorem dX3_keep_23 : decode cX3_keep 23 = .ok (.ireturn, 1) := by decide +kernel
theorem dX3_restore_0 : decode cX3_restore 0 = .ok (.aload_n 0, 1) := by decide +kernel
theorem dX3_restore_1 : decode cX3_restore 1 = .ok (.getfield 22, 3) := by decide +kernel
theorem dX3_restore_4 : decode cX3_restore 4 = .ok (.ifCond .ne 6, 3) := by decide +kernel
theorem dX3_restore_7 : decode cX3_restore 7 = .ok (.bipush (-5), 2) := by decide +kernel
theorem dX3_restore_9 : decode cX3_restore 9 = .ok (.ireturn, 1) := by decide +kernel
theorem dX3_restore_10 : decode cX3_restore 10 = .ok (.aload_n 0, 1) := by decide +kernel
theorem dX3_restore_11 : decode cX3_restore 11 = .ok (.invokevirtual 61, 3) := by decide +kernel
theorem dX3_restore_14 : decode cX3_restore 14 = .ok (.aload_n 0, 1) := by decide +kernel
theorem dX3_restore_15 : decode cX3_restore 15 = .ok (.getfield 10, 3) := by decide +kernel
theorem dX3_restore_18 : decode cX3_restore 18 = .ok (.aload_n 0, 1) := by decide +kernel
theorem dX3_restore_19 : decode cX3_restore 19 = .ok (.getfield 19, 3) := by decide +kernel
theorem dX3_restore_22 : decode cX3_restore 22 = .ok (.invokevirtual 89, 3) := by decide +kernel
theorem dX3_restore_25 : decode cX3_restore 25 = .ok (.aload_n 0, 1) := by decide +kernel
theorem dX3_restore_26 : decode cX3_restore 26 = .ok (.getfield 10, 3) := by decide +kernel
theorem dX3_restore_29 : decode cX3_restore 29 = .ok (.getfield 99, 3) := by decide +kernel
theorem dX3_restore_32 : decode cX3_restore 32 = .ok (.ireturn, 1) := by decide +kernel
theorem dX3_lane_0 : decode cX3_lane 0 = .ok (.iload_n 1, 1) := by decide +kernel
theorem dX3_lane_1 : decode cX3_lane 1 = .ok (.invokestatic 41, 3) := by decide +kernel
theorem dX3_lane_4 : decode cX3_lane 4 = .ok (.ifCond .ne 5, 3) := by decide +kernel
theorem dX3_lane_7 : decode cX3_lane 7 = .ok (.iconst (-1), 1) := by decide +kernel
theorem dX3_lane_8 : decode cX3_lane 8 = .ok (.ireturn, 1) := by decide +kernel
theorem dX3_lane_9 : decode cX3_lane 9 = .ok (.iload_n 2, 1) := by decide +kernel
theorem dX3_lane_10 : decode cX3_lane 10 = .ok (.bipush 12, 2) := by decide +kernel
theorem dX3_lane_12 : decode cX3_lane 12 = .ok (.if_icmp .ne 12, 3) := by decide +kernel
theorem dX3_lane_15 : decode cX3_lane 15 = .ok (.aload_n 0, 1) := by decide +kernel
theorem dX3_lane_16 : decode cX3_lane 16 = .ok (.getfield 10, 3) := by decide +kernel
theorem dX3_lane_19 : decode cX3_lane 19 = .ok (.iload_n 1, 1) := by decide +kernel
theorem dX3_lane_20 : decode cX3_lane 20 = .ok (.invokevirtual 120, 3) := by decide +kernel
theorem dX3_lane_23 : decode cX3_lane 23 = .ok (.ireturn, 1) := by decide +kernel
theorem dX3_lane_24 : decode cX3_lane 24 = .ok (.iload_n 2, 1) := by decide +kernel
theorem dX3_lane_25 : decode cX3_lane 25 = .ok (.bipush 13, 2) := by decide +kernel
theorem dX3_lane_27 : decode cX3_lane 27 = .ok (.if_icmp .ne 20, 3) := by decide +kernel
theorem dX3_lane_30 : decode cX3_lane 30 = .ok (.aload_n 0, 1) := by decide +kernel
theorem dX3_lane_31 : decode cX3_lane 31 = .ok (.getfield 10, 3) := by decide +kernel
theorem dX3_lane_34 : decode cX3_lane 34 = .ok (.iload_n 1, 1) := by decide +kernel
theorem dX3_lane_35 : decode cX3_lane 35 = .ok (.invokevirtual 123, 3) := by decide +kernel
theorem dX3_lane_38 : decode cX3_lane 38 = .ok (.ifCond .eq 7, 3) := by decide +kernel
theorem dX3_lane_41 : decode cX3_lane 41 = .ok (.iconst 1, 1) := by decide +kernel
theorem dX3_lane_42 : decode cX3_lane 42 = .ok (.goto 4, 3) := by decide +kernel
theorem dX3_lane_45 : decode cX3_lane 45 = .ok (.iconst 0, 1) := by decide +kernel
theorem dX3_lane_46 : decode cX3_lane 46 = .ok (.ireturn, 1) := by decide +kernel
theorem dX3_lane_47 : decode cX3_lane 47 = .ok (.aload_n 0, 1) := by decide +kernel
theorem dX3_lane_48 : decode cX3_lane 48 = .ok (.getfield 10, 3) := by decide +kernel
theorem dX3_lane_51 : decode cX3_lane 51 = .ok (.getfield 49, 3) := by decide +kernel
theorem dX3_lane_54 : decode cX3_lane 54 = .ok (.iload_n 1, 1) := by decide +kernel
theorem dX3_lane_55 : decode cX3_lane 55 = .ok (.aaload, 1) := by decide +kernel
theorem dX3_lane_56 : decode cX3_lane 56 = .ok (.iload_n 2, 1) := by decide +kernel
theorem dX3_lane_57 : decode cX3_lane 57 = .ok (.invokevirtual 126, 3) := by decide +kernel
theorem dX3_lane_60 : decode cX3_lane 60 = .ok (.ireturn, 1) := by decide +kernel
theorem dX3_seated_0 : decode cX3_seated 0 = .ok (.iload_n 1, 1) := by decide +kernel
theorem dX3_seated_1 : decode cX3_seated 1 = .ok (.invokestatic 41, 3) := by decide +kernel
theorem dX3_seated_4 : decode cX3_seated 4 = .ok (.ifCond .ne 5, 3) := by decide +kernel
theorem dX3_seated_7 : decode cX3_seated 7 = .ok (.iconst (-1), 1) := by decide +kernel
theorem dX3_seated_8 : decode cX3_seated 8 = .ok (.ireturn, 1) := by decide +kernel
theorem dX3_seated_9 : decode cX3_seated 9 = .ok (.iload_n 2, 1) := by decide +kernel
theorem dX3_seated_10 : decode cX3_seated 10 = .ok (.ifCond .ge 6, 3) := by decide +kernel
theorem dX3_seated_13 : decode cX3_seated 13 = .ok (.bipush (-2), 2) := by decide +kernel
theorem dX3_seated_15 : decode cX3_seated 15 = .ok (.ireturn, 1) := by decide +kernel
theorem dX3_seated_16 : decode cX3_seated 16 = .ok (.aload_n 0, 1) := by decide +kernel
theorem dX3_seated_17 : decode cX3_seated 17 = .ok (.getfield 10, 3) := by decide +kernel
theorem dX3_seated_20 : decode cX3_seated 20 = .ok (.getfield 49, 3) := by decide +kernel
theorem dX3_seated_23 : decode cX3_seated 23 = .ok (.iload_n 1, 1) := by decide +kernel
theorem dX3_seated_24 : decode cX3_seated 24 = .ok (.aaload, 1) := by decide +kernel
theorem dX3_seated_25 : decode cX3_seated 25 = .ok (.astore_n 3, 1) := by decide +kernel
theorem dX3_seated_26 : decode cX3_seated 26 = .ok (.iload_n 2, 1) := by decide +kernel
theorem dX3_seated_27 : decode cX3_seated 27 = .ok (.aload_n 3, 1) := by decide +kernel
theorem dX3_seated_28 : decode cX3_seated 28 = .ok (.getfield 53, 3) := by decide +kernel
theorem dX3_seated_31 : decode cX3_seated 31 = .ok (.if_icmp .ge 12, 3) := by decide +kernel
theorem dX3_seated_34 : decode cX3_seated 34 = .ok (.aload_n 3, 1) := by decide +kernel
theorem dX3_seated_35 : decode cX3_seated 35 = .ok (.getfield 129, 3) := by decide +kernel
theorem dX3_seated_38 : decode cX3_seated 38 = .ok (.iload_n 2, 1) := by decide +kernel
theorem dX3_seated_39 : decode cX3_seated 39 = .ok (.iaload, 1) := by decide +kernel
theorem dX3_seated_40 : decode cX3_seated 40 = .ok (.goto 5, 3) := by decide +kernel
theorem dX3_seated_43 : decode cX3_seated 43 = .ok (.bipush (-5), 2) := by decide +kernel
theorem dX3_seated_45 : decode cX3_seated 45 = .ok (.ireturn, 1) := by decide +kernel
theorem dX3_onTheWay_0 : decode cX3_onTheWay 0 = .ok (.iload_n 1, 1) := by decide +kernel
theorem dX3_onTheWay_1 : decode cX3_onTheWay 1 = .ok (.invokestatic 41, 3) := by decide +kernel
theorem dX3_onTheWay_4 : decode cX3_onTheWay 4 = .ok (.ifCond .ne 5, 3) := by decide +kernel
theorem dX3_onTheWay_7 : decode cX3_onTheWay 7 = .ok (.iconst (-1), 1) := by decide +kernel
theorem dX3_onTheWay_8 : decode cX3_onTheWay 8 = .ok (.ireturn, 1) := by decide +kernel
theorem dX3_onTheWay_9 : decode cX3_onTheWay 9 = .ok (.iload_n 2, 1) := by decide +kernel
theorem dX3_onTheWay_10 : decode cX3_onTheWay 10 = .ok (.ifCond .ge 6, 3) := by decide +kernel
theorem dX3_onTheWay_13 : decode cX3_onTheWay 13 = .ok (.bipush (-2), 2) := by decide +kernel
theorem dX3_onTheWay_15 : decode cX3_onTheWay 15 = .ok (.ireturn, 1) := by decide +kernel
theorem dX3_onTheWay_16 : decode cX3_onTheWay 16 = .ok (.aload_n 0, 1) := by decide +kernel
theorem dX3_onTheWay_17 : decode cX3_onTheWay 17 = .ok (.getfield 10, 3) := by decide +kernel
theorem dX3_onTheWay_20 : decode cX3_onTheWay 20 = .ok (.getfield 49, 3) := by decide +kernel
theorem dX3_onTheWay_23 : decode cX3_onTheWay 23 = .ok (.iload_n 1, 1) := by decide +kernel
theorem dX3_onTheWay_24 : decode cX3_onTheWay 24 = .ok (.aaload, 1) := by decide +kernel
theorem dX3_onTheWay_25 : decode cX3_onTheWay 25 = .ok (.astore_n 3, 1) := by decide +kernel
theorem dX3_onTheWay_26 : decode cX3_onTheWay 26 = .ok (.iload_n 2, 1) := by decide +kernel
theorem dX3_onTheWay_27 : decode cX3_onTheWay 27 = .ok (.aload_n 3, 1) := by decide +kernel
theorem dX3_onTheWay_28 : decode cX3_onTheWay 28 = .ok (.getfield 105, 3) := by decide +kernel
theorem dX3_onTheWay_31 : decode cX3_onTheWay 31 = .ok (.if_icmp .ge 22, 3) := by decide +kernel
theorem dX3_onTheWay_34 : decode cX3_onTheWay 34 = .ok (.aload_n 3, 1) := by decide +kernel
theorem dX3_onTheWay_35 : decode cX3_onTheWay 35 = .ok (.getfield 133, 3) := by decide +kernel
theorem dX3_onTheWay_38 : decode cX3_onTheWay 38 = .ok (.iload_n 2, 1) := by decide +kernel
theorem dX3_onTheWay_39 : decode cX3_onTheWay 39 = .ok (.iaload, 1) := by decide +kernel
theorem dX3_onTheWay_40 : decode cX3_onTheWay 40 = .ok (.aload_n 0, 1) := by decide +kernel
theorem dX3_onTheWay_41 : decode cX3_onTheWay 41 = .ok (.getfield 10, 3) := by decide +kernel
theorem dX3_onTheWay_44 : decode cX3_onTheWay 44 = .ok (.getfield 99, 3) := by decide +kernel
theorem dX3_onTheWay_47 : decode cX3_onTheWay 47 = .ok (.isub, 1) := by decide +kernel
theorem dX3_onTheWay_48 : decode cX3_onTheWay 48 = .ok (.iconst 1, 1) := by decide +kernel
theorem dX3_onTheWay_49 : decode cX3_onTheWay 49 = .ok (.iadd, 1) := by decide +kernel
theorem dX3_onTheWay_50 : decode cX3_onTheWay 50 = .ok (.goto 5, 3) := by decide +kernel
theorem dX3_onTheWay_53 : decode cX3_onTheWay 53 = .ok (.bipush (-5), 2) := by decide +kernel
theorem dX3_onTheWay_55 : decode cX3_onTheWay 55 = .ok (.ireturn, 1) := by decide +kernel
theorem dX3_input_0 : decode cX3_input 0 = .ok (.iload_n 1, 1) := by decide +kernel
theorem dX3_input_1 : decode cX3_input 1 = .ok (.invokestatic 41, 3) := by decide +kernel
theorem dX3_input_4 : decode cX3_input 4 = .ok (.ifCond .ne 5, 3) := by decide +kernel
theorem dX3_input_7 : decode cX3_input 7 = .ok (.iconst (-1), 1) := by decide +kernel
theorem dX3_input_8 : decode cX3_input 8 = .ok (.ireturn, 1) := by decide +kernel
theorem dX3_input_9 : decode cX3_input 9 = .ok (.aload_n 0, 1) := by decide +kernel
theorem dX3_input_10 : decode cX3_input 10 = .ok (.getfield 10, 3) := by decide +kernel
theorem dX3_input_13 : decode cX3_input 13 = .ok (.getfield 136, 3) := by decide +kernel
theorem dX3_input_16 : decode cX3_input 16 = .ok (.iload_n 1, 1) := by decide +kernel
theorem dX3_input_17 : decode cX3_input 17 = .ok (.aaload, 1) := by decide +kernel
theorem dX3_input_18 : decode cX3_input 18 = .ok (.iload_n 2, 1) := by decide +kernel
theorem dX3_input_19 : decode cX3_input 19 = .ok (.invokevirtual 140, 3) := by decide +kernel
theorem dX3_input_22 : decode cX3_input 22 = .ok (.ireturn, 1) := by decide +kernel
theorem dX3_packet_0 : decode cX3_packet 0 = .ok (.iload_n 1, 1) := by decide +kernel
theorem dX3_packet_1 : decode cX3_packet 1 = .ok (.invokestatic 41, 3) := by decide +kernel
theorem dX3_packet_4 : decode cX3_packet 4 = .ok (.ifCond .ne 5, 3) := by decide +kernel
theorem dX3_packet_7 : decode cX3_packet 7 = .ok (.iconst (-1), 1) := by decide +kernel
theorem dX3_packet_8 : decode cX3_packet 8 = .ok (.ireturn, 1) := by decide +kernel
theorem dX3_packet_9 : decode cX3_packet 9 = .ok (.iload_n 2, 1) := by decide +kernel
theorem dX3_packet_10 : decode cX3_packet 10 = .ok (.ifCond .lt 12, 3) := by decide +kernel
theorem dX3_packet_13 : decode cX3_packet 13 = .ok (.iload_n 3, 1) := by decide +kernel
theorem dX3_packet_14 : decode cX3_packet 14 = .ok (.ifCond .lt 8, 3) := by decide +kernel
theorem dX3_packet_17 : decode cX3_packet 17 = .ok (.iload_n 3, 1) := by decide +kernel
theorem dX3_packet_18 : decode cX3_packet 18 = .ok (.iconst 2, 1) := by decide +kernel
theorem dX3_packet_19 : decode cX3_packet 19 = .ok (.if_icmp .le 6, 3) := by decide +kernel
theorem dX3_packet_22 : decode cX3_packet 22 = .ok (.bipush (-2), 2) := by decide +kernel
theorem dX3_packet_24 : decode cX3_packet 24 = .ok (.ireturn, 1) := by decide +kernel
theorem dX3_packet_25 : decode cX3_packet 25 = .ok (.aload_n 0, 1) := by decide +kernel
theorem dX3_packet_26 : decode cX3_packet 26 = .ok (.getfield 10, 3) := by decide +kernel
theorem dX3_packet_29 : decode cX3_packet 29 = .ok (.getfield 136, 3) := by decide +kernel
theorem dX3_packet_32 : decode cX3_packet 32 = .ok (.iload_n 1, 1) := by decide +kernel
theorem dX3_packet_33 : decode cX3_packet 33 = .ok (.aaload, 1) := by decide +kernel
theorem dX3_packet_34 : decode cX3_packet 34 = .ok (.iload_n 2, 1) := by decide +kernel
theorem dX3_packet_35 : decode cX3_packet 35 = .ok (.iload_n 3, 1) := by decide +kernel
theorem dX3_packet_36 : decode cX3_packet 36 = .ok (.invokevirtual 143, 3) := by decide +kernel
theorem dX3_packet_39 : decode cX3_packet 39 = .ok (.ireturn, 1) := by decide +kernel
theorem dX3_next_0 : decode cX3_next 0 = .ok (.iload_n 1, 1) := by decide +kernel
theorem dX3_next_1 : decode cX3_next 1 = .ok (.invokestatic 41, 3) := by decide +kernel
theorem dX3_next_4 : decode cX3_next 4 = .ok (.ifCond .ne 5, 3) := by decide +kernel
theorem dX3_next_7 : decode cX3_next 7 = .ok (.iconst (-1), 1) := by decide +kernel
theorem dX3_next_8 : decode cX3_next 8 = .ok (.ireturn, 1) := by decide +kernel
theorem dX3_next_9 : decode cX3_next 9 = .ok (.aload_n 0, 1) := by decide +kernel
theorem dX3_next_10 : decode cX3_next 10 = .ok (.getfield 16, 3) := by decide +kernel
theorem dX3_next_13 : decode cX3_next 13 = .ok (.aload_n 0, 1) := by decide +kernel
theorem dX3_next_14 : decode cX3_next 14 = .ok (.getfield 10, 3) := by decide +kernel
theorem dX3_next_17 : decode cX3_next 17 = .ok (.invokevirtual 89, 3) := by decide +kernel
theorem dX3_next_20 : decode cX3_next 20 = .ok (.aload_n 0, 1) := by decide +kernel
theorem dX3_next_21 : decode cX3_next 21 = .ok (.getfield 16, 3) := by decide +kernel
theorem dX3_next_24 : decode cX3_next 24 = .ok (.invokevirtual 146, 3) := by decide +kernel
theorem dX3_next_27 : decode cX3_next 27 = .ok (.bipush (-5), 2) := by decide +kernel
theorem dX3_next_29 : decode cX3_next 29 = .ok (.istore_n 2, 1) := by decide +kernel
theorem dX3_next_30 : decode cX3_next 30 = .ok (.iconst 0, 1) := by decide +kernel
theorem dX3_next_31 : decode cX3_next 31 = .ok (.istore_n 3, 1) := by decide +kernel
theorem dX3_next_32 : decode cX3_next 32 = .ok (.iload_n 3, 1) := by decide +kernel
theorem dX3_next_33 : decode cX3_next 33 = .ok (.iload_n 1, 1) := by decide +kernel
theorem dX3_next_34 : decode cX3_next 34 = .ok (.if_icmp .gt 18, 3) := by decide +kernel
theorem dX3_next_37 : decode cX3_next 37 = .ok (.aload_n 0, 1) := by decide +kernel
theorem dX3_next_38 : decode cX3_next 38 = .ok (.getfield 16, 3) := by decide +kernel
theorem dX3_next_41 : decode cX3_next 41 = .ok (.iload_n 3, 1) := by decide +kernel
theorem dX3_next_42 : decode cX3_next 42 = .ok (.invokevirtual 149, 3) := by decide +kernel
theorem dX3_next_45 : decode cX3_next 45 = .ok (.istore_n 2, 1) := by decide +kernel
theorem dX3_next_46 : decode cX3_next 46 = .ok (.iinc 3 1, 3) := by decide +kernel
theorem dX3_next_49 : decode cX3_next 49 = .ok (.goto (-17), 3) := by decide +kernel
theorem dX3_next_52 : decode cX3_next 52 = .ok (.iload_n 2, 1) := by decide +kernel
theorem dX3_next_53 : decode cX3_next 53 = .ok (.ireturn, 1) := by decide +kernel
theorem dX3_leavesIn_0 : decode cX3_leavesIn 0 = .ok (.iload_n 1, 1) := by decide +kernel
theorem dX3_leavesIn_1 : decode cX3_leavesIn 1 = .ok (.invokestatic 41, 3) := by decide +kernel
theorem dX3_leavesIn_4 : decode cX3_leavesIn 4 = .ok (.ifCond .ne 5, 3) := by decide +kernel
theorem dX3_leavesIn_7 : decode cX3_leavesIn 7 = .ok (.iconst (-1), 1) := by decide +kernel
theorem dX3_leavesIn_8 : decode cX3_leavesIn 8 = .ok (.ireturn, 1) := by decide +kernel
theorem dX3_leavesIn_9 : decode cX3_leavesIn 9 = .ok (.iload_n 2, 1) := by decide +kernel
theorem dX3_leavesIn_10 : decode cX3_leavesIn 10 = .ok (.ifCond .lt 19, 3) := by decide +kernel
theorem dX3_leavesIn_13 : decode cX3_leavesIn 13 = .ok (.iload_n 2, 1) := by decide +kernel
theorem dX3_leavesIn_14 : decode cX3_leavesIn 14 = .ok (.aload_n 0, 1) := by decide +kernel
theorem dX3_leavesIn_15 : decode cX3_leavesIn 15 = .ok (.getfield 10, 3) := by decide +kernel
theorem dX3_leavesIn_18 : decode cX3_leavesIn 18 = .ok (.getfield 136, 3) := by decide +kernel
theorem dX3_leavesIn_21 : decode cX3_leavesIn 21 = .ok (.iload_n 1, 1) := by decide +kernel
theorem dX3_leavesIn_22 : decode cX3_leavesIn 22 = .ok (.aaload, 1) := by decide +kernel
theorem dX3_leavesIn_23 : decode cX3_leavesIn 23 = .ok (.getfield 152, 3) := by decide +kernel
theorem dX3_leavesIn_26 : decode cX3_leavesIn 26 = .ok (.if_icmp .lt 6, 3) := by decide +kernel
theorem dX3_leavesIn_29 : decode cX3_leavesIn 29 = .ok (.bipush (-2), 2) := by decide +kernel
theorem dX3_leavesIn_31 : decode cX3_leavesIn 31 = .ok (.ireturn, 1) := by decide +kernel
theorem dX3_leavesIn_32 : decode cX3_leavesIn 32 = .ok (.aload_n 0, 1) := by decide +kernel
theorem dX3_leavesIn_33 : decode cX3_leavesIn 33 = .ok (.getfield 10, 3) := by decide +kernel
theorem dX3_leavesIn_36 : decode cX3_leavesIn 36 = .ok (.getfield 136, 3) := by decide +kernel
theorem dX3_leavesIn_39 : decode cX3_leavesIn 39 = .ok (.iload_n 1, 1) := by decide +kernel
theorem dX3_leavesIn_40 : decode cX3_leavesIn 40 = .ok (.aaload, 1) := by decide +kernel
theorem dX3_leavesIn_41 : decode cX3_leavesIn 41 = .ok (.getfield 155, 3) := by decide +kernel
theorem dX3_leavesIn_44 : decode cX3_leavesIn 44 = .ok (.iload_n 2, 1) := by decide +kernel
theorem dX3_leavesIn_45 : decode cX3_leavesIn 45 = .ok (.iaload, 1) := by decide +kernel
theorem dX3_leavesIn_46 : decode cX3_leavesIn 46 = .ok (.istore_n 3, 1) := by decide +kernel
theorem dX3_leavesIn_47 : decode cX3_leavesIn 47 = .ok (.aload_n 0, 1) := by decide +kernel
theorem dX3_leavesIn_48 : decode cX3_leavesIn 48 = .ok (.getfield 16, 3) := by decide +kernel
theorem dX3_leavesIn_51 : decode cX3_leavesIn 51 = .ok (.aload_n 0, 1) := by decide +kernel
theorem dX3_leavesIn_52 : decode cX3_leavesIn 52 = .ok (.getfield 10, 3) := by decide +kernel
theorem dX3_leavesIn_55 : decode cX3_leavesIn 55 = .ok (.invokevirtual 89, 3) := by decide +kernel
theorem dX3_leavesIn_58 : decode cX3_leavesIn 58 = .ok (.iconst 1, 1) := by decide +kernel
theorem dX3_leavesIn_59 : decode cX3_leavesIn 59 = .ok (.istore 4, 2) := by decide +kernel
theorem dX3_leavesIn_61 : decode cX3_leavesIn 61 = .ok (.iload 4, 2) := by decide +kernel
theorem dX3_leavesIn_63 : decode cX3_leavesIn 63 = .ok (.sipush 200, 3) := by decide +kernel
theorem dX3_leavesIn_66 : decode cX3_leavesIn 66 = .ok (.if_icmp .gt 36, 3) := by decide +kernel
theorem dX3_leavesIn_69 : decode cX3_leavesIn 69 = .ok (.aload_n 0, 1) := by decide +kernel
theorem dX3_leavesIn_70 : decode cX3_leavesIn 70 = .ok (.getfield 16, 3) := by decide +kernel
theorem dX3_leavesIn_73 : decode cX3_leavesIn 73 = .ok (.invokevirtual 158, 3) := by decide +kernel
theorem dX3_leavesIn_76 : decode cX3_leavesIn 76 = .ok (.pop, 1) := by decide +kernel
theorem dX3_leavesIn_77 : decode cX3_leavesIn 77 = .ok (.aload_n 0, 1) := by decide +kernel
theorem dX3_leavesIn_78 : decode cX3_leavesIn 78 = .ok (.getfield 16, 3) := by decide +kernel
theorem dX3_leavesIn_81 : decode cX3_leavesIn 81 = .ok (.getfield 136, 3) := by decide +kernel
theorem dX3_leavesIn_84 : decode cX3_leavesIn 84 = .ok (.iload_n 1, 1) := by decide +kernel
theorem dX3_leavesIn_85 : decode cX3_leavesIn 85 = .ok (.aaload, 1) := by decide +kernel
theorem dX3_leavesIn_86 : decode cX3_leavesIn 86 = .ok (.iload_n 3, 1) := by decide +kernel
theorem dX3_leavesIn_87 : decode cX3_leavesIn 87 = .ok (.invokevirtual 161, 3) := by decide +kernel
theorem dX3_leavesIn_90 : decode cX3_leavesIn 90 = .ok (.ifCond .ne 6, 3) := by decide +kernel
theorem dX3_leavesIn_93 : decode cX3_leavesIn 93 = .ok (.iload 4, 2) := by decide +kernel
theorem dX3_leavesIn_95 : decode cX3_leavesIn 95 = .ok (.ireturn, 1) := by decide +kernel
theorem dX3_leavesIn_96 : decode cX3_leavesIn 96 = .ok (.iinc 4 1, 3) := by decide +kernel
theorem dX3_leavesIn_99 : decode cX3_leavesIn 99 = .ok (.goto (-38), 3) := by decide +kernel
theorem dX3_leavesIn_102 : decode cX3_leavesIn 102 = .ok (.bipush (-5), 2) := by decide +kernel
theorem dX3_leavesIn_104 : decode cX3_leavesIn 104 = .ok (.ireturn, 1) := by decide +kernel
theorem dX3_wouldSend_0 : decode cX3_wouldSend 0 = .ok (.iload_n 1, 1) := by decide +kernel
theorem dX3_wouldSend_1 : decode cX3_wouldSend 1 = .ok (.invokestatic 96, 3) := by decide +kernel
theorem dX3_wouldSend_4 : decode cX3_wouldSend 4 = .ok (.ifCond .eq 15, 3) := by decide +kernel
theorem dX3_wouldSend_7 : decode cX3_wouldSend 7 = .ok (.iload_n 2, 1) := by decide +kernel
theorem dX3_wouldSend_8 : decode cX3_wouldSend 8 = .ok (.ifCond .lt 11, 3) := by decide +kernel
theorem dX3_wouldSend_11 : decode cX3_wouldSend 11 = .ok (.iload_n 2, 1) := by decide +kernel
theorem dX3_wouldSend_12 : decode cX3_wouldSend 12 = .ok (.iconst 0, 1) := by decide +kernel
theorem dX3_wouldSend_13 : decode cX3_wouldSend 13 = .ok (.invokestatic 68, 3) := by decide +kernel
theorem dX3_wouldSend_16 : decode cX3_wouldSend 16 = .ok (.if_icmp .le 6, 3) := by decide +kernel
theorem dX3_wouldSend_19 : decode cX3_wouldSend 19 = .ok (.bipush (-2), 2) := by decide +kernel
theorem dX3_wouldSend_21 : decode cX3_wouldSend 21 = .ok (.ireturn, 1) := by decide +kernel
theorem dX3_wouldSend_22 : decode cX3_wouldSend 22 = .ok (.aload_n 0, 1) := by decide +kernel
theorem dX3_wouldSend_23 : decode cX3_wouldSend 23 = .ok (.getfield 16, 3) := by decide +kernel
theorem dX3_wouldSend_26 : decode cX3_wouldSend 26 = .ok (.aload_n 0, 1) := by decide +kernel
theorem dX3_wouldSend_27 : decode cX3_wouldSend 27 = .ok (.getfield 10, 3) := by decide +kernel
theorem dX3_wouldSend_30 : decode cX3_wouldSend 30 = .ok (.invokevirtual 89, 3) := by decide +kernel
theorem dX3_wouldSend_33 : decode cX3_wouldSend 33 = .ok (.aload_n 0, 1) := by decide +kernel
theorem dX3_wouldSend_34 : decode cX3_wouldSend 34 = .ok (.getfield 16, 3) := by decide +kernel
theorem dX3_wouldSend_37 : decode cX3_wouldSend 37 = .ok (.iload_n 2, 1) := by decide +kernel
theorem dX3_wouldSend_38 : decode cX3_wouldSend 38 = .ok (.putfield 71, 3) := by decide +kernel
theorem dX3_wouldSend_41 : decode cX3_wouldSend 41 = .ok (.aload_n 0, 1) := by decide +kernel
theorem dX3_wouldSend_42 : decode cX3_wouldSend 42 = .ok (.getfield 16, 3) := by decide +kernel
theorem dX3_wouldSend_45 : decode cX3_wouldSend 45 = .ok (.iload_n 1, 1) := by decide +kernel
theorem dX3_wouldSend_46 : decode cX3_wouldSend 46 = .ok (.invokevirtual 102, 3) := by decide +kernel
theorem dX3_wouldSend_49 : decode cX3_wouldSend 49 = .ok (.ireturn, 1) := by decide +kernel
theorem dX3_count_0 : decode cX3_count 0 = .ok (.iload_n 1, 1) := by decide +kernel
theorem dX3_count_1 : decode cX3_count 1 = .ok (.bipush 11, 2) := by decide +kernel
theorem dX3_count_3 : decode cX3_count 3 = .ok (.if_icmp .ne 8, 3) := by decide +kernel
theorem dX3_count_6 : decode cX3_count 6 = .ok (.aload_n 0, 1) := by decide +kernel
theorem dX3_count_7 : decode cX3_count 7 = .ok (.getfield 30, 3) := by decide +kernel
theorem dX3_count_10 : decode cX3_count 10 = .ok (.ireturn, 1) := by decide +kernel
theorem dX3_count_11 : decode cX3_count 11 = .ok (.iload_n 1, 1) := by decide +kernel
theorem dX3_count_12 : decode cX3_count 12 = .ok (.bipush 12, 2) := by decide +kernel
theorem dX3_count_14 : decode cX3_count 14 = .ok (.if_icmp .ne 8, 3) := by decide +kernel
theorem dX3_count_17 : decode cX3_count 17 = .ok (.aload_n 0, 1) := by decide +kernel
theorem dX3_count_18 : decode cX3_count 18 = .ok (.getfield 38, 3) := by decide +kernel
theorem dX3_count_21 : decode cX3_count 21 = .ok (.ireturn, 1) := by decide +kernel
theorem dX3_count_22 : decode cX3_count 22 = .ok (.aload_n 0, 1) := by decide +kernel
theorem dX3_count_23 : decode cX3_count 23 = .ok (.getfield 10, 3) := by decide +kernel
theorem dX3_count_26 : decode cX3_count 26 = .ok (.iload_n 1, 1) := by decide +kernel
theorem dX3_count_27 : decode cX3_count 27 = .ok (.invokevirtual 164, 3) := by decide +kernel
theorem dX3_count_30 : decode cX3_count 30 = .ok (.ireturn, 1) := by decide +kernel
theorem dX3_isPort_0 : decode cX3_isPort 0 = .ok (.iload_n 0, 1) := by decide +kernel
theorem dX3_isPort_1 : decode cX3_isPort 1 = .ok (.ifCond .lt 12, 3) := by decide +kernel
theorem dX3_isPort_4 : decode cX3_isPort 4 = .ok (.iload_n 0, 1) := by decide +kernel
theorem dX3_isPort_5 : decode cX3_isPort 5 = .ok (.iconst 4, 1) := by decide +kernel
theorem dX3_isPort_6 : decode cX3_isPort 6 = .ok (.if_icmp .ge 7, 3) := by decide +kernel
theorem dX3_isPort_9 : decode cX3_isPort 9 = .ok (.iconst 1, 1) := by decide +kernel
theorem dX3_isPort_10 : decode cX3_isPort 10 = .ok (.goto 4, 3) := by decide +kernel
theorem dX3_isPort_13 : decode cX3_isPort 13 = .ok (.iconst 0, 1) := by decide +kernel
theorem dX3_isPort_14 : decode cX3_isPort 14 = .ok (.ireturn, 1) := by decide +kernel
theorem dX3_isTickCount_0 : decode cX3_isTickCount 0 = .ok (.iload_n 0, 1) := by decide +kernel
theorem dX3_isTickCount_1 : decode cX3_isTickCount 1 = .ok (.iconst 1, 1) := by decide +kernel
theorem dX3_isTickCount_2 : decode cX3_isTickCount 2 = .ok (.if_icmp .lt 13, 3) := by decide +kernel
theorem dX3_isTickCount_5 : decode cX3_isTickCount 5 = .ok (.iload_n 0, 1) := by decide +kernel
theorem dX3_isTickCount_6 : decode cX3_isTickCount 6 = .ok (.bipush 50, 2) := by decide +kernel
theorem dX3_isTickCount_8 : decode cX3_isTickCount 8 = .ok (.if_icmp .gt 7, 3) := by decide +kernel
theorem dX3_isTickCount_11 : decode cX3_isTickCount 11 = .ok (.iconst 1, 1) := by decide +kernel
theorem dX3_isTickCount_12 : decode cX3_isTickCount 12 = .ok (.goto 4, 3) := by decide +kernel
theorem dX3_isTickCount_15 : decode cX3_isTickCount 15 = .ok (.iconst 0, 1) := by decide +kernel
theorem dX3_isTickCount_16 : decode cX3_isTickCount 16 = .ok (.ireturn, 1) := by decide +kernel
theorem dX3_mostOfLane_0 : decode cX3_mostOfLane 0 = .ok (.iload_n 0, 1) := by decide +kernel
theorem dX3_mostOfLane_1 : decode cX3_mostOfLane 1 = .ok (.tableswitch 36 0 2 #[27, 30, 33], 27) := by decide +kernel
theorem dX3_mostOfLane_28 : decode cX3_mostOfLane 28 = .ok (.bipush 8, 2) := by decide +kernel
theorem dX3_mostOfLane_30 : decode cX3_mostOfLane 30 = .ok (.ireturn, 1) := by decide +kernel
theorem dX3_mostOfLane_31 : decode cX3_mostOfLane 31 = .ok (.bipush 9, 2) := by decide +kernel
theorem dX3_mostOfLane_33 : decode cX3_mostOfLane 33 = .ok (.ireturn, 1) := by decide +kernel
theorem dX3_mostOfLane_34 : decode cX3_mostOfLane 34 = .ok (.bipush 6, 2) := by decide +kernel
theorem dX3_mostOfLane_36 : decode cX3_mostOfLane 36 = .ok (.ireturn, 1) := by decide +kernel
theorem dX3_mostOfLane_37 : decode cX3_mostOfLane 37 = .ok (.iconst (-1), 1) := by decide +kernel
theorem dX3_mostOfLane_38 : decode cX3_mostOfLane 38 = .ok (.ireturn, 1) := by decide +kernel
theorem dX3_mostOfBox_0 : decode cX3_mostOfBox 0 = .ok (.iload_n 0, 1) := by decide +kernel
theorem dX3_mostOfBox_1 : decode cX3_mostOfBox 1 = .ok (.lookupswitch 32 #[(0, 27), (1, 29)], 27) := by decide +kernel
theorem dX3_mostOfBox_28 : decode cX3_mostOfBox 28 = .ok (.iconst 1, 1) := by decide +kernel
theorem dX3_mostOfBox_29 : decode cX3_mostOfBox 29 = .ok (.ireturn, 1) := by decide +kernel
theorem dX3_mostOfBox_30 : decode cX3_mostOfBox 30 = .ok (.bipush 60, 2) := by decide +kernel
theorem dX3_mostOfBox_32 : decode cX3_mostOfBox 32 = .ok (.ireturn, 1) := by decide +kernel
theorem dX3_mostOfBox_33 : decode cX3_mostOfBox 33 = .ok (.iconst (-1), 1) := by decide +kernel
theorem dX3_mostOfBox_34 : decode cX3_mostOfBox 34 = .ok (.ireturn, 1) := by decide +kernel
theorem dX3_remember_0 : decode cX3_remember 0 = .ok (.aload_n 0, 1) := by decide +kernel
theorem dX3_remember_1 : decode cX3_remember 1 = .ok (.getfield 30, 3) := by decide +kernel
theorem dX3_remember_4 : decode cX3_remember 4 = .ok (.iconst 4, 1) := by decide +kernel
theorem dX3_remember_5 : decode cX3_remember 5 = .ok (.if_icmp .lt 7, 3) := by decide +kernel
theorem dX3_remember_8 : decode cX3_remember 8 = .ok (.aload_n 0, 1) := by decide +kernel
theorem dX3_remember_9 : decode cX3_remember 9 = .ok (.invokevirtual 165, 3) := by decide +kernel
theorem dX3_remember_12 : decode cX3_remember 12 = .ok (.aload_n 0, 1) := by decide +kernel
theorem dX3_remember_13 : decode cX3_remember 13 = .ok (.getfield 26, 3) := by decide +kernel
theorem dX3_remember_16 : decode cX3_remember 16 = .ok (.aload_n 0, 1) := by decide +kernel
theorem dX3_remember_17 : decode cX3_remember 17 = .ok (.getfield 30, 3) := by decide +kernel
theorem dX3_remember_20 : decode cX3_remember 20 = .ok (.aaload, 1) := by decide +kernel
theorem dX3_remember_21 : decode cX3_remember 21 = .ok (.aload_n 0, 1) := by decide +kernel
theorem dX3_remember_22 : decode cX3_remember 22 = .ok (.getfield 10, 3) := by decide +kernel
theorem dX3_remember_25 : decode cX3_remember 25 = .ok (.invokevirtual 89, 3) := by decide +kernel
theorem dX3_remember_28 : decode cX3_remember 28 = .ok (.aload_n 0, 1) := by decide +kernel
theorem dX3_remember_29 : decode cX3_remember 29 = .ok (.dup, 1) := by decide +kernel
theorem dX3_remember_30 : decode cX3_remember 30 = .ok (.getfield 30, 3) := by decide +kernel
theorem dX3_remember_33 : decode cX3_remember 33 = .ok (.iconst 1, 1) := by decide +kernel
theorem dX3_remember_34 : decode cX3_remember 34 = .ok (.iadd, 1) := by decide +kernel
theorem dX3_remember_35 : decode cX3_remember 35 = .ok (.putfield 30, 3) := by decide +kernel
theorem dX3_remember_38 : decode cX3_remember 38 = .ok (.return_, 1) := by decide +kernel
theorem dX3_dropOldest_0 : decode cX3_dropOldest 0 = .ok (.aload_n 0, 1) := by decide +kernel
theorem dX3_dropOldest_1 : decode cX3_dropOldest 1 = .ok (.getfield 26, 3) := by decide +kernel
theorem dX3_dropOldest_4 : decode cX3_dropOldest 4 = .ok (.iconst 0, 1) := by decide +kernel
theorem dX3_dropOldest_5 : decode cX3_dropOldest 5 = .ok (.aaload, 1) := by decide +kernel
theorem dX3_dropOldest_6 : decode cX3_dropOldest 6 = .ok (.astore_n 1, 1) := by decide +kernel
theorem dX3_dropOldest_7 : decode cX3_dropOldest 7 = .ok (.iconst 1, 1) := by decide +kernel
theorem dX3_dropOldest_8 : decode cX3_dropOldest 8 = .ok (.istore_n 2, 1) := by decide +kernel
theorem dX3_dropOldest_9 : decode cX3_dropOldest 9 = .ok (.iload_n 2, 1) := by decide +kernel
theorem dX3_dropOldest_10 : decode cX3_dropOldest 10 = .ok (.iconst 4, 1) := by decide +kernel
theorem dX3_dropOldest_11 : decode cX3_dropOldest 11 = .ok (.if_icmp .ge 23, 3) := by decide +kernel
theorem dX3_dropOldest_14 : decode cX3_dropOldest 14 = .ok (.aload_n 0, 1) := by decide +kernel
theorem dX3_dropOldest_15 : decode cX3_dropOldest 15 = .ok (.getfield 26, 3) := by decide +kernel
theorem dX3_dropOldest_18 : decode cX3_dropOldest 18 = .ok (.iload_n 2, 1) := by decide +kernel
theorem dX3_dropOldest_19 : decode cX3_dropOldest 19 = .ok (.iconst 1, 1) := by decide +kernel
theorem dX3_dropOldest_20 : decode cX3_dropOldest 20 = .ok (.isub, 1) := by decide +kernel
theorem dX3_dropOldest_21 : decode cX3_dropOldest 21 = .ok (.aload_n 0, 1) := by decide +kernel
theorem dX3_dropOldest_22 : decode cX3_dropOldest 22 = .ok (.getfield 26, 3) := by decide +kernel
theorem dX3_dropOldest_25 : decode cX3_dropOldest 25 = .ok (.iload_n 2, 1) := by decide +kernel
theorem dX3_dropOldest_26 : decode cX3_dropOldest 26 = .ok (.aaload, 1) := by decide +kernel
theorem dX3_dropOldest_27 : decode cX3_dropOldest 27 = .ok (.aastore, 1) := by decide +kernel
theorem dX3_dropOldest_28 : decode cX3_dropOldest 28 = .ok (.iinc 2 1, 3) := by decide +kernel
theorem dX3_dropOldest_31 : decode cX3_dropOldest 31 = .ok (.goto (-22), 3) := by decide +kernel
theorem dX3_dropOldest_34 : decode cX3_dropOldest 34 = .ok (.aload_n 0, 1) := by decide +kernel
theorem dX3_dropOldest_35 : decode cX3_dropOldest 35 = .ok (.getfield 26, 3) := by decide +kernel
theorem dX3_dropOldest_38 : decode cX3_dropOldest 38 = .ok (.iconst 3, 1) := by decide +kernel
theorem dX3_dropOldest_39 : decode cX3_dropOldest 39 = .ok (.aload_n 1, 1) := by decide +kernel
theorem dX3_dropOldest_40 : decode cX3_dropOldest 40 = .ok (.aastore, 1) := by decide +kernel
theorem dX3_dropOldest_41 : decode cX3_dropOldest 41 = .ok (.aload_n 0, 1) := by decide +kernel
theorem dX3_dropOldest_42 : decode cX3_dropOldest 42 = .ok (.iconst 3, 1) := by decide +kernel
theorem dX3_dropOldest_43 : decode cX3_dropOldest 43 = .ok (.putfield 30, 3) := by decide +kernel
theorem dX3_dropOldest_46 : decode cX3_dropOldest 46 = .ok (.return_, 1) := by decide +kernel
theorem dX3_faultOfText_0 : decode cX3_faultOfText 0 = .ok (.iconst 0, 1) := by decide +kernel
theorem dX3_faultOfText_1 : decode cX3_faultOfText 1 = .ok (.istore_n 1, 1) := by decide +kernel
theorem dX3_faultOfText_2 : decode cX3_faultOfText 2 = .ok (.iconst 0, 1) := by decide +kernel
theorem dX3_faultOfText_3 : decode cX3_faultOfText 3 = .ok (.istore_n 2, 1) := by decide +kernel
theorem dX3_faultOfText_4 : decode cX3_faultOfText 4 = .ok (.iload_n 2, 1) := by decide +kernel
theorem dX3_faultOfText_5 : decode cX3_faultOfText 5 = .ok (.aload_n 0, 1) := by decide +kernel
theorem dX3_faultOfText_6 : decode cX3_faultOfText 6 = .ok (.getfield 38, 3) := by decide +kernel
theorem dX3_faultOfText_9 : decode cX3_faultOfText 9 = .ok (.if_icmp .ge 27, 3) := by decide +kernel
theorem dX3_faultOfText_12 : decode cX3_faultOfText 12 = .ok (.iload_n 1, 1) := by decide +kernel
theorem dX3_faultOfText_13 : decode cX3_faultOfText 13 = .ok (.aload_n 0, 1) := by decide +kernel
theorem dX3_faultOfText_14 : decode cX3_faultOfText 14 = .ok (.getfield 34, 3) := by decide +kernel
theorem dX3_faultOfText_17 : decode cX3_faultOfText 17 = .ok (.iload_n 2, 1) := by decide +kernel
theorem dX3_faultOfText_18 : decode cX3_faultOfText 18 = .ok (.caload, 1) := by decide +kernel
theorem dX3_faultOfText_19 : decode cX3_faultOfText 19 = .ok (.invokestatic 168, 3) := by decide +kernel
theorem dX3_faultOfText_22 : decode cX3_faultOfText 22 = .ok (.istore_n 1, 1) := by decide +kernel
theorem dX3_faultOfText_23 : decode cX3_faultOfText 23 = .ok (.iload_n 1, 1) := by decide +kernel
theorem dX3_faultOfText_24 : decode cX3_faultOfText 24 = .ok (.iconst (-1), 1) := by decide +kernel
theorem dX3_faultOfText_25 : decode cX3_faultOfText 25 = .ok (.if_icmp .ne 5, 3) := by decide +kernel
theorem dX3_faultOfText_28 : decode cX3_faultOfText 28 = .ok (.iload_n 2, 1) := by decide +kernel
theorem dX3_faultOfText_29 : decode cX3_faultOfText 29 = .ok (.ireturn, 1) := by decide +kernel
theorem dX3_faultOfText_30 : decode cX3_faultOfText 30 = .ok (.iinc 2 1, 3) := by decide +kernel
theorem dX3_faultOfText_33 : decode cX3_faultOfText 33 = .ok (.goto (-29), 3) := by decide +kernel
theorem dX3_faultOfText_36 : decode cX3_faultOfText 36 = .ok (.iload_n 1, 1) := by decide +kernel
theorem dX3_faultOfText_37 : decode cX3_faultOfText 37 = .ok (.iconst 3, 1) := by decide +kernel
theorem dX3_faultOfText_38 : decode cX3_faultOfText 38 = .ok (.if_icmp .eq 8, 3) := by decide +kernel
theorem dX3_faultOfText_41 : decode cX3_faultOfText 41 = .ok (.iload_n 1, 1) := by decide +kernel
theorem dX3_faultOfText_42 : decode cX3_faultOfText 42 = .ok (.iconst 5, 1) := by decide +kernel
theorem dX3_faultOfText_43 : decode cX3_faultOfText 43 = .ok (.if_icmp .ne 7, 3) := by decide +kernel
theorem dX3_faultOfText_46 : decode cX3_faultOfText 46 = .ok (.iconst 1, 1) := by decide +kernel
theorem dX3_faultOfText_47 : decode cX3_faultOfText 47 = .ok (.goto 4, 3) := by decide +kernel
theorem dX3_faultOfText_50 : decode cX3_faultOfText 50 = .ok (.iconst 0, 1) := by decide +kernel
theorem dX3_faultOfText_51 : decode cX3_faultOfText 51 = .ok (.istore_n 2, 1) := by decide +kernel
theorem dX3_faultOfText_52 : decode cX3_faultOfText 52 = .ok (.iload_n 2, 1) := by decide +kernel
theorem dX3_faultOfText_53 : decode cX3_faultOfText 53 = .ok (.ifCond .eq 7, 3) := by decide +kernel
theorem dX3_faultOfText_56 : decode cX3_faultOfText 56 = .ok (.iconst (-1), 1) := by decide +kernel
theorem dX3_faultOfText_57 : decode cX3_faultOfText 57 = .ok (.goto 7, 3) := by decide +kernel
theorem dX3_faultOfText_60 : decode cX3_faultOfText 60 = .ok (.aload_n 0, 1) := by decide +kernel
theorem dX3_faultOfText_61 : decode cX3_faultOfText 61 = .ok (.getfield 38, 3) := by decide +kernel
theorem dX3_faultOfText_64 : decode cX3_faultOfText 64 = .ok (.ireturn, 1) := by decide +kernel
theorem dX3_dueBehind_0 : decode cX3_dueBehind 0 = .ok (.iload_n 0, 1) := by decide +kernel
theorem dX3_dueBehind_1 : decode cX3_dueBehind 1 = .ok (.tableswitch 117 0 4 #[35, 51, 63, 79, 99], 35) := by decide +kernel
theorem dX3_dueBehind_36 : decode cX3_dueBehind 36 = .ok (.iload_n 1, 1) := by decide +kernel
theorem dX3_dueBehind_37 : decode cX3_dueBehind 37 = .ok (.bipush 48, 2) := by decide +kernel
theorem dX3_dueBehind_39 : decode cX3_dueBehind 39 = .ok (.isub, 1) := by decide +kernel
theorem dX3_dueBehind_40 : decode cX3_dueBehind 40 = .ok (.invokestatic 41, 3) := by decide +kernel
theorem dX3_dueBehind_43 : decode cX3_dueBehind 43 = .ok (.ifCond .eq 7, 3) := by decide +kernel
theorem dX3_dueBehind_46 : decode cX3_dueBehind 46 = .ok (.iconst 1, 1) := by decide +kernel
theorem dX3_dueBehind_47 : decode cX3_dueBehind 47 = .ok (.goto 4, 3) := by decide +kernel
theorem dX3_dueBehind_50 : decode cX3_dueBehind 50 = .ok (.iconst (-1), 1) := by decide +kernel
theorem dX3_dueBehind_51 : decode cX3_dueBehind 51 = .ok (.ireturn, 1) := by decide +kernel
theorem dX3_dueBehind_52 : decode cX3_dueBehind 52 = .ok (.iload_n 1, 1) := by decide +kernel
theorem dX3_dueBehind_53 : decode cX3_dueBehind 53 = .ok (.bipush 62, 2) := by decide +kernel
theorem dX3_dueBehind_55 : decode cX3_dueBehind 55 = .ok (.if_icmp .ne 7, 3) := by decide +kernel
theorem dX3_dueBehind_58 : decode cX3_dueBehind 58 = .ok (.iconst 2, 1) := by decide +kernel
theorem dX3_dueBehind_59 : decode cX3_dueBehind 59 = .ok (.goto 4, 3) := by decide +kernel
theorem dX3_dueBehind_62 : decode cX3_dueBehind 62 = .ok (.iconst (-1), 1) := by decide +kernel
theorem dX3_dueBehind_63 : decode cX3_dueBehind 63 = .ok (.ireturn, 1) := by decide +kernel
theorem dX3_dueBehind_64 : decode cX3_dueBehind 64 = .ok (.iload_n 1, 1) := by decide +kernel
theorem dX3_dueBehind_65 : decode cX3_dueBehind 65 = .ok (.bipush 48, 2) := by decide +kernel
theorem dX3_dueBehind_67 : decode cX3_dueBehind 67 = .ok (.isub, 1) := by decide +kernel
theorem dX3_dueBehind_68 : decode cX3_dueBehind 68 = .ok (.invokestatic 41, 3) := by decide +kernel
theorem dX3_dueBehind_71 : decode cX3_dueBehind 71 = .ok (.ifCond .eq 7, 3) := by decide +kernel
theorem dX3_dueBehind_74 : decode cX3_dueBehind 74 = .ok (.iconst 3, 1) := by decide +kernel
theorem dX3_dueBehind_75 : decode cX3_dueBehind 75 = .ok (.goto 4, 3) := by decide +kernel
theorem dX3_dueBehind_78 : decode cX3_dueBehind 78 = .ok (.iconst (-1), 1) := by decide +kernel
theorem dX3_dueBehind_79 : decode cX3_dueBehind 79 = .ok (.ireturn, 1) := by decide +kernel
theorem dX3_dueBehind_80 : decode cX3_dueBehind 80 = .ok (.iload_n 1, 1) := by decide +kernel
theorem dX3_dueBehind_81 : decode cX3_dueBehind 81 = .ok (.bipush 42, 2) := by decide +kernel
theorem dX3_dueBehind_83 : decode cX3_dueBehind 83 = .ok (.if_icmp .ne 5, 3) := by decide +kernel
theorem dX3_dueBehind_86 : decode cX3_dueBehind 86 = .ok (.iconst 4, 1) := by decide +kernel
theorem dX3_dueBehind_87 : decode cX3_dueBehind 87 = .ok (.ireturn, 1) := by decide +kernel
theorem dX3_dueBehind_88 : decode cX3_dueBehind 88 = .ok (.iload_n 1, 1) := by decide +kernel
theorem dX3_dueBehind_89 : decode cX3_dueBehind 89 = .ok (.bipush 44, 2) := by decide +kernel
theorem dX3_dueBehind_91 : decode cX3_dueBehind 91 = .ok (.if_icmp .ne 7, 3) := by decide +kernel
theorem dX3_dueBehind_94 : decode cX3_dueBehind 94 = .ok (.iconst 0, 1) := by decide +kernel
theorem dX3_dueBehind_95 : decode cX3_dueBehind 95 = .ok (.goto 4, 3) := by decide +kernel
theorem dX3_dueBehind_98 : decode cX3_dueBehind 98 = .ok (.iconst (-1), 1) := by decide +kernel
theorem dX3_dueBehind_99 : decode cX3_dueBehind 99 = .ok (.ireturn, 1) := by decide +kernel
theorem dX3_dueBehind_100 : decode cX3_dueBehind 100 = .ok (.iload_n 1, 1) := by decide +kernel
theorem dX3_dueBehind_101 : decode cX3_dueBehind 101 = .ok (.bipush 49, 2) := by decide +kernel
theorem dX3_dueBehind_103 : decode cX3_dueBehind 103 = .ok (.if_icmp .lt 13, 3) := by decide +kernel
theorem dX3_dueBehind_106 : decode cX3_dueBehind 106 = .ok (.iload_n 1, 1) := by decide +kernel
theorem dX3_dueBehind_107 : decode cX3_dueBehind 107 = .ok (.bipush 57, 2) := by decide +kernel
theorem dX3_dueBehind_109 : decode cX3_dueBehind 109 = .ok (.if_icmp .gt 7, 3) := by decide +kernel
theorem dX3_dueBehind_112 : decode cX3_dueBehind 112 = .ok (.iconst 5, 1) := by decide +kernel
theorem dX3_dueBehind_113 : decode cX3_dueBehind 113 = .ok (.goto 4, 3) := by decide +kernel
theorem dX3_dueBehind_116 : decode cX3_dueBehind 116 = .ok (.iconst (-1), 1) := by decide +kernel
theorem dX3_dueBehind_117 : decode cX3_dueBehind 117 = .ok (.ireturn, 1) := by decide +kernel
theorem dX3_dueBehind_118 : decode cX3_dueBehind 118 = .ok (.iload_n 1, 1) := by decide +kernel
theorem dX3_dueBehind_119 : decode cX3_dueBehind 119 = .ok (.bipush 44, 2) := by decide +kernel
theorem dX3_dueBehind_121 : decode cX3_dueBehind 121 = .ok (.if_icmp .ne 7, 3) := by decide +kernel
theorem dX3_dueBehind_124 : decode cX3_dueBehind 124 = .ok (.iconst 0, 1) := by decide +kernel
theorem dX3_dueBehind_125 : decode cX3_dueBehind 125 = .ok (.goto 4, 3) := by decide +kernel
theorem dX3_dueBehind_128 : decode cX3_dueBehind 128 = .ok (.iconst (-1), 1) := by decide +kernel
theorem dX3_dueBehind_129 : decode cX3_dueBehind 129 = .ok (.ireturn, 1) := by decide +kernel
theorem dX3_admitTextToTrial_0 : decode cX3_admitTextToTrial 0 = .ok (.iconst 0, 1) := by decide +kernel
theorem dX3_admitTextToTrial_1 : decode cX3_admitTextToTrial 1 = .ok (.istore_n 1, 1) := by decide +kernel
theorem dX3_admitTextToTrial_2 : decode cX3_admitTextToTrial 2 = .ok (.iconst 0, 1) := by decide +kernel
theorem dX3_admitTextToTrial_3 : decode cX3_admitTextToTrial 3 = .ok (.istore_n 2, 1) := by decide +kernel
theorem dX3_admitTextToTrial_4 : decode cX3_admitTextToTrial 4 = .ok (.iload_n 2, 1) := by decide +kernel
theorem dX3_admitTextToTrial_5 : decode cX3_admitTextToTrial 5 = .ok (.iconst 2, 1) := by decide +kernel
theorem dX3_admitTextToTrial_6 : decode cX3_admitTextToTrial 6 = .ok (.iadd, 1) := by decide +kernel
theorem dX3_admitTextToTrial_7 : decode cX3_admitTextToTrial 7 = .ok (.aload_n 0, 1) := by decide +kernel
theorem dX3_admitTextToTrial_8 : decode cX3_admitTextToTrial 8 = .ok (.getfield 38, 3) := by decide +kernel
theorem dX3_admitTextToTrial_11 : decode cX3_admitTextToTrial 11 = .ok (.if_icmp .ge 119, 3) := by decide +kernel
theorem dX3_admitTextToTrial_14 : decode cX3_admitTextToTrial 14 = .ok (.aload_n 0, 1) := by decide +kernel
theorem dX3_admitTextToTrial_15 : decode cX3_admitTextToTrial 15 = .ok (.getfield 34, 3) := by decide +kernel
theorem dX3_admitTextToTrial_18 : decode cX3_admitTextToTrial 18 = .ok (.iload_n 2, 1) := by decide +kernel
theorem dX3_admitTextToTrial_19 : decode cX3_admitTextToTrial 19 = .ok (.caload, 1) := by decide +kernel
theorem dX3_admitTextToTrial_20 : decode cX3_admitTextToTrial 20 = .ok (.bipush 48, 2) := by decide +kernel
theorem dX3_admitTextToTrial_22 : decode cX3_admitTextToTrial 22 = .ok (.isub, 1) := by decide +kernel
theorem dX3_admitTextToTrial_23 : decode cX3_admitTextToTrial 23 = .ok (.istore_n 3, 1) := by decide +kernel
theorem dX3_admitTextToTrial_24 : decode cX3_admitTextToTrial 24 = .ok (.aload_n 0, 1) := by decide +kernel
theorem dX3_admitTextToTrial_25 : decode cX3_admitTextToTrial 25 = .ok (.getfield 34, 3) := by decide +kernel
theorem dX3_admitTextToTrial_28 : decode cX3_admitTextToTrial 28 = .ok (.iload_n 2, 1) := by decide +kernel
theorem dX3_admitTextToTrial_29 : decode cX3_admitTextToTrial 29 = .ok (.iconst 2, 1) := by decide +kernel
theorem dX3_admitTextToTrial_30 : decode cX3_admitTextToTrial 30 = .ok (.iadd, 1) := by decide +kernel
theorem dX3_admitTextToTrial_31 : decode cX3_admitTextToTrial 31 = .ok (.caload, 1) := by decide +kernel
theorem dX3_admitTextToTrial_32 : decode cX3_admitTextToTrial 32 = .ok (.bipush 48, 2) := by decide +kernel
theorem dX3_admitTextToTrial_34 : decode cX3_admitTextToTrial 34 = .ok (.isub, 1) := by decide +kernel
theorem dX3_admitTextToTrial_35 : decode cX3_admitTextToTrial 35 = .ok (.istore 4, 2) := by decide +kernel
theorem dX3_admitTextToTrial_37 : decode cX3_admitTextToTrial 37 = .ok (.aload_n 0, 1) := by decide +kernel
theorem dX3_admitTextToTrial_38 : decode cX3_admitTextToTrial 38 = .ok (.iload_n 2, 1) := by decide +kernel
theorem dX3_admitTextToTrial_39 : decode cX3_admitTextToTrial 39 = .ok (.invokevirtual 172, 3) := by decide +kernel
theorem dX3_admitTextToTrial_42 : decode cX3_admitTextToTrial 42 = .ok (.ifCond .eq 17, 3) := by decide +kernel
theorem dX3_admitTextToTrial_45 : decode cX3_admitTextToTrial 45 = .ok (.aload_n 0, 1) := by decide +kernel
theorem dX3_admitTextToTrial_46 : decode cX3_admitTextToTrial 46 = .ok (.getfield 34, 3) := by decide +kernel
theorem dX3_admitTextToTrial_49 : decode cX3_admitTextToTrial 49 = .ok (.iload_n 2, 1) := by decide +kernel
theorem dX3_admitTextToTrial_50 : decode cX3_admitTextToTrial 50 = .ok (.iconst 4, 1) := by decide +kernel
theorem dX3_admitTextToTrial_51 : decode cX3_admitTextToTrial 51 = .ok (.iadd, 1) := by decide +kernel
theorem dX3_admitTextToTrial_52 : decode cX3_admitTextToTrial 52 = .ok (.caload, 1) := by decide +kernel
theorem dX3_admitTextToTrial_53 : decode cX3_admitTextToTrial 53 = .ok (.bipush 48, 2) := by decide +kernel
theorem dX3_admitTextToTrial_55 : decode cX3_admitTextToTrial 55 = .ok (.isub, 1) := by decide +kernel
theorem dX3_admitTextToTrial_56 : decode cX3_admitTextToTrial 56 = .ok (.goto 4, 3) := by decide +kernel
theorem dX3_admitTextToTrial_59 : decode cX3_admitTextToTrial 59 = .ok (.iconst 1, 1) := by decide +kernel
theorem dX3_admitTextToTrial_60 : decode cX3_admitTextToTrial 60 = .ok (.istore 5, 2) := by decide +kernel
theorem dX3_admitTextToTrial_62 : decode cX3_admitTextToTrial 62 = .ok (.aload_n 0, 1) := by decide +kernel
theorem dX3_admitTextToTrial_63 : decode cX3_admitTextToTrial 63 = .ok (.getfield 16, 3) := by decide +kernel
theorem dX3_admitTextToTrial_66 : decode cX3_admitTextToTrial 66 = .ok (.iload_n 3, 1) := by decide +kernel
theorem dX3_admitTextToTrial_67 : decode cX3_admitTextToTrial 67 = .ok (.iload 5, 2) := by decide +kernel
theorem dX3_admitTextToTrial_69 : decode cX3_admitTextToTrial 69 = .ok (.invokevirtual 77, 3) := by decide +kernel
theorem dX3_admitTextToTrial_72 : decode cX3_admitTextToTrial 72 = .ok (.ifCond .ne 6, 3) := by decide +kernel
theorem dX3_admitTextToTrial_75 : decode cX3_admitTextToTrial 75 = .ok (.bipush (-3), 2) := by decide +kernel
theorem dX3_admitTextToTrial_77 : decode cX3_admitTextToTrial 77 = .ok (.ireturn, 1) := by decide +kernel
theorem dX3_admitTextToTrial_78 : decode cX3_admitTextToTrial 78 = .ok (.iconst 0, 1) := by decide +kernel
theorem dX3_admitTextToTrial_79 : decode cX3_admitTextToTrial 79 = .ok (.istore 6, 2) := by decide +kernel
theorem dX3_admitTextToTrial_81 : decode cX3_admitTextToTrial 81 = .ok (.iload 6, 2) := by decide +kernel
theorem dX3_admitTextToTrial_83 : decode cX3_admitTextToTrial 83 = .ok (.iload 5, 2) := by decide +kernel
theorem dX3_admitTextToTrial_85 : decode cX3_admitTextToTrial 85 = .ok (.if_icmp .ge 20, 3) := by decide +kernel
theorem dX3_admitTextToTrial_88 : decode cX3_admitTextToTrial 88 = .ok (.aload_n 0, 1) := by decide +kernel
theorem dX3_admitTextToTrial_89 : decode cX3_admitTextToTrial 89 = .ok (.getfield 16, 3) := by decide +kernel
theorem dX3_admitTextToTrial_92 : decode cX3_admitTextToTrial 92 = .ok (.iload_n 3, 1) := by decide +kernel
theorem dX3_admitTextToTrial_93 : decode cX3_admitTextToTrial 93 = .ok (.iload 4, 2) := by decide +kernel
theorem dX3_admitTextToTrial_95 : decode cX3_admitTextToTrial 95 = .ok (.invokevirtual 81, 3) := by decide +kernel
theorem dX3_admitTextToTrial_98 : decode cX3_admitTextToTrial 98 = .ok (.pop, 1) := by decide +kernel
theorem dX3_admitTextToTrial_99 : decode cX3_admitTextToTrial 99 = .ok (.iinc 6 1, 3) := by decide +kernel
theorem dX3_admitTextToTrial_102 : decode cX3_admitTextToTrial 102 = .ok (.goto (-21), 3) := by decide +kernel
theorem dX3_admitTextToTrial_105 : decode cX3_admitTextToTrial 105 = .ok (.iload_n 1, 1) := by decide +kernel
theorem dX3_admitTextToTrial_106 : decode cX3_admitTextToTrial 106 = .ok (.iload 5, 2) := by decide +kernel
theorem dX3_admitTextToTrial_108 : decode cX3_admitTextToTrial 108 = .ok (.iadd, 1) := by decide +kernel
theorem dX3_admitTextToTrial_109 : decode cX3_admitTextToTrial 109 = .ok (.istore_n 1, 1) := by decide +kernel
theorem dX3_admitTextToTrial_110 : decode cX3_admitTextToTrial 110 = .ok (.iload_n 2, 1) := by decide +kernel
theorem dX3_admitTextToTrial_111 : decode cX3_admitTextToTrial 111 = .ok (.aload_n 0, 1) := by decide +kernel
theorem dX3_admitTextToTrial_112 : decode cX3_admitTextToTrial 112 = .ok (.iload_n 2, 1) := by decide +kernel
theorem dX3_admitTextToTrial_113 : decode cX3_admitTextToTrial 113 = .ok (.invokevirtual 172, 3) := by decide +kernel
theorem dX3_admitTextToTrial_116 : decode cX3_admitTextToTrial 116 = .ok (.ifCond .eq 8, 3) := by decide +kernel
theorem dX3_admitTextToTrial_119 : decode cX3_admitTextToTrial 119 = .ok (.bipush 6, 2) := by decide +kernel
theorem dX3_admitTextToTrial_121 : decode cX3_admitTextToTrial 121 = .ok (.goto 4, 3) := by decide +kernel
theorem dX3_admitTextToTrial_124 : decode cX3_admitTextToTrial 124 = .ok (.iconst 4, 1) := by decide +kernel
theorem dX3_admitTextToTrial_125 : decode cX3_admitTextToTrial 125 = .ok (.iadd, 1) := by decide +kernel
theorem dX3_admitTextToTrial_126 : decode cX3_admitTextToTrial 126 = .ok (.istore_n 2, 1) := by decide +kernel
theorem dX3_admitTextToTrial_127 : decode cX3_admitTextToTrial 127 = .ok (.goto (-123), 3) := by decide +kernel
theorem dX3_admitTextToTrial_130 : decode cX3_admitTextToTrial 130 = .ok (.iload_n 1, 1) := by decide +kernel
theorem dX3_admitTextToTrial_131 : decode cX3_admitTextToTrial 131 = .ok (.ireturn, 1) := by decide +kernel
theorem dX3_tellsTimes_0 : decode cX3_tellsTimes 0 = .ok (.iload_n 1, 1) := by decide +kernel
theorem dX3_tellsTimes_1 : decode cX3_tellsTimes 1 = .ok (.iconst 4, 1) := by decide +kernel
theorem dX3_tellsTimes_2 : decode cX3_tellsTimes 2 = .ok (.iadd, 1) := by decide +kernel
theorem dX3_tellsTimes_3 : decode cX3_tellsTimes 3 = .ok (.aload_n 0, 1) := by decide +kernel
theorem dX3_tellsTimes_4 : decode cX3_tellsTimes 4 = .ok (.getfield 38, 3) := by decide +kernel
theorem dX3_tellsTimes_7 : decode cX3_tellsTimes 7 = .ok (.if_icmp .ge 20, 3) := by decide +kernel
theorem dX3_tellsTimes_10 : decode cX3_tellsTimes 10 = .ok (.aload_n 0, 1) := by decide +kernel
theorem dX3_tellsTimes_11 : decode cX3_tellsTimes 11 = .ok (.getfield 34, 3) := by decide +kernel
theorem dX3_tellsTimes_14 : decode cX3_tellsTimes 14 = .ok (.iload_n 1, 1) := by decide +kernel
theorem dX3_tellsTimes_15 : decode cX3_tellsTimes 15 = .ok (.iconst 3, 1) := by decide +kernel
theorem dX3_tellsTimes_16 : decode cX3_tellsTimes 16 = .ok (.iadd, 1) := by decide +kernel
theorem dX3_tellsTimes_17 : decode cX3_tellsTimes 17 = .ok (.caload, 1) := by decide +kernel
theorem dX3_tellsTimes_18 : decode cX3_tellsTimes 18 = .ok (.bipush 42, 2) := by decide +kernel
theorem dX3_tellsTimes_20 : decode cX3_tellsTimes 20 = .ok (.if_icmp .ne 7, 3) := by decide +kernel
theorem dX3_tellsTimes_23 : decode cX3_tellsTimes 23 = .ok (.iconst 1, 1) := by decide +kernel
theorem dX3_tellsTimes_24 : decode cX3_tellsTimes 24 = .ok (.goto 4, 3) := by decide +kernel
theorem dX3_tellsTimes_27 : decode cX3_tellsTimes 27 = .ok (.iconst 0, 1) := by decide +kernel
theorem dX3_tellsTimes_28 : decode cX3_tellsTimes 28 = .ok (.ireturn, 1) := by decide +kernel
