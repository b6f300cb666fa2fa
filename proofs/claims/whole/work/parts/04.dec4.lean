theorem dX4_init_0 : decode cX4_init 0 = .ok (.aload_n 0, 1) := by decide +kernel
theorem dX4_init_1 : decode cX4_init 1 = .ok (.invokespecial 1, 3) := by decide +kernel
theorem dX4_init_4 : decode cX4_init 4 = .ok (.aload_n 0, 1) := by decide +kernel
theorem dX4_init_5 : decode cX4_init 5 = .ok (.sipush 232, 3) := by decide +kernel
theorem dX4_init_8 : decode cX4_init 8 = .ok (.newarray .int, 2) := by decide +kernel
theorem dX4_init_10 : decode cX4_init 10 = .ok (.putfield 7, 3) := by decide +kernel
theorem dX4_init_13 : decode cX4_init 13 = .ok (.aload_n 0, 1) := by decide +kernel
theorem dX4_init_14 : decode cX4_init 14 = .ok (.sipush 928, 3) := by decide +kernel
theorem dX4_init_17 : decode cX4_init 17 = .ok (.newarray .int, 2) := by decide +kernel
theorem dX4_init_19 : decode cX4_init 19 = .ok (.putfield 13, 3) := by decide +kernel
theorem dX4_init_22 : decode cX4_init 22 = .ok (.aload_n 0, 1) := by decide +kernel
theorem dX4_init_23 : decode cX4_init 23 = .ok (.sipush 232, 3) := by decide +kernel
theorem dX4_init_26 : decode cX4_init 26 = .ok (.newarray .int, 2) := by decide +kernel
theorem dX4_init_28 : decode cX4_init 28 = .ok (.putfield 16, 3) := by decide +kernel
theorem dX4_init_31 : decode cX4_init 31 = .ok (.aload_n 0, 1) := by decide +kernel
theorem dX4_init_32 : decode cX4_init 32 = .ok (.sipush 232, 3) := by decide +kernel
theorem dX4_init_35 : decode cX4_init 35 = .ok (.newarray .int, 2) := by decide +kernel
theorem dX4_init_37 : decode cX4_init 37 = .ok (.putfield 19, 3) := by decide +kernel
theorem dX4_init_40 : decode cX4_init 40 = .ok (.aload_n 0, 1) := by decide +kernel
theorem dX4_init_41 : decode cX4_init 41 = .ok (.bipush 60, 2) := by decide +kernel
theorem dX4_init_43 : decode cX4_init 43 = .ok (.newarray .char, 2) := by decide +kernel
theorem dX4_init_45 : decode cX4_init 45 = .ok (.putfield 22, 3) := by decide +kernel
theorem dX4_init_48 : decode cX4_init 48 = .ok (.aload_n 0, 1) := by decide +kernel
theorem dX4_init_49 : decode cX4_init 49 = .ok (.iconst 4, 1) := by decide +kernel
theorem dX4_init_50 : decode cX4_init 50 = .ok (.newarray .boolean, 2) := by decide +kernel
theorem dX4_init_52 : decode cX4_init 52 = .ok (.putfield 26, 3) := by decide +kernel
theorem dX4_init_55 : decode cX4_init 55 = .ok (.aload_n 0, 1) := by decide +kernel
theorem dX4_init_56 : decode cX4_init 56 = .ok (.iconst 4, 1) := by decide +kernel
theorem dX4_init_57 : decode cX4_init 57 = .ok (.newarray .int, 2) := by decide +kernel
theorem dX4_init_59 : decode cX4_init 59 = .ok (.putfield 30, 3) := by decide +kernel
theorem dX4_init_62 : decode cX4_init 62 = .ok (.iconst 0, 1) := by decide +kernel
theorem dX4_init_63 : decode cX4_init 63 = .ok (.istore_n 1, 1) := by decide +kernel
theorem dX4_init_64 : decode cX4_init 64 = .ok (.iload_n 1, 1) := by decide +kernel
theorem dX4_init_65 : decode cX4_init 65 = .ok (.iconst 4, 1) := by decide +kernel
theorem dX4_init_66 : decode cX4_init 66 = .ok (.if_icmp .ge 37, 3) := by decide +kernel
theorem dX4_init_69 : decode cX4_init 69 = .ok (.aload_n 0, 1) := by decide +kernel
theorem dX4_init_70 : decode cX4_init 70 = .ok (.iload_n 1, 1) := by decide +kernel
theorem dX4_init_71 : decode cX4_init 71 = .ok (.iconst 0, 1) := by decide +kernel
theorem dX4_init_72 : decode cX4_init 72 = .ok (.iconst 3, 1) := by decide +kernel
theorem dX4_init_73 : decode cX4_init 73 = .ok (.invokevirtual 33, 3) := by decide +kernel
theorem dX4_init_76 : decode cX4_init 76 = .ok (.aload_n 0, 1) := by decide +kernel
theorem dX4_init_77 : decode cX4_init 77 = .ok (.iload_n 1, 1) := by decide +kernel
theorem dX4_init_78 : decode cX4_init 78 = .ok (.iconst 1, 1) := by decide +kernel
theorem dX4_init_79 : decode cX4_init 79 = .ok (.iconst 2, 1) := by decide +kernel
theorem dX4_init_80 : decode cX4_init 80 = .ok (.invokevirtual 33, 3) := by decide +kernel
theorem dX4_init_83 : decode cX4_init 83 = .ok (.aload_n 0, 1) := by decide +kernel
theorem dX4_init_84 : decode cX4_init 84 = .ok (.iload_n 1, 1) := by decide +kernel
theorem dX4_init_85 : decode cX4_init 85 = .ok (.iconst 2, 1) := by decide +kernel
theorem dX4_init_86 : decode cX4_init 86 = .ok (.iconst 2, 1) := by decide +kernel
theorem dX4_init_87 : decode cX4_init 87 = .ok (.invokevirtual 33, 3) := by decide +kernel
theorem dX4_init_90 : decode cX4_init 90 = .ok (.aload_n 0, 1) := by decide +kernel
theorem dX4_init_91 : decode cX4_init 91 = .ok (.iload_n 1, 1) := by decide +kernel
theorem dX4_init_92 : decode cX4_init 92 = .ok (.iconst 3, 1) := by decide +kernel
theorem dX4_init_93 : decode cX4_init 93 = .ok (.iconst 3, 1) := by decide +kernel
theorem dX4_init_94 : decode cX4_init 94 = .ok (.invokevirtual 33, 3) := by decide +kernel
theorem dX4_init_97 : decode cX4_init 97 = .ok (.iinc 1 1, 3) := by decide +kernel
theorem dX4_init_100 : decode cX4_init 100 = .ok (.goto (-36), 3) := by decide +kernel
theorem dX4_init_103 : decode cX4_init 103 = .ok (.return_, 1) := by decide +kernel
theorem dX4_in_0 : decode cX4_in 0 = .ok (.iload_n 0, 1) := by decide +kernel
theorem dX4_in_1 : decode cX4_in 1 = .ok (.iload_n 1, 1) := by decide +kernel
theorem dX4_in_2 : decode cX4_in 2 = .ok (.if_icmp .lt 12, 3) := by decide +kernel
theorem dX4_in_5 : decode cX4_in 5 = .ok (.iload_n 0, 1) := by decide +kernel
theorem dX4_in_6 : decode cX4_in 6 = .ok (.iload_n 2, 1) := by decide +kernel
theorem dX4_in_7 : decode cX4_in 7 = .ok (.if_icmp .gt 7, 3) := by decide +kernel
theorem dX4_in_10 : decode cX4_in 10 = .ok (.iconst 1, 1) := by decide +kernel
theorem dX4_in_11 : decode cX4_in 11 = .ok (.goto 4, 3) := by decide +kernel
theorem dX4_in_14 : decode cX4_in 14 = .ok (.iconst 0, 1) := by decide +kernel
theorem dX4_in_15 : decode cX4_in 15 = .ok (.ireturn, 1) := by decide +kernel
theorem dX4_noPort_0 : decode cX4_noPort 0 = .ok (.iload_n 0, 1) := by decide +kernel
theorem dX4_noPort_1 : decode cX4_noPort 1 = .ok (.iconst 0, 1) := by decide +kernel
theorem dX4_noPort_2 : decode cX4_noPort 2 = .ok (.iconst 3, 1) := by decide +kernel
theorem dX4_noPort_3 : decode cX4_noPort 3 = .ok (.invokestatic 37, 3) := by decide +kernel
theorem dX4_noPort_6 : decode cX4_noPort 6 = .ok (.ifCond .ne 7, 3) := by decide +kernel
theorem dX4_noPort_9 : decode cX4_noPort 9 = .ok (.iconst 1, 1) := by decide +kernel
theorem dX4_noPort_10 : decode cX4_noPort 10 = .ok (.goto 4, 3) := by decide +kernel
theorem dX4_noPort_13 : decode cX4_noPort 13 = .ok (.iconst 0, 1) := by decide +kernel
theorem dX4_noPort_14 : decode cX4_noPort 14 = .ok (.ireturn, 1) := by decide +kernel
theorem dX4_of_0 : decode cX4_of 0 = .ok (.aload_n 0, 1) := by decide +kernel
theorem dX4_of_1 : decode cX4_of 1 = .ok (.getfield 7, 3) := by decide +kernel
theorem dX4_of_4 : decode cX4_of 4 = .ok (.iconst 4, 1) := by decide +kernel
theorem dX4_of_5 : decode cX4_of 5 = .ok (.bipush 30, 2) := by decide +kernel
theorem dX4_of_7 : decode cX4_of 7 = .ok (.iload_n 1, 1) := by decide +kernel
theorem dX4_of_8 : decode cX4_of 8 = .ok (.imul, 1) := by decide +kernel
theorem dX4_of_9 : decode cX4_of 9 = .ok (.iadd, 1) := by decide +kernel
theorem dX4_of_10 : decode cX4_of 10 = .ok (.iload_n 2, 1) := by decide +kernel
theorem dX4_of_11 : decode cX4_of 11 = .ok (.iadd, 1) := by decide +kernel
theorem dX4_of_12 : decode cX4_of 12 = .ok (.iaload, 1) := by decide +kernel
theorem dX4_of_13 : decode cX4_of 13 = .ok (.ireturn, 1) := by decide +kernel
theorem dX4_lay_0 : decode cX4_lay 0 = .ok (.aload_n 0, 1) := by decide +kernel
theorem dX4_lay_1 : decode cX4_lay 1 = .ok (.getfield 7, 3) := by decide +kernel
theorem dX4_lay_4 : decode cX4_lay 4 = .ok (.iconst 4, 1) := by decide +kernel
theorem dX4_lay_5 : decode cX4_lay 5 = .ok (.bipush 30, 2) := by decide +kernel
theorem dX4_lay_7 : decode cX4_lay 7 = .ok (.iload_n 1, 1) := by decide +kernel
theorem dX4_lay_8 : decode cX4_lay 8 = .ok (.imul, 1) := by decide +kernel
theorem dX4_lay_9 : decode cX4_lay 9 = .ok (.iadd, 1) := by decide +kernel
theorem dX4_lay_10 : decode cX4_lay 10 = .ok (.iload_n 2, 1) := by decide +kernel
theorem dX4_lay_11 : decode cX4_lay 11 = .ok (.iadd, 1) := by decide +kernel
theorem dX4_lay_12 : decode cX4_lay 12 = .ok (.iload_n 3, 1) := by decide +kernel
theorem dX4_lay_13 : decode cX4_lay 13 = .ok (.iastore, 1) := by decide +kernel
theorem dX4_lay_14 : decode cX4_lay 14 = .ok (.return_, 1) := by decide +kernel
theorem dX4_more_0 : decode cX4_more 0 = .ok (.aload_n 0, 1) := by decide +kernel
theorem dX4_more_1 : decode cX4_more 1 = .ok (.getfield 7, 3) := by decide +kernel
theorem dX4_more_4 : decode cX4_more 4 = .ok (.iconst 4, 1) := by decide +kernel
theorem dX4_more_5 : decode cX4_more 5 = .ok (.bipush 30, 2) := by decide +kernel
theorem dX4_more_7 : decode cX4_more 7 = .ok (.iload_n 1, 1) := by decide +kernel
theorem dX4_more_8 : decode cX4_more 8 = .ok (.imul, 1) := by decide +kernel
theorem dX4_more_9 : decode cX4_more 9 = .ok (.iadd, 1) := by decide +kernel
theorem dX4_more_10 : decode cX4_more 10 = .ok (.iload_n 2, 1) := by decide +kernel
theorem dX4_more_11 : decode cX4_more 11 = .ok (.iadd, 1) := by decide +kernel
theorem dX4_more_12 : decode cX4_more 12 = .ok (.dup2, 1) := by decide +kernel
theorem dX4_more_13 : decode cX4_more 13 = .ok (.iaload, 1) := by decide +kernel
theorem dX4_more_14 : decode cX4_more 14 = .ok (.iload_n 3, 1) := by decide +kernel
theorem dX4_more_15 : decode cX4_more 15 = .ok (.iadd, 1) := by decide +kernel
theorem dX4_more_16 : decode cX4_more 16 = .ok (.iastore, 1) := by decide +kernel
theorem dX4_more_17 : decode cX4_more 17 = .ok (.return_, 1) := by decide +kernel
theorem dX4_by_0 : decode cX4_by 0 = .ok (.aload_n 0, 1) := by decide +kernel
theorem dX4_by_1 : decode cX4_by 1 = .ok (.getfield 7, 3) := by decide +kernel
theorem dX4_by_4 : decode cX4_by 4 = .ok (.bipush 124, 2) := by decide +kernel
theorem dX4_by_6 : decode cX4_by 6 = .ok (.bipush 27, 2) := by decide +kernel
theorem dX4_by_8 : decode cX4_by 8 = .ok (.iload_n 1, 1) := by decide +kernel
theorem dX4_by_9 : decode cX4_by 9 = .ok (.imul, 1) := by decide +kernel
theorem dX4_by_10 : decode cX4_by 10 = .ok (.iadd, 1) := by decide +kernel
theorem dX4_by_11 : decode cX4_by 11 = .ok (.iload_n 2, 1) := by decide +kernel
theorem dX4_by_12 : decode cX4_by 12 = .ok (.iadd, 1) := by decide +kernel
theorem dX4_by_13 : decode cX4_by 13 = .ok (.iaload, 1) := by decide +kernel
theorem dX4_by_14 : decode cX4_by 14 = .ok (.ireturn, 1) := by decide +kernel
theorem dX4_remember_0 : decode cX4_remember 0 = .ok (.iconst 0, 1) := by decide +kernel
theorem dX4_remember_1 : decode cX4_remember 1 = .ok (.istore_n 1, 1) := by decide +kernel
theorem dX4_remember_2 : decode cX4_remember 2 = .ok (.iload_n 1, 1) := by decide +kernel
theorem dX4_remember_3 : decode cX4_remember 3 = .ok (.sipush 232, 3) := by decide +kernel
theorem dX4_remember_6 : decode cX4_remember 6 = .ok (.if_icmp .ge 21, 3) := by decide +kernel
theorem dX4_remember_9 : decode cX4_remember 9 = .ok (.aload_n 0, 1) := by decide +kernel
theorem dX4_remember_10 : decode cX4_remember 10 = .ok (.getfield 19, 3) := by decide +kernel
theorem dX4_remember_13 : decode cX4_remember 13 = .ok (.iload_n 1, 1) := by decide +kernel
theorem dX4_remember_14 : decode cX4_remember 14 = .ok (.aload_n 0, 1) := by decide +kernel
theorem dX4_remember_15 : decode cX4_remember 15 = .ok (.getfield 7, 3) := by decide +kernel
theorem dX4_remember_18 : decode cX4_remember 18 = .ok (.iload_n 1, 1) := by decide +kernel
theorem dX4_remember_19 : decode cX4_remember 19 = .ok (.iaload, 1) := by decide +kernel
theorem dX4_remember_20 : decode cX4_remember 20 = .ok (.iastore, 1) := by decide +kernel
theorem dX4_remember_21 : decode cX4_remember 21 = .ok (.iinc 1 1, 3) := by decide +kernel
theorem dX4_remember_24 : decode cX4_remember 24 = .ok (.goto (-22), 3) := by decide +kernel
theorem dX4_remember_27 : decode cX4_remember 27 = .ok (.return_, 1) := by decide +kernel
theorem dX4_goBack_0 : decode cX4_goBack 0 = .ok (.iconst 0, 1) := by decide +kernel
theorem dX4_goBack_1 : decode cX4_goBack 1 = .ok (.istore_n 1, 1) := by decide +kernel
theorem dX4_goBack_2 : decode cX4_goBack 2 = .ok (.iload_n 1, 1) := by decide +kernel
theorem dX4_goBack_3 : decode cX4_goBack 3 = .ok (.sipush 232, 3) := by decide +kernel
theorem dX4_goBack_6 : decode cX4_goBack 6 = .ok (.if_icmp .ge 21, 3) := by decide +kernel
theorem dX4_goBack_9 : decode cX4_goBack 9 = .ok (.aload_n 0, 1) := by decide +kernel
theorem dX4_goBack_10 : decode cX4_goBack 10 = .ok (.getfield 7, 3) := by decide +kernel
theorem dX4_goBack_13 : decode cX4_goBack 13 = .ok (.iload_n 1, 1) := by decide +kernel
theorem dX4_goBack_14 : decode cX4_goBack 14 = .ok (.aload_n 0, 1) := by decide +kernel
theorem dX4_goBack_15 : decode cX4_goBack 15 = .ok (.getfield 19, 3) := by decide +kernel
theorem dX4_goBack_18 : decode cX4_goBack 18 = .ok (.iload_n 1, 1) := by decide +kernel
theorem dX4_goBack_19 : decode cX4_goBack 19 = .ok (.iaload, 1) := by decide +kernel
theorem dX4_goBack_20 : decode cX4_goBack 20 = .ok (.iastore, 1) := by decide +kernel
theorem dX4_goBack_21 : decode cX4_goBack 21 = .ok (.iinc 1 1, 3) := by decide +kernel
theorem dX4_goBack_24 : decode cX4_goBack 24 = .ok (.goto (-22), 3) := by decide +kernel
theorem dX4_goBack_27 : decode cX4_goBack 27 = .ok (.return_, 1) := by decide +kernel
theorem dX4_record_0 : decode cX4_record 0 = .ok (.aload_n 0, 1) := by decide +kernel
theorem dX4_record_1 : decode cX4_record 1 = .ok (.getfield 41, 3) := by decide +kernel
theorem dX4_record_4 : decode cX4_record 4 = .ok (.iconst 4, 1) := by decide +kernel
theorem dX4_record_5 : decode cX4_record 5 = .ok (.if_icmp .ne 44, 3) := by decide +kernel
theorem dX4_record_8 : decode cX4_record 8 = .ok (.iconst 0, 1) := by decide +kernel
theorem dX4_record_9 : decode cX4_record 9 = .ok (.istore_n 1, 1) := by decide +kernel
theorem dX4_record_10 : decode cX4_record 10 = .ok (.iload_n 1, 1) := by decide +kernel
theorem dX4_record_11 : decode cX4_record 11 = .ok (.sipush 696, 3) := by decide +kernel
theorem dX4_record_14 : decode cX4_record 14 = .ok (.if_icmp .ge 25, 3) := by decide +kernel
theorem dX4_record_17 : decode cX4_record 17 = .ok (.aload_n 0, 1) := by decide +kernel
theorem dX4_record_18 : decode cX4_record 18 = .ok (.getfield 13, 3) := by decide +kernel
theorem dX4_record_21 : decode cX4_record 21 = .ok (.iload_n 1, 1) := by decide +kernel
theorem dX4_record_22 : decode cX4_record 22 = .ok (.aload_n 0, 1) := by decide +kernel
theorem dX4_record_23 : decode cX4_record 23 = .ok (.getfield 13, 3) := by decide +kernel
theorem dX4_record_26 : decode cX4_record 26 = .ok (.sipush 232, 3) := by decide +kernel
theorem dX4_record_29 : decode cX4_record 29 = .ok (.iload_n 1, 1) := by decide +kernel
theorem dX4_record_30 : decode cX4_record 30 = .ok (.iadd, 1) := by decide +kernel
theorem dX4_record_31 : decode cX4_record 31 = .ok (.iaload, 1) := by decide +kernel
theorem dX4_record_32 : decode cX4_record 32 = .ok (.iastore, 1) := by decide +kernel
theorem dX4_record_33 : decode cX4_record 33 = .ok (.iinc 1 1, 3) := by decide +kernel
theorem dX4_record_36 : decode cX4_record 36 = .ok (.goto (-26), 3) := by decide +kernel
theorem dX4_record_39 : decode cX4_record 39 = .ok (.aload_n 0, 1) := by decide +kernel
theorem dX4_record_40 : decode cX4_record 40 = .ok (.dup, 1) := by decide +kernel
theorem dX4_record_41 : decode cX4_record 41 = .ok (.getfield 41, 3) := by decide +kernel
theorem dX4_record_44 : decode cX4_record 44 = .ok (.iconst 1, 1) := by decide +kernel
theorem dX4_record_45 : decode cX4_record 45 = .ok (.isub, 1) := by decide +kernel
theorem dX4_record_46 : decode cX4_record 46 = .ok (.putfield 41, 3) := by decide +kernel
theorem dX4_record_49 : decode cX4_record 49 = .ok (.iconst 0, 1) := by decide +kernel
theorem dX4_record_50 : decode cX4_record 50 = .ok (.istore_n 1, 1) := by decide +kernel
theorem dX4_record_51 : decode cX4_record 51 = .ok (.iload_n 1, 1) := by decide +kernel
theorem dX4_record_52 : decode cX4_record 52 = .ok (.sipush 232, 3) := by decide +kernel
theorem dX4_record_55 : decode cX4_record 55 = .ok (.if_icmp .ge 30, 3) := by decide +kernel
theorem dX4_record_58 : decode cX4_record 58 = .ok (.aload_n 0, 1) := by decide +kernel
theorem dX4_record_59 : decode cX4_record 59 = .ok (.getfield 13, 3) := by decide +kernel
theorem dX4_record_62 : decode cX4_record 62 = .ok (.sipush 232, 3) := by decide +kernel
theorem dX4_record_65 : decode cX4_record 65 = .ok (.aload_n 0, 1) := by decide +kernel
theorem dX4_record_66 : decode cX4_record 66 = .ok (.getfield 41, 3) := by decide +kernel
theorem dX4_record_69 : decode cX4_record 69 = .ok (.imul, 1) := by decide +kernel
theorem dX4_record_70 : decode cX4_record 70 = .ok (.iload_n 1, 1) := by decide +kernel
theorem dX4_record_71 : decode cX4_record 71 = .ok (.iadd, 1) := by decide +kernel
theorem dX4_record_72 : decode cX4_record 72 = .ok (.aload_n 0, 1) := by decide +kernel
theorem dX4_record_73 : decode cX4_record 73 = .ok (.getfield 19, 3) := by decide +kernel
theorem dX4_record_76 : decode cX4_record 76 = .ok (.iload_n 1, 1) := by decide +kernel
theorem dX4_record_77 : decode cX4_record 77 = .ok (.iaload, 1) := by decide +kernel
theorem dX4_record_78 : decode cX4_record 78 = .ok (.iastore, 1) := by decide +kernel
theorem dX4_record_79 : decode cX4_record 79 = .ok (.iinc 1 1, 3) := by decide +kernel
theorem dX4_record_82 : decode cX4_record 82 = .ok (.goto (-31), 3) := by decide +kernel
theorem dX4_record_85 : decode cX4_record 85 = .ok (.aload_n 0, 1) := by decide +kernel
theorem dX4_record_86 : decode cX4_record 86 = .ok (.dup, 1) := by decide +kernel
theorem dX4_record_87 : decode cX4_record 87 = .ok (.getfield 41, 3) := by decide +kernel
theorem dX4_record_90 : decode cX4_record 90 = .ok (.iconst 1, 1) := by decide +kernel
theorem dX4_record_91 : decode cX4_record 91 = .ok (.iadd, 1) := by decide +kernel
theorem dX4_record_92 : decode cX4_record 92 = .ok (.putfield 41, 3) := by decide +kernel
theorem dX4_record_95 : decode cX4_record 95 = .ok (.return_, 1) := by decide +kernel
theorem dX4_open_0 : decode cX4_open 0 = .ok (.aload_n 0, 1) := by decide +kernel
theorem dX4_open_1 : decode cX4_open 1 = .ok (.invokevirtual 45, 3) := by decide +kernel
theorem dX4_open_4 : decode cX4_open 4 = .ok (.aload_n 0, 1) := by decide +kernel
theorem dX4_open_5 : decode cX4_open 5 = .ok (.invokevirtual 48, 3) := by decide +kernel
theorem dX4_open_8 : decode cX4_open 8 = .ok (.return_, 1) := by decide +kernel
theorem dX4_undo_0 : decode cX4_undo 0 = .ok (.aload_n 0, 1) := by decide +kernel
theorem dX4_undo_1 : decode cX4_undo 1 = .ok (.getfield 41, 3) := by decide +kernel
theorem dX4_undo_4 : decode cX4_undo 4 = .ok (.ifCond .ne 6, 3) := by decide +kernel
theorem dX4_undo_7 : decode cX4_undo 7 = .ok (.bipush (-5), 2) := by decide +kernel
theorem dX4_undo_9 : decode cX4_undo 9 = .ok (.ireturn, 1) := by decide +kernel
theorem dX4_undo_10 : decode cX4_undo 10 = .ok (.aload_n 0, 1) := by decide +kernel
theorem dX4_undo_11 : decode cX4_undo 11 = .ok (.dup, 1) := by decide +kernel
theorem dX4_undo_12 : decode cX4_undo 12 = .ok (.getfield 41, 3) := by decide +kernel
theorem dX4_undo_15 : decode cX4_undo 15 = .ok (.iconst 1, 1) := by decide +kernel
theorem dX4_undo_16 : decode cX4_undo 16 = .ok (.isub, 1) := by decide +kernel
theorem dX4_undo_17 : decode cX4_undo 17 = .ok (.putfield 41, 3) := by decide +kernel
theorem dX4_undo_20 : decode cX4_undo 20 = .ok (.iconst 0, 1) := by decide +kernel
theorem dX4_undo_21 : decode cX4_undo 21 = .ok (.istore_n 1, 1) := by decide +kernel
theorem dX4_undo_22 : decode cX4_undo 22 = .ok (.iload_n 1, 1) := by decide +kernel
theorem dX4_undo_23 : decode cX4_undo 23 = .ok (.sipush 232, 3) := by decide +kernel
theorem dX4_undo_26 : decode cX4_undo 26 = .ok (.if_icmp .ge 30, 3) := by decide +kernel
theorem dX4_undo_29 : decode cX4_undo 29 = .ok (.aload_n 0, 1) := by decide +kernel
theorem dX4_undo_30 : decode cX4_undo 30 = .ok (.getfield 7, 3) := by decide +kernel
theorem dX4_undo_33 : decode cX4_undo 33 = .ok (.iload_n 1, 1) := by decide +kernel
theorem dX4_undo_34 : decode cX4_undo 34 = .ok (.aload_n 0, 1) := by decide +kernel
theorem dX4_undo_35 : decode cX4_undo 35 = .ok (.getfield 13, 3) := by decide +kernel
theorem dX4_undo_38 : decode cX4_undo 38 = .ok (.sipush 232, 3) := by decide +kernel
theorem dX4_undo_41 : decode cX4_undo 41 = .ok (.aload_n 0, 1) := by decide +kernel
theorem dX4_undo_42 : decode cX4_undo 42 = .ok (.getfield 41, 3) := by decide +kernel
theorem dX4_undo_45 : decode cX4_undo 45 = .ok (.imul, 1) := by decide +kernel
theorem dX4_undo_46 : decode cX4_undo 46 = .ok (.iload_n 1, 1) := by decide +kernel
theorem dX4_undo_47 : decode cX4_undo 47 = .ok (.iadd, 1) := by decide +kernel
theorem dX4_undo_48 : decode cX4_undo 48 = .ok (.iaload, 1) := by decide +kernel
theorem dX4_undo_49 : decode cX4_undo 49 = .ok (.iastore, 1) := by decide +kernel
theorem dX4_undo_50 : decode cX4_undo 50 = .ok (.iinc 1 1, 3) := by decide +kernel
theorem dX4_undo_53 : decode cX4_undo 53 = .ok (.goto (-31), 3) := by decide +kernel
theorem dX4_undo_56 : decode cX4_undo 56 = .ok (.aload_n 0, 1) := by decide +kernel
theorem dX4_undo_57 : decode cX4_undo 57 = .ok (.getfield 41, 3) := by decide +kernel
theorem dX4_undo_60 : decode cX4_undo 60 = .ok (.ireturn, 1) := by decide +kernel
theorem dX4_keep_0 : decode cX4_keep 0 = .ok (.iconst 0, 1) := by decide +kernel
theorem dX4_keep_1 : decode cX4_keep 1 = .ok (.istore_n 1, 1) := by decide +kernel
theorem dX4_keep_2 : decode cX4_keep 2 = .ok (.iload_n 1, 1) := by decide +kernel
theorem dX4_keep_3 : decode cX4_keep 3 = .ok (.sipush 232, 3) := by decide +kernel
theorem dX4_keep_6 : decode cX4_keep 6 = .ok (.if_icmp .ge 21, 3) := by decide +kernel
theorem dX4_keep_9 : decode cX4_keep 9 = .ok (.aload_n 0, 1) := by decide +kernel
theorem dX4_keep_10 : decode cX4_keep 10 = .ok (.getfield 16, 3) := by decide +kernel
theorem dX4_keep_13 : decode cX4_keep 13 = .ok (.iload_n 1, 1) := by decide +kernel
theorem dX4_keep_14 : decode cX4_keep 14 = .ok (.aload_n 0, 1) := by decide +kernel
theorem dX4_keep_15 : decode cX4_keep 15 = .ok (.getfield 7, 3) := by decide +kernel
theorem dX4_keep_18 : decode cX4_keep 18 = .ok (.iload_n 1, 1) := by decide +kernel
theorem dX4_keep_19 : decode cX4_keep 19 = .ok (.iaload, 1) := by decide +kernel
theorem dX4_keep_20 : decode cX4_keep 20 = .ok (.iastore, 1) := by decide +kernel
theorem dX4_keep_21 : decode cX4_keep 21 = .ok (.iinc 1 1, 3) := by decide +kernel
theorem dX4_keep_24 : decode cX4_keep 24 = .ok (.goto (-22), 3) := by decide +kernel
theorem dX4_keep_27 : decode cX4_keep 27 = .ok (.aload_n 0, 1) := by decide +kernel
theorem dX4_keep_28 : decode cX4_keep 28 = .ok (.iconst 1, 1) := by decide +kernel
theorem dX4_keep_29 : decode cX4_keep 29 = .ok (.putfield 51, 3) := by decide +kernel
theorem dX4_keep_32 : decode cX4_keep 32 = .ok (.aload_n 0, 1) := by decide +kernel
theorem dX4_keep_33 : decode cX4_keep 33 = .ok (.getfield 7, 3) := by decide +kernel
theorem dX4_keep_36 : decode cX4_keep 36 = .ok (.iconst 0, 1) := by decide +kernel
theorem dX4_keep_37 : decode cX4_keep 37 = .ok (.iaload, 1) := by decide +kernel
theorem dX4_keep_38 : decode cX4_keep 38 = .ok (.ireturn, 1) := by decide +kernel
theorem dX4_restore_0 : decode cX4_restore 0 = .ok (.aload_n 0, 1) := by decide +kernel
theorem dX4_restore_1 : decode cX4_restore 1 = .ok (.getfield 51, 3) := by decide +kernel
theorem dX4_restore_4 : decode cX4_restore 4 = .ok (.ifCond .ne 6, 3) := by decide +kernel
theorem dX4_restore_7 : decode cX4_restore 7 = .ok (.bipush (-5), 2) := by decide +kernel
theorem dX4_restore_9 : decode cX4_restore 9 = .ok (.ireturn, 1) := by decide +kernel
theorem dX4_restore_10 : decode cX4_restore 10 = .ok (.aload_n 0, 1) := by decide +kernel
theorem dX4_restore_11 : decode cX4_restore 11 = .ok (.invokevirtual 55, 3) := by decide +kernel
theorem dX4_restore_14 : decode cX4_restore 14 = .ok (.iconst 0, 1) := by decide +kernel
theorem dX4_restore_15 : decode cX4_restore 15 = .ok (.istore_n 1, 1) := by decide +kernel
theorem dX4_restore_16 : decode cX4_restore 16 = .ok (.iload_n 1, 1) := by decide +kernel
theorem dX4_restore_17 : decode cX4_restore 17 = .ok (.sipush 232, 3) := by decide +kernel
theorem dX4_restore_20 : decode cX4_restore 20 = .ok (.if_icmp .ge 21, 3) := by decide +kernel
theorem dX4_restore_23 : decode cX4_restore 23 = .ok (.aload_n 0, 1) := by decide +kernel
theorem dX4_restore_24 : decode cX4_restore 24 = .ok (.getfield 7, 3) := by decide +kernel
theorem dX4_restore_27 : decode cX4_restore 27 = .ok (.iload_n 1, 1) := by decide +kernel
theorem dX4_restore_28 : decode cX4_restore 28 = .ok (.aload_n 0, 1) := by decide +kernel
theorem dX4_restore_29 : decode cX4_restore 29 = .ok (.getfield 16, 3) := by decide +kernel
theorem dX4_restore_32 : decode cX4_restore 32 = .ok (.iload_n 1, 1) := by decide +kernel
theorem dX4_restore_33 : decode cX4_restore 33 = .ok (.iaload, 1) := by decide +kernel
theorem dX4_restore_34 : decode cX4_restore 34 = .ok (.iastore, 1) := by decide +kernel
theorem dX4_restore_35 : decode cX4_restore 35 = .ok (.iinc 1 1, 3) := by decide +kernel
theorem dX4_restore_38 : decode cX4_restore 38 = .ok (.goto (-22), 3) := by decide +kernel
theorem dX4_restore_41 : decode cX4_restore 41 = .ok (.aload_n 0, 1) := by decide +kernel
theorem dX4_restore_42 : decode cX4_restore 42 = .ok (.getfield 7, 3) := by decide +kernel
theorem dX4_restore_45 : decode cX4_restore 45 = .ok (.iconst 0, 1) := by decide +kernel
theorem dX4_restore_46 : decode cX4_restore 46 = .ok (.iaload, 1) := by decide +kernel
theorem dX4_restore_47 : decode cX4_restore 47 = .ok (.ireturn, 1) := by decide +kernel
theorem dX4_setLane_0 : decode cX4_setLane 0 = .ok (.iload_n 1, 1) := by decide +kernel
theorem dX4_setLane_1 : decode cX4_setLane 1 = .ok (.invokestatic 58, 3) := by decide +kernel
theorem dX4_setLane_4 : decode cX4_setLane 4 = .ok (.ifCond .eq 5, 3) := by decide +kernel
theorem dX4_setLane_7 : decode cX4_setLane 7 = .ok (.iconst (-1), 1) := by decide +kernel
theorem dX4_setLane_8 : decode cX4_setLane 8 = .ok (.ireturn, 1) := by decide +kernel
theorem dX4_setLane_9 : decode cX4_setLane 9 = .ok (.iload_n 2, 1) := by decide +kernel
theorem dX4_setLane_10 : decode cX4_setLane 10 = .ok (.iconst 0, 1) := by decide +kernel
theorem dX4_setLane_11 : decode cX4_setLane 11 = .ok (.iconst 2, 1) := by decide +kernel
theorem dX4_setLane_12 : decode cX4_setLane 12 = .ok (.invokestatic 37, 3) := by decide +kernel
theorem dX4_setLane_15 : decode cX4_setLane 15 = .ok (.ifCond .eq 32, 3) := by decide +kernel
theorem dX4_setLane_18 : decode cX4_setLane 18 = .ok (.iload_n 3, 1) := by decide +kernel
theorem dX4_setLane_19 : decode cX4_setLane 19 = .ok (.iconst 1, 1) := by decide +kernel
theorem dX4_setLane_20 : decode cX4_setLane 20 = .ok (.iload_n 2, 1) := by decide +kernel
theorem dX4_setLane_21 : decode cX4_setLane 21 = .ok (.ifCond .ne 8, 3) := by decide +kernel
theorem dX4_setLane_24 : decode cX4_setLane 24 = .ok (.bipush 8, 2) := by decide +kernel
theorem dX4_setLane_26 : decode cX4_setLane 26 = .ok (.goto 15, 3) := by decide +kernel
theorem dX4_setLane_29 : decode cX4_setLane 29 = .ok (.iload_n 2, 1) := by decide +kernel
theorem dX4_setLane_30 : decode cX4_setLane 30 = .ok (.iconst 1, 1) := by decide +kernel
theorem dX4_setLane_31 : decode cX4_setLane 31 = .ok (.if_icmp .ne 8, 3) := by decide +kernel
theorem dX4_setLane_34 : decode cX4_setLane 34 = .ok (.bipush 9, 2) := by decide +kernel
theorem dX4_setLane_36 : decode cX4_setLane 36 = .ok (.goto 5, 3) := by decide +kernel
theorem dX4_setLane_39 : decode cX4_setLane 39 = .ok (.bipush 6, 2) := by decide +kernel
theorem dX4_setLane_41 : decode cX4_setLane 41 = .ok (.invokestatic 37, 3) := by decide +kernel
theorem dX4_setLane_44 : decode cX4_setLane 44 = .ok (.ifCond .ne 6, 3) := by decide +kernel
theorem dX4_setLane_47 : decode cX4_setLane 47 = .ok (.bipush (-2), 2) := by decide +kernel
theorem dX4_setLane_49 : decode cX4_setLane 49 = .ok (.ireturn, 1) := by decide +kernel
theorem dX4_setLane_50 : decode cX4_setLane 50 = .ok (.iload_n 2, 1) := by decide +kernel
theorem dX4_setLane_51 : decode cX4_setLane 51 = .ok (.ifCond .ne 17, 3) := by decide +kernel
theorem dX4_setLane_54 : decode cX4_setLane 54 = .ok (.aload_n 0, 1) := by decide +kernel
theorem dX4_setLane_55 : decode cX4_setLane 55 = .ok (.iload_n 1, 1) := by decide +kernel
theorem dX4_setLane_56 : decode cX4_setLane 56 = .ok (.bipush 9, 2) := by decide +kernel
theorem dX4_setLane_58 : decode cX4_setLane 58 = .ok (.invokevirtual 62, 3) := by decide +kernel
theorem dX4_setLane_61 : decode cX4_setLane 61 = .ok (.iload_n 3, 1) := by decide +kernel
theorem dX4_setLane_62 : decode cX4_setLane 62 = .ok (.if_icmp .le 6, 3) := by decide +kernel
theorem dX4_setLane_65 : decode cX4_setLane 65 = .ok (.bipush (-4), 2) := by decide +kernel
theorem dX4_setLane_67 : decode cX4_setLane 67 = .ok (.ireturn, 1) := by decide +kernel
theorem dX4_setLane_68 : decode cX4_setLane 68 = .ok (.aload_n 0, 1) := by decide +kernel
theorem dX4_setLane_69 : decode cX4_setLane 69 = .ok (.iload_n 1, 1) := by decide +kernel
theorem dX4_setLane_70 : decode cX4_setLane 70 = .ok (.iload_n 2, 1) := by decide +kernel
theorem dX4_setLane_71 : decode cX4_setLane 71 = .ok (.invokevirtual 62, 3) := by decide +kernel
theorem dX4_setLane_74 : decode cX4_setLane 74 = .ok (.istore 4, 2) := by decide +kernel
theorem dX4_setLane_76 : decode cX4_setLane 76 = .ok (.iload 4, 2) := by decide +kernel
theorem dX4_setLane_78 : decode cX4_setLane 78 = .ok (.iload_n 3, 1) := by decide +kernel
theorem dX4_setLane_79 : decode cX4_setLane 79 = .ok (.if_icmp .ne 6, 3) := by decide +kernel
theorem dX4_setLane_82 : decode cX4_setLane 82 = .ok (.bipush (-5), 2) := by decide +kernel
theorem dX4_setLane_84 : decode cX4_setLane 84 = .ok (.ireturn, 1) := by decide +kernel
theorem dX4_setLane_85 : decode cX4_setLane 85 = .ok (.aload_n 0, 1) := by decide +kernel
theorem dX4_setLane_86 : decode cX4_setLane 86 = .ok (.invokevirtual 55, 3) := by decide +kernel
theorem dX4_setLane_89 : decode cX4_setLane 89 = .ok (.aload_n 0, 1) := by decide +kernel
theorem dX4_setLane_90 : decode cX4_setLane 90 = .ok (.iload_n 1, 1) := by decide +kernel
theorem dX4_setLane_91 : decode cX4_setLane 91 = .ok (.iload_n 2, 1) := by decide +kernel
theorem dX4_setLane_92 : decode cX4_setLane 92 = .ok (.iload_n 3, 1) := by decide +kernel
theorem dX4_setLane_93 : decode cX4_setLane 93 = .ok (.invokevirtual 33, 3) := by decide +kernel
theorem dX4_setLane_96 : decode cX4_setLane 96 = .ok (.iload_n 2, 1) := by decide +kernel
theorem dX4_setLane_97 : decode cX4_setLane 97 = .ok (.ifCond .ne 13, 3) := by decide +kernel
theorem dX4_setLane_100 : decode cX4_setLane 100 = .ok (.aload_n 0, 1) := by decide +kernel
theorem dX4_setLane_101 : decode cX4_setLane 101 = .ok (.iload_n 1, 1) := by decide +kernel
theorem dX4_setLane_102 : decode cX4_setLane 102 = .ok (.iconst 3, 1) := by decide +kernel
theorem dX4_setLane_103 : decode cX4_setLane 103 = .ok (.iload_n 3, 1) := by decide +kernel
theorem dX4_setLane_104 : decode cX4_setLane 104 = .ok (.iload 4, 2) := by decide +kernel
theorem dX4_setLane_106 : decode cX4_setLane 106 = .ok (.isub, 1) := by decide +kernel
theorem dX4_setLane_107 : decode cX4_setLane 107 = .ok (.invokevirtual 66, 3) := by decide +kernel
theorem dX4_setLane_110 : decode cX4_setLane 110 = .ok (.iload 4, 2) := by decide +kernel
theorem dX4_setLane_112 : decode cX4_setLane 112 = .ok (.ireturn, 1) := by decide +kernel
theorem dX4_set_0 : decode cX4_set 0 = .ok (.iload_n 1, 1) := by decide +kernel
theorem dX4_set_1 : decode cX4_set 1 = .ok (.iconst 0, 1) := by decide +kernel
theorem dX4_set_2 : decode cX4_set 2 = .ok (.iconst 1, 1) := by decide +kernel
theorem dX4_set_3 : decode cX4_set 3 = .ok (.invokestatic 37, 3) := by decide +kernel
theorem dX4_set_6 : decode cX4_set 6 = .ok (.ifCond .eq 21, 3) := by decide +kernel
theorem dX4_set_9 : decode cX4_set 9 = .ok (.iload_n 2, 1) := by decide +kernel
theorem dX4_set_10 : decode cX4_set 10 = .ok (.iconst 0, 1) := by decide +kernel
theorem dX4_set_11 : decode cX4_set 11 = .ok (.iload_n 1, 1) := by decide +kernel
theorem dX4_set_12 : decode cX4_set 12 = .ok (.ifCond .ne 7, 3) := by decide +kernel
theorem dX4_set_15 : decode cX4_set 15 = .ok (.iconst 1, 1) := by decide +kernel
theorem dX4_set_16 : decode cX4_set 16 = .ok (.goto 5, 3) := by decide +kernel
theorem dX4_set_19 : decode cX4_set 19 = .ok (.bipush 60, 2) := by decide +kernel
theorem dX4_set_21 : decode cX4_set 21 = .ok (.invokestatic 37, 3) := by decide +kernel
theorem dX4_set_24 : decode cX4_set 24 = .ok (.ifCond .ne 6, 3) := by decide +kernel
theorem dX4_set_27 : decode cX4_set 27 = .ok (.bipush (-2), 2) := by decide +kernel
theorem dX4_set_29 : decode cX4_set 29 = .ok (.ireturn, 1) := by decide +kernel
theorem dX4_set_30 : decode cX4_set 30 = .ok (.aload_n 0, 1) := by decide +kernel
theorem dX4_set_31 : decode cX4_set 31 = .ok (.getfield 7, 3) := by decide +kernel
theorem dX4_set_34 : decode cX4_set 34 = .ok (.iconst 1, 1) := by decide +kernel
theorem dX4_set_35 : decode cX4_set 35 = .ok (.iload_n 1, 1) := by decide +kernel
theorem dX4_set_36 : decode cX4_set 36 = .ok (.iadd, 1) := by decide +kernel
theorem dX4_set_37 : decode cX4_set 37 = .ok (.iaload, 1) := by decide +kernel
theorem dX4_set_38 : decode cX4_set 38 = .ok (.istore_n 3, 1) := by decide +kernel
theorem dX4_set_39 : decode cX4_set 39 = .ok (.iload_n 3, 1) := by decide +kernel
theorem dX4_set_40 : decode cX4_set 40 = .ok (.iload_n 2, 1) := by decide +kernel
theorem dX4_set_41 : decode cX4_set 41 = .ok (.if_icmp .ne 6, 3) := by decide +kernel
theorem dX4_set_44 : decode cX4_set 44 = .ok (.bipush (-5), 2) := by decide +kernel
theorem dX4_set_46 : decode cX4_set 46 = .ok (.ireturn, 1) := by decide +kernel
theorem dX4_set_47 : decode cX4_set 47 = .ok (.aload_n 0, 1) := by decide +kernel
theorem dX4_set_48 : decode cX4_set 48 = .ok (.invokevirtual 55, 3) := by decide +kernel
theorem dX4_set_51 : decode cX4_set 51 = .ok (.aload_n 0, 1) := by decide +kernel
theorem dX4_set_52 : decode cX4_set 52 = .ok (.getfield 7, 3) := by decide +kernel
theorem dX4_set_55 : decode cX4_set 55 = .ok (.iconst 1, 1) := by decide +kernel
theorem dX4_set_56 : decode cX4_set 56 = .ok (.iload_n 1, 1) := by decide +kernel
theorem dX4_set_57 : decode cX4_set 57 = .ok (.iadd, 1) := by decide +kernel
theorem dX4_set_58 : decode cX4_set 58 = .ok (.iload_n 2, 1) := by decide +kernel
theorem dX4_set_59 : decode cX4_set 59 = .ok (.iastore, 1) := by decide +kernel
theorem dX4_set_60 : decode cX4_set 60 = .ok (.iload_n 3, 1) := by decide +kernel
theorem dX4_set_61 : decode cX4_set 61 = .ok (.ireturn, 1) := by decide +kernel
theorem dX4_bring_0 : decode cX4_bring 0 = .ok (.bipush 124, 2) := by decide +kernel
theorem dX4_bring_2 : decode cX4_bring 2 = .ok (.bipush 27, 2) := by decide +kernel
theorem dX4_bring_4 : decode cX4_bring 4 = .ok (.iload_n 1, 1) := by decide +kernel
theorem dX4_bring_5 : decode cX4_bring 5 = .ok (.imul, 1) := by decide +kernel
theorem dX4_bring_6 : decode cX4_bring 6 = .ok (.iadd, 1) := by decide +kernel
theorem dX4_bring_7 : decode cX4_bring 7 = .ok (.iconst 3, 1) := by decide +kernel
theorem dX4_bring_8 : decode cX4_bring 8 = .ok (.iadd, 1) := by decide +kernel
theorem dX4_bring_9 : decode cX4_bring 9 = .ok (.iconst 3, 1) := by decide +kernel
theorem dX4_bring_10 : decode cX4_bring 10 = .ok (.aload_n 0, 1) := by decide +kernel
theorem dX4_bring_11 : decode cX4_bring 11 = .ok (.iload_n 1, 1) := by decide +kernel
theorem dX4_bring_12 : decode cX4_bring 12 = .ok (.iconst 0, 1) := by decide +kernel
theorem dX4_bring_13 : decode cX4_bring 13 = .ok (.invokevirtual 69, 3) := by decide +kernel
theorem dX4_bring_16 : decode cX4_bring 16 = .ok (.imul, 1) := by decide +kernel
theorem dX4_bring_17 : decode cX4_bring 17 = .ok (.iadd, 1) := by decide +kernel
theorem dX4_bring_18 : decode cX4_bring 18 = .ok (.istore_n 3, 1) := by decide +kernel
theorem dX4_bring_19 : decode cX4_bring 19 = .ok (.aload_n 0, 1) := by decide +kernel
theorem dX4_bring_20 : decode cX4_bring 20 = .ok (.getfield 7, 3) := by decide +kernel
theorem dX4_bring_23 : decode cX4_bring 23 = .ok (.iload_n 3, 1) := by decide +kernel
theorem dX4_bring_24 : decode cX4_bring 24 = .ok (.aload_n 0, 1) := by decide +kernel
theorem dX4_bring_25 : decode cX4_bring 25 = .ok (.getfield 7, 3) := by decide +kernel
theorem dX4_bring_28 : decode cX4_bring 28 = .ok (.iconst 3, 1) := by decide +kernel
theorem dX4_bring_29 : decode cX4_bring 29 = .ok (.iaload, 1) := by decide +kernel
theorem dX4_bring_30 : decode cX4_bring 30 = .ok (.iastore, 1) := by decide +kernel
theorem dX4_bring_31 : decode cX4_bring 31 = .ok (.aload_n 0, 1) := by decide +kernel
theorem dX4_bring_32 : decode cX4_bring 32 = .ok (.getfield 7, 3) := by decide +kernel
theorem dX4_bring_35 : decode cX4_bring 35 = .ok (.iload_n 3, 1) := by decide +kernel
theorem dX4_bring_36 : decode cX4_bring 36 = .ok (.iconst 1, 1) := by decide +kernel
theorem dX4_bring_37 : decode cX4_bring 37 = .ok (.iadd, 1) := by decide +kernel
theorem dX4_bring_38 : decode cX4_bring 38 = .ok (.iload_n 2, 1) := by decide +kernel
theorem dX4_bring_39 : decode cX4_bring 39 = .ok (.iastore, 1) := by decide +kernel
theorem dX4_bring_40 : decode cX4_bring 40 = .ok (.aload_n 0, 1) := by decide +kernel
theorem dX4_bring_41 : decode cX4_bring 41 = .ok (.getfield 7, 3) := by decide +kernel
theorem dX4_bring_44 : decode cX4_bring 44 = .ok (.iload_n 3, 1) := by decide +kernel
theorem dX4_bring_45 : decode cX4_bring 45 = .ok (.iconst 2, 1) := by decide +kernel
theorem dX4_bring_46 : decode cX4_bring 46 = .ok (.iadd, 1) := by decide +kernel
theorem dX4_bring_47 : decode cX4_bring 47 = .ok (.aload_n 0, 1) := by decide +kernel
theorem dX4_bring_48 : decode cX4_bring 48 = .ok (.getfield 7, 3) := by decide +kernel
theorem dX4_bring_51 : decode cX4_bring 51 = .ok (.iconst 0, 1) := by decide +kernel
theorem dX4_bring_52 : decode cX4_bring 52 = .ok (.iaload, 1) := by decide +kernel
theorem dX4_bring_53 : decode cX4_bring 53 = .ok (.iastore, 1) := by decide +kernel
theorem dX4_bring_54 : decode cX4_bring 54 = .ok (.aload_n 0, 1) := by decide +kernel
theorem dX4_bring_55 : decode cX4_bring 55 = .ok (.getfield 7, 3) := by decide +kernel
theorem dX4_bring_58 : decode cX4_bring 58 = .ok (.bipush 124, 2) := by decide +kernel
theorem dX4_bring_60 : decode cX4_bring 60 = .ok (.bipush 27, 2) := by decide +kernel
theorem dX4_bring_62 : decode cX4_bring 62 = .ok (.iload_n 1, 1) := by decide +kernel
theorem dX4_bring_63 : decode cX4_bring 63 = .ok (.imul, 1) := by decide +kernel
theorem dX4_bring_64 : decode cX4_bring 64 = .ok (.iadd, 1) := by decide +kernel
theorem dX4_bring_65 : decode cX4_bring 65 = .ok (.iconst 0, 1) := by decide +kernel
theorem dX4_bring_66 : decode cX4_bring 66 = .ok (.iadd, 1) := by decide +kernel
theorem dX4_bring_67 : decode cX4_bring 67 = .ok (.dup2, 1) := by decide +kernel
theorem dX4_bring_68 : decode cX4_bring 68 = .ok (.iaload, 1) := by decide +kernel
theorem dX4_bring_69 : decode cX4_bring 69 = .ok (.iconst 1, 1) := by decide +kernel
theorem dX4_bring_70 : decode cX4_bring 70 = .ok (.iadd, 1) := by decide +kernel
theorem dX4_bring_71 : decode cX4_bring 71 = .ok (.iastore, 1) := by decide +kernel
theorem dX4_bring_72 : decode cX4_bring 72 = .ok (.aload_n 0, 1) := by decide +kernel
theorem dX4_bring_73 : decode cX4_bring 73 = .ok (.getfield 7, 3) := by decide +kernel
theorem dX4_bring_76 : decode cX4_bring 76 = .ok (.iconst 3, 1) := by decide +kernel
theorem dX4_bring_77 : decode cX4_bring 77 = .ok (.dup2, 1) := by decide +kernel
theorem dX4_bring_78 : decode cX4_bring 78 = .ok (.iaload, 1) := by decide +kernel
theorem dX4_bring_79 : decode cX4_bring 79 = .ok (.iconst 1, 1) := by decide +kernel
theorem dX4_bring_80 : decode cX4_bring 80 = .ok (.iadd, 1) := by decide +kernel
theorem dX4_bring_81 : decode cX4_bring 81 = .ok (.iastore, 1) := by decide +kernel
theorem dX4_bring_82 : decode cX4_bring 82 = .ok (.return_, 1) := by decide +kernel
theorem dX4_arrive_0 : decode cX4_arrive 0 = .ok (.iload_n 1, 1) := by decide +kernel
theorem dX4_arrive_1 : decode cX4_arrive 1 = .ok (.invokestatic 58, 3) := by decide +kernel
theorem dX4_arrive_4 : decode cX4_arrive 4 = .ok (.ifCond .ne 10, 3) := by decide +kernel
theorem dX4_arrive_7 : decode cX4_arrive 7 = .ok (.iload_n 2, 1) := by decide +kernel
theorem dX4_arrive_8 : decode cX4_arrive 8 = .ok (.invokestatic 58, 3) := by decide +kernel
theorem dX4_arrive_11 : decode cX4_arrive 11 = .ok (.ifCond .eq 5, 3) := by decide +kernel
theorem dX4_arrive_14 : decode cX4_arrive 14 = .ok (.iconst (-1), 1) := by decide +kernel
theorem dX4_arrive_15 : decode cX4_arrive 15 = .ok (.ireturn, 1) := by decide +kernel
theorem dX4_arrive_16 : decode cX4_arrive 16 = .ok (.aload_n 0, 1) := by decide +kernel
theorem dX4_arrive_17 : decode cX4_arrive 17 = .ok (.iload_n 1, 1) := by decide +kernel
theorem dX4_arrive_18 : decode cX4_arrive 18 = .ok (.iconst 0, 1) := by decide +kernel
theorem dX4_arrive_19 : decode cX4_arrive 19 = .ok (.invokevirtual 69, 3) := by decide +kernel
theorem dX4_arrive_22 : decode cX4_arrive 22 = .ok (.bipush 8, 2) := by decide +kernel
theorem dX4_arrive_24 : decode cX4_arrive 24 = .ok (.if_icmp .ne 6, 3) := by decide +kernel
theorem dX4_arrive_27 : decode cX4_arrive 27 = .ok (.bipush (-3), 2) := by decide +kernel
theorem dX4_arrive_29 : decode cX4_arrive 29 = .ok (.ireturn, 1) := by decide +kernel
theorem dX4_arrive_30 : decode cX4_arrive 30 = .ok (.aload_n 0, 1) := by decide +kernel
theorem dX4_arrive_31 : decode cX4_arrive 31 = .ok (.invokevirtual 55, 3) := by decide +kernel
theorem dX4_arrive_34 : decode cX4_arrive 34 = .ok (.aload_n 0, 1) := by decide +kernel
theorem dX4_arrive_35 : decode cX4_arrive 35 = .ok (.iload_n 1, 1) := by decide +kernel
theorem dX4_arrive_36 : decode cX4_arrive 36 = .ok (.iload_n 2, 1) := by decide +kernel
theorem dX4_arrive_37 : decode cX4_arrive 37 = .ok (.invokevirtual 72, 3) := by decide +kernel
theorem dX4_arrive_40 : decode cX4_arrive 40 = .ok (.aload_n 0, 1) := by decide +kernel
theorem dX4_arrive_41 : decode cX4_arrive 41 = .ok (.getfield 7, 3) := by decide +kernel
theorem dX4_arrive_44 : decode cX4_arrive 44 = .ok (.iconst 3, 1) := by decide +kernel
theorem dX4_arrive_45 : decode cX4_arrive 45 = .ok (.iaload, 1) := by decide +kernel
theorem dX4_arrive_46 : decode cX4_arrive 46 = .ok (.iconst 1, 1) := by decide +kernel
theorem dX4_arrive_47 : decode cX4_arrive 47 = .ok (.isub, 1) := by decide +kernel
theorem dX4_arrive_48 : decode cX4_arrive 48 = .ok (.ireturn, 1) := by decide +kernel
theorem dX4_sees_0 : decode cX4_sees 0 = .ok (.aload_n 0, 1) := by decide +kernel
theorem dX4_sees_1 : decode cX4_sees 1 = .ok (.getfield 76, 3) := by decide +kernel
theorem dX4_sees_4 : decode cX4_sees 4 = .ok (.aload_n 0, 1) := by decide +kernel
theorem dX4_sees_5 : decode cX4_sees 5 = .ok (.getfield 79, 3) := by decide +kernel
theorem dX4_sees_8 : decode cX4_sees 8 = .ok (.if_icmp .ge 24, 3) := by decide +kernel
theorem dX4_sees_11 : decode cX4_sees 11 = .ok (.aload_n 0, 1) := by decide +kernel
theorem dX4_sees_12 : decode cX4_sees 12 = .ok (.getfield 22, 3) := by decide +kernel
theorem dX4_sees_15 : decode cX4_sees 15 = .ok (.aload_n 0, 1) := by decide +kernel
theorem dX4_sees_16 : decode cX4_sees 16 = .ok (.getfield 76, 3) := by decide +kernel
theorem dX4_sees_19 : decode cX4_sees 19 = .ok (.caload, 1) := by decide +kernel
theorem dX4_sees_20 : decode cX4_sees 20 = .ok (.iload_n 1, 1) := by decide +kernel
theorem dX4_sees_21 : decode cX4_sees 21 = .ok (.iload_n 2, 1) := by decide +kernel
theorem dX4_sees_22 : decode cX4_sees 22 = .ok (.invokestatic 37, 3) := by decide +kernel
theorem dX4_sees_25 : decode cX4_sees 25 = .ok (.ifCond .eq 7, 3) := by decide +kernel
theorem dX4_sees_28 : decode cX4_sees 28 = .ok (.iconst 1, 1) := by decide +kernel
theorem dX4_sees_29 : decode cX4_sees 29 = .ok (.goto 4, 3) := by decide +kernel
theorem dX4_sees_32 : decode cX4_sees 32 = .ok (.iconst 0, 1) := by decide +kernel
theorem dX4_sees_33 : decode cX4_sees 33 = .ok (.ireturn, 1) := by decide +kernel
theorem dX4_arrival_0 : decode cX4_arrival 0 = .ok (.aload_n 0, 1) := by decide +kernel
theorem dX4_arrival_1 : decode cX4_arrival 1 = .ok (.bipush 48, 2) := by decide +kernel
theorem dX4_arrival_3 : decode cX4_arrival 3 = .ok (.bipush 51, 2) := by decide +kernel
theorem dX4_arrival_5 : decode cX4_arrival 5 = .ok (.invokevirtual 82, 3) := by decide +kernel
theorem dX4_arrival_8 : decode cX4_arrival 8 = .ok (.ifCond .ne 6, 3) := by decide +kernel
theorem dX4_arrival_11 : decode cX4_arrival 11 = .ok (.bipush (-100), 2) := by decide +kernel
theorem dX4_arrival_13 : decode cX4_arrival 13 = .ok (.ireturn, 1) := by decide +kernel
theorem dX4_arrival_14 : decode cX4_arrival 14 = .ok (.aload_n 0, 1) := by decide +kernel
theorem dX4_arrival_15 : decode cX4_arrival 15 = .ok (.getfield 22, 3) := by decide +kernel
theorem dX4_arrival_18 : decode cX4_arrival 18 = .ok (.aload_n 0, 1) := by decide +kernel
theorem dX4_arrival_19 : decode cX4_arrival 19 = .ok (.getfield 76, 3) := by decide +kernel
theorem dX4_arrival_22 : decode cX4_arrival 22 = .ok (.caload, 1) := by decide +kernel
theorem dX4_arrival_23 : decode cX4_arrival 23 = .ok (.bipush 48, 2) := by decide +kernel
theorem dX4_arrival_25 : decode cX4_arrival 25 = .ok (.isub, 1) := by decide +kernel
theorem dX4_arrival_26 : decode cX4_arrival 26 = .ok (.istore_n 2, 1) := by decide +kernel
theorem dX4_arrival_27 : decode cX4_arrival 27 = .ok (.aload_n 0, 1) := by decide +kernel
theorem dX4_arrival_28 : decode cX4_arrival 28 = .ok (.dup, 1) := by decide +kernel
theorem dX4_arrival_29 : decode cX4_arrival 29 = .ok (.getfield 76, 3) := by decide +kernel
theorem dX4_arrival_32 : decode cX4_arrival 32 = .ok (.iconst 1, 1) := by decide +kernel
theorem dX4_arrival_33 : decode cX4_arrival 33 = .ok (.iadd, 1) := by decide +kernel
theorem dX4_arrival_34 : decode cX4_arrival 34 = .ok (.putfield 76, 3) := by decide +kernel
theorem dX4_arrival_37 : decode cX4_arrival 37 = .ok (.aload_n 0, 1) := by decide +kernel
theorem dX4_arrival_38 : decode cX4_arrival 38 = .ok (.bipush 62, 2) := by decide +kernel
theorem dX4_arrival_40 : decode cX4_arrival 40 = .ok (.bipush 62, 2) := by decide +kernel
theorem dX4_arrival_42 : decode cX4_arrival 42 = .ok (.invokevirtual 82, 3) := by decide +kernel
theorem dX4_arrival_45 : decode cX4_arrival 45 = .ok (.ifCond .ne 6, 3) := by decide +kernel
theorem dX4_arrival_48 : decode cX4_arrival 48 = .ok (.bipush (-100), 2) := by decide +kernel
theorem dX4_arrival_50 : decode cX4_arrival 50 = .ok (.ireturn, 1) := by decide +kernel
theorem dX4_arrival_51 : decode cX4_arrival 51 = .ok (.aload_n 0, 1) := by decide +kernel
theorem dX4_arrival_52 : decode cX4_arrival 52 = .ok (.dup, 1) := by decide +kernel
theorem dX4_arrival_53 : decode cX4_arrival 53 = .ok (.getfield 76, 3) := by decide +kernel
theorem dX4_arrival_56 : decode cX4_arrival 56 = .ok (.iconst 1, 1) := by decide +kernel
theorem dX4_arrival_57 : decode cX4_arrival 57 = .ok (.iadd, 1) := by decide +kernel
theorem dX4_arrival_58 : decode cX4_arrival 58 = .ok (.putfield 76, 3) := by decide +kernel
theorem dX4_arrival_61 : decode cX4_arrival 61 = .ok (.aload_n 0, 1) := by decide +kernel
theorem dX4_arrival_62 : decode cX4_arrival 62 = .ok (.bipush 48, 2) := by decide +kernel
theorem dX4_arrival_64 : decode cX4_arrival 64 = .ok (.bipush 51, 2) := by decide +kernel
theorem dX4_arrival_66 : decode cX4_arrival 66 = .ok (.invokevirtual 82, 3) := by decide +kernel
theorem dX4_arrival_69 : decode cX4_arrival 69 = .ok (.ifCond .ne 6, 3) := by decide +kernel
theorem dX4_arrival_72 : decode cX4_arrival 72 = .ok (.bipush (-100), 2) := by decide +kernel
theorem dX4_arrival_74 : decode cX4_arrival 74 = .ok (.ireturn, 1) := by decide +kernel
theorem dX4_arrival_75 : decode cX4_arrival 75 = .ok (.aload_n 0, 1) := by decide +kernel
theorem dX4_arrival_76 : decode cX4_arrival 76 = .ok (.getfield 22, 3) := by decide +kernel
theorem dX4_arrival_79 : decode cX4_arrival 79 = .ok (.aload_n 0, 1) := by decide +kernel
theorem dX4_arrival_80 : decode cX4_arrival 80 = .ok (.getfield 76, 3) := by decide +kernel
theorem dX4_arrival_83 : decode cX4_arrival 83 = .ok (.caload, 1) := by decide +kernel
theorem dX4_arrival_84 : decode cX4_arrival 84 = .ok (.bipush 48, 2) := by decide +kernel
theorem dX4_arrival_86 : decode cX4_arrival 86 = .ok (.isub, 1) := by decide +kernel
theorem dX4_arrival_87 : decode cX4_arrival 87 = .ok (.istore_n 3, 1) := by decide +kernel
theorem dX4_arrival_88 : decode cX4_arrival 88 = .ok (.aload_n 0, 1) := by decide +kernel
theorem dX4_arrival_89 : decode cX4_arrival 89 = .ok (.dup, 1) := by decide +kernel
theorem dX4_arrival_90 : decode cX4_arrival 90 = .ok (.getfield 76, 3) := by decide +kernel
theorem dX4_arrival_93 : decode cX4_arrival 93 = .ok (.iconst 1, 1) := by decide +kernel
theorem dX4_arrival_94 : decode cX4_arrival 94 = .ok (.iadd, 1) := by decide +kernel
theorem dX4_arrival_95 : decode cX4_arrival 95 = .ok (.putfield 76, 3) := by decide +kernel
theorem dX4_arrival_98 : decode cX4_arrival 98 = .ok (.iconst 1, 1) := by decide +kernel
theorem dX4_arrival_99 : decode cX4_arrival 99 = .ok (.istore 4, 2) := by decide +kernel
theorem dX4_arrival_101 : decode cX4_arrival 101 = .ok (.aload_n 0, 1) := by decide +kernel
theorem dX4_arrival_102 : decode cX4_arrival 102 = .ok (.bipush 42, 2) := by decide +kernel
theorem dX4_arrival_104 : decode cX4_arrival 104 = .ok (.bipush 42, 2) := by decide +kernel
theorem dX4_arrival_106 : decode cX4_arrival 106 = .ok (.invokevirtual 82, 3) := by decide +kernel
theorem dX4_arrival_109 : decode cX4_arrival 109 = .ok (.ifCond .eq 51, 3) := by decide +kernel
theorem dX4_arrival_112 : decode cX4_arrival 112 = .ok (.aload_n 0, 1) := by decide +kernel
theorem dX4_arrival_113 : decode cX4_arrival 113 = .ok (.dup, 1) := by decide +kernel
theorem dX4_arrival_114 : decode cX4_arrival 114 = .ok (.getfield 76, 3) := by decide +kernel
theorem dX4_arrival_117 : decode cX4_arrival 117 = .ok (.iconst 1, 1) := by decide +kernel
theorem dX4_arrival_118 : decode cX4_arrival 118 = .ok (.iadd, 1) := by decide +kernel
theorem dX4_arrival_119 : decode cX4_arrival 119 = .ok (.putfield 76, 3) := by decide +kernel
theorem dX4_arrival_122 : decode cX4_arrival 122 = .ok (.aload_n 0, 1) := by decide +kernel
theorem dX4_arrival_123 : decode cX4_arrival 123 = .ok (.bipush 49, 2) := by decide +kernel
theorem dX4_arrival_125 : decode cX4_arrival 125 = .ok (.bipush 57, 2) := by decide +kernel
theorem dX4_arrival_127 : decode cX4_arrival 127 = .ok (.invokevirtual 82, 3) := by decide +kernel
theorem dX4_arrival_130 : decode cX4_arrival 130 = .ok (.ifCond .ne 6, 3) := by decide +kernel
theorem dX4_arrival_133 : decode cX4_arrival 133 = .ok (.bipush (-100), 2) := by decide +kernel
theorem dX4_arrival_135 : decode cX4_arrival 135 = .ok (.ireturn, 1) := by decide +kernel
theorem dX4_arrival_136 : decode cX4_arrival 136 = .ok (.aload_n 0, 1) := by decide +kernel
theorem dX4_arrival_137 : decode cX4_arrival 137 = .ok (.getfield 22, 3) := by decide +kernel
theorem dX4_arrival_140 : decode cX4_arrival 140 = .ok (.aload_n 0, 1) := by decide +kernel
theorem dX4_arrival_141 : decode cX4_arrival 141 = .ok (.getfield 76, 3) := by decide +kernel
theorem dX4_arrival_144 : decode cX4_arrival 144 = .ok (.caload, 1) := by decide +kernel
theorem dX4_arrival_145 : decode cX4_arrival 145 = .ok (.bipush 48, 2) := by decide +kernel
theorem dX4_arrival_147 : decode cX4_arrival 147 = .ok (.isub, 1) := by decide +kernel
theorem dX4_arrival_148 : decode cX4_arrival 148 = .ok (.istore 4, 2) := by decide +kernel
theorem dX4_arrival_150 : decode cX4_arrival 150 = .ok (.aload_n 0, 1) := by decide +kernel
theorem dX4_arrival_151 : decode cX4_arrival 151 = .ok (.dup, 1) := by decide +kernel
theorem dX4_arrival_152 : decode cX4_arrival 152 = .ok (.getfield 76, 3) := by decide +kernel
theorem dX4_arrival_155 : decode cX4_arrival 155 = .ok (.iconst 1, 1) := by decide +kernel
theorem dX4_arrival_156 : decode cX4_arrival 156 = .ok (.iadd, 1) := by decide +kernel
theorem dX4_arrival_157 : decode cX4_arrival 157 = .ok (.putfield 76, 3) := by decide +kernel
theorem dX4_arrival_160 : decode cX4_arrival 160 = .ok (.iload_n 1, 1) := by decide +kernel
theorem dX4_arrival_161 : decode cX4_arrival 161 = .ok (.ifCond .eq 20, 3) := by decide +kernel
theorem dX4_arrival_164 : decode cX4_arrival 164 = .ok (.aload_n 0, 1) := by decide +kernel
theorem dX4_arrival_165 : decode cX4_arrival 165 = .ok (.iload_n 2, 1) := by decide +kernel
theorem dX4_arrival_166 : decode cX4_arrival 166 = .ok (.iconst 0, 1) := by decide +kernel
theorem dX4_arrival_167 : decode cX4_arrival 167 = .ok (.invokevirtual 69, 3) := by decide +kernel
theorem dX4_arrival_170 : decode cX4_arrival 170 = .ok (.iload 4, 2) := by decide +kernel
theorem dX4_arrival_172 : decode cX4_arrival 172 = .ok (.iadd, 1) := by decide +kernel
theorem dX4_arrival_173 : decode cX4_arrival 173 = .ok (.bipush 8, 2) := by decide +kernel
theorem dX4_arrival_175 : decode cX4_arrival 175 = .ok (.if_icmp .le 6, 3) := by decide +kernel
theorem dX4_arrival_178 : decode cX4_arrival 178 = .ok (.bipush (-3), 2) := by decide +kernel
theorem dX4_arrival_180 : decode cX4_arrival 180 = .ok (.ireturn, 1) := by decide +kernel
theorem dX4_arrival_181 : decode cX4_arrival 181 = .ok (.iconst 0, 1) := by decide +kernel
theorem dX4_arrival_182 : decode cX4_arrival 182 = .ok (.istore 5, 2) := by decide +kernel
theorem dX4_arrival_184 : decode cX4_arrival 184 = .ok (.iload 5, 2) := by decide +kernel
theorem dX4_arrival_186 : decode cX4_arrival 186 = .ok (.iload 4, 2) := by decide +kernel
theorem dX4_arrival_188 : decode cX4_arrival 188 = .ok (.if_icmp .ge 19, 3) := by decide +kernel
theorem dX4_arrival_191 : decode cX4_arrival 191 = .ok (.iload_n 1, 1) := by decide +kernel
theorem dX4_arrival_192 : decode cX4_arrival 192 = .ok (.ifCond .eq 15, 3) := by decide +kernel
theorem dX4_arrival_195 : decode cX4_arrival 195 = .ok (.aload_n 0, 1) := by decide +kernel
theorem dX4_arrival_196 : decode cX4_arrival 196 = .ok (.iload_n 2, 1) := by decide +kernel
theorem dX4_arrival_197 : decode cX4_arrival 197 = .ok (.iload_n 3, 1) := by decide +kernel
theorem dX4_arrival_198 : decode cX4_arrival 198 = .ok (.invokevirtual 72, 3) := by decide +kernel
theorem dX4_arrival_201 : decode cX4_arrival 201 = .ok (.iinc 5 1, 3) := by decide +kernel
theorem dX4_arrival_204 : decode cX4_arrival 204 = .ok (.goto (-20), 3) := by decide +kernel
theorem dX4_arrival_207 : decode cX4_arrival 207 = .ok (.iload 4, 2) := by decide +kernel
theorem dX4_arrival_209 : decode cX4_arrival 209 = .ok (.ireturn, 1) := by decide +kernel
theorem dX4_arrivals_0 : decode cX4_arrivals 0 = .ok (.aload_n 0, 1) := by decide +kernel
theorem dX4_arrivals_1 : decode cX4_arrivals 1 = .ok (.iconst 0, 1) := by decide +kernel
theorem dX4_arrivals_2 : decode cX4_arrivals 2 = .ok (.putfield 76, 3) := by decide +kernel
theorem dX4_arrivals_5 : decode cX4_arrivals 5 = .ok (.iconst 0, 1) := by decide +kernel
theorem dX4_arrivals_6 : decode cX4_arrivals 6 = .ok (.istore_n 2, 1) := by decide +kernel
theorem dX4_arrivals_7 : decode cX4_arrivals 7 = .ok (.iconst 1, 1) := by decide +kernel
theorem dX4_arrivals_8 : decode cX4_arrivals 8 = .ok (.istore_n 3, 1) := by decide +kernel
theorem dX4_arrivals_9 : decode cX4_arrivals 9 = .ok (.iload_n 3, 1) := by decide +kernel
theorem dX4_arrivals_10 : decode cX4_arrivals 10 = .ok (.ifCond .eq 53, 3) := by decide +kernel
theorem dX4_arrivals_13 : decode cX4_arrivals 13 = .ok (.aload_n 0, 1) := by decide +kernel
theorem dX4_arrivals_14 : decode cX4_arrivals 14 = .ok (.iload_n 1, 1) := by decide +kernel
theorem dX4_arrivals_15 : decode cX4_arrivals 15 = .ok (.invokevirtual 86, 3) := by decide +kernel
theorem dX4_arrivals_18 : decode cX4_arrivals 18 = .ok (.istore 4, 2) := by decide +kernel
theorem dX4_arrivals_20 : decode cX4_arrivals 20 = .ok (.iload 4, 2) := by decide +kernel
theorem dX4_arrivals_22 : decode cX4_arrivals 22 = .ok (.ifCond .ge 6, 3) := by decide +kernel
theorem dX4_arrivals_25 : decode cX4_arrivals 25 = .ok (.iload 4, 2) := by decide +kernel
theorem dX4_arrivals_27 : decode cX4_arrivals 27 = .ok (.ireturn, 1) := by decide +kernel
theorem dX4_arrivals_28 : decode cX4_arrivals 28 = .ok (.iload_n 2, 1) := by decide +kernel
theorem dX4_arrivals_29 : decode cX4_arrivals 29 = .ok (.iload 4, 2) := by decide +kernel
theorem dX4_arrivals_31 : decode cX4_arrivals 31 = .ok (.iadd, 1) := by decide +kernel
theorem dX4_arrivals_32 : decode cX4_arrivals 32 = .ok (.istore_n 2, 1) := by decide +kernel
theorem dX4_arrivals_33 : decode cX4_arrivals 33 = .ok (.aload_n 0, 1) := by decide +kernel
theorem dX4_arrivals_34 : decode cX4_arrivals 34 = .ok (.bipush 44, 2) := by decide +kernel
theorem dX4_arrivals_36 : decode cX4_arrivals 36 = .ok (.bipush 44, 2) := by decide +kernel
theorem dX4_arrivals_38 : decode cX4_arrivals 38 = .ok (.invokevirtual 82, 3) := by decide +kernel
theorem dX4_arrivals_41 : decode cX4_arrivals 41 = .ok (.istore_n 3, 1) := by decide +kernel
theorem dX4_arrivals_42 : decode cX4_arrivals 42 = .ok (.aload_n 0, 1) := by decide +kernel
theorem dX4_arrivals_43 : decode cX4_arrivals 43 = .ok (.dup, 1) := by decide +kernel
theorem dX4_arrivals_44 : decode cX4_arrivals 44 = .ok (.getfield 76, 3) := by decide +kernel
theorem dX4_arrivals_47 : decode cX4_arrivals 47 = .ok (.iload_n 3, 1) := by decide +kernel
theorem dX4_arrivals_48 : decode cX4_arrivals 48 = .ok (.ifCond .eq 7, 3) := by decide +kernel
theorem dX4_arrivals_51 : decode cX4_arrivals 51 = .ok (.iconst 1, 1) := by decide +kernel
theorem dX4_arrivals_52 : decode cX4_arrivals 52 = .ok (.goto 4, 3) := by decide +kernel
theorem dX4_arrivals_55 : decode cX4_arrivals 55 = .ok (.iconst 0, 1) := by decide +kernel
theorem dX4_arrivals_56 : decode cX4_arrivals 56 = .ok (.iadd, 1) := by decide +kernel
theorem dX4_arrivals_57 : decode cX4_arrivals 57 = .ok (.putfield 76, 3) := by decide +kernel
theorem dX4_arrivals_60 : decode cX4_arrivals 60 = .ok (.goto (-51), 3) := by decide +kernel
theorem dX4_arrivals_63 : decode cX4_arrivals 63 = .ok (.aload_n 0, 1) := by decide +kernel
theorem dX4_arrivals_64 : decode cX4_arrivals 64 = .ok (.getfield 76, 3) := by decide +kernel
theorem dX4_arrivals_67 : decode cX4_arrivals 67 = .ok (.aload_n 0, 1) := by decide +kernel
theorem dX4_arrivals_68 : decode cX4_arrivals 68 = .ok (.getfield 79, 3) := by decide +kernel
theorem dX4_arrivals_71 : decode cX4_arrivals 71 = .ok (.if_icmp .ge 8, 3) := by decide +kernel
theorem dX4_arrivals_74 : decode cX4_arrivals 74 = .ok (.bipush (-100), 2) := by decide +kernel
theorem dX4_arrivals_76 : decode cX4_arrivals 76 = .ok (.goto 4, 3) := by decide +kernel
theorem dX4_arrivals_79 : decode cX4_arrivals 79 = .ok (.iload_n 2, 1) := by decide +kernel
theorem dX4_arrivals_80 : decode cX4_arrivals 80 = .ok (.ireturn, 1) := by decide +kernel
theorem dX4_readArrivals_0 : decode cX4_readArrivals 0 = .ok (.aload_n 0, 1) := by decide +kernel
theorem dX4_readArrivals_1 : decode cX4_readArrivals 1 = .ok (.iconst 0, 1) := by decide +kernel
theorem dX4_readArrivals_2 : decode cX4_readArrivals 2 = .ok (.invokevirtual 90, 3) := by decide +kernel
theorem dX4_readArrivals_5 : decode cX4_readArrivals 5 = .ok (.ifCond .ge 11, 3) := by decide +kernel
theorem dX4_readArrivals_8 : decode cX4_readArrivals 8 = .ok (.bipush (-100), 2) := by decide +kernel
theorem dX4_readArrivals_10 : decode cX4_readArrivals 10 = .ok (.aload_n 0, 1) := by decide +kernel
theorem dX4_readArrivals_11 : decode cX4_readArrivals 11 = .ok (.getfield 76, 3) := by decide +kernel
theorem dX4_readArrivals_14 : decode cX4_readArrivals 14 = .ok (.isub, 1) := by decide +kernel
theorem dX4_readArrivals_15 : decode cX4_readArrivals 15 = .ok (.ireturn, 1) := by decide +kernel
theorem dX4_readArrivals_16 : decode cX4_readArrivals 16 = .ok (.aload_n 0, 1) := by decide +kernel
theorem dX4_readArrivals_17 : decode cX4_readArrivals 17 = .ok (.invokevirtual 45, 3) := by decide +kernel
theorem dX4_readArrivals_20 : decode cX4_readArrivals 20 = .ok (.aload_n 0, 1) := by decide +kernel
theorem dX4_readArrivals_21 : decode cX4_readArrivals 21 = .ok (.iconst 1, 1) := by decide +kernel
theorem dX4_readArrivals_22 : decode cX4_readArrivals 22 = .ok (.invokevirtual 90, 3) := by decide +kernel
theorem dX4_readArrivals_25 : decode cX4_readArrivals 25 = .ok (.istore_n 1, 1) := by decide +kernel
theorem dX4_readArrivals_26 : decode cX4_readArrivals 26 = .ok (.iload_n 1, 1) := by decide +kernel
theorem dX4_readArrivals_27 : decode cX4_readArrivals 27 = .ok (.ifCond .ge 9, 3) := by decide +kernel
theorem dX4_readArrivals_30 : decode cX4_readArrivals 30 = .ok (.aload_n 0, 1) := by decide +kernel
theorem dX4_readArrivals_31 : decode cX4_readArrivals 31 = .ok (.invokevirtual 93, 3) := by decide +kernel
theorem dX4_readArrivals_34 : decode cX4_readArrivals 34 = .ok (.iload_n 1, 1) := by decide +kernel
theorem dX4_readArrivals_35 : decode cX4_readArrivals 35 = .ok (.ireturn, 1) := by decide +kernel
theorem dX4_readArrivals_36 : decode cX4_readArrivals 36 = .ok (.aload_n 0, 1) := by decide +kernel
theorem dX4_readArrivals_37 : decode cX4_readArrivals 37 = .ok (.invokevirtual 48, 3) := by decide +kernel
theorem dX4_readArrivals_40 : decode cX4_readArrivals 40 = .ok (.iload_n 1, 1) := by decide +kernel
theorem dX4_readArrivals_41 : decode cX4_readArrivals 41 = .ok (.ireturn, 1) := by decide +kernel
theorem dX4_missing_0 : decode cX4_missing 0 = .ok (.aload_n 0, 1) := by decide +kernel
theorem dX4_missing_1 : decode cX4_missing 1 = .ok (.iload_n 1, 1) := by decide +kernel
theorem dX4_missing_2 : decode cX4_missing 2 = .ok (.iconst 0, 1) := by decide +kernel
theorem dX4_missing_3 : decode cX4_missing 3 = .ok (.invokevirtual 62, 3) := by decide +kernel
theorem dX4_missing_6 : decode cX4_missing 6 = .ok (.aload_n 0, 1) := by decide +kernel
theorem dX4_missing_7 : decode cX4_missing 7 = .ok (.iload_n 1, 1) := by decide +kernel
theorem dX4_missing_8 : decode cX4_missing 8 = .ok (.iconst 3, 1) := by decide +kernel
theorem dX4_missing_9 : decode cX4_missing 9 = .ok (.invokevirtual 62, 3) := by decide +kernel
theorem dX4_missing_12 : decode cX4_missing 12 = .ok (.isub, 1) := by decide +kernel
theorem dX4_missing_13 : decode cX4_missing 13 = .ok (.aload_n 0, 1) := by decide +kernel
theorem dX4_missing_14 : decode cX4_missing 14 = .ok (.iload_n 1, 1) := by decide +kernel
theorem dX4_missing_15 : decode cX4_missing 15 = .ok (.bipush 9, 2) := by decide +kernel
theorem dX4_missing_17 : decode cX4_missing 17 = .ok (.invokevirtual 62, 3) := by decide +kernel
theorem dX4_missing_20 : decode cX4_missing 20 = .ok (.isub, 1) := by decide +kernel
theorem dX4_missing_21 : decode cX4_missing 21 = .ok (.aload_n 0, 1) := by decide +kernel
theorem dX4_missing_22 : decode cX4_missing 22 = .ok (.iload_n 1, 1) := by decide +kernel
theorem dX4_missing_23 : decode cX4_missing 23 = .ok (.bipush 10, 2) := by decide +kernel
theorem dX4_missing_25 : decode cX4_missing 25 = .ok (.invokevirtual 62, 3) := by decide +kernel
theorem dX4_missing_28 : decode cX4_missing 28 = .ok (.isub, 1) := by decide +kernel
theorem dX4_missing_29 : decode cX4_missing 29 = .ok (.ireturn, 1) := by decide +kernel
theorem dX4_come_0 : decode cX4_come 0 = .ok (.aload_n 0, 1) := by decide +kernel
theorem dX4_come_1 : decode cX4_come 1 = .ok (.iload_n 1, 1) := by decide +kernel
theorem dX4_come_2 : decode cX4_come 2 = .ok (.bipush 10, 2) := by decide +kernel
theorem dX4_come_4 : decode cX4_come 4 = .ok (.invokevirtual 62, 3) := by decide +kernel
theorem dX4_come_7 : decode cX4_come 7 = .ok (.ifCond .le 34, 3) := by decide +kernel
theorem dX4_come_10 : decode cX4_come 10 = .ok (.aload_n 0, 1) := by decide +kernel
theorem dX4_come_11 : decode cX4_come 11 = .ok (.iload_n 1, 1) := by decide +kernel
theorem dX4_come_12 : decode cX4_come 12 = .ok (.bipush 19, 2) := by decide +kernel
theorem dX4_come_14 : decode cX4_come 14 = .ok (.invokevirtual 62, 3) := by decide +kernel
theorem dX4_come_17 : decode cX4_come 17 = .ok (.aload_n 0, 1) := by decide +kernel
theorem dX4_come_18 : decode cX4_come 18 = .ok (.getfield 7, 3) := by decide +kernel
theorem dX4_come_21 : decode cX4_come 21 = .ok (.iconst 0, 1) := by decide +kernel
theorem dX4_come_22 : decode cX4_come 22 = .ok (.iaload, 1) := by decide +kernel
theorem dX4_come_23 : decode cX4_come 23 = .ok (.if_icmp .gt 18, 3) := by decide +kernel
theorem dX4_come_26 : decode cX4_come 26 = .ok (.aload_n 0, 1) := by decide +kernel
theorem dX4_come_27 : decode cX4_come 27 = .ok (.iload_n 1, 1) := by decide +kernel
theorem dX4_come_28 : decode cX4_come 28 = .ok (.invokevirtual 96, 3) := by decide +kernel
theorem dX4_come_31 : decode cX4_come 31 = .ok (.aload_n 0, 1) := by decide +kernel
theorem dX4_come_32 : decode cX4_come 32 = .ok (.iload_n 1, 1) := by decide +kernel
theorem dX4_come_33 : decode cX4_come 33 = .ok (.iconst 3, 1) := by decide +kernel
theorem dX4_come_34 : decode cX4_come 34 = .ok (.iconst 1, 1) := by decide +kernel
theorem dX4_come_35 : decode cX4_come 35 = .ok (.invokevirtual 66, 3) := by decide +kernel
theorem dX4_come_38 : decode cX4_come 38 = .ok (.goto (-38), 3) := by decide +kernel
theorem dX4_come_41 : decode cX4_come 41 = .ok (.return_, 1) := by decide +kernel
theorem dX4_dropFirst_0 : decode cX4_dropFirst 0 = .ok (.aload_n 0, 1) := by decide +kernel
theorem dX4_dropFirst_1 : decode cX4_dropFirst 1 = .ok (.iload_n 1, 1) := by decide +kernel
theorem dX4_dropFirst_2 : decode cX4_dropFirst 2 = .ok (.bipush 10, 2) := by decide +kernel
theorem dX4_dropFirst_4 : decode cX4_dropFirst 4 = .ok (.iconst (-1), 1) := by decide +kernel
theorem dX4_dropFirst_5 : decode cX4_dropFirst 5 = .ok (.invokevirtual 66, 3) := by decide +kernel
theorem dX4_dropFirst_8 : decode cX4_dropFirst 8 = .ok (.iconst 0, 1) := by decide +kernel
theorem dX4_dropFirst_9 : decode cX4_dropFirst 9 = .ok (.istore_n 2, 1) := by decide +kernel
theorem dX4_dropFirst_10 : decode cX4_dropFirst 10 = .ok (.iload_n 2, 1) := by decide +kernel
theorem dX4_dropFirst_11 : decode cX4_dropFirst 11 = .ok (.aload_n 0, 1) := by decide +kernel
theorem dX4_dropFirst_12 : decode cX4_dropFirst 12 = .ok (.iload_n 1, 1) := by decide +kernel
theorem dX4_dropFirst_13 : decode cX4_dropFirst 13 = .ok (.bipush 10, 2) := by decide +kernel
theorem dX4_dropFirst_15 : decode cX4_dropFirst 15 = .ok (.invokevirtual 62, 3) := by decide +kernel
theorem dX4_dropFirst_18 : decode cX4_dropFirst 18 = .ok (.if_icmp .ge 29, 3) := by decide +kernel
theorem dX4_dropFirst_21 : decode cX4_dropFirst 21 = .ok (.aload_n 0, 1) := by decide +kernel
theorem dX4_dropFirst_22 : decode cX4_dropFirst 22 = .ok (.iload_n 1, 1) := by decide +kernel
theorem dX4_dropFirst_23 : decode cX4_dropFirst 23 = .ok (.bipush 19, 2) := by decide +kernel
theorem dX4_dropFirst_25 : decode cX4_dropFirst 25 = .ok (.iload_n 2, 1) := by decide +kernel
theorem dX4_dropFirst_26 : decode cX4_dropFirst 26 = .ok (.iadd, 1) := by decide +kernel
theorem dX4_dropFirst_27 : decode cX4_dropFirst 27 = .ok (.aload_n 0, 1) := by decide +kernel
theorem dX4_dropFirst_28 : decode cX4_dropFirst 28 = .ok (.iload_n 1, 1) := by decide +kernel
theorem dX4_dropFirst_29 : decode cX4_dropFirst 29 = .ok (.bipush 19, 2) := by decide +kernel
theorem dX4_dropFirst_31 : decode cX4_dropFirst 31 = .ok (.iload_n 2, 1) := by decide +kernel
theorem dX4_dropFirst_32 : decode cX4_dropFirst 32 = .ok (.iadd, 1) := by decide +kernel
theorem dX4_dropFirst_33 : decode cX4_dropFirst 33 = .ok (.iconst 1, 1) := by decide +kernel
theorem dX4_dropFirst_34 : decode cX4_dropFirst 34 = .ok (.iadd, 1) := by decide +kernel
theorem dX4_dropFirst_35 : decode cX4_dropFirst 35 = .ok (.invokevirtual 62, 3) := by decide +kernel
theorem dX4_dropFirst_38 : decode cX4_dropFirst 38 = .ok (.invokevirtual 33, 3) := by decide +kernel
theorem dX4_dropFirst_41 : decode cX4_dropFirst 41 = .ok (.iinc 2 1, 3) := by decide +kernel
theorem dX4_dropFirst_44 : decode cX4_dropFirst 44 = .ok (.goto (-34), 3) := by decide +kernel
theorem dX4_dropFirst_47 : decode cX4_dropFirst 47 = .ok (.aload_n 0, 1) := by decide +kernel
theorem dX4_dropFirst_48 : decode cX4_dropFirst 48 = .ok (.iload_n 1, 1) := by decide +kernel
theorem dX4_dropFirst_49 : decode cX4_dropFirst 49 = .ok (.bipush 19, 2) := by decide +kernel
theorem dX4_dropFirst_51 : decode cX4_dropFirst 51 = .ok (.aload_n 0, 1) := by decide +kernel
theorem dX4_dropFirst_52 : decode cX4_dropFirst 52 = .ok (.iload_n 1, 1) := by decide +kernel
theorem dX4_dropFirst_53 : decode cX4_dropFirst 53 = .ok (.bipush 10, 2) := by decide +kernel
theorem dX4_dropFirst_55 : decode cX4_dropFirst 55 = .ok (.invokevirtual 62, 3) := by decide +kernel
theorem dX4_dropFirst_58 : decode cX4_dropFirst 58 = .ok (.iadd, 1) := by decide +kernel
theorem dX4_dropFirst_59 : decode cX4_dropFirst 59 = .ok (.iconst 0, 1) := by decide +kernel
theorem dX4_dropFirst_60 : decode cX4_dropFirst 60 = .ok (.invokevirtual 33, 3) := by decide +kernel
theorem dX4_dropFirst_63 : decode cX4_dropFirst 63 = .ok (.return_, 1) := by decide +kernel
theorem dX4_offer_0 : decode cX4_offer 0 = .ok (.aload_n 0, 1) := by decide +kernel
theorem dX4_offer_1 : decode cX4_offer 1 = .ok (.getfield 26, 3) := by decide +kernel
theorem dX4_offer_4 : decode cX4_offer 4 = .ok (.iload_n 1, 1) := by decide +kernel
theorem dX4_offer_5 : decode cX4_offer 5 = .ok (.baload, 1) := by decide +kernel
theorem dX4_offer_6 : decode cX4_offer 6 = .ok (.ifCond .eq 6, 3) := by decide +kernel
theorem dX4_offer_9 : decode cX4_offer 9 = .ok (.bipush (-5), 2) := by decide +kernel
theorem dX4_offer_11 : decode cX4_offer 11 = .ok (.ireturn, 1) := by decide +kernel
theorem dX4_offer_12 : decode cX4_offer 12 = .ok (.aload_n 0, 1) := by decide +kernel
theorem dX4_offer_13 : decode cX4_offer 13 = .ok (.getfield 7, 3) := by decide +kernel
theorem dX4_offer_16 : decode cX4_offer 16 = .ok (.iconst 1, 1) := by decide +kernel
theorem dX4_offer_17 : decode cX4_offer 17 = .ok (.iaload, 1) := by decide +kernel
theorem dX4_offer_18 : decode cX4_offer 18 = .ok (.iconst 1, 1) := by decide +kernel
theorem dX4_offer_19 : decode cX4_offer 19 = .ok (.if_icmp .ne 12, 3) := by decide +kernel
theorem dX4_offer_22 : decode cX4_offer 22 = .ok (.aload_n 0, 1) := by decide +kernel
theorem dX4_offer_23 : decode cX4_offer 23 = .ok (.iload_n 1, 1) := by decide +kernel
theorem dX4_offer_24 : decode cX4_offer 24 = .ok (.iconst 0, 1) := by decide +kernel
theorem dX4_offer_25 : decode cX4_offer 25 = .ok (.invokevirtual 69, 3) := by decide +kernel
theorem dX4_offer_28 : decode cX4_offer 28 = .ok (.goto 18, 3) := by decide +kernel
theorem dX4_offer_31 : decode cX4_offer 31 = .ok (.aload_n 0, 1) := by decide +kernel
theorem dX4_offer_32 : decode cX4_offer 32 = .ok (.iload_n 1, 1) := by decide +kernel
theorem dX4_offer_33 : decode cX4_offer 33 = .ok (.iconst 0, 1) := by decide +kernel
theorem dX4_offer_34 : decode cX4_offer 34 = .ok (.invokevirtual 69, 3) := by decide +kernel
theorem dX4_offer_37 : decode cX4_offer 37 = .ok (.iconst 1, 1) := by decide +kernel
theorem dX4_offer_38 : decode cX4_offer 38 = .ok (.if_icmp .ge 7, 3) := by decide +kernel
theorem dX4_offer_41 : decode cX4_offer 41 = .ok (.iconst 0, 1) := by decide +kernel
theorem dX4_offer_42 : decode cX4_offer 42 = .ok (.goto 4, 3) := by decide +kernel
theorem dX4_offer_45 : decode cX4_offer 45 = .ok (.iconst 1, 1) := by decide +kernel
theorem dX4_offer_46 : decode cX4_offer 46 = .ok (.istore_n 3, 1) := by decide +kernel
theorem dX4_offer_47 : decode cX4_offer 47 = .ok (.iconst 0, 1) := by decide +kernel
theorem dX4_offer_48 : decode cX4_offer 48 = .ok (.istore 4, 2) := by decide +kernel
theorem dX4_offer_50 : decode cX4_offer 50 = .ok (.iload 4, 2) := by decide +kernel
theorem dX4_offer_52 : decode cX4_offer 52 = .ok (.iload_n 3, 1) := by decide +kernel
theorem dX4_offer_53 : decode cX4_offer 53 = .ok (.if_icmp .ge 29, 3) := by decide +kernel
theorem dX4_offer_56 : decode cX4_offer 56 = .ok (.aload_n 0, 1) := by decide +kernel
theorem dX4_offer_57 : decode cX4_offer 57 = .ok (.iload_n 1, 1) := by decide +kernel
theorem dX4_offer_58 : decode cX4_offer 58 = .ok (.iconst 3, 1) := by decide +kernel
theorem dX4_offer_59 : decode cX4_offer 59 = .ok (.iconst 3, 1) := by decide +kernel
theorem dX4_offer_60 : decode cX4_offer 60 = .ok (.iload 4, 2) := by decide +kernel
theorem dX4_offer_62 : decode cX4_offer 62 = .ok (.imul, 1) := by decide +kernel
theorem dX4_offer_63 : decode cX4_offer 63 = .ok (.iadd, 1) := by decide +kernel
theorem dX4_offer_64 : decode cX4_offer 64 = .ok (.iconst 1, 1) := by decide +kernel
theorem dX4_offer_65 : decode cX4_offer 65 = .ok (.iadd, 1) := by decide +kernel
theorem dX4_offer_66 : decode cX4_offer 66 = .ok (.invokevirtual 69, 3) := by decide +kernel
theorem dX4_offer_69 : decode cX4_offer 69 = .ok (.iload_n 2, 1) := by decide +kernel
theorem dX4_offer_70 : decode cX4_offer 70 = .ok (.if_icmp .ne 6, 3) := by decide +kernel
theorem dX4_offer_73 : decode cX4_offer 73 = .ok (.iload 4, 2) := by decide +kernel
theorem dX4_offer_75 : decode cX4_offer 75 = .ok (.ireturn, 1) := by decide +kernel
theorem dX4_offer_76 : decode cX4_offer 76 = .ok (.iinc 4 1, 3) := by decide +kernel
theorem dX4_offer_79 : decode cX4_offer 79 = .ok (.goto (-29), 3) := by decide +kernel
theorem dX4_offer_82 : decode cX4_offer 82 = .ok (.bipush (-5), 2) := by decide +kernel
theorem dX4_offer_84 : decode cX4_offer 84 = .ok (.ireturn, 1) := by decide +kernel
theorem dX4_leave_0 : decode cX4_leave 0 = .ok (.bipush 124, 2) := by decide +kernel
theorem dX4_leave_2 : decode cX4_leave 2 = .ok (.bipush 27, 2) := by decide +kernel
theorem dX4_leave_4 : decode cX4_leave 4 = .ok (.iload_n 1, 1) := by decide +kernel
theorem dX4_leave_5 : decode cX4_leave 5 = .ok (.imul, 1) := by decide +kernel
theorem dX4_leave_6 : decode cX4_leave 6 = .ok (.iadd, 1) := by decide +kernel
theorem dX4_leave_7 : decode cX4_leave 7 = .ok (.istore_n 3, 1) := by decide +kernel
theorem dX4_leave_8 : decode cX4_leave 8 = .ok (.aload_n 0, 1) := by decide +kernel
theorem dX4_leave_9 : decode cX4_leave 9 = .ok (.getfield 7, 3) := by decide +kernel
theorem dX4_leave_12 : decode cX4_leave 12 = .ok (.iload_n 3, 1) := by decide +kernel
theorem dX4_leave_13 : decode cX4_leave 13 = .ok (.iconst 3, 1) := by decide +kernel
theorem dX4_leave_14 : decode cX4_leave 14 = .ok (.iadd, 1) := by decide +kernel
theorem dX4_leave_15 : decode cX4_leave 15 = .ok (.iconst 3, 1) := by decide +kernel
theorem dX4_leave_16 : decode cX4_leave 16 = .ok (.iload_n 2, 1) := by decide +kernel
theorem dX4_leave_17 : decode cX4_leave 17 = .ok (.imul, 1) := by decide +kernel
theorem dX4_leave_18 : decode cX4_leave 18 = .ok (.iadd, 1) := by decide +kernel
theorem dX4_leave_19 : decode cX4_leave 19 = .ok (.iaload, 1) := by decide +kernel
theorem dX4_leave_20 : decode cX4_leave 20 = .ok (.istore 4, 2) := by decide +kernel
theorem dX4_leave_22 : decode cX4_leave 22 = .ok (.aload_n 0, 1) := by decide +kernel
theorem dX4_leave_23 : decode cX4_leave 23 = .ok (.getfield 7, 3) := by decide +kernel
theorem dX4_leave_26 : decode cX4_leave 26 = .ok (.iload_n 3, 1) := by decide +kernel
theorem dX4_leave_27 : decode cX4_leave 27 = .ok (.iconst 0, 1) := by decide +kernel
theorem dX4_leave_28 : decode cX4_leave 28 = .ok (.iadd, 1) := by decide +kernel
theorem dX4_leave_29 : decode cX4_leave 29 = .ok (.dup2, 1) := by decide +kernel
theorem dX4_leave_30 : decode cX4_leave 30 = .ok (.iaload, 1) := by decide +kernel
theorem dX4_leave_31 : decode cX4_leave 31 = .ok (.iconst 1, 1) := by decide +kernel
theorem dX4_leave_32 : decode cX4_leave 32 = .ok (.isub, 1) := by decide +kernel
theorem dX4_leave_33 : decode cX4_leave 33 = .ok (.iastore, 1) := by decide +kernel
theorem dX4_leave_34 : decode cX4_leave 34 = .ok (.iconst 3, 1) := by decide +kernel
theorem dX4_leave_35 : decode cX4_leave 35 = .ok (.iconst 3, 1) := by decide +kernel
theorem dX4_leave_36 : decode cX4_leave 36 = .ok (.iload_n 2, 1) := by decide +kernel
theorem dX4_leave_37 : decode cX4_leave 37 = .ok (.imul, 1) := by decide +kernel
theorem dX4_leave_38 : decode cX4_leave 38 = .ok (.iadd, 1) := by decide +kernel
theorem dX4_leave_39 : decode cX4_leave 39 = .ok (.istore 5, 2) := by decide +kernel
theorem dX4_leave_41 : decode cX4_leave 41 = .ok (.iload 5, 2) := by decide +kernel
theorem dX4_leave_43 : decode cX4_leave 43 = .ok (.iconst 3, 1) := by decide +kernel
theorem dX4_leave_44 : decode cX4_leave 44 = .ok (.iconst 3, 1) := by decide +kernel
theorem dX4_leave_45 : decode cX4_leave 45 = .ok (.aload_n 0, 1) := by decide +kernel
theorem dX4_leave_46 : decode cX4_leave 46 = .ok (.getfield 7, 3) := by decide +kernel
theorem dX4_leave_49 : decode cX4_leave 49 = .ok (.iload_n 3, 1) := by decide +kernel
theorem dX4_leave_50 : decode cX4_leave 50 = .ok (.iconst 0, 1) := by decide +kernel
theorem dX4_leave_51 : decode cX4_leave 51 = .ok (.iadd, 1) := by decide +kernel
theorem dX4_leave_52 : decode cX4_leave 52 = .ok (.iaload, 1) := by decide +kernel
theorem dX4_leave_53 : decode cX4_leave 53 = .ok (.imul, 1) := by decide +kernel
theorem dX4_leave_54 : decode cX4_leave 54 = .ok (.iadd, 1) := by decide +kernel
theorem dX4_leave_55 : decode cX4_leave 55 = .ok (.if_icmp .ge 29, 3) := by decide +kernel
theorem dX4_leave_58 : decode cX4_leave 58 = .ok (.aload_n 0, 1) := by decide +kernel
theorem dX4_leave_59 : decode cX4_leave 59 = .ok (.getfield 7, 3) := by decide +kernel
theorem dX4_leave_62 : decode cX4_leave 62 = .ok (.iload_n 3, 1) := by decide +kernel
theorem dX4_leave_63 : decode cX4_leave 63 = .ok (.iload 5, 2) := by decide +kernel
theorem dX4_leave_65 : decode cX4_leave 65 = .ok (.iadd, 1) := by decide +kernel
theorem dX4_leave_66 : decode cX4_leave 66 = .ok (.aload_n 0, 1) := by decide +kernel
theorem dX4_leave_67 : decode cX4_leave 67 = .ok (.getfield 7, 3) := by decide +kernel
theorem dX4_leave_70 : decode cX4_leave 70 = .ok (.iload_n 3, 1) := by decide +kernel
theorem dX4_leave_71 : decode cX4_leave 71 = .ok (.iload 5, 2) := by decide +kernel
theorem dX4_leave_73 : decode cX4_leave 73 = .ok (.iadd, 1) := by decide +kernel
theorem dX4_leave_74 : decode cX4_leave 74 = .ok (.iconst 3, 1) := by decide +kernel
theorem dX4_leave_75 : decode cX4_leave 75 = .ok (.iadd, 1) := by decide +kernel
theorem dX4_leave_76 : decode cX4_leave 76 = .ok (.iaload, 1) := by decide +kernel
theorem dX4_leave_77 : decode cX4_leave 77 = .ok (.iastore, 1) := by decide +kernel
theorem dX4_leave_78 : decode cX4_leave 78 = .ok (.iinc 5 1, 3) := by decide +kernel
theorem dX4_leave_81 : decode cX4_leave 81 = .ok (.goto (-40), 3) := by decide +kernel
theorem dX4_leave_84 : decode cX4_leave 84 = .ok (.iconst 0, 1) := by decide +kernel
theorem dX4_leave_85 : decode cX4_leave 85 = .ok (.istore 5, 2) := by decide +kernel
theorem dX4_leave_87 : decode cX4_leave 87 = .ok (.iload 5, 2) := by decide +kernel
theorem dX4_leave_89 : decode cX4_leave 89 = .ok (.iconst 3, 1) := by decide +kernel
theorem dX4_leave_90 : decode cX4_leave 90 = .ok (.if_icmp .ge 32, 3) := by decide +kernel
theorem dX4_leave_93 : decode cX4_leave 93 = .ok (.aload_n 0, 1) := by decide +kernel
theorem dX4_leave_94 : decode cX4_leave 94 = .ok (.getfield 7, 3) := by decide +kernel
theorem dX4_leave_97 : decode cX4_leave 97 = .ok (.iload_n 3, 1) := by decide +kernel
theorem dX4_leave_98 : decode cX4_leave 98 = .ok (.iconst 3, 1) := by decide +kernel
theorem dX4_leave_99 : decode cX4_leave 99 = .ok (.iadd, 1) := by decide +kernel
theorem dX4_leave_100 : decode cX4_leave 100 = .ok (.iconst 3, 1) := by decide +kernel
theorem dX4_leave_101 : decode cX4_leave 101 = .ok (.aload_n 0, 1) := by decide +kernel
theorem dX4_leave_102 : decode cX4_leave 102 = .ok (.getfield 7, 3) := by decide +kernel
theorem dX4_leave_105 : decode cX4_leave 105 = .ok (.iload_n 3, 1) := by decide +kernel
theorem dX4_leave_106 : decode cX4_leave 106 = .ok (.iconst 0, 1) := by decide +kernel
theorem dX4_leave_107 : decode cX4_leave 107 = .ok (.iadd, 1) := by decide +kernel
theorem dX4_leave_108 : decode cX4_leave 108 = .ok (.iaload, 1) := by decide +kernel
theorem dX4_leave_109 : decode cX4_leave 109 = .ok (.imul, 1) := by decide +kernel
theorem dX4_leave_110 : decode cX4_leave 110 = .ok (.iadd, 1) := by decide +kernel
theorem dX4_leave_111 : decode cX4_leave 111 = .ok (.iload 5, 2) := by decide +kernel
theorem dX4_leave_113 : decode cX4_leave 113 = .ok (.iadd, 1) := by decide +kernel
theorem dX4_leave_114 : decode cX4_leave 114 = .ok (.iconst 0, 1) := by decide +kernel
theorem dX4_leave_115 : decode cX4_leave 115 = .ok (.iastore, 1) := by decide +kernel
theorem dX4_leave_116 : decode cX4_leave 116 = .ok (.iinc 5 1, 3) := by decide +kernel
theorem dX4_leave_119 : decode cX4_leave 119 = .ok (.goto (-32), 3) := by decide +kernel
theorem dX4_leave_122 : decode cX4_leave 122 = .ok (.aload_n 0, 1) := by decide +kernel
theorem dX4_leave_123 : decode cX4_leave 123 = .ok (.getfield 7, 3) := by decide +kernel
theorem dX4_leave_126 : decode cX4_leave 126 = .ok (.iload_n 3, 1) := by decide +kernel
theorem dX4_leave_127 : decode cX4_leave 127 = .ok (.iconst 2, 1) := by decide +kernel
theorem dX4_leave_128 : decode cX4_leave 128 = .ok (.iadd, 1) := by decide +kernel
theorem dX4_leave_129 : decode cX4_leave 129 = .ok (.dup2, 1) := by decide +kernel
theorem dX4_leave_130 : decode cX4_leave 130 = .ok (.iaload, 1) := by decide +kernel
theorem dX4_leave_131 : decode cX4_leave 131 = .ok (.iconst 1, 1) := by decide +kernel
theorem dX4_leave_132 : decode cX4_leave 132 = .ok (.iadd, 1) := by decide +kernel
theorem dX4_leave_133 : decode cX4_leave 133 = .ok (.iastore, 1) := by decide +kernel
theorem dX4_leave_134 : decode cX4_leave 134 = .ok (.aload_n 0, 1) := by decide +kernel
theorem dX4_leave_135 : decode cX4_leave 135 = .ok (.getfield 26, 3) := by decide +kernel
theorem dX4_leave_138 : decode cX4_leave 138 = .ok (.iload_n 1, 1) := by decide +kernel
theorem dX4_leave_139 : decode cX4_leave 139 = .ok (.iconst 1, 1) := by decide +kernel
theorem dX4_leave_140 : decode cX4_leave 140 = .ok (.bastore, 1) := by decide +kernel
theorem dX4_leave_141 : decode cX4_leave 141 = .ok (.iload 4, 2) := by decide +kernel
theorem dX4_leave_143 : decode cX4_leave 143 = .ok (.ireturn, 1) := by decide +kernel
theorem dX4_send_0 : decode cX4_send 0 = .ok (.aload_n 0, 1) := by decide +kernel
theorem dX4_send_1 : decode cX4_send 1 = .ok (.getfield 30, 3) := by decide +kernel
theorem dX4_send_4 : decode cX4_send 4 = .ok (.iload_n 1, 1) := by decide +kernel
theorem dX4_send_5 : decode cX4_send 5 = .ok (.bipush (-5), 2) := by decide +kernel
theorem dX4_send_7 : decode cX4_send 7 = .ok (.iastore, 1) := by decide +kernel
theorem dX4_send_8 : decode cX4_send 8 = .ok (.iconst 0, 1) := by decide +kernel
theorem dX4_send_9 : decode cX4_send 9 = .ok (.istore_n 2, 1) := by decide +kernel
theorem dX4_send_10 : decode cX4_send 10 = .ok (.iload_n 2, 1) := by decide +kernel
theorem dX4_send_11 : decode cX4_send 11 = .ok (.iconst 4, 1) := by decide +kernel
theorem dX4_send_12 : decode cX4_send 12 = .ok (.if_icmp .ge 138, 3) := by decide +kernel
theorem dX4_send_15 : decode cX4_send 15 = .ok (.aload_n 0, 1) := by decide +kernel
theorem dX4_send_16 : decode cX4_send 16 = .ok (.iload_n 1, 1) := by decide +kernel
theorem dX4_send_17 : decode cX4_send 17 = .ok (.iconst 3, 1) := by decide +kernel
theorem dX4_send_18 : decode cX4_send 18 = .ok (.invokevirtual 62, 3) := by decide +kernel
theorem dX4_send_21 : decode cX4_send 21 = .ok (.ifCond .le 129, 3) := by decide +kernel
theorem dX4_send_24 : decode cX4_send 24 = .ok (.aload_n 0, 1) := by decide +kernel
theorem dX4_send_25 : decode cX4_send 25 = .ok (.iload_n 1, 1) := by decide +kernel
theorem dX4_send_26 : decode cX4_send 26 = .ok (.iconst 4, 1) := by decide +kernel
theorem dX4_send_27 : decode cX4_send 27 = .ok (.invokevirtual 62, 3) := by decide +kernel
theorem dX4_send_30 : decode cX4_send 30 = .ok (.iload_n 2, 1) := by decide +kernel
theorem dX4_send_31 : decode cX4_send 31 = .ok (.iadd, 1) := by decide +kernel
theorem dX4_send_32 : decode cX4_send 32 = .ok (.iconst 4, 1) := by decide +kernel
theorem dX4_send_33 : decode cX4_send 33 = .ok (.irem, 1) := by decide +kernel
theorem dX4_send_34 : decode cX4_send 34 = .ok (.istore_n 3, 1) := by decide +kernel
theorem dX4_send_35 : decode cX4_send 35 = .ok (.aload_n 0, 1) := by decide +kernel
theorem dX4_send_36 : decode cX4_send 36 = .ok (.iload_n 3, 1) := by decide +kernel
theorem dX4_send_37 : decode cX4_send 37 = .ok (.iload_n 1, 1) := by decide +kernel
theorem dX4_send_38 : decode cX4_send 38 = .ok (.invokevirtual 100, 3) := by decide +kernel
theorem dX4_send_41 : decode cX4_send 41 = .ok (.istore 4, 2) := by decide +kernel
theorem dX4_send_43 : decode cX4_send 43 = .ok (.iload 4, 2) := by decide +kernel
theorem dX4_send_45 : decode cX4_send 45 = .ok (.ifCond .lt 99, 3) := by decide +kernel
theorem dX4_send_48 : decode cX4_send 48 = .ok (.aload_n 0, 1) := by decide +kernel
theorem dX4_send_49 : decode cX4_send 49 = .ok (.iload_n 3, 1) := by decide +kernel
theorem dX4_send_50 : decode cX4_send 50 = .ok (.iload 4, 2) := by decide +kernel
theorem dX4_send_52 : decode cX4_send 52 = .ok (.invokevirtual 103, 3) := by decide +kernel
theorem dX4_send_55 : decode cX4_send 55 = .ok (.istore 5, 2) := by decide +kernel
theorem dX4_send_57 : decode cX4_send 57 = .ok (.aload_n 0, 1) := by decide +kernel
theorem dX4_send_58 : decode cX4_send 58 = .ok (.getfield 30, 3) := by decide +kernel
theorem dX4_send_61 : decode cX4_send 61 = .ok (.iload_n 1, 1) := by decide +kernel
theorem dX4_send_62 : decode cX4_send 62 = .ok (.iload 5, 2) := by decide +kernel
theorem dX4_send_64 : decode cX4_send 64 = .ok (.iastore, 1) := by decide +kernel
theorem dX4_send_65 : decode cX4_send 65 = .ok (.aload_n 0, 1) := by decide +kernel
theorem dX4_send_66 : decode cX4_send 66 = .ok (.iload_n 1, 1) := by decide +kernel
theorem dX4_send_67 : decode cX4_send 67 = .ok (.iconst 3, 1) := by decide +kernel
theorem dX4_send_68 : decode cX4_send 68 = .ok (.iconst (-1), 1) := by decide +kernel
theorem dX4_send_69 : decode cX4_send 69 = .ok (.invokevirtual 66, 3) := by decide +kernel
theorem dX4_send_72 : decode cX4_send 72 = .ok (.aload_n 0, 1) := by decide +kernel
theorem dX4_send_73 : decode cX4_send 73 = .ok (.iload_n 1, 1) := by decide +kernel
theorem dX4_send_74 : decode cX4_send 74 = .ok (.iconst 4, 1) := by decide +kernel
theorem dX4_send_75 : decode cX4_send 75 = .ok (.iload_n 3, 1) := by decide +kernel
theorem dX4_send_76 : decode cX4_send 76 = .ok (.iconst 1, 1) := by decide +kernel
theorem dX4_send_77 : decode cX4_send 77 = .ok (.iadd, 1) := by decide +kernel
theorem dX4_send_78 : decode cX4_send 78 = .ok (.iconst 4, 1) := by decide +kernel
theorem dX4_send_79 : decode cX4_send 79 = .ok (.irem, 1) := by decide +kernel
theorem dX4_send_80 : decode cX4_send 80 = .ok (.invokevirtual 33, 3) := by decide +kernel
theorem dX4_send_83 : decode cX4_send 83 = .ok (.aload_n 0, 1) := by decide +kernel
theorem dX4_send_84 : decode cX4_send 84 = .ok (.iload_n 1, 1) := by decide +kernel
theorem dX4_send_85 : decode cX4_send 85 = .ok (.iconst 5, 1) := by decide +kernel
theorem dX4_send_86 : decode cX4_send 86 = .ok (.iconst 1, 1) := by decide +kernel
theorem dX4_send_87 : decode cX4_send 87 = .ok (.invokevirtual 66, 3) := by decide +kernel
theorem dX4_send_90 : decode cX4_send 90 = .ok (.aload_n 0, 1) := by decide +kernel
theorem dX4_send_91 : decode cX4_send 91 = .ok (.iload_n 1, 1) := by decide +kernel
theorem dX4_send_92 : decode cX4_send 92 = .ok (.bipush 9, 2) := by decide +kernel
theorem dX4_send_94 : decode cX4_send 94 = .ok (.invokevirtual 62, 3) := by decide +kernel
theorem dX4_send_97 : decode cX4_send 97 = .ok (.aload_n 0, 1) := by decide +kernel
theorem dX4_send_98 : decode cX4_send 98 = .ok (.iload_n 1, 1) := by decide +kernel
theorem dX4_send_99 : decode cX4_send 99 = .ok (.iconst 0, 1) := by decide +kernel
theorem dX4_send_100 : decode cX4_send 100 = .ok (.invokevirtual 62, 3) := by decide +kernel
theorem dX4_send_103 : decode cX4_send 103 = .ok (.if_icmp .ge 31, 3) := by decide +kernel
theorem dX4_send_106 : decode cX4_send 106 = .ok (.aload_n 0, 1) := by decide +kernel
theorem dX4_send_107 : decode cX4_send 107 = .ok (.iload_n 1, 1) := by decide +kernel
theorem dX4_send_108 : decode cX4_send 108 = .ok (.bipush 11, 2) := by decide +kernel
theorem dX4_send_110 : decode cX4_send 110 = .ok (.aload_n 0, 1) := by decide +kernel
theorem dX4_send_111 : decode cX4_send 111 = .ok (.iload_n 1, 1) := by decide +kernel
theorem dX4_send_112 : decode cX4_send 112 = .ok (.bipush 9, 2) := by decide +kernel
theorem dX4_send_114 : decode cX4_send 114 = .ok (.invokevirtual 62, 3) := by decide +kernel
theorem dX4_send_117 : decode cX4_send 117 = .ok (.iadd, 1) := by decide +kernel
theorem dX4_send_118 : decode cX4_send 118 = .ok (.iload 5, 2) := by decide +kernel
theorem dX4_send_120 : decode cX4_send 120 = .ok (.invokevirtual 33, 3) := by decide +kernel
theorem dX4_send_123 : decode cX4_send 123 = .ok (.aload_n 0, 1) := by decide +kernel
theorem dX4_send_124 : decode cX4_send 124 = .ok (.iload_n 1, 1) := by decide +kernel
theorem dX4_send_125 : decode cX4_send 125 = .ok (.bipush 9, 2) := by decide +kernel
theorem dX4_send_127 : decode cX4_send 127 = .ok (.iconst 1, 1) := by decide +kernel
theorem dX4_send_128 : decode cX4_send 128 = .ok (.invokevirtual 66, 3) := by decide +kernel
theorem dX4_send_131 : decode cX4_send 131 = .ok (.goto 11, 3) := by decide +kernel
theorem dX4_send_134 : decode cX4_send 134 = .ok (.aload_n 0, 1) := by decide +kernel
theorem dX4_send_135 : decode cX4_send 135 = .ok (.iload_n 1, 1) := by decide +kernel
theorem dX4_send_136 : decode cX4_send 136 = .ok (.bipush 7, 2) := by decide +kernel
theorem dX4_send_138 : decode cX4_send 138 = .ok (.iconst 1, 1) := by decide +kernel
theorem dX4_send_139 : decode cX4_send 139 = .ok (.invokevirtual 66, 3) := by decide +kernel
theorem dX4_send_142 : decode cX4_send 142 = .ok (.iconst 1, 1) := by decide +kernel
theorem dX4_send_143 : decode cX4_send 143 = .ok (.ireturn, 1) := by decide +kernel
theorem dX4_send_144 : decode cX4_send 144 = .ok (.iinc 2 1, 3) := by decide +kernel
theorem dX4_send_147 : decode cX4_send 147 = .ok (.goto (-137), 3) := by decide +kernel
theorem dX4_send_150 : decode cX4_send 150 = .ok (.iconst 0, 1) := by decide +kernel
theorem dX4_send_151 : decode cX4_send 151 = .ok (.ireturn, 1) := by decide +kernel
theorem dX4_take_0 : decode cX4_take 0 = .ok (.aload_n 0, 1) := by decide +kernel
theorem dX4_take_1 : decode cX4_take 1 = .ok (.getfield 7, 3) := by decide +kernel
theorem dX4_take_4 : decode cX4_take 4 = .ok (.iconst 0, 1) := by decide +kernel
theorem dX4_take_5 : decode cX4_take 5 = .ok (.iaload, 1) := by decide +kernel
theorem dX4_take_6 : decode cX4_take 6 = .ok (.iconst 1, 1) := by decide +kernel
theorem dX4_take_7 : decode cX4_take 7 = .ok (.iadd, 1) := by decide +kernel
theorem dX4_take_8 : decode cX4_take 8 = .ok (.aload_n 0, 1) := by decide +kernel
theorem dX4_take_9 : decode cX4_take 9 = .ok (.iload_n 1, 1) := by decide +kernel
theorem dX4_take_10 : decode cX4_take 10 = .ok (.iconst 1, 1) := by decide +kernel
theorem dX4_take_11 : decode cX4_take 11 = .ok (.invokevirtual 62, 3) := by decide +kernel
theorem dX4_take_14 : decode cX4_take 14 = .ok (.irem, 1) := by decide +kernel
theorem dX4_take_15 : decode cX4_take 15 = .ok (.ifCond .ne 13, 3) := by decide +kernel
theorem dX4_take_18 : decode cX4_take 18 = .ok (.aload_n 0, 1) := by decide +kernel
theorem dX4_take_19 : decode cX4_take 19 = .ok (.iload_n 1, 1) := by decide +kernel
theorem dX4_take_20 : decode cX4_take 20 = .ok (.bipush 9, 2) := by decide +kernel
theorem dX4_take_22 : decode cX4_take 22 = .ok (.invokevirtual 62, 3) := by decide +kernel
theorem dX4_take_25 : decode cX4_take 25 = .ok (.ifCond .ne 4, 3) := by decide +kernel
theorem dX4_take_28 : decode cX4_take 28 = .ok (.return_, 1) := by decide +kernel
theorem dX4_take_29 : decode cX4_take 29 = .ok (.aload_n 0, 1) := by decide +kernel
theorem dX4_take_30 : decode cX4_take 30 = .ok (.iload_n 1, 1) := by decide +kernel
theorem dX4_take_31 : decode cX4_take 31 = .ok (.bipush 9, 2) := by decide +kernel
theorem dX4_take_33 : decode cX4_take 33 = .ok (.iconst (-1), 1) := by decide +kernel
theorem dX4_take_34 : decode cX4_take 34 = .ok (.invokevirtual 66, 3) := by decide +kernel
theorem dX4_take_37 : decode cX4_take 37 = .ok (.iconst 0, 1) := by decide +kernel
theorem dX4_take_38 : decode cX4_take 38 = .ok (.istore_n 2, 1) := by decide +kernel
theorem dX4_take_39 : decode cX4_take 39 = .ok (.iload_n 2, 1) := by decide +kernel
theorem dX4_take_40 : decode cX4_take 40 = .ok (.aload_n 0, 1) := by decide +kernel
theorem dX4_take_41 : decode cX4_take 41 = .ok (.iload_n 1, 1) := by decide +kernel
theorem dX4_take_42 : decode cX4_take 42 = .ok (.bipush 9, 2) := by decide +kernel
theorem dX4_take_44 : decode cX4_take 44 = .ok (.invokevirtual 62, 3) := by decide +kernel
theorem dX4_take_47 : decode cX4_take 47 = .ok (.if_icmp .ge 29, 3) := by decide +kernel
theorem dX4_take_50 : decode cX4_take 50 = .ok (.aload_n 0, 1) := by decide +kernel
theorem dX4_take_51 : decode cX4_take 51 = .ok (.iload_n 1, 1) := by decide +kernel
theorem dX4_take_52 : decode cX4_take 52 = .ok (.bipush 11, 2) := by decide +kernel
theorem dX4_take_54 : decode cX4_take 54 = .ok (.iload_n 2, 1) := by decide +kernel
theorem dX4_take_55 : decode cX4_take 55 = .ok (.iadd, 1) := by decide +kernel
theorem dX4_take_56 : decode cX4_take 56 = .ok (.aload_n 0, 1) := by decide +kernel
theorem dX4_take_57 : decode cX4_take 57 = .ok (.iload_n 1, 1) := by decide +kernel
theorem dX4_take_58 : decode cX4_take 58 = .ok (.bipush 11, 2) := by decide +kernel
theorem dX4_take_60 : decode cX4_take 60 = .ok (.iload_n 2, 1) := by decide +kernel
theorem dX4_take_61 : decode cX4_take 61 = .ok (.iadd, 1) := by decide +kernel
theorem dX4_take_62 : decode cX4_take 62 = .ok (.iconst 1, 1) := by decide +kernel
theorem dX4_take_63 : decode cX4_take 63 = .ok (.iadd, 1) := by decide +kernel
theorem dX4_take_64 : decode cX4_take 64 = .ok (.invokevirtual 62, 3) := by decide +kernel
theorem dX4_take_67 : decode cX4_take 67 = .ok (.invokevirtual 33, 3) := by decide +kernel
theorem dX4_take_70 : decode cX4_take 70 = .ok (.iinc 2 1, 3) := by decide +kernel
theorem dX4_take_73 : decode cX4_take 73 = .ok (.goto (-34), 3) := by decide +kernel
theorem dX4_take_76 : decode cX4_take 76 = .ok (.aload_n 0, 1) := by decide +kernel
theorem dX4_take_77 : decode cX4_take 77 = .ok (.iload_n 1, 1) := by decide +kernel
theorem dX4_take_78 : decode cX4_take 78 = .ok (.bipush 11, 2) := by decide +kernel
theorem dX4_take_80 : decode cX4_take 80 = .ok (.aload_n 0, 1) := by decide +kernel
theorem dX4_take_81 : decode cX4_take 81 = .ok (.iload_n 1, 1) := by decide +kernel
theorem dX4_take_82 : decode cX4_take 82 = .ok (.bipush 9, 2) := by decide +kernel
theorem dX4_take_84 : decode cX4_take 84 = .ok (.invokevirtual 62, 3) := by decide +kernel
theorem dX4_take_87 : decode cX4_take 87 = .ok (.iadd, 1) := by decide +kernel
theorem dX4_take_88 : decode cX4_take 88 = .ok (.iconst 0, 1) := by decide +kernel
theorem dX4_take_89 : decode cX4_take 89 = .ok (.invokevirtual 33, 3) := by decide +kernel
theorem dX4_take_92 : decode cX4_take 92 = .ok (.aload_n 0, 1) := by decide +kernel
theorem dX4_take_93 : decode cX4_take 93 = .ok (.iload_n 1, 1) := by decide +kernel
theorem dX4_take_94 : decode cX4_take 94 = .ok (.bipush 6, 2) := by decide +kernel
theorem dX4_take_96 : decode cX4_take 96 = .ok (.iconst 1, 1) := by decide +kernel
theorem dX4_take_97 : decode cX4_take 97 = .ok (.invokevirtual 66, 3) := by decide +kernel
theorem dX4_take_100 : decode cX4_take 100 = .ok (.aload_n 0, 1) := by decide +kernel
theorem dX4_take_101 : decode cX4_take 101 = .ok (.getfield 7, 3) := by decide +kernel
theorem dX4_take_104 : decode cX4_take 104 = .ok (.iconst 0, 1) := by decide +kernel
theorem dX4_take_105 : decode cX4_take 105 = .ok (.iaload, 1) := by decide +kernel
theorem dX4_take_106 : decode cX4_take 106 = .ok (.aload_n 0, 1) := by decide +kernel
theorem dX4_take_107 : decode cX4_take 107 = .ok (.iload_n 1, 1) := by decide +kernel
theorem dX4_take_108 : decode cX4_take 108 = .ok (.iconst 2, 1) := by decide +kernel
theorem dX4_take_109 : decode cX4_take 109 = .ok (.invokevirtual 62, 3) := by decide +kernel
theorem dX4_take_112 : decode cX4_take 112 = .ok (.iadd, 1) := by decide +kernel
theorem dX4_take_113 : decode cX4_take 113 = .ok (.istore_n 2, 1) := by decide +kernel
theorem dX4_take_114 : decode cX4_take 114 = .ok (.aload_n 0, 1) := by decide +kernel
theorem dX4_take_115 : decode cX4_take 115 = .ok (.iload_n 1, 1) := by decide +kernel
theorem dX4_take_116 : decode cX4_take 116 = .ok (.bipush 10, 2) := by decide +kernel
theorem dX4_take_118 : decode cX4_take 118 = .ok (.invokevirtual 62, 3) := by decide +kernel
theorem dX4_take_121 : decode cX4_take 121 = .ok (.istore_n 3, 1) := by decide +kernel
theorem dX4_take_122 : decode cX4_take 122 = .ok (.iload_n 3, 1) := by decide +kernel
theorem dX4_take_123 : decode cX4_take 123 = .ok (.ifCond .le 44, 3) := by decide +kernel
theorem dX4_take_126 : decode cX4_take 126 = .ok (.aload_n 0, 1) := by decide +kernel
theorem dX4_take_127 : decode cX4_take 127 = .ok (.iload_n 1, 1) := by decide +kernel
theorem dX4_take_128 : decode cX4_take 128 = .ok (.bipush 19, 2) := by decide +kernel
theorem dX4_take_130 : decode cX4_take 130 = .ok (.iload_n 3, 1) := by decide +kernel
theorem dX4_take_131 : decode cX4_take 131 = .ok (.iadd, 1) := by decide +kernel
theorem dX4_take_132 : decode cX4_take 132 = .ok (.iconst 1, 1) := by decide +kernel
theorem dX4_take_133 : decode cX4_take 133 = .ok (.isub, 1) := by decide +kernel
theorem dX4_take_134 : decode cX4_take 134 = .ok (.invokevirtual 62, 3) := by decide +kernel
theorem dX4_take_137 : decode cX4_take 137 = .ok (.iload_n 2, 1) := by decide +kernel
theorem dX4_take_138 : decode cX4_take 138 = .ok (.if_icmp .le 29, 3) := by decide +kernel
theorem dX4_take_141 : decode cX4_take 141 = .ok (.aload_n 0, 1) := by decide +kernel
theorem dX4_take_142 : decode cX4_take 142 = .ok (.iload_n 1, 1) := by decide +kernel
theorem dX4_take_143 : decode cX4_take 143 = .ok (.bipush 19, 2) := by decide +kernel
theorem dX4_take_145 : decode cX4_take 145 = .ok (.iload_n 3, 1) := by decide +kernel
theorem dX4_take_146 : decode cX4_take 146 = .ok (.iadd, 1) := by decide +kernel
theorem dX4_take_147 : decode cX4_take 147 = .ok (.aload_n 0, 1) := by decide +kernel
theorem dX4_take_148 : decode cX4_take 148 = .ok (.iload_n 1, 1) := by decide +kernel
theorem dX4_take_149 : decode cX4_take 149 = .ok (.bipush 19, 2) := by decide +kernel
theorem dX4_take_151 : decode cX4_take 151 = .ok (.iload_n 3, 1) := by decide +kernel
theorem dX4_take_152 : decode cX4_take 152 = .ok (.iadd, 1) := by decide +kernel
theorem dX4_take_153 : decode cX4_take 153 = .ok (.iconst 1, 1) := by decide +kernel
theorem dX4_take_154 : decode cX4_take 154 = .ok (.isub, 1) := by decide +kernel
theorem dX4_take_155 : decode cX4_take 155 = .ok (.invokevirtual 62, 3) := by decide +kernel
theorem dX4_take_158 : decode cX4_take 158 = .ok (.invokevirtual 33, 3) := by decide +kernel
theorem dX4_take_161 : decode cX4_take 161 = .ok (.iinc 3 (-1), 3) := by decide +kernel
theorem dX4_take_164 : decode cX4_take 164 = .ok (.goto (-42), 3) := by decide +kernel
theorem dX4_take_167 : decode cX4_take 167 = .ok (.aload_n 0, 1) := by decide +kernel
theorem dX4_take_168 : decode cX4_take 168 = .ok (.iload_n 1, 1) := by decide +kernel
theorem dX4_take_169 : decode cX4_take 169 = .ok (.bipush 19, 2) := by decide +kernel
theorem dX4_take_171 : decode cX4_take 171 = .ok (.iload_n 3, 1) := by decide +kernel
theorem dX4_take_172 : decode cX4_take 172 = .ok (.iadd, 1) := by decide +kernel
theorem dX4_take_173 : decode cX4_take 173 = .ok (.iload_n 2, 1) := by decide +kernel
theorem dX4_take_174 : decode cX4_take 174 = .ok (.invokevirtual 33, 3) := by decide +kernel
theorem dX4_take_177 : decode cX4_take 177 = .ok (.aload_n 0, 1) := by decide +kernel
theorem dX4_take_178 : decode cX4_take 178 = .ok (.iload_n 1, 1) := by decide +kernel
theorem dX4_take_179 : decode cX4_take 179 = .ok (.bipush 10, 2) := by decide +kernel
theorem dX4_take_181 : decode cX4_take 181 = .ok (.iconst 1, 1) := by decide +kernel
theorem dX4_take_182 : decode cX4_take 182 = .ok (.invokevirtual 66, 3) := by decide +kernel
theorem dX4_take_185 : decode cX4_take 185 = .ok (.return_, 1) := by decide +kernel
theorem dX4_tick_0 : decode cX4_tick 0 = .ok (.iconst 0, 1) := by decide +kernel
theorem dX4_tick_1 : decode cX4_tick 1 = .ok (.istore_n 1, 1) := by decide +kernel
theorem dX4_tick_2 : decode cX4_tick 2 = .ok (.iload_n 1, 1) := by decide +kernel
theorem dX4_tick_3 : decode cX4_tick 3 = .ok (.iconst 4, 1) := by decide +kernel
theorem dX4_tick_4 : decode cX4_tick 4 = .ok (.if_icmp .ge 21, 3) := by decide +kernel
theorem dX4_tick_7 : decode cX4_tick 7 = .ok (.aload_n 0, 1) := by decide +kernel
theorem dX4_tick_8 : decode cX4_tick 8 = .ok (.getfield 26, 3) := by decide +kernel
theorem dX4_tick_11 : decode cX4_tick 11 = .ok (.iload_n 1, 1) := by decide +kernel
theorem dX4_tick_12 : decode cX4_tick 12 = .ok (.iconst 0, 1) := by decide +kernel
theorem dX4_tick_13 : decode cX4_tick 13 = .ok (.bastore, 1) := by decide +kernel
theorem dX4_tick_14 : decode cX4_tick 14 = .ok (.aload_n 0, 1) := by decide +kernel
theorem dX4_tick_15 : decode cX4_tick 15 = .ok (.iload_n 1, 1) := by decide +kernel
theorem dX4_tick_16 : decode cX4_tick 16 = .ok (.invokevirtual 106, 3) := by decide +kernel
theorem dX4_tick_19 : decode cX4_tick 19 = .ok (.iinc 1 1, 3) := by decide +kernel
theorem dX4_tick_22 : decode cX4_tick 22 = .ok (.goto (-20), 3) := by decide +kernel
theorem dX4_tick_25 : decode cX4_tick 25 = .ok (.iconst 0, 1) := by decide +kernel
theorem dX4_tick_26 : decode cX4_tick 26 = .ok (.istore_n 1, 1) := by decide +kernel
theorem dX4_tick_27 : decode cX4_tick 27 = .ok (.iload_n 1, 1) := by decide +kernel
theorem dX4_tick_28 : decode cX4_tick 28 = .ok (.iconst 4, 1) := by decide +kernel
theorem dX4_tick_29 : decode cX4_tick 29 = .ok (.if_icmp .ge 45, 3) := by decide +kernel
theorem dX4_tick_32 : decode cX4_tick 32 = .ok (.aload_n 0, 1) := by decide +kernel
theorem dX4_tick_33 : decode cX4_tick 33 = .ok (.getfield 7, 3) := by decide +kernel
theorem dX4_tick_36 : decode cX4_tick 36 = .ok (.iconst 2, 1) := by decide +kernel
theorem dX4_tick_37 : decode cX4_tick 37 = .ok (.iaload, 1) := by decide +kernel
theorem dX4_tick_38 : decode cX4_tick 38 = .ok (.ifCond .le 36, 3) := by decide +kernel
theorem dX4_tick_41 : decode cX4_tick 41 = .ok (.aload_n 0, 1) := by decide +kernel
theorem dX4_tick_42 : decode cX4_tick 42 = .ok (.getfield 7, 3) := by decide +kernel
theorem dX4_tick_45 : decode cX4_tick 45 = .ok (.iconst 0, 1) := by decide +kernel
theorem dX4_tick_46 : decode cX4_tick 46 = .ok (.iaload, 1) := by decide +kernel
theorem dX4_tick_47 : decode cX4_tick 47 = .ok (.aload_n 0, 1) := by decide +kernel
theorem dX4_tick_48 : decode cX4_tick 48 = .ok (.getfield 7, 3) := by decide +kernel
theorem dX4_tick_51 : decode cX4_tick 51 = .ok (.iconst 2, 1) := by decide +kernel
theorem dX4_tick_52 : decode cX4_tick 52 = .ok (.iaload, 1) := by decide +kernel
theorem dX4_tick_53 : decode cX4_tick 53 = .ok (.irem, 1) := by decide +kernel
theorem dX4_tick_54 : decode cX4_tick 54 = .ok (.ifCond .ne 20, 3) := by decide +kernel
theorem dX4_tick_57 : decode cX4_tick 57 = .ok (.aload_n 0, 1) := by decide +kernel
theorem dX4_tick_58 : decode cX4_tick 58 = .ok (.iload_n 1, 1) := by decide +kernel
theorem dX4_tick_59 : decode cX4_tick 59 = .ok (.iconst 3, 1) := by decide +kernel
theorem dX4_tick_60 : decode cX4_tick 60 = .ok (.aload_n 0, 1) := by decide +kernel
theorem dX4_tick_61 : decode cX4_tick 61 = .ok (.iload_n 1, 1) := by decide +kernel
theorem dX4_tick_62 : decode cX4_tick 62 = .ok (.invokevirtual 109, 3) := by decide +kernel
theorem dX4_tick_65 : decode cX4_tick 65 = .ok (.invokevirtual 66, 3) := by decide +kernel
theorem dX4_tick_68 : decode cX4_tick 68 = .ok (.iinc 1 1, 3) := by decide +kernel
theorem dX4_tick_71 : decode cX4_tick 71 = .ok (.goto (-44), 3) := by decide +kernel
theorem dX4_tick_74 : decode cX4_tick 74 = .ok (.iconst 0, 1) := by decide +kernel
theorem dX4_tick_75 : decode cX4_tick 75 = .ok (.istore_n 1, 1) := by decide +kernel
theorem dX4_tick_76 : decode cX4_tick 76 = .ok (.iconst 0, 1) := by decide +kernel
theorem dX4_tick_77 : decode cX4_tick 77 = .ok (.istore_n 2, 1) := by decide +kernel
theorem dX4_tick_78 : decode cX4_tick 78 = .ok (.iload_n 2, 1) := by decide +kernel
theorem dX4_tick_79 : decode cX4_tick 79 = .ok (.iconst 4, 1) := by decide +kernel
theorem dX4_tick_80 : decode cX4_tick 80 = .ok (.if_icmp .ge 17, 3) := by decide +kernel
theorem dX4_tick_83 : decode cX4_tick 83 = .ok (.iload_n 1, 1) := by decide +kernel
theorem dX4_tick_84 : decode cX4_tick 84 = .ok (.aload_n 0, 1) := by decide +kernel
theorem dX4_tick_85 : decode cX4_tick 85 = .ok (.iload_n 2, 1) := by decide +kernel
theorem dX4_tick_86 : decode cX4_tick 86 = .ok (.invokevirtual 113, 3) := by decide +kernel
theorem dX4_tick_89 : decode cX4_tick 89 = .ok (.iadd, 1) := by decide +kernel
theorem dX4_tick_90 : decode cX4_tick 90 = .ok (.istore_n 1, 1) := by decide +kernel
theorem dX4_tick_91 : decode cX4_tick 91 = .ok (.iinc 2 1, 3) := by decide +kernel
theorem dX4_tick_94 : decode cX4_tick 94 = .ok (.goto (-16), 3) := by decide +kernel
theorem dX4_tick_97 : decode cX4_tick 97 = .ok (.iconst 0, 1) := by decide +kernel
theorem dX4_tick_98 : decode cX4_tick 98 = .ok (.istore_n 2, 1) := by decide +kernel
theorem dX4_tick_99 : decode cX4_tick 99 = .ok (.iload_n 2, 1) := by decide +kernel
theorem dX4_tick_100 : decode cX4_tick 100 = .ok (.iconst 4, 1) := by decide +kernel
theorem dX4_tick_101 : decode cX4_tick 101 = .ok (.if_icmp .ge 54, 3) := by decide +kernel
theorem dX4_tick_104 : decode cX4_tick 104 = .ok (.aload_n 0, 1) := by decide +kernel
theorem dX4_tick_105 : decode cX4_tick 105 = .ok (.iload_n 2, 1) := by decide +kernel
theorem dX4_tick_106 : decode cX4_tick 106 = .ok (.invokevirtual 116, 3) := by decide +kernel
theorem dX4_tick_109 : decode cX4_tick 109 = .ok (.aload_n 0, 1) := by decide +kernel
theorem dX4_tick_110 : decode cX4_tick 110 = .ok (.getfield 7, 3) := by decide +kernel
theorem dX4_tick_113 : decode cX4_tick 113 = .ok (.bipush 124, 2) := by decide +kernel
theorem dX4_tick_115 : decode cX4_tick 115 = .ok (.bipush 27, 2) := by decide +kernel
theorem dX4_tick_117 : decode cX4_tick 117 = .ok (.iload_n 2, 1) := by decide +kernel
theorem dX4_tick_118 : decode cX4_tick 118 = .ok (.imul, 1) := by decide +kernel
theorem dX4_tick_119 : decode cX4_tick 119 = .ok (.iadd, 1) := by decide +kernel
theorem dX4_tick_120 : decode cX4_tick 120 = .ok (.iconst 1, 1) := by decide +kernel
theorem dX4_tick_121 : decode cX4_tick 121 = .ok (.iadd, 1) := by decide +kernel
theorem dX4_tick_122 : decode cX4_tick 122 = .ok (.dup2, 1) := by decide +kernel
theorem dX4_tick_123 : decode cX4_tick 123 = .ok (.iaload, 1) := by decide +kernel
theorem dX4_tick_124 : decode cX4_tick 124 = .ok (.aload_n 0, 1) := by decide +kernel
theorem dX4_tick_125 : decode cX4_tick 125 = .ok (.iload_n 2, 1) := by decide +kernel
theorem dX4_tick_126 : decode cX4_tick 126 = .ok (.iconst 0, 1) := by decide +kernel
theorem dX4_tick_127 : decode cX4_tick 127 = .ok (.invokevirtual 69, 3) := by decide +kernel
theorem dX4_tick_130 : decode cX4_tick 130 = .ok (.ifCond .le 16, 3) := by decide +kernel
theorem dX4_tick_133 : decode cX4_tick 133 = .ok (.aload_n 0, 1) := by decide +kernel
theorem dX4_tick_134 : decode cX4_tick 134 = .ok (.getfield 26, 3) := by decide +kernel
theorem dX4_tick_137 : decode cX4_tick 137 = .ok (.iload_n 2, 1) := by decide +kernel
theorem dX4_tick_138 : decode cX4_tick 138 = .ok (.baload, 1) := by decide +kernel
theorem dX4_tick_139 : decode cX4_tick 139 = .ok (.ifCond .ne 7, 3) := by decide +kernel
theorem dX4_tick_142 : decode cX4_tick 142 = .ok (.iconst 1, 1) := by decide +kernel
theorem dX4_tick_143 : decode cX4_tick 143 = .ok (.goto 4, 3) := by decide +kernel
theorem dX4_tick_146 : decode cX4_tick 146 = .ok (.iconst 0, 1) := by decide +kernel
theorem dX4_tick_147 : decode cX4_tick 147 = .ok (.iadd, 1) := by decide +kernel
theorem dX4_tick_148 : decode cX4_tick 148 = .ok (.iastore, 1) := by decide +kernel
theorem dX4_tick_149 : decode cX4_tick 149 = .ok (.iinc 2 1, 3) := by decide +kernel
theorem dX4_tick_152 : decode cX4_tick 152 = .ok (.goto (-53), 3) := by decide +kernel
theorem dX4_tick_155 : decode cX4_tick 155 = .ok (.aload_n 0, 1) := by decide +kernel
theorem dX4_tick_156 : decode cX4_tick 156 = .ok (.getfield 7, 3) := by decide +kernel
theorem dX4_tick_159 : decode cX4_tick 159 = .ok (.iconst 0, 1) := by decide +kernel
theorem dX4_tick_160 : decode cX4_tick 160 = .ok (.dup2, 1) := by decide +kernel
theorem dX4_tick_161 : decode cX4_tick 161 = .ok (.iaload, 1) := by decide +kernel
theorem dX4_tick_162 : decode cX4_tick 162 = .ok (.iconst 1, 1) := by decide +kernel
theorem dX4_tick_163 : decode cX4_tick 163 = .ok (.iadd, 1) := by decide +kernel
theorem dX4_tick_164 : decode cX4_tick 164 = .ok (.iastore, 1) := by decide +kernel
theorem dX4_tick_165 : decode cX4_tick 165 = .ok (.iload_n 1, 1) := by decide +kernel
theorem dX4_tick_166 : decode cX4_tick 166 = .ok (.ireturn, 1) := by decide +kernel
theorem dX4_passAll_0 : decode cX4_passAll 0 = .ok (.iconst 0, 1) := by decide +kernel
theorem dX4_passAll_1 : decode cX4_passAll 1 = .ok (.istore_n 2, 1) := by decide +kernel
theorem dX4_passAll_2 : decode cX4_passAll 2 = .ok (.iconst 0, 1) := by decide +kernel
theorem dX4_passAll_3 : decode cX4_passAll 3 = .ok (.istore_n 3, 1) := by decide +kernel
theorem dX4_passAll_4 : decode cX4_passAll 4 = .ok (.iload_n 3, 1) := by decide +kernel
theorem dX4_passAll_5 : decode cX4_passAll 5 = .ok (.iload_n 1, 1) := by decide +kernel
theorem dX4_passAll_6 : decode cX4_passAll 6 = .ok (.if_icmp .ge 16, 3) := by decide +kernel
theorem dX4_passAll_9 : decode cX4_passAll 9 = .ok (.iload_n 2, 1) := by decide +kernel
theorem dX4_passAll_10 : decode cX4_passAll 10 = .ok (.aload_n 0, 1) := by decide +kernel
theorem dX4_passAll_11 : decode cX4_passAll 11 = .ok (.invokevirtual 119, 3) := by decide +kernel
theorem dX4_passAll_14 : decode cX4_passAll 14 = .ok (.iadd, 1) := by decide +kernel
theorem dX4_passAll_15 : decode cX4_passAll 15 = .ok (.istore_n 2, 1) := by decide +kernel
theorem dX4_passAll_16 : decode cX4_passAll 16 = .ok (.iinc 3 1, 3) := by decide +kernel
theorem dX4_passAll_19 : decode cX4_passAll 19 = .ok (.goto (-15), 3) := by decide +kernel
theorem dX4_passAll_22 : decode cX4_passAll 22 = .ok (.iload_n 2, 1) := by decide +kernel
theorem dX4_passAll_23 : decode cX4_passAll 23 = .ok (.ireturn, 1) := by decide +kernel
theorem dX4_pass_0 : decode cX4_pass 0 = .ok (.iload_n 1, 1) := by decide +kernel
theorem dX4_pass_1 : decode cX4_pass 1 = .ok (.iconst 1, 1) := by decide +kernel
theorem dX4_pass_2 : decode cX4_pass 2 = .ok (.bipush 50, 2) := by decide +kernel
theorem dX4_pass_4 : decode cX4_pass 4 = .ok (.invokestatic 37, 3) := by decide +kernel
theorem dX4_pass_7 : decode cX4_pass 7 = .ok (.ifCond .ne 6, 3) := by decide +kernel
theorem dX4_pass_10 : decode cX4_pass 10 = .ok (.bipush (-2), 2) := by decide +kernel
theorem dX4_pass_12 : decode cX4_pass 12 = .ok (.ireturn, 1) := by decide +kernel
theorem dX4_pass_13 : decode cX4_pass 13 = .ok (.aload_n 0, 1) := by decide +kernel
theorem dX4_pass_14 : decode cX4_pass 14 = .ok (.getfield 7, 3) := by decide +kernel
theorem dX4_pass_17 : decode cX4_pass 17 = .ok (.iconst 0, 1) := by decide +kernel
theorem dX4_pass_18 : decode cX4_pass 18 = .ok (.iaload, 1) := by decide +kernel
theorem dX4_pass_19 : decode cX4_pass 19 = .ok (.iload_n 1, 1) := by decide +kernel
theorem dX4_pass_20 : decode cX4_pass 20 = .ok (.iadd, 1) := by decide +kernel
theorem dX4_pass_21 : decode cX4_pass 21 = .ok (.sipush 9999, 3) := by decide +kernel
theorem dX4_pass_24 : decode cX4_pass 24 = .ok (.if_icmp .le 6, 3) := by decide +kernel
theorem dX4_pass_27 : decode cX4_pass 27 = .ok (.bipush (-4), 2) := by decide +kernel
theorem dX4_pass_29 : decode cX4_pass 29 = .ok (.ireturn, 1) := by decide +kernel
theorem dX4_pass_30 : decode cX4_pass 30 = .ok (.aload_n 0, 1) := by decide +kernel
theorem dX4_pass_31 : decode cX4_pass 31 = .ok (.invokevirtual 55, 3) := by decide +kernel
theorem dX4_pass_34 : decode cX4_pass 34 = .ok (.aload_n 0, 1) := by decide +kernel
theorem dX4_pass_35 : decode cX4_pass 35 = .ok (.iload_n 1, 1) := by decide +kernel
theorem dX4_pass_36 : decode cX4_pass 36 = .ok (.invokevirtual 123, 3) := by decide +kernel
theorem dX4_pass_39 : decode cX4_pass 39 = .ok (.ireturn, 1) := by decide +kernel
theorem dX4_lose_0 : decode cX4_lose 0 = .ok (.iload_n 1, 1) := by decide +kernel
theorem dX4_lose_1 : decode cX4_lose 1 = .ok (.invokestatic 58, 3) := by decide +kernel
theorem dX4_lose_4 : decode cX4_lose 4 = .ok (.ifCond .eq 5, 3) := by decide +kernel
theorem dX4_lose_7 : decode cX4_lose 7 = .ok (.iconst (-1), 1) := by decide +kernel
theorem dX4_lose_8 : decode cX4_lose 8 = .ok (.ireturn, 1) := by decide +kernel
theorem dX4_lose_9 : decode cX4_lose 9 = .ok (.aload_n 0, 1) := by decide +kernel
theorem dX4_lose_10 : decode cX4_lose 10 = .ok (.iload_n 1, 1) := by decide +kernel
theorem dX4_lose_11 : decode cX4_lose 11 = .ok (.bipush 10, 2) := by decide +kernel
theorem dX4_lose_13 : decode cX4_lose 13 = .ok (.invokevirtual 62, 3) := by decide +kernel
theorem dX4_lose_16 : decode cX4_lose 16 = .ok (.ifCond .ne 6, 3) := by decide +kernel
theorem dX4_lose_19 : decode cX4_lose 19 = .ok (.bipush (-4), 2) := by decide +kernel
theorem dX4_lose_21 : decode cX4_lose 21 = .ok (.ireturn, 1) := by decide +kernel
theorem dX4_lose_22 : decode cX4_lose 22 = .ok (.aload_n 0, 1) := by decide +kernel
theorem dX4_lose_23 : decode cX4_lose 23 = .ok (.invokevirtual 55, 3) := by decide +kernel
theorem dX4_lose_26 : decode cX4_lose 26 = .ok (.aload_n 0, 1) := by decide +kernel
theorem dX4_lose_27 : decode cX4_lose 27 = .ok (.iload_n 1, 1) := by decide +kernel
theorem dX4_lose_28 : decode cX4_lose 28 = .ok (.invokevirtual 96, 3) := by decide +kernel
theorem dX4_lose_31 : decode cX4_lose 31 = .ok (.aload_n 0, 1) := by decide +kernel
theorem dX4_lose_32 : decode cX4_lose 32 = .ok (.iload_n 1, 1) := by decide +kernel
theorem dX4_lose_33 : decode cX4_lose 33 = .ok (.bipush 8, 2) := by decide +kernel
theorem dX4_lose_35 : decode cX4_lose 35 = .ok (.iconst 1, 1) := by decide +kernel
theorem dX4_lose_36 : decode cX4_lose 36 = .ok (.invokevirtual 66, 3) := by decide +kernel
theorem dX4_lose_39 : decode cX4_lose 39 = .ok (.aload_n 0, 1) := by decide +kernel
theorem dX4_lose_40 : decode cX4_lose 40 = .ok (.iload_n 1, 1) := by decide +kernel
theorem dX4_lose_41 : decode cX4_lose 41 = .ok (.bipush 10, 2) := by decide +kernel
theorem dX4_lose_43 : decode cX4_lose 43 = .ok (.invokevirtual 62, 3) := by decide +kernel
theorem dX4_lose_46 : decode cX4_lose 46 = .ok (.ireturn, 1) := by decide +kernel
theorem dX4_forge_0 : decode cX4_forge 0 = .ok (.iload_n 1, 1) := by decide +kernel
theorem dX4_forge_1 : decode cX4_forge 1 = .ok (.invokestatic 58, 3) := by decide +kernel
theorem dX4_forge_4 : decode cX4_forge 4 = .ok (.ifCond .eq 5, 3) := by decide +kernel
theorem dX4_forge_7 : decode cX4_forge 7 = .ok (.iconst (-1), 1) := by decide +kernel
theorem dX4_forge_8 : decode cX4_forge 8 = .ok (.ireturn, 1) := by decide +kernel
theorem dX4_forge_9 : decode cX4_forge 9 = .ok (.aload_n 0, 1) := by decide +kernel
theorem dX4_forge_10 : decode cX4_forge 10 = .ok (.iload_n 1, 1) := by decide +kernel
theorem dX4_forge_11 : decode cX4_forge 11 = .ok (.iconst 3, 1) := by decide +kernel
theorem dX4_forge_12 : decode cX4_forge 12 = .ok (.invokevirtual 62, 3) := by decide +kernel
theorem dX4_forge_15 : decode cX4_forge 15 = .ok (.bipush 16, 2) := by decide +kernel
theorem dX4_forge_17 : decode cX4_forge 17 = .ok (.if_icmp .lt 6, 3) := by decide +kernel
theorem dX4_forge_20 : decode cX4_forge 20 = .ok (.bipush (-3), 2) := by decide +kernel
theorem dX4_forge_22 : decode cX4_forge 22 = .ok (.ireturn, 1) := by decide +kernel
theorem dX4_forge_23 : decode cX4_forge 23 = .ok (.aload_n 0, 1) := by decide +kernel
theorem dX4_forge_24 : decode cX4_forge 24 = .ok (.invokevirtual 55, 3) := by decide +kernel
theorem dX4_forge_27 : decode cX4_forge 27 = .ok (.aload_n 0, 1) := by decide +kernel
theorem dX4_forge_28 : decode cX4_forge 28 = .ok (.iload_n 1, 1) := by decide +kernel
theorem dX4_forge_29 : decode cX4_forge 29 = .ok (.iconst 3, 1) := by decide +kernel
theorem dX4_forge_30 : decode cX4_forge 30 = .ok (.iconst 1, 1) := by decide +kernel
theorem dX4_forge_31 : decode cX4_forge 31 = .ok (.invokevirtual 66, 3) := by decide +kernel
theorem dX4_forge_34 : decode cX4_forge 34 = .ok (.bipush 100, 2) := by decide +kernel
theorem dX4_forge_36 : decode cX4_forge 36 = .ok (.aload_n 0, 1) := by decide +kernel
theorem dX4_forge_37 : decode cX4_forge 37 = .ok (.iload_n 1, 1) := by decide +kernel
theorem dX4_forge_38 : decode cX4_forge 38 = .ok (.iconst 3, 1) := by decide +kernel
theorem dX4_forge_39 : decode cX4_forge 39 = .ok (.invokevirtual 62, 3) := by decide +kernel
theorem dX4_forge_42 : decode cX4_forge 42 = .ok (.iadd, 1) := by decide +kernel
theorem dX4_forge_43 : decode cX4_forge 43 = .ok (.ireturn, 1) := by decide +kernel
theorem dX4_repair_0 : decode cX4_repair 0 = .ok (.iload_n 1, 1) := by decide +kernel
theorem dX4_repair_1 : decode cX4_repair 1 = .ok (.invokestatic 58, 3) := by decide +kernel
theorem dX4_repair_4 : decode cX4_repair 4 = .ok (.ifCond .eq 5, 3) := by decide +kernel
theorem dX4_repair_7 : decode cX4_repair 7 = .ok (.iconst (-1), 1) := by decide +kernel
theorem dX4_repair_8 : decode cX4_repair 8 = .ok (.ireturn, 1) := by decide +kernel
theorem dX4_repair_9 : decode cX4_repair 9 = .ok (.aload_n 0, 1) := by decide +kernel
theorem dX4_repair_10 : decode cX4_repair 10 = .ok (.iload_n 1, 1) := by decide +kernel
theorem dX4_repair_11 : decode cX4_repair 11 = .ok (.invokevirtual 109, 3) := by decide +kernel
theorem dX4_repair_14 : decode cX4_repair 14 = .ok (.istore_n 2, 1) := by decide +kernel
theorem dX4_repair_15 : decode cX4_repair 15 = .ok (.iload_n 2, 1) := by decide +kernel
theorem dX4_repair_16 : decode cX4_repair 16 = .ok (.ifCond .ne 6, 3) := by decide +kernel
theorem dX4_repair_19 : decode cX4_repair 19 = .ok (.bipush (-5), 2) := by decide +kernel
theorem dX4_repair_21 : decode cX4_repair 21 = .ok (.ireturn, 1) := by decide +kernel
theorem dX4_repair_22 : decode cX4_repair 22 = .ok (.aload_n 0, 1) := by decide +kernel
theorem dX4_repair_23 : decode cX4_repair 23 = .ok (.invokevirtual 55, 3) := by decide +kernel
theorem dX4_repair_26 : decode cX4_repair 26 = .ok (.aload_n 0, 1) := by decide +kernel
theorem dX4_repair_27 : decode cX4_repair 27 = .ok (.iload_n 1, 1) := by decide +kernel
theorem dX4_repair_28 : decode cX4_repair 28 = .ok (.iconst 3, 1) := by decide +kernel
theorem dX4_repair_29 : decode cX4_repair 29 = .ok (.iload_n 2, 1) := by decide +kernel
theorem dX4_repair_30 : decode cX4_repair 30 = .ok (.invokevirtual 66, 3) := by decide +kernel
theorem dX4_repair_33 : decode cX4_repair 33 = .ok (.bipush 100, 2) := by decide +kernel
theorem dX4_repair_35 : decode cX4_repair 35 = .ok (.iload_n 2, 1) := by decide +kernel
theorem dX4_repair_36 : decode cX4_repair 36 = .ok (.iadd, 1) := by decide +kernel
theorem dX4_repair_37 : decode cX4_repair 37 = .ok (.ireturn, 1) := by decide +kernel
theorem dX4_type_0 : decode cX4_type 0 = .ok (.aload_n 0, 1) := by decide +kernel
theorem dX4_type_1 : decode cX4_type 1 = .ok (.getfield 79, 3) := by decide +kernel
theorem dX4_type_4 : decode cX4_type 4 = .ok (.bipush 60, 2) := by decide +kernel
theorem dX4_type_6 : decode cX4_type 6 = .ok (.if_icmp .ne 6, 3) := by decide +kernel
theorem dX4_type_9 : decode cX4_type 9 = .ok (.bipush (-3), 2) := by decide +kernel
theorem dX4_type_11 : decode cX4_type 11 = .ok (.ireturn, 1) := by decide +kernel
theorem dX4_type_12 : decode cX4_type 12 = .ok (.aload_n 0, 1) := by decide +kernel
theorem dX4_type_13 : decode cX4_type 13 = .ok (.getfield 22, 3) := by decide +kernel
theorem dX4_type_16 : decode cX4_type 16 = .ok (.aload_n 0, 1) := by decide +kernel
theorem dX4_type_17 : decode cX4_type 17 = .ok (.getfield 79, 3) := by decide +kernel
theorem dX4_type_20 : decode cX4_type 20 = .ok (.iload_n 1, 1) := by decide +kernel
theorem dX4_type_21 : decode cX4_type 21 = .ok (.castore, 1) := by decide +kernel
theorem dX4_type_22 : decode cX4_type 22 = .ok (.aload_n 0, 1) := by decide +kernel
theorem dX4_type_23 : decode cX4_type 23 = .ok (.dup, 1) := by decide +kernel
theorem dX4_type_24 : decode cX4_type 24 = .ok (.getfield 79, 3) := by decide +kernel
theorem dX4_type_27 : decode cX4_type 27 = .ok (.iconst 1, 1) := by decide +kernel
theorem dX4_type_28 : decode cX4_type 28 = .ok (.iadd, 1) := by decide +kernel
theorem dX4_type_29 : decode cX4_type 29 = .ok (.putfield 79, 3) := by decide +kernel
theorem dX4_type_32 : decode cX4_type 32 = .ok (.aload_n 0, 1) := by decide +kernel
theorem dX4_type_33 : decode cX4_type 33 = .ok (.getfield 79, 3) := by decide +kernel
theorem dX4_type_36 : decode cX4_type 36 = .ok (.ireturn, 1) := by decide +kernel
theorem dX4_clearText_0 : decode cX4_clearText 0 = .ok (.aload_n 0, 1) := by decide +kernel
theorem dX4_clearText_1 : decode cX4_clearText 1 = .ok (.getfield 79, 3) := by decide +kernel
theorem dX4_clearText_4 : decode cX4_clearText 4 = .ok (.istore_n 1, 1) := by decide +kernel
theorem dX4_clearText_5 : decode cX4_clearText 5 = .ok (.aload_n 0, 1) := by decide +kernel
theorem dX4_clearText_6 : decode cX4_clearText 6 = .ok (.iconst 0, 1) := by decide +kernel
theorem dX4_clearText_7 : decode cX4_clearText 7 = .ok (.putfield 79, 3) := by decide +kernel
theorem dX4_clearText_10 : decode cX4_clearText 10 = .ok (.iload_n 1, 1) := by decide +kernel
theorem dX4_clearText_11 : decode cX4_clearText 11 = .ok (.ireturn, 1) := by decide +kernel
theorem dX4_waiting_0 : decode cX4_waiting 0 = .ok (.iconst 0, 1) := by decide +kernel
theorem dX4_waiting_1 : decode cX4_waiting 1 = .ok (.istore_n 2, 1) := by decide +kernel
theorem dX4_waiting_2 : decode cX4_waiting 2 = .ok (.iconst 0, 1) := by decide +kernel
theorem dX4_waiting_3 : decode cX4_waiting 3 = .ok (.istore_n 3, 1) := by decide +kernel
theorem dX4_waiting_4 : decode cX4_waiting 4 = .ok (.iload_n 3, 1) := by decide +kernel
theorem dX4_waiting_5 : decode cX4_waiting 5 = .ok (.iconst 4, 1) := by decide +kernel
theorem dX4_waiting_6 : decode cX4_waiting 6 = .ok (.if_icmp .ge 54, 3) := by decide +kernel
theorem dX4_waiting_9 : decode cX4_waiting 9 = .ok (.iconst 0, 1) := by decide +kernel
theorem dX4_waiting_10 : decode cX4_waiting 10 = .ok (.istore 4, 2) := by decide +kernel
theorem dX4_waiting_12 : decode cX4_waiting 12 = .ok (.iload 4, 2) := by decide +kernel
theorem dX4_waiting_14 : decode cX4_waiting 14 = .ok (.aload_n 0, 1) := by decide +kernel
theorem dX4_waiting_15 : decode cX4_waiting 15 = .ok (.iload_n 3, 1) := by decide +kernel
theorem dX4_waiting_16 : decode cX4_waiting 16 = .ok (.iconst 0, 1) := by decide +kernel
theorem dX4_waiting_17 : decode cX4_waiting 17 = .ok (.invokevirtual 69, 3) := by decide +kernel
theorem dX4_waiting_20 : decode cX4_waiting 20 = .ok (.if_icmp .ge 34, 3) := by decide +kernel
theorem dX4_waiting_23 : decode cX4_waiting 23 = .ok (.iload_n 2, 1) := by decide +kernel
theorem dX4_waiting_24 : decode cX4_waiting 24 = .ok (.aload_n 0, 1) := by decide +kernel
theorem dX4_waiting_25 : decode cX4_waiting 25 = .ok (.iload_n 3, 1) := by decide +kernel
theorem dX4_waiting_26 : decode cX4_waiting 26 = .ok (.iconst 3, 1) := by decide +kernel
theorem dX4_waiting_27 : decode cX4_waiting 27 = .ok (.iconst 3, 1) := by decide +kernel
theorem dX4_waiting_28 : decode cX4_waiting 28 = .ok (.iload 4, 2) := by decide +kernel
theorem dX4_waiting_30 : decode cX4_waiting 30 = .ok (.imul, 1) := by decide +kernel
theorem dX4_waiting_31 : decode cX4_waiting 31 = .ok (.iadd, 1) := by decide +kernel
theorem dX4_waiting_32 : decode cX4_waiting 32 = .ok (.iconst 1, 1) := by decide +kernel
theorem dX4_waiting_33 : decode cX4_waiting 33 = .ok (.iadd, 1) := by decide +kernel
theorem dX4_waiting_34 : decode cX4_waiting 34 = .ok (.invokevirtual 69, 3) := by decide +kernel
theorem dX4_waiting_37 : decode cX4_waiting 37 = .ok (.iload_n 1, 1) := by decide +kernel
theorem dX4_waiting_38 : decode cX4_waiting 38 = .ok (.if_icmp .ne 7, 3) := by decide +kernel
theorem dX4_waiting_41 : decode cX4_waiting 41 = .ok (.iconst 1, 1) := by decide +kernel
theorem dX4_waiting_42 : decode cX4_waiting 42 = .ok (.goto 4, 3) := by decide +kernel
theorem dX4_waiting_45 : decode cX4_waiting 45 = .ok (.iconst 0, 1) := by decide +kernel
theorem dX4_waiting_46 : decode cX4_waiting 46 = .ok (.iadd, 1) := by decide +kernel
theorem dX4_waiting_47 : decode cX4_waiting 47 = .ok (.istore_n 2, 1) := by decide +kernel
theorem dX4_waiting_48 : decode cX4_waiting 48 = .ok (.iinc 4 1, 3) := by decide +kernel
theorem dX4_waiting_51 : decode cX4_waiting 51 = .ok (.goto (-39), 3) := by decide +kernel
theorem dX4_waiting_54 : decode cX4_waiting 54 = .ok (.iinc 3 1, 3) := by decide +kernel
theorem dX4_waiting_57 : decode cX4_waiting 57 = .ok (.goto (-53), 3) := by decide +kernel
theorem dX4_waiting_60 : decode cX4_waiting 60 = .ok (.iload_n 2, 1) := by decide +kernel
theorem dX4_waiting_61 : decode cX4_waiting 61 = .ok (.ireturn, 1) := by decide +kernel
theorem dX4_isStuck_0 : decode cX4_isStuck 0 = .ok (.aload_n 0, 1) := by decide +kernel
theorem dX4_isStuck_1 : decode cX4_isStuck 1 = .ok (.iload_n 1, 1) := by decide +kernel
theorem dX4_isStuck_2 : decode cX4_isStuck 2 = .ok (.invokevirtual 126, 3) := by decide +kernel
theorem dX4_isStuck_5 : decode cX4_isStuck 5 = .ok (.ifCond .le 45, 3) := by decide +kernel
theorem dX4_isStuck_8 : decode cX4_isStuck 8 = .ok (.aload_n 0, 1) := by decide +kernel
theorem dX4_isStuck_9 : decode cX4_isStuck 9 = .ok (.iload_n 1, 1) := by decide +kernel
theorem dX4_isStuck_10 : decode cX4_isStuck 10 = .ok (.iconst 3, 1) := by decide +kernel
theorem dX4_isStuck_11 : decode cX4_isStuck 11 = .ok (.invokevirtual 62, 3) := by decide +kernel
theorem dX4_isStuck_14 : decode cX4_isStuck 14 = .ok (.ifCond .gt 36, 3) := by decide +kernel
theorem dX4_isStuck_17 : decode cX4_isStuck 17 = .ok (.aload_n 0, 1) := by decide +kernel
theorem dX4_isStuck_18 : decode cX4_isStuck 18 = .ok (.iload_n 1, 1) := by decide +kernel
theorem dX4_isStuck_19 : decode cX4_isStuck 19 = .ok (.bipush 9, 2) := by decide +kernel
theorem dX4_isStuck_21 : decode cX4_isStuck 21 = .ok (.invokevirtual 62, 3) := by decide +kernel
theorem dX4_isStuck_24 : decode cX4_isStuck 24 = .ok (.ifCond .ne 26, 3) := by decide +kernel
theorem dX4_isStuck_27 : decode cX4_isStuck 27 = .ok (.aload_n 0, 1) := by decide +kernel
theorem dX4_isStuck_28 : decode cX4_isStuck 28 = .ok (.iload_n 1, 1) := by decide +kernel
theorem dX4_isStuck_29 : decode cX4_isStuck 29 = .ok (.bipush 10, 2) := by decide +kernel
theorem dX4_isStuck_31 : decode cX4_isStuck 31 = .ok (.invokevirtual 62, 3) := by decide +kernel
theorem dX4_isStuck_34 : decode cX4_isStuck 34 = .ok (.ifCond .ne 16, 3) := by decide +kernel
theorem dX4_isStuck_37 : decode cX4_isStuck 37 = .ok (.aload_n 0, 1) := by decide +kernel
theorem dX4_isStuck_38 : decode cX4_isStuck 38 = .ok (.getfield 7, 3) := by decide +kernel
theorem dX4_isStuck_41 : decode cX4_isStuck 41 = .ok (.iconst 2, 1) := by decide +kernel
theorem dX4_isStuck_42 : decode cX4_isStuck 42 = .ok (.iaload, 1) := by decide +kernel
theorem dX4_isStuck_43 : decode cX4_isStuck 43 = .ok (.ifCond .ne 7, 3) := by decide +kernel
theorem dX4_isStuck_46 : decode cX4_isStuck 46 = .ok (.iconst 1, 1) := by decide +kernel
theorem dX4_isStuck_47 : decode cX4_isStuck 47 = .ok (.goto 4, 3) := by decide +kernel
theorem dX4_isStuck_50 : decode cX4_isStuck 50 = .ok (.iconst 0, 1) := by decide +kernel
theorem dX4_isStuck_51 : decode cX4_isStuck 51 = .ok (.ireturn, 1) := by decide +kernel
theorem dX4_lane_0 : decode cX4_lane 0 = .ok (.iload_n 1, 1) := by decide +kernel
theorem dX4_lane_1 : decode cX4_lane 1 = .ok (.invokestatic 58, 3) := by decide +kernel
theorem dX4_lane_4 : decode cX4_lane 4 = .ok (.ifCond .eq 5, 3) := by decide +kernel
theorem dX4_lane_7 : decode cX4_lane 7 = .ok (.iconst (-1), 1) := by decide +kernel
theorem dX4_lane_8 : decode cX4_lane 8 = .ok (.ireturn, 1) := by decide +kernel
theorem dX4_lane_9 : decode cX4_lane 9 = .ok (.iload_n 2, 1) := by decide +kernel
theorem dX4_lane_10 : decode cX4_lane 10 = .ok (.tableswitch 148 0 13 #[70, 70, 70, 77, 87, 95, 103, 112, 119, 119, 119, 119, 128, 134], 70) := by decide +kernel
theorem dX4_lane_80 : decode cX4_lane 80 = .ok (.aload_n 0, 1) := by decide +kernel
theorem dX4_lane_81 : decode cX4_lane 81 = .ok (.iload_n 1, 1) := by decide +kernel
theorem dX4_lane_82 : decode cX4_lane 82 = .ok (.iload_n 2, 1) := by decide +kernel
theorem dX4_lane_83 : decode cX4_lane 83 = .ok (.invokevirtual 62, 3) := by decide +kernel
theorem dX4_lane_86 : decode cX4_lane 86 = .ok (.ireturn, 1) := by decide +kernel
theorem dX4_lane_87 : decode cX4_lane 87 = .ok (.bipush 100, 2) := by decide +kernel
theorem dX4_lane_89 : decode cX4_lane 89 = .ok (.aload_n 0, 1) := by decide +kernel
theorem dX4_lane_90 : decode cX4_lane 90 = .ok (.iload_n 1, 1) := by decide +kernel
theorem dX4_lane_91 : decode cX4_lane 91 = .ok (.iconst 3, 1) := by decide +kernel
theorem dX4_lane_92 : decode cX4_lane 92 = .ok (.invokevirtual 62, 3) := by decide +kernel
theorem dX4_lane_95 : decode cX4_lane 95 = .ok (.iadd, 1) := by decide +kernel
theorem dX4_lane_96 : decode cX4_lane 96 = .ok (.ireturn, 1) := by decide +kernel
theorem dX4_lane_97 : decode cX4_lane 97 = .ok (.aload_n 0, 1) := by decide +kernel
theorem dX4_lane_98 : decode cX4_lane 98 = .ok (.iload_n 1, 1) := by decide +kernel
theorem dX4_lane_99 : decode cX4_lane 99 = .ok (.bipush 9, 2) := by decide +kernel
theorem dX4_lane_101 : decode cX4_lane 101 = .ok (.invokevirtual 62, 3) := by decide +kernel
theorem dX4_lane_104 : decode cX4_lane 104 = .ok (.ireturn, 1) := by decide +kernel
theorem dX4_lane_105 : decode cX4_lane 105 = .ok (.aload_n 0, 1) := by decide +kernel
theorem dX4_lane_106 : decode cX4_lane 106 = .ok (.iload_n 1, 1) := by decide +kernel
theorem dX4_lane_107 : decode cX4_lane 107 = .ok (.bipush 10, 2) := by decide +kernel
theorem dX4_lane_109 : decode cX4_lane 109 = .ok (.invokevirtual 62, 3) := by decide +kernel
theorem dX4_lane_112 : decode cX4_lane 112 = .ok (.ireturn, 1) := by decide +kernel
theorem dX4_lane_113 : decode cX4_lane 113 = .ok (.bipush 100, 2) := by decide +kernel
theorem dX4_lane_115 : decode cX4_lane 115 = .ok (.aload_n 0, 1) := by decide +kernel
theorem dX4_lane_116 : decode cX4_lane 116 = .ok (.iload_n 1, 1) := by decide +kernel
theorem dX4_lane_117 : decode cX4_lane 117 = .ok (.invokevirtual 109, 3) := by decide +kernel
theorem dX4_lane_120 : decode cX4_lane 120 = .ok (.iadd, 1) := by decide +kernel
theorem dX4_lane_121 : decode cX4_lane 121 = .ok (.ireturn, 1) := by decide +kernel
theorem dX4_lane_122 : decode cX4_lane 122 = .ok (.aload_n 0, 1) := by decide +kernel
theorem dX4_lane_123 : decode cX4_lane 123 = .ok (.iload_n 1, 1) := by decide +kernel
theorem dX4_lane_124 : decode cX4_lane 124 = .ok (.iconst 4, 1) := by decide +kernel
theorem dX4_lane_125 : decode cX4_lane 125 = .ok (.invokevirtual 62, 3) := by decide +kernel
theorem dX4_lane_128 : decode cX4_lane 128 = .ok (.ireturn, 1) := by decide +kernel
theorem dX4_lane_129 : decode cX4_lane 129 = .ok (.aload_n 0, 1) := by decide +kernel
theorem dX4_lane_130 : decode cX4_lane 130 = .ok (.iload_n 1, 1) := by decide +kernel
theorem dX4_lane_131 : decode cX4_lane 131 = .ok (.iload_n 2, 1) := by decide +kernel
theorem dX4_lane_132 : decode cX4_lane 132 = .ok (.iconst 3, 1) := by decide +kernel
theorem dX4_lane_133 : decode cX4_lane 133 = .ok (.isub, 1) := by decide +kernel
theorem dX4_lane_134 : decode cX4_lane 134 = .ok (.invokevirtual 62, 3) := by decide +kernel
theorem dX4_lane_137 : decode cX4_lane 137 = .ok (.ireturn, 1) := by decide +kernel
theorem dX4_lane_138 : decode cX4_lane 138 = .ok (.aload_n 0, 1) := by decide +kernel
theorem dX4_lane_139 : decode cX4_lane 139 = .ok (.iload_n 1, 1) := by decide +kernel
theorem dX4_lane_140 : decode cX4_lane 140 = .ok (.invokevirtual 126, 3) := by decide +kernel
theorem dX4_lane_143 : decode cX4_lane 143 = .ok (.ireturn, 1) := by decide +kernel
theorem dX4_lane_144 : decode cX4_lane 144 = .ok (.aload_n 0, 1) := by decide +kernel
theorem dX4_lane_145 : decode cX4_lane 145 = .ok (.iload_n 1, 1) := by decide +kernel
theorem dX4_lane_146 : decode cX4_lane 146 = .ok (.invokevirtual 129, 3) := by decide +kernel
theorem dX4_lane_149 : decode cX4_lane 149 = .ok (.ifCond .eq 7, 3) := by decide +kernel
theorem dX4_lane_152 : decode cX4_lane 152 = .ok (.iconst 1, 1) := by decide +kernel
theorem dX4_lane_153 : decode cX4_lane 153 = .ok (.goto 4, 3) := by decide +kernel
theorem dX4_lane_156 : decode cX4_lane 156 = .ok (.iconst 0, 1) := by decide +kernel
theorem dX4_lane_157 : decode cX4_lane 157 = .ok (.ireturn, 1) := by decide +kernel
theorem dX4_lane_158 : decode cX4_lane 158 = .ok (.bipush (-2), 2) := by decide +kernel
theorem dX4_lane_160 : decode cX4_lane 160 = .ok (.ireturn, 1) := by decide +kernel
theorem dX4_seated_0 : decode cX4_seated 0 = .ok (.iload_n 1, 1) := by decide +kernel
theorem dX4_seated_1 : decode cX4_seated 1 = .ok (.invokestatic 58, 3) := by decide +kernel
theorem dX4_seated_4 : decode cX4_seated 4 = .ok (.ifCond .eq 5, 3) := by decide +kernel
theorem dX4_seated_7 : decode cX4_seated 7 = .ok (.iconst (-1), 1) := by decide +kernel
theorem dX4_seated_8 : decode cX4_seated 8 = .ok (.ireturn, 1) := by decide +kernel
theorem dX4_seated_9 : decode cX4_seated 9 = .ok (.iload_n 2, 1) := by decide +kernel
theorem dX4_seated_10 : decode cX4_seated 10 = .ok (.ifCond .ge 8, 3) := by decide +kernel
theorem dX4_seated_13 : decode cX4_seated 13 = .ok (.bipush (-2), 2) := by decide +kernel
theorem dX4_seated_15 : decode cX4_seated 15 = .ok (.goto 28, 3) := by decide +kernel
theorem dX4_seated_18 : decode cX4_seated 18 = .ok (.iload_n 2, 1) := by decide +kernel
theorem dX4_seated_19 : decode cX4_seated 19 = .ok (.aload_n 0, 1) := by decide +kernel
theorem dX4_seated_20 : decode cX4_seated 20 = .ok (.iload_n 1, 1) := by decide +kernel
theorem dX4_seated_21 : decode cX4_seated 21 = .ok (.bipush 9, 2) := by decide +kernel
theorem dX4_seated_23 : decode cX4_seated 23 = .ok (.invokevirtual 62, 3) := by decide +kernel
theorem dX4_seated_26 : decode cX4_seated 26 = .ok (.if_icmp .ge 15, 3) := by decide +kernel
theorem dX4_seated_29 : decode cX4_seated 29 = .ok (.aload_n 0, 1) := by decide +kernel
theorem dX4_seated_30 : decode cX4_seated 30 = .ok (.iload_n 1, 1) := by decide +kernel
theorem dX4_seated_31 : decode cX4_seated 31 = .ok (.bipush 11, 2) := by decide +kernel
theorem dX4_seated_33 : decode cX4_seated 33 = .ok (.iload_n 2, 1) := by decide +kernel
theorem dX4_seated_34 : decode cX4_seated 34 = .ok (.iadd, 1) := by decide +kernel
theorem dX4_seated_35 : decode cX4_seated 35 = .ok (.invokevirtual 62, 3) := by decide +kernel
theorem dX4_seated_38 : decode cX4_seated 38 = .ok (.goto 5, 3) := by decide +kernel
theorem dX4_seated_41 : decode cX4_seated 41 = .ok (.bipush (-5), 2) := by decide +kernel
theorem dX4_seated_43 : decode cX4_seated 43 = .ok (.ireturn, 1) := by decide +kernel
theorem dX4_onTheWay_0 : decode cX4_onTheWay 0 = .ok (.iload_n 1, 1) := by decide +kernel
theorem dX4_onTheWay_1 : decode cX4_onTheWay 1 = .ok (.invokestatic 58, 3) := by decide +kernel
theorem dX4_onTheWay_4 : decode cX4_onTheWay 4 = .ok (.ifCond .eq 5, 3) := by decide +kernel
theorem dX4_onTheWay_7 : decode cX4_onTheWay 7 = .ok (.iconst (-1), 1) := by decide +kernel
theorem dX4_onTheWay_8 : decode cX4_onTheWay 8 = .ok (.ireturn, 1) := by decide +kernel
theorem dX4_onTheWay_9 : decode cX4_onTheWay 9 = .ok (.iload_n 2, 1) := by decide +kernel
theorem dX4_onTheWay_10 : decode cX4_onTheWay 10 = .ok (.ifCond .ge 8, 3) := by decide +kernel
theorem dX4_onTheWay_13 : decode cX4_onTheWay 13 = .ok (.bipush (-2), 2) := by decide +kernel
theorem dX4_onTheWay_15 : decode cX4_onTheWay 15 = .ok (.goto 37, 3) := by decide +kernel
theorem dX4_onTheWay_18 : decode cX4_onTheWay 18 = .ok (.iload_n 2, 1) := by decide +kernel
theorem dX4_onTheWay_19 : decode cX4_onTheWay 19 = .ok (.aload_n 0, 1) := by decide +kernel
theorem dX4_onTheWay_20 : decode cX4_onTheWay 20 = .ok (.iload_n 1, 1) := by decide +kernel
theorem dX4_onTheWay_21 : decode cX4_onTheWay 21 = .ok (.bipush 10, 2) := by decide +kernel
theorem dX4_onTheWay_23 : decode cX4_onTheWay 23 = .ok (.invokevirtual 62, 3) := by decide +kernel
theorem dX4_onTheWay_26 : decode cX4_onTheWay 26 = .ok (.if_icmp .ge 24, 3) := by decide +kernel
theorem dX4_onTheWay_29 : decode cX4_onTheWay 29 = .ok (.aload_n 0, 1) := by decide +kernel
theorem dX4_onTheWay_30 : decode cX4_onTheWay 30 = .ok (.iload_n 1, 1) := by decide +kernel
theorem dX4_onTheWay_31 : decode cX4_onTheWay 31 = .ok (.bipush 19, 2) := by decide +kernel
theorem dX4_onTheWay_33 : decode cX4_onTheWay 33 = .ok (.iload_n 2, 1) := by decide +kernel
theorem dX4_onTheWay_34 : decode cX4_onTheWay 34 = .ok (.iadd, 1) := by decide +kernel
theorem dX4_onTheWay_35 : decode cX4_onTheWay 35 = .ok (.invokevirtual 62, 3) := by decide +kernel
theorem dX4_onTheWay_38 : decode cX4_onTheWay 38 = .ok (.aload_n 0, 1) := by decide +kernel
theorem dX4_onTheWay_39 : decode cX4_onTheWay 39 = .ok (.getfield 7, 3) := by decide +kernel
theorem dX4_onTheWay_42 : decode cX4_onTheWay 42 = .ok (.iconst 0, 1) := by decide +kernel
theorem dX4_onTheWay_43 : decode cX4_onTheWay 43 = .ok (.iaload, 1) := by decide +kernel
theorem dX4_onTheWay_44 : decode cX4_onTheWay 44 = .ok (.isub, 1) := by decide +kernel
theorem dX4_onTheWay_45 : decode cX4_onTheWay 45 = .ok (.iconst 1, 1) := by decide +kernel
theorem dX4_onTheWay_46 : decode cX4_onTheWay 46 = .ok (.iadd, 1) := by decide +kernel
theorem dX4_onTheWay_47 : decode cX4_onTheWay 47 = .ok (.goto 5, 3) := by decide +kernel
theorem dX4_onTheWay_50 : decode cX4_onTheWay 50 = .ok (.bipush (-5), 2) := by decide +kernel
theorem dX4_onTheWay_52 : decode cX4_onTheWay 52 = .ok (.ireturn, 1) := by decide +kernel
theorem dX4_input_0 : decode cX4_input 0 = .ok (.iload_n 1, 1) := by decide +kernel
theorem dX4_input_1 : decode cX4_input 1 = .ok (.invokestatic 58, 3) := by decide +kernel
theorem dX4_input_4 : decode cX4_input 4 = .ok (.ifCond .eq 5, 3) := by decide +kernel
theorem dX4_input_7 : decode cX4_input 7 = .ok (.iconst (-1), 1) := by decide +kernel
theorem dX4_input_8 : decode cX4_input 8 = .ok (.ireturn, 1) := by decide +kernel
theorem dX4_input_9 : decode cX4_input 9 = .ok (.iload_n 2, 1) := by decide +kernel
theorem dX4_input_10 : decode cX4_input 10 = .ok (.tableswitch 72 0 3 #[30, 37, 44, 51], 30) := by decide +kernel
theorem dX4_input_40 : decode cX4_input 40 = .ok (.aload_n 0, 1) := by decide +kernel
theorem dX4_input_41 : decode cX4_input 41 = .ok (.iload_n 1, 1) := by decide +kernel
theorem dX4_input_42 : decode cX4_input 42 = .ok (.iconst 0, 1) := by decide +kernel
theorem dX4_input_43 : decode cX4_input 43 = .ok (.invokevirtual 69, 3) := by decide +kernel
theorem dX4_input_46 : decode cX4_input 46 = .ok (.ireturn, 1) := by decide +kernel
theorem dX4_input_47 : decode cX4_input 47 = .ok (.aload_n 0, 1) := by decide +kernel
theorem dX4_input_48 : decode cX4_input 48 = .ok (.iload_n 1, 1) := by decide +kernel
theorem dX4_input_49 : decode cX4_input 49 = .ok (.iconst 1, 1) := by decide +kernel
theorem dX4_input_50 : decode cX4_input 50 = .ok (.invokevirtual 69, 3) := by decide +kernel
theorem dX4_input_53 : decode cX4_input 53 = .ok (.ireturn, 1) := by decide +kernel
theorem dX4_input_54 : decode cX4_input 54 = .ok (.aload_n 0, 1) := by decide +kernel
theorem dX4_input_55 : decode cX4_input 55 = .ok (.iload_n 1, 1) := by decide +kernel
theorem dX4_input_56 : decode cX4_input 56 = .ok (.iconst 2, 1) := by decide +kernel
theorem dX4_input_57 : decode cX4_input 57 = .ok (.invokevirtual 69, 3) := by decide +kernel
theorem dX4_input_60 : decode cX4_input 60 = .ok (.ireturn, 1) := by decide +kernel
theorem dX4_input_61 : decode cX4_input 61 = .ok (.aload_n 0, 1) := by decide +kernel
theorem dX4_input_62 : decode cX4_input 62 = .ok (.iload_n 1, 1) := by decide +kernel
theorem dX4_input_63 : decode cX4_input 63 = .ok (.iconst 0, 1) := by decide +kernel
theorem dX4_input_64 : decode cX4_input 64 = .ok (.invokevirtual 69, 3) := by decide +kernel
theorem dX4_input_67 : decode cX4_input 67 = .ok (.ifCond .ne 8, 3) := by decide +kernel
theorem dX4_input_70 : decode cX4_input 70 = .ok (.bipush (-5), 2) := by decide +kernel
theorem dX4_input_72 : decode cX4_input 72 = .ok (.goto 9, 3) := by decide +kernel
theorem dX4_input_75 : decode cX4_input 75 = .ok (.aload_n 0, 1) := by decide +kernel
theorem dX4_input_76 : decode cX4_input 76 = .ok (.iload_n 1, 1) := by decide +kernel
theorem dX4_input_77 : decode cX4_input 77 = .ok (.iconst 4, 1) := by decide +kernel
theorem dX4_input_78 : decode cX4_input 78 = .ok (.invokevirtual 69, 3) := by decide +kernel
theorem dX4_input_81 : decode cX4_input 81 = .ok (.ireturn, 1) := by decide +kernel
theorem dX4_input_82 : decode cX4_input 82 = .ok (.bipush (-2), 2) := by decide +kernel
theorem dX4_input_84 : decode cX4_input 84 = .ok (.ireturn, 1) := by decide +kernel
theorem dX4_packet_0 : decode cX4_packet 0 = .ok (.iload_n 1, 1) := by decide +kernel
theorem dX4_packet_1 : decode cX4_packet 1 = .ok (.invokestatic 58, 3) := by decide +kernel
theorem dX4_packet_4 : decode cX4_packet 4 = .ok (.ifCond .eq 5, 3) := by decide +kernel
theorem dX4_packet_7 : decode cX4_packet 7 = .ok (.iconst (-1), 1) := by decide +kernel
theorem dX4_packet_8 : decode cX4_packet 8 = .ok (.ireturn, 1) := by decide +kernel
theorem dX4_packet_9 : decode cX4_packet 9 = .ok (.iload_n 2, 1) := by decide +kernel
theorem dX4_packet_10 : decode cX4_packet 10 = .ok (.ifCond .lt 12, 3) := by decide +kernel
theorem dX4_packet_13 : decode cX4_packet 13 = .ok (.iload_n 3, 1) := by decide +kernel
theorem dX4_packet_14 : decode cX4_packet 14 = .ok (.iconst 0, 1) := by decide +kernel
theorem dX4_packet_15 : decode cX4_packet 15 = .ok (.iconst 2, 1) := by decide +kernel
theorem dX4_packet_16 : decode cX4_packet 16 = .ok (.invokestatic 37, 3) := by decide +kernel
theorem dX4_packet_19 : decode cX4_packet 19 = .ok (.ifCond .ne 6, 3) := by decide +kernel
theorem dX4_packet_22 : decode cX4_packet 22 = .ok (.bipush (-2), 2) := by decide +kernel
theorem dX4_packet_24 : decode cX4_packet 24 = .ok (.ireturn, 1) := by decide +kernel
theorem dX4_packet_25 : decode cX4_packet 25 = .ok (.iload_n 2, 1) := by decide +kernel
theorem dX4_packet_26 : decode cX4_packet 26 = .ok (.aload_n 0, 1) := by decide +kernel
theorem dX4_packet_27 : decode cX4_packet 27 = .ok (.iload_n 1, 1) := by decide +kernel
theorem dX4_packet_28 : decode cX4_packet 28 = .ok (.iconst 0, 1) := by decide +kernel
theorem dX4_packet_29 : decode cX4_packet 29 = .ok (.invokevirtual 69, 3) := by decide +kernel
theorem dX4_packet_32 : decode cX4_packet 32 = .ok (.if_icmp .ge 18, 3) := by decide +kernel
theorem dX4_packet_35 : decode cX4_packet 35 = .ok (.aload_n 0, 1) := by decide +kernel
theorem dX4_packet_36 : decode cX4_packet 36 = .ok (.iload_n 1, 1) := by decide +kernel
theorem dX4_packet_37 : decode cX4_packet 37 = .ok (.iconst 3, 1) := by decide +kernel
theorem dX4_packet_38 : decode cX4_packet 38 = .ok (.iconst 3, 1) := by decide +kernel
theorem dX4_packet_39 : decode cX4_packet 39 = .ok (.iload_n 2, 1) := by decide +kernel
theorem dX4_packet_40 : decode cX4_packet 40 = .ok (.imul, 1) := by decide +kernel
theorem dX4_packet_41 : decode cX4_packet 41 = .ok (.iadd, 1) := by decide +kernel
theorem dX4_packet_42 : decode cX4_packet 42 = .ok (.iload_n 3, 1) := by decide +kernel
theorem dX4_packet_43 : decode cX4_packet 43 = .ok (.iadd, 1) := by decide +kernel
theorem dX4_packet_44 : decode cX4_packet 44 = .ok (.invokevirtual 69, 3) := by decide +kernel
theorem dX4_packet_47 : decode cX4_packet 47 = .ok (.goto 5, 3) := by decide +kernel
theorem dX4_packet_50 : decode cX4_packet 50 = .ok (.bipush (-5), 2) := by decide +kernel
theorem dX4_packet_52 : decode cX4_packet 52 = .ok (.ireturn, 1) := by decide +kernel
theorem dX4_next_0 : decode cX4_next 0 = .ok (.iload_n 1, 1) := by decide +kernel
theorem dX4_next_1 : decode cX4_next 1 = .ok (.invokestatic 58, 3) := by decide +kernel
theorem dX4_next_4 : decode cX4_next 4 = .ok (.ifCond .eq 5, 3) := by decide +kernel
theorem dX4_next_7 : decode cX4_next 7 = .ok (.iconst (-1), 1) := by decide +kernel
theorem dX4_next_8 : decode cX4_next 8 = .ok (.ireturn, 1) := by decide +kernel
theorem dX4_next_9 : decode cX4_next 9 = .ok (.aload_n 0, 1) := by decide +kernel
theorem dX4_next_10 : decode cX4_next 10 = .ok (.invokevirtual 45, 3) := by decide +kernel
theorem dX4_next_13 : decode cX4_next 13 = .ok (.aload_n 0, 1) := by decide +kernel
theorem dX4_next_14 : decode cX4_next 14 = .ok (.invokevirtual 119, 3) := by decide +kernel
theorem dX4_next_17 : decode cX4_next 17 = .ok (.pop, 1) := by decide +kernel
theorem dX4_next_18 : decode cX4_next 18 = .ok (.aload_n 0, 1) := by decide +kernel
theorem dX4_next_19 : decode cX4_next 19 = .ok (.invokevirtual 93, 3) := by decide +kernel
theorem dX4_next_22 : decode cX4_next 22 = .ok (.aload_n 0, 1) := by decide +kernel
theorem dX4_next_23 : decode cX4_next 23 = .ok (.getfield 30, 3) := by decide +kernel
theorem dX4_next_26 : decode cX4_next 26 = .ok (.iload_n 1, 1) := by decide +kernel
theorem dX4_next_27 : decode cX4_next 27 = .ok (.iaload, 1) := by decide +kernel
theorem dX4_next_28 : decode cX4_next 28 = .ok (.ireturn, 1) := by decide +kernel
theorem dX4_waits_0 : decode cX4_waits 0 = .ok (.iconst 0, 1) := by decide +kernel
theorem dX4_waits_1 : decode cX4_waits 1 = .ok (.istore_n 3, 1) := by decide +kernel
theorem dX4_waits_2 : decode cX4_waits 2 = .ok (.iconst 0, 1) := by decide +kernel
theorem dX4_waits_3 : decode cX4_waits 3 = .ok (.istore 4, 2) := by decide +kernel
theorem dX4_waits_5 : decode cX4_waits 5 = .ok (.iload 4, 2) := by decide +kernel
theorem dX4_waits_7 : decode cX4_waits 7 = .ok (.aload_n 0, 1) := by decide +kernel
theorem dX4_waits_8 : decode cX4_waits 8 = .ok (.iload_n 1, 1) := by decide +kernel
theorem dX4_waits_9 : decode cX4_waits 9 = .ok (.iconst 0, 1) := by decide +kernel
theorem dX4_waits_10 : decode cX4_waits 10 = .ok (.invokevirtual 69, 3) := by decide +kernel
theorem dX4_waits_13 : decode cX4_waits 13 = .ok (.if_icmp .ge 34, 3) := by decide +kernel
theorem dX4_waits_16 : decode cX4_waits 16 = .ok (.iload_n 3, 1) := by decide +kernel
theorem dX4_waits_17 : decode cX4_waits 17 = .ok (.ifCond .ne 18, 3) := by decide +kernel
theorem dX4_waits_20 : decode cX4_waits 20 = .ok (.aload_n 0, 1) := by decide +kernel
theorem dX4_waits_21 : decode cX4_waits 21 = .ok (.iload_n 1, 1) := by decide +kernel
theorem dX4_waits_22 : decode cX4_waits 22 = .ok (.iconst 3, 1) := by decide +kernel
theorem dX4_waits_23 : decode cX4_waits 23 = .ok (.iconst 3, 1) := by decide +kernel
theorem dX4_waits_24 : decode cX4_waits 24 = .ok (.iload 4, 2) := by decide +kernel
theorem dX4_waits_26 : decode cX4_waits 26 = .ok (.imul, 1) := by decide +kernel
theorem dX4_waits_27 : decode cX4_waits 27 = .ok (.iadd, 1) := by decide +kernel
theorem dX4_waits_28 : decode cX4_waits 28 = .ok (.invokevirtual 69, 3) := by decide +kernel
theorem dX4_waits_31 : decode cX4_waits 31 = .ok (.iload_n 2, 1) := by decide +kernel
theorem dX4_waits_32 : decode cX4_waits 32 = .ok (.if_icmp .ne 7, 3) := by decide +kernel
theorem dX4_waits_35 : decode cX4_waits 35 = .ok (.iconst 1, 1) := by decide +kernel
theorem dX4_waits_36 : decode cX4_waits 36 = .ok (.goto 4, 3) := by decide +kernel
theorem dX4_waits_39 : decode cX4_waits 39 = .ok (.iconst 0, 1) := by decide +kernel
theorem dX4_waits_40 : decode cX4_waits 40 = .ok (.istore_n 3, 1) := by decide +kernel
theorem dX4_waits_41 : decode cX4_waits 41 = .ok (.iinc 4 1, 3) := by decide +kernel
theorem dX4_waits_44 : decode cX4_waits 44 = .ok (.goto (-39), 3) := by decide +kernel
theorem dX4_waits_47 : decode cX4_waits 47 = .ok (.iload_n 3, 1) := by decide +kernel
theorem dX4_waits_48 : decode cX4_waits 48 = .ok (.ireturn, 1) := by decide +kernel
theorem dX4_leavesIn_0 : decode cX4_leavesIn 0 = .ok (.iload_n 1, 1) := by decide +kernel
theorem dX4_leavesIn_1 : decode cX4_leavesIn 1 = .ok (.invokestatic 58, 3) := by decide +kernel
theorem dX4_leavesIn_4 : decode cX4_leavesIn 4 = .ok (.ifCond .eq 5, 3) := by decide +kernel
theorem dX4_leavesIn_7 : decode cX4_leavesIn 7 = .ok (.iconst (-1), 1) := by decide +kernel
theorem dX4_leavesIn_8 : decode cX4_leavesIn 8 = .ok (.ireturn, 1) := by decide +kernel
theorem dX4_leavesIn_9 : decode cX4_leavesIn 9 = .ok (.iload_n 2, 1) := by decide +kernel
theorem dX4_leavesIn_10 : decode cX4_leavesIn 10 = .ok (.iconst 0, 1) := by decide +kernel
theorem dX4_leavesIn_11 : decode cX4_leavesIn 11 = .ok (.aload_n 0, 1) := by decide +kernel
theorem dX4_leavesIn_12 : decode cX4_leavesIn 12 = .ok (.iload_n 1, 1) := by decide +kernel
theorem dX4_leavesIn_13 : decode cX4_leavesIn 13 = .ok (.iconst 0, 1) := by decide +kernel
theorem dX4_leavesIn_14 : decode cX4_leavesIn 14 = .ok (.invokevirtual 69, 3) := by decide +kernel
theorem dX4_leavesIn_17 : decode cX4_leavesIn 17 = .ok (.iconst 1, 1) := by decide +kernel
theorem dX4_leavesIn_18 : decode cX4_leavesIn 18 = .ok (.isub, 1) := by decide +kernel
theorem dX4_leavesIn_19 : decode cX4_leavesIn 19 = .ok (.invokestatic 37, 3) := by decide +kernel
theorem dX4_leavesIn_22 : decode cX4_leavesIn 22 = .ok (.ifCond .ne 6, 3) := by decide +kernel
theorem dX4_leavesIn_25 : decode cX4_leavesIn 25 = .ok (.bipush (-2), 2) := by decide +kernel
theorem dX4_leavesIn_27 : decode cX4_leavesIn 27 = .ok (.ireturn, 1) := by decide +kernel
theorem dX4_leavesIn_28 : decode cX4_leavesIn 28 = .ok (.aload_n 0, 1) := by decide +kernel
theorem dX4_leavesIn_29 : decode cX4_leavesIn 29 = .ok (.iload_n 1, 1) := by decide +kernel
theorem dX4_leavesIn_30 : decode cX4_leavesIn 30 = .ok (.iconst 3, 1) := by decide +kernel
theorem dX4_leavesIn_31 : decode cX4_leavesIn 31 = .ok (.iconst 3, 1) := by decide +kernel
theorem dX4_leavesIn_32 : decode cX4_leavesIn 32 = .ok (.iload_n 2, 1) := by decide +kernel
theorem dX4_leavesIn_33 : decode cX4_leavesIn 33 = .ok (.imul, 1) := by decide +kernel
theorem dX4_leavesIn_34 : decode cX4_leavesIn 34 = .ok (.iadd, 1) := by decide +kernel
theorem dX4_leavesIn_35 : decode cX4_leavesIn 35 = .ok (.invokevirtual 69, 3) := by decide +kernel
theorem dX4_leavesIn_38 : decode cX4_leavesIn 38 = .ok (.istore_n 3, 1) := by decide +kernel
theorem dX4_leavesIn_39 : decode cX4_leavesIn 39 = .ok (.aload_n 0, 1) := by decide +kernel
theorem dX4_leavesIn_40 : decode cX4_leavesIn 40 = .ok (.invokevirtual 45, 3) := by decide +kernel
theorem dX4_leavesIn_43 : decode cX4_leavesIn 43 = .ok (.iconst 0, 1) := by decide +kernel
theorem dX4_leavesIn_44 : decode cX4_leavesIn 44 = .ok (.istore 4, 2) := by decide +kernel
theorem dX4_leavesIn_46 : decode cX4_leavesIn 46 = .ok (.iload 4, 2) := by decide +kernel
theorem dX4_leavesIn_48 : decode cX4_leavesIn 48 = .ok (.sipush 200, 3) := by decide +kernel
theorem dX4_leavesIn_51 : decode cX4_leavesIn 51 = .ok (.if_icmp .ge 23, 3) := by decide +kernel
theorem dX4_leavesIn_54 : decode cX4_leavesIn 54 = .ok (.aload_n 0, 1) := by decide +kernel
theorem dX4_leavesIn_55 : decode cX4_leavesIn 55 = .ok (.iload_n 1, 1) := by decide +kernel
theorem dX4_leavesIn_56 : decode cX4_leavesIn 56 = .ok (.iload_n 3, 1) := by decide +kernel
theorem dX4_leavesIn_57 : decode cX4_leavesIn 57 = .ok (.invokevirtual 132, 3) := by decide +kernel
theorem dX4_leavesIn_60 : decode cX4_leavesIn 60 = .ok (.ifCond .eq 14, 3) := by decide +kernel
theorem dX4_leavesIn_63 : decode cX4_leavesIn 63 = .ok (.aload_n 0, 1) := by decide +kernel
theorem dX4_leavesIn_64 : decode cX4_leavesIn 64 = .ok (.invokevirtual 119, 3) := by decide +kernel
theorem dX4_leavesIn_67 : decode cX4_leavesIn 67 = .ok (.pop, 1) := by decide +kernel
theorem dX4_leavesIn_68 : decode cX4_leavesIn 68 = .ok (.iinc 4 1, 3) := by decide +kernel
theorem dX4_leavesIn_71 : decode cX4_leavesIn 71 = .ok (.goto (-25), 3) := by decide +kernel
theorem dX4_leavesIn_74 : decode cX4_leavesIn 74 = .ok (.aload_n 0, 1) := by decide +kernel
theorem dX4_leavesIn_75 : decode cX4_leavesIn 75 = .ok (.iload_n 1, 1) := by decide +kernel
theorem dX4_leavesIn_76 : decode cX4_leavesIn 76 = .ok (.iload_n 3, 1) := by decide +kernel
theorem dX4_leavesIn_77 : decode cX4_leavesIn 77 = .ok (.invokevirtual 132, 3) := by decide +kernel
theorem dX4_leavesIn_80 : decode cX4_leavesIn 80 = .ok (.istore 5, 2) := by decide +kernel
theorem dX4_leavesIn_82 : decode cX4_leavesIn 82 = .ok (.aload_n 0, 1) := by decide +kernel
theorem dX4_leavesIn_83 : decode cX4_leavesIn 83 = .ok (.invokevirtual 93, 3) := by decide +kernel
theorem dX4_leavesIn_86 : decode cX4_leavesIn 86 = .ok (.iload 5, 2) := by decide +kernel
theorem dX4_leavesIn_88 : decode cX4_leavesIn 88 = .ok (.ifCond .eq 8, 3) := by decide +kernel
theorem dX4_leavesIn_91 : decode cX4_leavesIn 91 = .ok (.bipush (-5), 2) := by decide +kernel
theorem dX4_leavesIn_93 : decode cX4_leavesIn 93 = .ok (.goto 5, 3) := by decide +kernel
theorem dX4_leavesIn_96 : decode cX4_leavesIn 96 = .ok (.iload 4, 2) := by decide +kernel
theorem dX4_leavesIn_98 : decode cX4_leavesIn 98 = .ok (.ireturn, 1) := by decide +kernel
theorem dX4_wouldSend_0 : decode cX4_wouldSend 0 = .ok (.iload_n 1, 1) := by decide +kernel
theorem dX4_wouldSend_1 : decode cX4_wouldSend 1 = .ok (.iconst 1, 1) := by decide +kernel
theorem dX4_wouldSend_2 : decode cX4_wouldSend 2 = .ok (.bipush 50, 2) := by decide +kernel
theorem dX4_wouldSend_4 : decode cX4_wouldSend 4 = .ok (.invokestatic 37, 3) := by decide +kernel
theorem dX4_wouldSend_7 : decode cX4_wouldSend 7 = .ok (.ifCond .eq 12, 3) := by decide +kernel
theorem dX4_wouldSend_10 : decode cX4_wouldSend 10 = .ok (.iload_n 2, 1) := by decide +kernel
theorem dX4_wouldSend_11 : decode cX4_wouldSend 11 = .ok (.iconst 0, 1) := by decide +kernel
theorem dX4_wouldSend_12 : decode cX4_wouldSend 12 = .ok (.iconst 1, 1) := by decide +kernel
theorem dX4_wouldSend_13 : decode cX4_wouldSend 13 = .ok (.invokestatic 37, 3) := by decide +kernel
theorem dX4_wouldSend_16 : decode cX4_wouldSend 16 = .ok (.ifCond .ne 6, 3) := by decide +kernel
theorem dX4_wouldSend_19 : decode cX4_wouldSend 19 = .ok (.bipush (-2), 2) := by decide +kernel
theorem dX4_wouldSend_21 : decode cX4_wouldSend 21 = .ok (.ireturn, 1) := by decide +kernel
theorem dX4_wouldSend_22 : decode cX4_wouldSend 22 = .ok (.aload_n 0, 1) := by decide +kernel
theorem dX4_wouldSend_23 : decode cX4_wouldSend 23 = .ok (.invokevirtual 45, 3) := by decide +kernel
theorem dX4_wouldSend_26 : decode cX4_wouldSend 26 = .ok (.aload_n 0, 1) := by decide +kernel
theorem dX4_wouldSend_27 : decode cX4_wouldSend 27 = .ok (.getfield 7, 3) := by decide +kernel
theorem dX4_wouldSend_30 : decode cX4_wouldSend 30 = .ok (.iconst 1, 1) := by decide +kernel
theorem dX4_wouldSend_31 : decode cX4_wouldSend 31 = .ok (.iload_n 2, 1) := by decide +kernel
theorem dX4_wouldSend_32 : decode cX4_wouldSend 32 = .ok (.iastore, 1) := by decide +kernel
theorem dX4_wouldSend_33 : decode cX4_wouldSend 33 = .ok (.aload_n 0, 1) := by decide +kernel
theorem dX4_wouldSend_34 : decode cX4_wouldSend 34 = .ok (.iload_n 1, 1) := by decide +kernel
theorem dX4_wouldSend_35 : decode cX4_wouldSend 35 = .ok (.invokevirtual 123, 3) := by decide +kernel
theorem dX4_wouldSend_38 : decode cX4_wouldSend 38 = .ok (.istore_n 3, 1) := by decide +kernel
theorem dX4_wouldSend_39 : decode cX4_wouldSend 39 = .ok (.aload_n 0, 1) := by decide +kernel
theorem dX4_wouldSend_40 : decode cX4_wouldSend 40 = .ok (.invokevirtual 93, 3) := by decide +kernel
theorem dX4_wouldSend_43 : decode cX4_wouldSend 43 = .ok (.iload_n 3, 1) := by decide +kernel
theorem dX4_wouldSend_44 : decode cX4_wouldSend 44 = .ok (.ireturn, 1) := by decide +kernel
theorem dX4_over_0 : decode cX4_over 0 = .ok (.iconst 0, 1) := by decide +kernel
theorem dX4_over_1 : decode cX4_over 1 = .ok (.istore_n 3, 1) := by decide +kernel
theorem dX4_over_2 : decode cX4_over 2 = .ok (.iconst 0, 1) := by decide +kernel
theorem dX4_over_3 : decode cX4_over 3 = .ok (.istore 4, 2) := by decide +kernel
theorem dX4_over_5 : decode cX4_over 5 = .ok (.iload 4, 2) := by decide +kernel
theorem dX4_over_7 : decode cX4_over 7 = .ok (.iconst 4, 1) := by decide +kernel
theorem dX4_over_8 : decode cX4_over 8 = .ok (.if_icmp .ge 33, 3) := by decide +kernel
theorem dX4_over_11 : decode cX4_over 11 = .ok (.iload_n 3, 1) := by decide +kernel
theorem dX4_over_12 : decode cX4_over 12 = .ok (.iload_n 2, 1) := by decide +kernel
theorem dX4_over_13 : decode cX4_over 13 = .ok (.ifCond .eq 13, 3) := by decide +kernel
theorem dX4_over_16 : decode cX4_over 16 = .ok (.aload_n 0, 1) := by decide +kernel
theorem dX4_over_17 : decode cX4_over 17 = .ok (.iload 4, 2) := by decide +kernel
theorem dX4_over_19 : decode cX4_over 19 = .ok (.iload_n 1, 1) := by decide +kernel
theorem dX4_over_20 : decode cX4_over 20 = .ok (.invokevirtual 69, 3) := by decide +kernel
theorem dX4_over_23 : decode cX4_over 23 = .ok (.goto 10, 3) := by decide +kernel
theorem dX4_over_26 : decode cX4_over 26 = .ok (.aload_n 0, 1) := by decide +kernel
theorem dX4_over_27 : decode cX4_over 27 = .ok (.iload 4, 2) := by decide +kernel
theorem dX4_over_29 : decode cX4_over 29 = .ok (.iload_n 1, 1) := by decide +kernel
theorem dX4_over_30 : decode cX4_over 30 = .ok (.invokevirtual 62, 3) := by decide +kernel
theorem dX4_over_33 : decode cX4_over 33 = .ok (.iadd, 1) := by decide +kernel
theorem dX4_over_34 : decode cX4_over 34 = .ok (.istore_n 3, 1) := by decide +kernel
theorem dX4_over_35 : decode cX4_over 35 = .ok (.iinc 4 1, 3) := by decide +kernel
theorem dX4_over_38 : decode cX4_over 38 = .ok (.goto (-33), 3) := by decide +kernel
theorem dX4_over_41 : decode cX4_over 41 = .ok (.iload_n 3, 1) := by decide +kernel
theorem dX4_over_42 : decode cX4_over 42 = .ok (.ireturn, 1) := by decide +kernel
theorem dX4_stuckOnes_0 : decode cX4_stuckOnes 0 = .ok (.iconst 0, 1) := by decide +kernel
theorem dX4_stuckOnes_1 : decode cX4_stuckOnes 1 = .ok (.istore_n 1, 1) := by decide +kernel
theorem dX4_stuckOnes_2 : decode cX4_stuckOnes 2 = .ok (.iconst 0, 1) := by decide +kernel
theorem dX4_stuckOnes_3 : decode cX4_stuckOnes 3 = .ok (.istore_n 2, 1) := by decide +kernel
theorem dX4_stuckOnes_4 : decode cX4_stuckOnes 4 = .ok (.iload_n 2, 1) := by decide +kernel
theorem dX4_stuckOnes_5 : decode cX4_stuckOnes 5 = .ok (.iconst 4, 1) := by decide +kernel
theorem dX4_stuckOnes_6 : decode cX4_stuckOnes 6 = .ok (.if_icmp .ge 25, 3) := by decide +kernel
theorem dX4_stuckOnes_9 : decode cX4_stuckOnes 9 = .ok (.iload_n 1, 1) := by decide +kernel
theorem dX4_stuckOnes_10 : decode cX4_stuckOnes 10 = .ok (.aload_n 0, 1) := by decide +kernel
theorem dX4_stuckOnes_11 : decode cX4_stuckOnes 11 = .ok (.iload_n 2, 1) := by decide +kernel
theorem dX4_stuckOnes_12 : decode cX4_stuckOnes 12 = .ok (.invokevirtual 129, 3) := by decide +kernel
theorem dX4_stuckOnes_15 : decode cX4_stuckOnes 15 = .ok (.ifCond .eq 7, 3) := by decide +kernel
theorem dX4_stuckOnes_18 : decode cX4_stuckOnes 18 = .ok (.iconst 1, 1) := by decide +kernel
theorem dX4_stuckOnes_19 : decode cX4_stuckOnes 19 = .ok (.goto 4, 3) := by decide +kernel
theorem dX4_stuckOnes_22 : decode cX4_stuckOnes 22 = .ok (.iconst 0, 1) := by decide +kernel
theorem dX4_stuckOnes_23 : decode cX4_stuckOnes 23 = .ok (.iadd, 1) := by decide +kernel
theorem dX4_stuckOnes_24 : decode cX4_stuckOnes 24 = .ok (.istore_n 1, 1) := by decide +kernel
theorem dX4_stuckOnes_25 : decode cX4_stuckOnes 25 = .ok (.iinc 2 1, 3) := by decide +kernel
theorem dX4_stuckOnes_28 : decode cX4_stuckOnes 28 = .ok (.goto (-24), 3) := by decide +kernel
theorem dX4_stuckOnes_31 : decode cX4_stuckOnes 31 = .ok (.iload_n 1, 1) := by decide +kernel
theorem dX4_stuckOnes_32 : decode cX4_stuckOnes 32 = .ok (.ireturn, 1) := by decide +kernel
theorem dX4_count_0 : decode cX4_count 0 = .ok (.iload_n 1, 1) := by decide +kernel
theorem dX4_count_1 : decode cX4_count 1 = .ok (.tableswitch 155 0 12 #[67, 74, 81, 88, 95, 103, 111, 119, 126, 133, 140, 145, 150], 67) := by decide +kernel
theorem dX4_count_68 : decode cX4_count 68 = .ok (.aload_n 0, 1) := by decide +kernel
theorem dX4_count_69 : decode cX4_count 69 = .ok (.getfield 7, 3) := by decide +kernel
theorem dX4_count_72 : decode cX4_count 72 = .ok (.iconst 0, 1) := by decide +kernel
theorem dX4_count_73 : decode cX4_count 73 = .ok (.iaload, 1) := by decide +kernel
theorem dX4_count_74 : decode cX4_count 74 = .ok (.ireturn, 1) := by decide +kernel
theorem dX4_count_75 : decode cX4_count 75 = .ok (.aload_n 0, 1) := by decide +kernel
theorem dX4_count_76 : decode cX4_count 76 = .ok (.getfield 7, 3) := by decide +kernel
theorem dX4_count_79 : decode cX4_count 79 = .ok (.iconst 3, 1) := by decide +kernel
theorem dX4_count_80 : decode cX4_count 80 = .ok (.iaload, 1) := by decide +kernel
theorem dX4_count_81 : decode cX4_count 81 = .ok (.ireturn, 1) := by decide +kernel
theorem dX4_count_82 : decode cX4_count 82 = .ok (.aload_n 0, 1) := by decide +kernel
theorem dX4_count_83 : decode cX4_count 83 = .ok (.iconst 0, 1) := by decide +kernel
theorem dX4_count_84 : decode cX4_count 84 = .ok (.iconst 1, 1) := by decide +kernel
theorem dX4_count_85 : decode cX4_count 85 = .ok (.invokevirtual 136, 3) := by decide +kernel
theorem dX4_count_88 : decode cX4_count 88 = .ok (.ireturn, 1) := by decide +kernel
theorem dX4_count_89 : decode cX4_count 89 = .ok (.aload_n 0, 1) := by decide +kernel
theorem dX4_count_90 : decode cX4_count 90 = .ok (.iconst 5, 1) := by decide +kernel
theorem dX4_count_91 : decode cX4_count 91 = .ok (.iconst 0, 1) := by decide +kernel
theorem dX4_count_92 : decode cX4_count 92 = .ok (.invokevirtual 136, 3) := by decide +kernel
theorem dX4_count_95 : decode cX4_count 95 = .ok (.ireturn, 1) := by decide +kernel
theorem dX4_count_96 : decode cX4_count 96 = .ok (.aload_n 0, 1) := by decide +kernel
theorem dX4_count_97 : decode cX4_count 97 = .ok (.bipush 6, 2) := by decide +kernel
theorem dX4_count_99 : decode cX4_count 99 = .ok (.iconst 0, 1) := by decide +kernel
theorem dX4_count_100 : decode cX4_count 100 = .ok (.invokevirtual 136, 3) := by decide +kernel
theorem dX4_count_103 : decode cX4_count 103 = .ok (.ireturn, 1) := by decide +kernel
theorem dX4_count_104 : decode cX4_count 104 = .ok (.aload_n 0, 1) := by decide +kernel
theorem dX4_count_105 : decode cX4_count 105 = .ok (.bipush 7, 2) := by decide +kernel
theorem dX4_count_107 : decode cX4_count 107 = .ok (.iconst 0, 1) := by decide +kernel
theorem dX4_count_108 : decode cX4_count 108 = .ok (.invokevirtual 136, 3) := by decide +kernel
theorem dX4_count_111 : decode cX4_count 111 = .ok (.ireturn, 1) := by decide +kernel
theorem dX4_count_112 : decode cX4_count 112 = .ok (.aload_n 0, 1) := by decide +kernel
theorem dX4_count_113 : decode cX4_count 113 = .ok (.bipush 9, 2) := by decide +kernel
theorem dX4_count_115 : decode cX4_count 115 = .ok (.iconst 0, 1) := by decide +kernel
theorem dX4_count_116 : decode cX4_count 116 = .ok (.invokevirtual 136, 3) := by decide +kernel
theorem dX4_count_119 : decode cX4_count 119 = .ok (.ireturn, 1) := by decide +kernel
theorem dX4_count_120 : decode cX4_count 120 = .ok (.aload_n 0, 1) := by decide +kernel
theorem dX4_count_121 : decode cX4_count 121 = .ok (.iconst 1, 1) := by decide +kernel
theorem dX4_count_122 : decode cX4_count 122 = .ok (.iconst 1, 1) := by decide +kernel
theorem dX4_count_123 : decode cX4_count 123 = .ok (.invokevirtual 136, 3) := by decide +kernel
theorem dX4_count_126 : decode cX4_count 126 = .ok (.ireturn, 1) := by decide +kernel
theorem dX4_count_127 : decode cX4_count 127 = .ok (.aload_n 0, 1) := by decide +kernel
theorem dX4_count_128 : decode cX4_count 128 = .ok (.getfield 7, 3) := by decide +kernel
theorem dX4_count_131 : decode cX4_count 131 = .ok (.iconst 1, 1) := by decide +kernel
theorem dX4_count_132 : decode cX4_count 132 = .ok (.iaload, 1) := by decide +kernel
theorem dX4_count_133 : decode cX4_count 133 = .ok (.ireturn, 1) := by decide +kernel
theorem dX4_count_134 : decode cX4_count 134 = .ok (.aload_n 0, 1) := by decide +kernel
theorem dX4_count_135 : decode cX4_count 135 = .ok (.getfield 7, 3) := by decide +kernel
theorem dX4_count_138 : decode cX4_count 138 = .ok (.iconst 2, 1) := by decide +kernel
theorem dX4_count_139 : decode cX4_count 139 = .ok (.iaload, 1) := by decide +kernel
theorem dX4_count_140 : decode cX4_count 140 = .ok (.ireturn, 1) := by decide +kernel
theorem dX4_count_141 : decode cX4_count 141 = .ok (.aload_n 0, 1) := by decide +kernel
theorem dX4_count_142 : decode cX4_count 142 = .ok (.invokevirtual 140, 3) := by decide +kernel
theorem dX4_count_145 : decode cX4_count 145 = .ok (.ireturn, 1) := by decide +kernel
theorem dX4_count_146 : decode cX4_count 146 = .ok (.aload_n 0, 1) := by decide +kernel
theorem dX4_count_147 : decode cX4_count 147 = .ok (.getfield 41, 3) := by decide +kernel
theorem dX4_count_150 : decode cX4_count 150 = .ok (.ireturn, 1) := by decide +kernel
theorem dX4_count_151 : decode cX4_count 151 = .ok (.aload_n 0, 1) := by decide +kernel
theorem dX4_count_152 : decode cX4_count 152 = .ok (.getfield 79, 3) := by decide +kernel
theorem dX4_count_155 : decode cX4_count 155 = .ok (.ireturn, 1) := by decide +kernel
theorem dX4_count_156 : decode cX4_count 156 = .ok (.bipush (-2), 2) := by decide +kernel
theorem dX4_count_158 : decode cX4_count 158 = .ok (.ireturn, 1) := by decide +kernel
