theorem dX0_init_0 : decode cX0_init 0 = .ok (.aload_n 0, 1) := by decide +kernel
theorem dX0_init_1 : decode cX0_init 1 = .ok (.invokespecial 3, 3) := by decide +kernel
theorem dX0_init_4 : decode cX0_init 4 = .ok (.aload_n 0, 1) := by decide +kernel
theorem dX0_init_5 : decode cX0_init 5 = .ok (.iconst 0, 1) := by decide +kernel
theorem dX0_init_6 : decode cX0_init 6 = .ok (.putfield 9, 3) := by decide +kernel
theorem dX0_init_9 : decode cX0_init 9 = .ok (.aload_n 0, 1) := by decide +kernel
theorem dX0_init_10 : decode cX0_init 10 = .ok (.iconst 0, 1) := by decide +kernel
theorem dX0_init_11 : decode cX0_init 11 = .ok (.putfield 15, 3) := by decide +kernel
theorem dX0_init_14 : decode cX0_init 14 = .ok (.aload_n 0, 1) := by decide +kernel
theorem dX0_init_15 : decode cX0_init 15 = .ok (.iconst 0, 1) := by decide +kernel
theorem dX0_init_16 : decode cX0_init 16 = .ok (.putfield 18, 3) := by decide +kernel
theorem dX0_init_19 : decode cX0_init 19 = .ok (.aload_n 0, 1) := by decide +kernel
theorem dX0_init_20 : decode cX0_init 20 = .ok (.iconst 0, 1) := by decide +kernel
theorem dX0_init_21 : decode cX0_init 21 = .ok (.putfield 21, 3) := by decide +kernel
theorem dX0_init_24 : decode cX0_init 24 = .ok (.aload_n 0, 1) := by decide +kernel
theorem dX0_init_25 : decode cX0_init 25 = .ok (.iconst 4, 1) := by decide +kernel
theorem dX0_init_26 : decode cX0_init 26 = .ok (.anewarray 24, 3) := by decide +kernel
theorem dX0_init_29 : decode cX0_init 29 = .ok (.putfield 26, 3) := by decide +kernel
theorem dX0_init_32 : decode cX0_init 32 = .ok (.aload_n 0, 1) := by decide +kernel
theorem dX0_init_33 : decode cX0_init 33 = .ok (.iconst 4, 1) := by decide +kernel
theorem dX0_init_34 : decode cX0_init 34 = .ok (.anewarray 30, 3) := by decide +kernel
theorem dX0_init_37 : decode cX0_init 37 = .ok (.putfield 32, 3) := by decide +kernel
theorem dX0_init_40 : decode cX0_init 40 = .ok (.iconst 0, 1) := by decide +kernel
theorem dX0_init_41 : decode cX0_init 41 = .ok (.istore_n 1, 1) := by decide +kernel
theorem dX0_init_42 : decode cX0_init 42 = .ok (.iload_n 1, 1) := by decide +kernel
theorem dX0_init_43 : decode cX0_init 43 = .ok (.iconst 4, 1) := by decide +kernel
theorem dX0_init_44 : decode cX0_init 44 = .ok (.if_icmp .ge 35, 3) := by decide +kernel
theorem dX0_init_47 : decode cX0_init 47 = .ok (.aload_n 0, 1) := by decide +kernel
theorem dX0_init_48 : decode cX0_init 48 = .ok (.getfield 26, 3) := by decide +kernel
theorem dX0_init_51 : decode cX0_init 51 = .ok (.iload_n 1, 1) := by decide +kernel
theorem dX0_init_52 : decode cX0_init 52 = .ok (.new 24, 3) := by decide +kernel
theorem dX0_init_55 : decode cX0_init 55 = .ok (.dup, 1) := by decide +kernel
theorem dX0_init_56 : decode cX0_init 56 = .ok (.invokespecial 36, 3) := by decide +kernel
theorem dX0_init_59 : decode cX0_init 59 = .ok (.aastore, 1) := by decide +kernel
theorem dX0_init_60 : decode cX0_init 60 = .ok (.aload_n 0, 1) := by decide +kernel
theorem dX0_init_61 : decode cX0_init 61 = .ok (.getfield 32, 3) := by decide +kernel
theorem dX0_init_64 : decode cX0_init 64 = .ok (.iload_n 1, 1) := by decide +kernel
theorem dX0_init_65 : decode cX0_init 65 = .ok (.new 30, 3) := by decide +kernel
theorem dX0_init_68 : decode cX0_init 68 = .ok (.dup, 1) := by decide +kernel
theorem dX0_init_69 : decode cX0_init 69 = .ok (.invokespecial 37, 3) := by decide +kernel
theorem dX0_init_72 : decode cX0_init 72 = .ok (.aastore, 1) := by decide +kernel
theorem dX0_init_73 : decode cX0_init 73 = .ok (.iinc 1 1, 3) := by decide +kernel
theorem dX0_init_76 : decode cX0_init 76 = .ok (.goto (-34), 3) := by decide +kernel
theorem dX0_init_79 : decode cX0_init 79 = .ok (.return_, 1) := by decide +kernel
theorem dX0_copyFrom_0 : decode cX0_copyFrom 0 = .ok (.aload_n 0, 1) := by decide +kernel
theorem dX0_copyFrom_1 : decode cX0_copyFrom 1 = .ok (.aload_n 1, 1) := by decide +kernel
theorem dX0_copyFrom_2 : decode cX0_copyFrom 2 = .ok (.getfield 9, 3) := by decide +kernel
theorem dX0_copyFrom_5 : decode cX0_copyFrom 5 = .ok (.putfield 9, 3) := by decide +kernel
theorem dX0_copyFrom_8 : decode cX0_copyFrom 8 = .ok (.aload_n 0, 1) := by decide +kernel
theorem dX0_copyFrom_9 : decode cX0_copyFrom 9 = .ok (.aload_n 1, 1) := by decide +kernel
theorem dX0_copyFrom_10 : decode cX0_copyFrom 10 = .ok (.getfield 15, 3) := by decide +kernel
theorem dX0_copyFrom_13 : decode cX0_copyFrom 13 = .ok (.putfield 15, 3) := by decide +kernel
theorem dX0_copyFrom_16 : decode cX0_copyFrom 16 = .ok (.aload_n 0, 1) := by decide +kernel
theorem dX0_copyFrom_17 : decode cX0_copyFrom 17 = .ok (.aload_n 1, 1) := by decide +kernel
theorem dX0_copyFrom_18 : decode cX0_copyFrom 18 = .ok (.getfield 18, 3) := by decide +kernel
theorem dX0_copyFrom_21 : decode cX0_copyFrom 21 = .ok (.putfield 18, 3) := by decide +kernel
theorem dX0_copyFrom_24 : decode cX0_copyFrom 24 = .ok (.aload_n 0, 1) := by decide +kernel
theorem dX0_copyFrom_25 : decode cX0_copyFrom 25 = .ok (.aload_n 1, 1) := by decide +kernel
theorem dX0_copyFrom_26 : decode cX0_copyFrom 26 = .ok (.getfield 21, 3) := by decide +kernel
theorem dX0_copyFrom_29 : decode cX0_copyFrom 29 = .ok (.putfield 21, 3) := by decide +kernel
theorem dX0_copyFrom_32 : decode cX0_copyFrom 32 = .ok (.iconst 0, 1) := by decide +kernel
theorem dX0_copyFrom_33 : decode cX0_copyFrom 33 = .ok (.istore_n 2, 1) := by decide +kernel
theorem dX0_copyFrom_34 : decode cX0_copyFrom 34 = .ok (.iload_n 2, 1) := by decide +kernel
theorem dX0_copyFrom_35 : decode cX0_copyFrom 35 = .ok (.iconst 4, 1) := by decide +kernel
theorem dX0_copyFrom_36 : decode cX0_copyFrom 36 = .ok (.if_icmp .ge 39, 3) := by decide +kernel
theorem dX0_copyFrom_39 : decode cX0_copyFrom 39 = .ok (.aload_n 0, 1) := by decide +kernel
theorem dX0_copyFrom_40 : decode cX0_copyFrom 40 = .ok (.getfield 26, 3) := by decide +kernel
theorem dX0_copyFrom_43 : decode cX0_copyFrom 43 = .ok (.iload_n 2, 1) := by decide +kernel
theorem dX0_copyFrom_44 : decode cX0_copyFrom 44 = .ok (.aaload, 1) := by decide +kernel
theorem dX0_copyFrom_45 : decode cX0_copyFrom 45 = .ok (.aload_n 1, 1) := by decide +kernel
theorem dX0_copyFrom_46 : decode cX0_copyFrom 46 = .ok (.getfield 26, 3) := by decide +kernel
theorem dX0_copyFrom_49 : decode cX0_copyFrom 49 = .ok (.iload_n 2, 1) := by decide +kernel
theorem dX0_copyFrom_50 : decode cX0_copyFrom 50 = .ok (.aaload, 1) := by decide +kernel
theorem dX0_copyFrom_51 : decode cX0_copyFrom 51 = .ok (.invokevirtual 38, 3) := by decide +kernel
theorem dX0_copyFrom_54 : decode cX0_copyFrom 54 = .ok (.aload_n 0, 1) := by decide +kernel
theorem dX0_copyFrom_55 : decode cX0_copyFrom 55 = .ok (.getfield 32, 3) := by decide +kernel
theorem dX0_copyFrom_58 : decode cX0_copyFrom 58 = .ok (.iload_n 2, 1) := by decide +kernel
theorem dX0_copyFrom_59 : decode cX0_copyFrom 59 = .ok (.aaload, 1) := by decide +kernel
theorem dX0_copyFrom_60 : decode cX0_copyFrom 60 = .ok (.aload_n 1, 1) := by decide +kernel
theorem dX0_copyFrom_61 : decode cX0_copyFrom 61 = .ok (.getfield 32, 3) := by decide +kernel
theorem dX0_copyFrom_64 : decode cX0_copyFrom 64 = .ok (.iload_n 2, 1) := by decide +kernel
theorem dX0_copyFrom_65 : decode cX0_copyFrom 65 = .ok (.aaload, 1) := by decide +kernel
theorem dX0_copyFrom_66 : decode cX0_copyFrom 66 = .ok (.invokevirtual 42, 3) := by decide +kernel
theorem dX0_copyFrom_69 : decode cX0_copyFrom 69 = .ok (.iinc 2 1, 3) := by decide +kernel
theorem dX0_copyFrom_72 : decode cX0_copyFrom 72 = .ok (.goto (-38), 3) := by decide +kernel
theorem dX0_copyFrom_75 : decode cX0_copyFrom 75 = .ok (.return_, 1) := by decide +kernel
theorem dX0_hasRoom_0 : decode cX0_hasRoom 0 = .ok (.iload_n 1, 1) := by decide +kernel
theorem dX0_hasRoom_1 : decode cX0_hasRoom 1 = .ok (.invokestatic 45, 3) := by decide +kernel
theorem dX0_hasRoom_4 : decode cX0_hasRoom 4 = .ok (.ifCond .eq 23, 3) := by decide +kernel
theorem dX0_hasRoom_7 : decode cX0_hasRoom 7 = .ok (.aload_n 0, 1) := by decide +kernel
theorem dX0_hasRoom_8 : decode cX0_hasRoom 8 = .ok (.getfield 32, 3) := by decide +kernel
theorem dX0_hasRoom_11 : decode cX0_hasRoom 11 = .ok (.iload_n 1, 1) := by decide +kernel
theorem dX0_hasRoom_12 : decode cX0_hasRoom 12 = .ok (.aaload, 1) := by decide +kernel
theorem dX0_hasRoom_13 : decode cX0_hasRoom 13 = .ok (.getfield 49, 3) := by decide +kernel
theorem dX0_hasRoom_16 : decode cX0_hasRoom 16 = .ok (.iload_n 2, 1) := by decide +kernel
theorem dX0_hasRoom_17 : decode cX0_hasRoom 17 = .ok (.iadd, 1) := by decide +kernel
theorem dX0_hasRoom_18 : decode cX0_hasRoom 18 = .ok (.bipush 8, 2) := by decide +kernel
theorem dX0_hasRoom_20 : decode cX0_hasRoom 20 = .ok (.if_icmp .gt 7, 3) := by decide +kernel
theorem dX0_hasRoom_23 : decode cX0_hasRoom 23 = .ok (.iconst 1, 1) := by decide +kernel
theorem dX0_hasRoom_24 : decode cX0_hasRoom 24 = .ok (.goto 4, 3) := by decide +kernel
theorem dX0_hasRoom_27 : decode cX0_hasRoom 27 = .ok (.iconst 0, 1) := by decide +kernel
theorem dX0_hasRoom_28 : decode cX0_hasRoom 28 = .ok (.ireturn, 1) := by decide +kernel
theorem dX0_admit_0 : decode cX0_admit 0 = .ok (.aload_n 0, 1) := by decide +kernel
theorem dX0_admit_1 : decode cX0_admit 1 = .ok (.getfield 21, 3) := by decide +kernel
theorem dX0_admit_4 : decode cX0_admit 4 = .ok (.istore_n 3, 1) := by decide +kernel
theorem dX0_admit_5 : decode cX0_admit 5 = .ok (.aload_n 0, 1) := by decide +kernel
theorem dX0_admit_6 : decode cX0_admit 6 = .ok (.getfield 32, 3) := by decide +kernel
theorem dX0_admit_9 : decode cX0_admit 9 = .ok (.iload_n 1, 1) := by decide +kernel
theorem dX0_admit_10 : decode cX0_admit 10 = .ok (.aaload, 1) := by decide +kernel
theorem dX0_admit_11 : decode cX0_admit 11 = .ok (.iload_n 3, 1) := by decide +kernel
theorem dX0_admit_12 : decode cX0_admit 12 = .ok (.iload_n 2, 1) := by decide +kernel
theorem dX0_admit_13 : decode cX0_admit 13 = .ok (.aload_n 0, 1) := by decide +kernel
theorem dX0_admit_14 : decode cX0_admit 14 = .ok (.getfield 9, 3) := by decide +kernel
theorem dX0_admit_17 : decode cX0_admit 17 = .ok (.invokevirtual 52, 3) := by decide +kernel
theorem dX0_admit_20 : decode cX0_admit 20 = .ok (.aload_n 0, 1) := by decide +kernel
theorem dX0_admit_21 : decode cX0_admit 21 = .ok (.dup, 1) := by decide +kernel
theorem dX0_admit_22 : decode cX0_admit 22 = .ok (.getfield 21, 3) := by decide +kernel
theorem dX0_admit_25 : decode cX0_admit 25 = .ok (.iconst 1, 1) := by decide +kernel
theorem dX0_admit_26 : decode cX0_admit 26 = .ok (.iadd, 1) := by decide +kernel
theorem dX0_admit_27 : decode cX0_admit 27 = .ok (.putfield 21, 3) := by decide +kernel
theorem dX0_admit_30 : decode cX0_admit 30 = .ok (.iload_n 3, 1) := by decide +kernel
theorem dX0_admit_31 : decode cX0_admit 31 = .ok (.ireturn, 1) := by decide +kernel
theorem dX0_passTicks_0 : decode cX0_passTicks 0 = .ok (.iconst 0, 1) := by decide +kernel
theorem dX0_passTicks_1 : decode cX0_passTicks 1 = .ok (.istore_n 2, 1) := by decide +kernel
theorem dX0_passTicks_2 : decode cX0_passTicks 2 = .ok (.iconst 0, 1) := by decide +kernel
theorem dX0_passTicks_3 : decode cX0_passTicks 3 = .ok (.istore_n 3, 1) := by decide +kernel
theorem dX0_passTicks_4 : decode cX0_passTicks 4 = .ok (.iload_n 3, 1) := by decide +kernel
theorem dX0_passTicks_5 : decode cX0_passTicks 5 = .ok (.iload_n 1, 1) := by decide +kernel
theorem dX0_passTicks_6 : decode cX0_passTicks 6 = .ok (.if_icmp .ge 16, 3) := by decide +kernel
theorem dX0_passTicks_9 : decode cX0_passTicks 9 = .ok (.iload_n 2, 1) := by decide +kernel
theorem dX0_passTicks_10 : decode cX0_passTicks 10 = .ok (.aload_n 0, 1) := by decide +kernel
theorem dX0_passTicks_11 : decode cX0_passTicks 11 = .ok (.invokevirtual 56, 3) := by decide +kernel
theorem dX0_passTicks_14 : decode cX0_passTicks 14 = .ok (.iadd, 1) := by decide +kernel
theorem dX0_passTicks_15 : decode cX0_passTicks 15 = .ok (.istore_n 2, 1) := by decide +kernel
theorem dX0_passTicks_16 : decode cX0_passTicks 16 = .ok (.iinc 3 1, 3) := by decide +kernel
theorem dX0_passTicks_19 : decode cX0_passTicks 19 = .ok (.goto (-15), 3) := by decide +kernel
theorem dX0_passTicks_22 : decode cX0_passTicks 22 = .ok (.iload_n 2, 1) := by decide +kernel
theorem dX0_passTicks_23 : decode cX0_passTicks 23 = .ok (.ireturn, 1) := by decide +kernel
theorem dX0_passTick_0 : decode cX0_passTick 0 = .ok (.aload_n 0, 1) := by decide +kernel
theorem dX0_passTick_1 : decode cX0_passTick 1 = .ok (.invokevirtual 60, 3) := by decide +kernel
theorem dX0_passTick_4 : decode cX0_passTick 4 = .ok (.iconst 0, 1) := by decide +kernel
theorem dX0_passTick_5 : decode cX0_passTick 5 = .ok (.istore_n 1, 1) := by decide +kernel
theorem dX0_passTick_6 : decode cX0_passTick 6 = .ok (.iconst 0, 1) := by decide +kernel
theorem dX0_passTick_7 : decode cX0_passTick 7 = .ok (.istore_n 2, 1) := by decide +kernel
theorem dX0_passTick_8 : decode cX0_passTick 8 = .ok (.iload_n 2, 1) := by decide +kernel
theorem dX0_passTick_9 : decode cX0_passTick 9 = .ok (.iconst 4, 1) := by decide +kernel
theorem dX0_passTick_10 : decode cX0_passTick 10 = .ok (.if_icmp .ge 22, 3) := by decide +kernel
theorem dX0_passTick_13 : decode cX0_passTick 13 = .ok (.aload_n 0, 1) := by decide +kernel
theorem dX0_passTick_14 : decode cX0_passTick 14 = .ok (.iload_n 2, 1) := by decide +kernel
theorem dX0_passTick_15 : decode cX0_passTick 15 = .ok (.invokevirtual 63, 3) := by decide +kernel
theorem dX0_passTick_18 : decode cX0_passTick 18 = .ok (.bipush (-5), 2) := by decide +kernel
theorem dX0_passTick_20 : decode cX0_passTick 20 = .ok (.if_icmp .eq 6, 3) := by decide +kernel
theorem dX0_passTick_23 : decode cX0_passTick 23 = .ok (.iinc 1 1, 3) := by decide +kernel
theorem dX0_passTick_26 : decode cX0_passTick 26 = .ok (.iinc 2 1, 3) := by decide +kernel
theorem dX0_passTick_29 : decode cX0_passTick 29 = .ok (.goto (-21), 3) := by decide +kernel
theorem dX0_passTick_32 : decode cX0_passTick 32 = .ok (.iconst 0, 1) := by decide +kernel
theorem dX0_passTick_33 : decode cX0_passTick 33 = .ok (.istore_n 2, 1) := by decide +kernel
theorem dX0_passTick_34 : decode cX0_passTick 34 = .ok (.iload_n 2, 1) := by decide +kernel
theorem dX0_passTick_35 : decode cX0_passTick 35 = .ok (.iconst 4, 1) := by decide +kernel
theorem dX0_passTick_36 : decode cX0_passTick 36 = .ok (.if_icmp .ge 22, 3) := by decide +kernel
theorem dX0_passTick_39 : decode cX0_passTick 39 = .ok (.aload_n 0, 1) := by decide +kernel
theorem dX0_passTick_40 : decode cX0_passTick 40 = .ok (.getfield 26, 3) := by decide +kernel
theorem dX0_passTick_43 : decode cX0_passTick 43 = .ok (.iload_n 2, 1) := by decide +kernel
theorem dX0_passTick_44 : decode cX0_passTick 44 = .ok (.aaload, 1) := by decide +kernel
theorem dX0_passTick_45 : decode cX0_passTick 45 = .ok (.aload_n 0, 1) := by decide +kernel
theorem dX0_passTick_46 : decode cX0_passTick 46 = .ok (.getfield 9, 3) := by decide +kernel
theorem dX0_passTick_49 : decode cX0_passTick 49 = .ok (.invokevirtual 67, 3) := by decide +kernel
theorem dX0_passTick_52 : decode cX0_passTick 52 = .ok (.iinc 2 1, 3) := by decide +kernel
theorem dX0_passTick_55 : decode cX0_passTick 55 = .ok (.goto (-21), 3) := by decide +kernel
theorem dX0_passTick_58 : decode cX0_passTick 58 = .ok (.iconst 0, 1) := by decide +kernel
theorem dX0_passTick_59 : decode cX0_passTick 59 = .ok (.istore_n 2, 1) := by decide +kernel
theorem dX0_passTick_60 : decode cX0_passTick 60 = .ok (.iload_n 2, 1) := by decide +kernel
theorem dX0_passTick_61 : decode cX0_passTick 61 = .ok (.iconst 4, 1) := by decide +kernel
theorem dX0_passTick_62 : decode cX0_passTick 62 = .ok (.if_icmp .ge 18, 3) := by decide +kernel
theorem dX0_passTick_65 : decode cX0_passTick 65 = .ok (.aload_n 0, 1) := by decide +kernel
theorem dX0_passTick_66 : decode cX0_passTick 66 = .ok (.getfield 32, 3) := by decide +kernel
theorem dX0_passTick_69 : decode cX0_passTick 69 = .ok (.iload_n 2, 1) := by decide +kernel
theorem dX0_passTick_70 : decode cX0_passTick 70 = .ok (.aaload, 1) := by decide +kernel
theorem dX0_passTick_71 : decode cX0_passTick 71 = .ok (.invokevirtual 71, 3) := by decide +kernel
theorem dX0_passTick_74 : decode cX0_passTick 74 = .ok (.iinc 2 1, 3) := by decide +kernel
theorem dX0_passTick_77 : decode cX0_passTick 77 = .ok (.goto (-17), 3) := by decide +kernel
theorem dX0_passTick_80 : decode cX0_passTick 80 = .ok (.aload_n 0, 1) := by decide +kernel
theorem dX0_passTick_81 : decode cX0_passTick 81 = .ok (.dup, 1) := by decide +kernel
theorem dX0_passTick_82 : decode cX0_passTick 82 = .ok (.getfield 9, 3) := by decide +kernel
theorem dX0_passTick_85 : decode cX0_passTick 85 = .ok (.iconst 1, 1) := by decide +kernel
theorem dX0_passTick_86 : decode cX0_passTick 86 = .ok (.iadd, 1) := by decide +kernel
theorem dX0_passTick_87 : decode cX0_passTick 87 = .ok (.putfield 9, 3) := by decide +kernel
theorem dX0_passTick_90 : decode cX0_passTick 90 = .ok (.iload_n 1, 1) := by decide +kernel
theorem dX0_passTick_91 : decode cX0_passTick 91 = .ok (.ireturn, 1) := by decide +kernel
theorem dX0_beginTick_0 : decode cX0_beginTick 0 = .ok (.aload_n 0, 1) := by decide +kernel
theorem dX0_beginTick_1 : decode cX0_beginTick 1 = .ok (.getfield 18, 3) := by decide +kernel
theorem dX0_beginTick_4 : decode cX0_beginTick 4 = .ok (.ifCond .le 19, 3) := by decide +kernel
theorem dX0_beginTick_7 : decode cX0_beginTick 7 = .ok (.aload_n 0, 1) := by decide +kernel
theorem dX0_beginTick_8 : decode cX0_beginTick 8 = .ok (.getfield 9, 3) := by decide +kernel
theorem dX0_beginTick_11 : decode cX0_beginTick 11 = .ok (.aload_n 0, 1) := by decide +kernel
theorem dX0_beginTick_12 : decode cX0_beginTick 12 = .ok (.getfield 18, 3) := by decide +kernel
theorem dX0_beginTick_15 : decode cX0_beginTick 15 = .ok (.irem, 1) := by decide +kernel
theorem dX0_beginTick_16 : decode cX0_beginTick 16 = .ok (.ifCond .ne 7, 3) := by decide +kernel
theorem dX0_beginTick_19 : decode cX0_beginTick 19 = .ok (.iconst 1, 1) := by decide +kernel
theorem dX0_beginTick_20 : decode cX0_beginTick 20 = .ok (.goto 4, 3) := by decide +kernel
theorem dX0_beginTick_23 : decode cX0_beginTick 23 = .ok (.iconst 0, 1) := by decide +kernel
theorem dX0_beginTick_24 : decode cX0_beginTick 24 = .ok (.istore_n 1, 1) := by decide +kernel
theorem dX0_beginTick_25 : decode cX0_beginTick 25 = .ok (.iconst 0, 1) := by decide +kernel
theorem dX0_beginTick_26 : decode cX0_beginTick 26 = .ok (.istore_n 2, 1) := by decide +kernel
theorem dX0_beginTick_27 : decode cX0_beginTick 27 = .ok (.iload_n 2, 1) := by decide +kernel
theorem dX0_beginTick_28 : decode cX0_beginTick 28 = .ok (.iconst 4, 1) := by decide +kernel
theorem dX0_beginTick_29 : decode cX0_beginTick 29 = .ok (.if_icmp .ge 45, 3) := by decide +kernel
theorem dX0_beginTick_32 : decode cX0_beginTick 32 = .ok (.aload_n 0, 1) := by decide +kernel
theorem dX0_beginTick_33 : decode cX0_beginTick 33 = .ok (.getfield 32, 3) := by decide +kernel
theorem dX0_beginTick_36 : decode cX0_beginTick 36 = .ok (.iload_n 2, 1) := by decide +kernel
theorem dX0_beginTick_37 : decode cX0_beginTick 37 = .ok (.aaload, 1) := by decide +kernel
theorem dX0_beginTick_38 : decode cX0_beginTick 38 = .ok (.iconst 0, 1) := by decide +kernel
theorem dX0_beginTick_39 : decode cX0_beginTick 39 = .ok (.putfield 74, 3) := by decide +kernel
theorem dX0_beginTick_42 : decode cX0_beginTick 42 = .ok (.aload_n 0, 1) := by decide +kernel
theorem dX0_beginTick_43 : decode cX0_beginTick 43 = .ok (.getfield 26, 3) := by decide +kernel
theorem dX0_beginTick_46 : decode cX0_beginTick 46 = .ok (.iload_n 2, 1) := by decide +kernel
theorem dX0_beginTick_47 : decode cX0_beginTick 47 = .ok (.aaload, 1) := by decide +kernel
theorem dX0_beginTick_48 : decode cX0_beginTick 48 = .ok (.aload_n 0, 1) := by decide +kernel
theorem dX0_beginTick_49 : decode cX0_beginTick 49 = .ok (.getfield 9, 3) := by decide +kernel
theorem dX0_beginTick_52 : decode cX0_beginTick 52 = .ok (.invokevirtual 78, 3) := by decide +kernel
theorem dX0_beginTick_55 : decode cX0_beginTick 55 = .ok (.iload_n 1, 1) := by decide +kernel
theorem dX0_beginTick_56 : decode cX0_beginTick 56 = .ok (.ifCond .eq 12, 3) := by decide +kernel
theorem dX0_beginTick_59 : decode cX0_beginTick 59 = .ok (.aload_n 0, 1) := by decide +kernel
theorem dX0_beginTick_60 : decode cX0_beginTick 60 = .ok (.getfield 26, 3) := by decide +kernel
theorem dX0_beginTick_63 : decode cX0_beginTick 63 = .ok (.iload_n 2, 1) := by decide +kernel
theorem dX0_beginTick_64 : decode cX0_beginTick 64 = .ok (.aaload, 1) := by decide +kernel
theorem dX0_beginTick_65 : decode cX0_beginTick 65 = .ok (.invokevirtual 81, 3) := by decide +kernel
theorem dX0_beginTick_68 : decode cX0_beginTick 68 = .ok (.iinc 2 1, 3) := by decide +kernel
theorem dX0_beginTick_71 : decode cX0_beginTick 71 = .ok (.goto (-44), 3) := by decide +kernel
theorem dX0_beginTick_74 : decode cX0_beginTick 74 = .ok (.return_, 1) := by decide +kernel
theorem dX0_sendTo_0 : decode cX0_sendTo 0 = .ok (.aload_n 0, 1) := by decide +kernel
theorem dX0_sendTo_1 : decode cX0_sendTo 1 = .ok (.getfield 26, 3) := by decide +kernel
theorem dX0_sendTo_4 : decode cX0_sendTo 4 = .ok (.iload_n 1, 1) := by decide +kernel
theorem dX0_sendTo_5 : decode cX0_sendTo 5 = .ok (.aaload, 1) := by decide +kernel
theorem dX0_sendTo_6 : decode cX0_sendTo 6 = .ok (.astore_n 2, 1) := by decide +kernel
theorem dX0_sendTo_7 : decode cX0_sendTo 7 = .ok (.aload_n 2, 1) := by decide +kernel
theorem dX0_sendTo_8 : decode cX0_sendTo 8 = .ok (.getfield 84, 3) := by decide +kernel
theorem dX0_sendTo_11 : decode cX0_sendTo 11 = .ok (.ifCond .gt 6, 3) := by decide +kernel
theorem dX0_sendTo_14 : decode cX0_sendTo 14 = .ok (.bipush (-5), 2) := by decide +kernel
theorem dX0_sendTo_16 : decode cX0_sendTo 16 = .ok (.ireturn, 1) := by decide +kernel
theorem dX0_sendTo_17 : decode cX0_sendTo 17 = .ok (.iconst 0, 1) := by decide +kernel
theorem dX0_sendTo_18 : decode cX0_sendTo 18 = .ok (.istore_n 3, 1) := by decide +kernel
theorem dX0_sendTo_19 : decode cX0_sendTo 19 = .ok (.iload_n 3, 1) := by decide +kernel
theorem dX0_sendTo_20 : decode cX0_sendTo 20 = .ok (.iconst 4, 1) := by decide +kernel
theorem dX0_sendTo_21 : decode cX0_sendTo 21 = .ok (.if_icmp .ge 75, 3) := by decide +kernel
theorem dX0_sendTo_24 : decode cX0_sendTo 24 = .ok (.aload_n 2, 1) := by decide +kernel
theorem dX0_sendTo_25 : decode cX0_sendTo 25 = .ok (.getfield 87, 3) := by decide +kernel
theorem dX0_sendTo_28 : decode cX0_sendTo 28 = .ok (.iload_n 3, 1) := by decide +kernel
theorem dX0_sendTo_29 : decode cX0_sendTo 29 = .ok (.iadd, 1) := by decide +kernel
theorem dX0_sendTo_30 : decode cX0_sendTo 30 = .ok (.iconst 4, 1) := by decide +kernel
theorem dX0_sendTo_31 : decode cX0_sendTo 31 = .ok (.irem, 1) := by decide +kernel
theorem dX0_sendTo_32 : decode cX0_sendTo 32 = .ok (.istore 4, 2) := by decide +kernel
theorem dX0_sendTo_34 : decode cX0_sendTo 34 = .ok (.aload_n 0, 1) := by decide +kernel
theorem dX0_sendTo_35 : decode cX0_sendTo 35 = .ok (.getfield 32, 3) := by decide +kernel
theorem dX0_sendTo_38 : decode cX0_sendTo 38 = .ok (.iload 4, 2) := by decide +kernel
theorem dX0_sendTo_40 : decode cX0_sendTo 40 = .ok (.aaload, 1) := by decide +kernel
theorem dX0_sendTo_41 : decode cX0_sendTo 41 = .ok (.iload_n 1, 1) := by decide +kernel
theorem dX0_sendTo_42 : decode cX0_sendTo 42 = .ok (.aload_n 0, 1) := by decide +kernel
theorem dX0_sendTo_43 : decode cX0_sendTo 43 = .ok (.getfield 15, 3) := by decide +kernel
theorem dX0_sendTo_46 : decode cX0_sendTo 46 = .ok (.invokevirtual 90, 3) := by decide +kernel
theorem dX0_sendTo_49 : decode cX0_sendTo 49 = .ok (.istore 5, 2) := by decide +kernel
theorem dX0_sendTo_51 : decode cX0_sendTo 51 = .ok (.iload 5, 2) := by decide +kernel
theorem dX0_sendTo_53 : decode cX0_sendTo 53 = .ok (.iconst (-1), 1) := by decide +kernel
theorem dX0_sendTo_54 : decode cX0_sendTo 54 = .ok (.if_icmp .eq 36, 3) := by decide +kernel
theorem dX0_sendTo_57 : decode cX0_sendTo 57 = .ok (.aload_n 0, 1) := by decide +kernel
theorem dX0_sendTo_58 : decode cX0_sendTo 58 = .ok (.getfield 32, 3) := by decide +kernel
theorem dX0_sendTo_61 : decode cX0_sendTo 61 = .ok (.iload 4, 2) := by decide +kernel
theorem dX0_sendTo_63 : decode cX0_sendTo 63 = .ok (.aaload, 1) := by decide +kernel
theorem dX0_sendTo_64 : decode cX0_sendTo 64 = .ok (.iload 5, 2) := by decide +kernel
theorem dX0_sendTo_66 : decode cX0_sendTo 66 = .ok (.invokevirtual 94, 3) := by decide +kernel
theorem dX0_sendTo_69 : decode cX0_sendTo 69 = .ok (.istore 6, 2) := by decide +kernel
theorem dX0_sendTo_71 : decode cX0_sendTo 71 = .ok (.aload_n 2, 1) := by decide +kernel
theorem dX0_sendTo_72 : decode cX0_sendTo 72 = .ok (.iload 6, 2) := by decide +kernel
theorem dX0_sendTo_74 : decode cX0_sendTo 74 = .ok (.invokevirtual 97, 3) := by decide +kernel
theorem dX0_sendTo_77 : decode cX0_sendTo 77 = .ok (.aload_n 2, 1) := by decide +kernel
theorem dX0_sendTo_78 : decode cX0_sendTo 78 = .ok (.iload 4, 2) := by decide +kernel
theorem dX0_sendTo_80 : decode cX0_sendTo 80 = .ok (.iconst 1, 1) := by decide +kernel
theorem dX0_sendTo_81 : decode cX0_sendTo 81 = .ok (.iadd, 1) := by decide +kernel
theorem dX0_sendTo_82 : decode cX0_sendTo 82 = .ok (.iconst 4, 1) := by decide +kernel
theorem dX0_sendTo_83 : decode cX0_sendTo 83 = .ok (.irem, 1) := by decide +kernel
theorem dX0_sendTo_84 : decode cX0_sendTo 84 = .ok (.putfield 87, 3) := by decide +kernel
theorem dX0_sendTo_87 : decode cX0_sendTo 87 = .ok (.iload 6, 2) := by decide +kernel
theorem dX0_sendTo_89 : decode cX0_sendTo 89 = .ok (.ireturn, 1) := by decide +kernel
theorem dX0_sendTo_90 : decode cX0_sendTo 90 = .ok (.iinc 3 1, 3) := by decide +kernel
theorem dX0_sendTo_93 : decode cX0_sendTo 93 = .ok (.goto (-74), 3) := by decide +kernel
theorem dX0_sendTo_96 : decode cX0_sendTo 96 = .ok (.bipush (-5), 2) := by decide +kernel
theorem dX0_sendTo_98 : decode cX0_sendTo 98 = .ok (.ireturn, 1) := by decide +kernel
theorem dX0_waitingFor_0 : decode cX0_waitingFor 0 = .ok (.iconst 0, 1) := by decide +kernel
theorem dX0_waitingFor_1 : decode cX0_waitingFor 1 = .ok (.istore_n 2, 1) := by decide +kernel
theorem dX0_waitingFor_2 : decode cX0_waitingFor 2 = .ok (.iconst 0, 1) := by decide +kernel
theorem dX0_waitingFor_3 : decode cX0_waitingFor 3 = .ok (.istore_n 3, 1) := by decide +kernel
theorem dX0_waitingFor_4 : decode cX0_waitingFor 4 = .ok (.iload_n 3, 1) := by decide +kernel
theorem dX0_waitingFor_5 : decode cX0_waitingFor 5 = .ok (.iconst 4, 1) := by decide +kernel
theorem dX0_waitingFor_6 : decode cX0_waitingFor 6 = .ok (.if_icmp .ge 22, 3) := by decide +kernel
theorem dX0_waitingFor_9 : decode cX0_waitingFor 9 = .ok (.iload_n 2, 1) := by decide +kernel
theorem dX0_waitingFor_10 : decode cX0_waitingFor 10 = .ok (.aload_n 0, 1) := by decide +kernel
theorem dX0_waitingFor_11 : decode cX0_waitingFor 11 = .ok (.getfield 32, 3) := by decide +kernel
theorem dX0_waitingFor_14 : decode cX0_waitingFor 14 = .ok (.iload_n 3, 1) := by decide +kernel
theorem dX0_waitingFor_15 : decode cX0_waitingFor 15 = .ok (.aaload, 1) := by decide +kernel
theorem dX0_waitingFor_16 : decode cX0_waitingFor 16 = .ok (.iload_n 1, 1) := by decide +kernel
theorem dX0_waitingFor_17 : decode cX0_waitingFor 17 = .ok (.invokevirtual 100, 3) := by decide +kernel
theorem dX0_waitingFor_20 : decode cX0_waitingFor 20 = .ok (.iadd, 1) := by decide +kernel
theorem dX0_waitingFor_21 : decode cX0_waitingFor 21 = .ok (.istore_n 2, 1) := by decide +kernel
theorem dX0_waitingFor_22 : decode cX0_waitingFor 22 = .ok (.iinc 3 1, 3) := by decide +kernel
theorem dX0_waitingFor_25 : decode cX0_waitingFor 25 = .ok (.goto (-21), 3) := by decide +kernel
theorem dX0_waitingFor_28 : decode cX0_waitingFor 28 = .ok (.iload_n 2, 1) := by decide +kernel
theorem dX0_waitingFor_29 : decode cX0_waitingFor 29 = .ok (.ireturn, 1) := by decide +kernel
theorem dX0_isStuck_0 : decode cX0_isStuck 0 = .ok (.aload_n 0, 1) := by decide +kernel
theorem dX0_isStuck_1 : decode cX0_isStuck 1 = .ok (.getfield 18, 3) := by decide +kernel
theorem dX0_isStuck_4 : decode cX0_isStuck 4 = .ok (.ifCond .ne 27, 3) := by decide +kernel
theorem dX0_isStuck_7 : decode cX0_isStuck 7 = .ok (.aload_n 0, 1) := by decide +kernel
theorem dX0_isStuck_8 : decode cX0_isStuck 8 = .ok (.getfield 26, 3) := by decide +kernel
theorem dX0_isStuck_11 : decode cX0_isStuck 11 = .ok (.iload_n 1, 1) := by decide +kernel
theorem dX0_isStuck_12 : decode cX0_isStuck 12 = .ok (.aaload, 1) := by decide +kernel
theorem dX0_isStuck_13 : decode cX0_isStuck 13 = .ok (.invokevirtual 103, 3) := by decide +kernel
theorem dX0_isStuck_16 : decode cX0_isStuck 16 = .ok (.ifCond .eq 15, 3) := by decide +kernel
theorem dX0_isStuck_19 : decode cX0_isStuck 19 = .ok (.aload_n 0, 1) := by decide +kernel
theorem dX0_isStuck_20 : decode cX0_isStuck 20 = .ok (.iload_n 1, 1) := by decide +kernel
theorem dX0_isStuck_21 : decode cX0_isStuck 21 = .ok (.invokevirtual 107, 3) := by decide +kernel
theorem dX0_isStuck_24 : decode cX0_isStuck 24 = .ok (.ifCond .le 7, 3) := by decide +kernel
theorem dX0_isStuck_27 : decode cX0_isStuck 27 = .ok (.iconst 1, 1) := by decide +kernel
theorem dX0_isStuck_28 : decode cX0_isStuck 28 = .ok (.goto 4, 3) := by decide +kernel
theorem dX0_isStuck_31 : decode cX0_isStuck 31 = .ok (.iconst 0, 1) := by decide +kernel
theorem dX0_isStuck_32 : decode cX0_isStuck 32 = .ok (.ireturn, 1) := by decide +kernel
theorem dX0_stuckLanes_0 : decode cX0_stuckLanes 0 = .ok (.iconst 0, 1) := by decide +kernel
theorem dX0_stuckLanes_1 : decode cX0_stuckLanes 1 = .ok (.istore_n 1, 1) := by decide +kernel
theorem dX0_stuckLanes_2 : decode cX0_stuckLanes 2 = .ok (.iconst 0, 1) := by decide +kernel
theorem dX0_stuckLanes_3 : decode cX0_stuckLanes 3 = .ok (.istore_n 2, 1) := by decide +kernel
theorem dX0_stuckLanes_4 : decode cX0_stuckLanes 4 = .ok (.iload_n 2, 1) := by decide +kernel
theorem dX0_stuckLanes_5 : decode cX0_stuckLanes 5 = .ok (.iconst 4, 1) := by decide +kernel
theorem dX0_stuckLanes_6 : decode cX0_stuckLanes 6 = .ok (.if_icmp .ge 20, 3) := by decide +kernel
theorem dX0_stuckLanes_9 : decode cX0_stuckLanes 9 = .ok (.aload_n 0, 1) := by decide +kernel
theorem dX0_stuckLanes_10 : decode cX0_stuckLanes 10 = .ok (.iload_n 2, 1) := by decide +kernel
theorem dX0_stuckLanes_11 : decode cX0_stuckLanes 11 = .ok (.invokevirtual 108, 3) := by decide +kernel
theorem dX0_stuckLanes_14 : decode cX0_stuckLanes 14 = .ok (.ifCond .eq 6, 3) := by decide +kernel
theorem dX0_stuckLanes_17 : decode cX0_stuckLanes 17 = .ok (.iinc 1 1, 3) := by decide +kernel
theorem dX0_stuckLanes_20 : decode cX0_stuckLanes 20 = .ok (.iinc 2 1, 3) := by decide +kernel
theorem dX0_stuckLanes_23 : decode cX0_stuckLanes 23 = .ok (.goto (-19), 3) := by decide +kernel
theorem dX0_stuckLanes_26 : decode cX0_stuckLanes 26 = .ok (.iload_n 1, 1) := by decide +kernel
theorem dX0_stuckLanes_27 : decode cX0_stuckLanes 27 = .ok (.ireturn, 1) := by decide +kernel
theorem dX0_figure_0 : decode cX0_figure 0 = .ok (.iload_n 1, 1) := by decide +kernel
theorem dX0_figure_1 : decode cX0_figure 1 = .ok (.tableswitch 123 0 10 #[59, 64, 69, 75, 82, 89, 96, 102, 108, 113, 118], 59) := by decide +kernel
theorem dX0_figure_60 : decode cX0_figure 60 = .ok (.aload_n 0, 1) := by decide +kernel
theorem dX0_figure_61 : decode cX0_figure 61 = .ok (.getfield 9, 3) := by decide +kernel
theorem dX0_figure_64 : decode cX0_figure 64 = .ok (.ireturn, 1) := by decide +kernel
theorem dX0_figure_65 : decode cX0_figure 65 = .ok (.aload_n 0, 1) := by decide +kernel
theorem dX0_figure_66 : decode cX0_figure 66 = .ok (.getfield 21, 3) := by decide +kernel
theorem dX0_figure_69 : decode cX0_figure 69 = .ok (.ireturn, 1) := by decide +kernel
theorem dX0_figure_70 : decode cX0_figure 70 = .ok (.aload_n 0, 1) := by decide +kernel
theorem dX0_figure_71 : decode cX0_figure 71 = .ok (.iconst 0, 1) := by decide +kernel
theorem dX0_figure_72 : decode cX0_figure 72 = .ok (.invokevirtual 111, 3) := by decide +kernel
theorem dX0_figure_75 : decode cX0_figure 75 = .ok (.ireturn, 1) := by decide +kernel
theorem dX0_figure_76 : decode cX0_figure 76 = .ok (.aload_n 0, 1) := by decide +kernel
theorem dX0_figure_77 : decode cX0_figure 77 = .ok (.bipush 8, 2) := by decide +kernel
theorem dX0_figure_79 : decode cX0_figure 79 = .ok (.invokevirtual 114, 3) := by decide +kernel
theorem dX0_figure_82 : decode cX0_figure 82 = .ok (.ireturn, 1) := by decide +kernel
theorem dX0_figure_83 : decode cX0_figure 83 = .ok (.aload_n 0, 1) := by decide +kernel
theorem dX0_figure_84 : decode cX0_figure 84 = .ok (.bipush 9, 2) := by decide +kernel
theorem dX0_figure_86 : decode cX0_figure 86 = .ok (.invokevirtual 114, 3) := by decide +kernel
theorem dX0_figure_89 : decode cX0_figure 89 = .ok (.ireturn, 1) := by decide +kernel
theorem dX0_figure_90 : decode cX0_figure 90 = .ok (.aload_n 0, 1) := by decide +kernel
theorem dX0_figure_91 : decode cX0_figure 91 = .ok (.bipush 10, 2) := by decide +kernel
theorem dX0_figure_93 : decode cX0_figure 93 = .ok (.invokevirtual 114, 3) := by decide +kernel
theorem dX0_figure_96 : decode cX0_figure 96 = .ok (.ireturn, 1) := by decide +kernel
theorem dX0_figure_97 : decode cX0_figure 97 = .ok (.aload_n 0, 1) := by decide +kernel
theorem dX0_figure_98 : decode cX0_figure 98 = .ok (.iconst 4, 1) := by decide +kernel
theorem dX0_figure_99 : decode cX0_figure 99 = .ok (.invokevirtual 114, 3) := by decide +kernel
theorem dX0_figure_102 : decode cX0_figure 102 = .ok (.ireturn, 1) := by decide +kernel
theorem dX0_figure_103 : decode cX0_figure 103 = .ok (.aload_n 0, 1) := by decide +kernel
theorem dX0_figure_104 : decode cX0_figure 104 = .ok (.iconst 1, 1) := by decide +kernel
theorem dX0_figure_105 : decode cX0_figure 105 = .ok (.invokevirtual 111, 3) := by decide +kernel
theorem dX0_figure_108 : decode cX0_figure 108 = .ok (.ireturn, 1) := by decide +kernel
theorem dX0_figure_109 : decode cX0_figure 109 = .ok (.aload_n 0, 1) := by decide +kernel
theorem dX0_figure_110 : decode cX0_figure 110 = .ok (.getfield 15, 3) := by decide +kernel
theorem dX0_figure_113 : decode cX0_figure 113 = .ok (.ireturn, 1) := by decide +kernel
theorem dX0_figure_114 : decode cX0_figure 114 = .ok (.aload_n 0, 1) := by decide +kernel
theorem dX0_figure_115 : decode cX0_figure 115 = .ok (.getfield 18, 3) := by decide +kernel
theorem dX0_figure_118 : decode cX0_figure 118 = .ok (.ireturn, 1) := by decide +kernel
theorem dX0_figure_119 : decode cX0_figure 119 = .ok (.aload_n 0, 1) := by decide +kernel
theorem dX0_figure_120 : decode cX0_figure 120 = .ok (.invokevirtual 117, 3) := by decide +kernel
theorem dX0_figure_123 : decode cX0_figure 123 = .ok (.ireturn, 1) := by decide +kernel
theorem dX0_figure_124 : decode cX0_figure 124 = .ok (.bipush (-2), 2) := by decide +kernel
theorem dX0_figure_126 : decode cX0_figure 126 = .ok (.ireturn, 1) := by decide +kernel
theorem dX0_sumOfLanes_0 : decode cX0_sumOfLanes 0 = .ok (.iconst 0, 1) := by decide +kernel
theorem dX0_sumOfLanes_1 : decode cX0_sumOfLanes 1 = .ok (.istore_n 2, 1) := by decide +kernel
theorem dX0_sumOfLanes_2 : decode cX0_sumOfLanes 2 = .ok (.iconst 0, 1) := by decide +kernel
theorem dX0_sumOfLanes_3 : decode cX0_sumOfLanes 3 = .ok (.istore_n 3, 1) := by decide +kernel
theorem dX0_sumOfLanes_4 : decode cX0_sumOfLanes 4 = .ok (.iload_n 3, 1) := by decide +kernel
theorem dX0_sumOfLanes_5 : decode cX0_sumOfLanes 5 = .ok (.iconst 4, 1) := by decide +kernel
theorem dX0_sumOfLanes_6 : decode cX0_sumOfLanes 6 = .ok (.if_icmp .ge 22, 3) := by decide +kernel
theorem dX0_sumOfLanes_9 : decode cX0_sumOfLanes 9 = .ok (.iload_n 2, 1) := by decide +kernel
theorem dX0_sumOfLanes_10 : decode cX0_sumOfLanes 10 = .ok (.aload_n 0, 1) := by decide +kernel
theorem dX0_sumOfLanes_11 : decode cX0_sumOfLanes 11 = .ok (.getfield 26, 3) := by decide +kernel
theorem dX0_sumOfLanes_14 : decode cX0_sumOfLanes 14 = .ok (.iload_n 3, 1) := by decide +kernel
theorem dX0_sumOfLanes_15 : decode cX0_sumOfLanes 15 = .ok (.aaload, 1) := by decide +kernel
theorem dX0_sumOfLanes_16 : decode cX0_sumOfLanes 16 = .ok (.iload_n 1, 1) := by decide +kernel
theorem dX0_sumOfLanes_17 : decode cX0_sumOfLanes 17 = .ok (.invokevirtual 120, 3) := by decide +kernel
theorem dX0_sumOfLanes_20 : decode cX0_sumOfLanes 20 = .ok (.iadd, 1) := by decide +kernel
theorem dX0_sumOfLanes_21 : decode cX0_sumOfLanes 21 = .ok (.istore_n 2, 1) := by decide +kernel
theorem dX0_sumOfLanes_22 : decode cX0_sumOfLanes 22 = .ok (.iinc 3 1, 3) := by decide +kernel
theorem dX0_sumOfLanes_25 : decode cX0_sumOfLanes 25 = .ok (.goto (-21), 3) := by decide +kernel
theorem dX0_sumOfLanes_28 : decode cX0_sumOfLanes 28 = .ok (.iload_n 2, 1) := by decide +kernel
theorem dX0_sumOfLanes_29 : decode cX0_sumOfLanes 29 = .ok (.ireturn, 1) := by decide +kernel
theorem dX0_sumOfQueues_0 : decode cX0_sumOfQueues 0 = .ok (.iconst 0, 1) := by decide +kernel
theorem dX0_sumOfQueues_1 : decode cX0_sumOfQueues 1 = .ok (.istore_n 2, 1) := by decide +kernel
theorem dX0_sumOfQueues_2 : decode cX0_sumOfQueues 2 = .ok (.iconst 0, 1) := by decide +kernel
theorem dX0_sumOfQueues_3 : decode cX0_sumOfQueues 3 = .ok (.istore_n 3, 1) := by decide +kernel
theorem dX0_sumOfQueues_4 : decode cX0_sumOfQueues 4 = .ok (.iload_n 3, 1) := by decide +kernel
theorem dX0_sumOfQueues_5 : decode cX0_sumOfQueues 5 = .ok (.iconst 4, 1) := by decide +kernel
theorem dX0_sumOfQueues_6 : decode cX0_sumOfQueues 6 = .ok (.if_icmp .ge 22, 3) := by decide +kernel
theorem dX0_sumOfQueues_9 : decode cX0_sumOfQueues 9 = .ok (.iload_n 2, 1) := by decide +kernel
theorem dX0_sumOfQueues_10 : decode cX0_sumOfQueues 10 = .ok (.aload_n 0, 1) := by decide +kernel
theorem dX0_sumOfQueues_11 : decode cX0_sumOfQueues 11 = .ok (.getfield 32, 3) := by decide +kernel
theorem dX0_sumOfQueues_14 : decode cX0_sumOfQueues 14 = .ok (.iload_n 3, 1) := by decide +kernel
theorem dX0_sumOfQueues_15 : decode cX0_sumOfQueues 15 = .ok (.aaload, 1) := by decide +kernel
theorem dX0_sumOfQueues_16 : decode cX0_sumOfQueues 16 = .ok (.iload_n 1, 1) := by decide +kernel
theorem dX0_sumOfQueues_17 : decode cX0_sumOfQueues 17 = .ok (.invokevirtual 123, 3) := by decide +kernel
theorem dX0_sumOfQueues_20 : decode cX0_sumOfQueues 20 = .ok (.iadd, 1) := by decide +kernel
theorem dX0_sumOfQueues_21 : decode cX0_sumOfQueues 21 = .ok (.istore_n 2, 1) := by decide +kernel
theorem dX0_sumOfQueues_22 : decode cX0_sumOfQueues 22 = .ok (.iinc 3 1, 3) := by decide +kernel
theorem dX0_sumOfQueues_25 : decode cX0_sumOfQueues 25 = .ok (.goto (-21), 3) := by decide +kernel
theorem dX0_sumOfQueues_28 : decode cX0_sumOfQueues 28 = .ok (.iload_n 2, 1) := by decide +kernel
theorem dX0_sumOfQueues_29 : decode cX0_sumOfQueues 29 = .ok (.ireturn, 1) := by decide +kernel
theorem dX1_init_0 : decode cX1_init 0 = .ok (.aload_n 0, 1) := by decide +kernel
theorem dX1_init_1 : decode cX1_init 1 = .ok (.invokespecial 3, 3) := by decide +kernel
theorem dX1_init_4 : decode cX1_init 4 = .ok (.aload_n 0, 1) := by decide +kernel
theorem dX1_init_5 : decode cX1_init 5 = .ok (.iconst 3, 1) := by decide +kernel
theorem dX1_init_6 : decode cX1_init 6 = .ok (.putfield 9, 3) := by decide +kernel
theorem dX1_init_9 : decode cX1_init 9 = .ok (.aload_n 0, 1) := by decide +kernel
theorem dX1_init_10 : decode cX1_init 10 = .ok (.iconst 2, 1) := by decide +kernel
theorem dX1_init_11 : decode cX1_init 11 = .ok (.putfield 15, 3) := by decide +kernel
theorem dX1_init_14 : decode cX1_init 14 = .ok (.aload_n 0, 1) := by decide +kernel
theorem dX1_init_15 : decode cX1_init 15 = .ok (.iconst 2, 1) := by decide +kernel
theorem dX1_init_16 : decode cX1_init 16 = .ok (.putfield 18, 3) := by decide +kernel
theorem dX1_init_19 : decode cX1_init 19 = .ok (.aload_n 0, 1) := by decide +kernel
theorem dX1_init_20 : decode cX1_init 20 = .ok (.iconst 3, 1) := by decide +kernel
theorem dX1_init_21 : decode cX1_init 21 = .ok (.putfield 21, 3) := by decide +kernel
theorem dX1_init_24 : decode cX1_init 24 = .ok (.aload_n 0, 1) := by decide +kernel
theorem dX1_init_25 : decode cX1_init 25 = .ok (.iconst 0, 1) := by decide +kernel
theorem dX1_init_26 : decode cX1_init 26 = .ok (.putfield 24, 3) := by decide +kernel
theorem dX1_init_29 : decode cX1_init 29 = .ok (.aload_n 0, 1) := by decide +kernel
theorem dX1_init_30 : decode cX1_init 30 = .ok (.iconst 0, 1) := by decide +kernel
theorem dX1_init_31 : decode cX1_init 31 = .ok (.putfield 27, 3) := by decide +kernel
theorem dX1_init_34 : decode cX1_init 34 = .ok (.aload_n 0, 1) := by decide +kernel
theorem dX1_init_35 : decode cX1_init 35 = .ok (.iconst 0, 1) := by decide +kernel
theorem dX1_init_36 : decode cX1_init 36 = .ok (.putfield 30, 3) := by decide +kernel
theorem dX1_init_39 : decode cX1_init 39 = .ok (.aload_n 0, 1) := by decide +kernel
theorem dX1_init_40 : decode cX1_init 40 = .ok (.iconst 0, 1) := by decide +kernel
theorem dX1_init_41 : decode cX1_init 41 = .ok (.putfield 33, 3) := by decide +kernel
theorem dX1_init_44 : decode cX1_init 44 = .ok (.aload_n 0, 1) := by decide +kernel
theorem dX1_init_45 : decode cX1_init 45 = .ok (.iconst 0, 1) := by decide +kernel
theorem dX1_init_46 : decode cX1_init 46 = .ok (.putfield 36, 3) := by decide +kernel
theorem dX1_init_49 : decode cX1_init 49 = .ok (.aload_n 0, 1) := by decide +kernel
theorem dX1_init_50 : decode cX1_init 50 = .ok (.bipush 8, 2) := by decide +kernel
theorem dX1_init_52 : decode cX1_init 52 = .ok (.newarray .int, 2) := by decide +kernel
theorem dX1_init_54 : decode cX1_init 54 = .ok (.putfield 39, 3) := by decide +kernel
theorem dX1_init_57 : decode cX1_init 57 = .ok (.aload_n 0, 1) := by decide +kernel
theorem dX1_init_58 : decode cX1_init 58 = .ok (.iconst 0, 1) := by decide +kernel
theorem dX1_init_59 : decode cX1_init 59 = .ok (.putfield 43, 3) := by decide +kernel
theorem dX1_init_62 : decode cX1_init 62 = .ok (.aload_n 0, 1) := by decide +kernel
theorem dX1_init_63 : decode cX1_init 63 = .ok (.bipush 6, 2) := by decide +kernel
theorem dX1_init_65 : decode cX1_init 65 = .ok (.newarray .int, 2) := by decide +kernel
theorem dX1_init_67 : decode cX1_init 67 = .ok (.putfield 46, 3) := by decide +kernel
theorem dX1_init_70 : decode cX1_init 70 = .ok (.aload_n 0, 1) := by decide +kernel
theorem dX1_init_71 : decode cX1_init 71 = .ok (.iconst 0, 1) := by decide +kernel
theorem dX1_init_72 : decode cX1_init 72 = .ok (.putfield 49, 3) := by decide +kernel
theorem dX1_init_75 : decode cX1_init 75 = .ok (.return_, 1) := by decide +kernel
theorem dX1_copyFrom_0 : decode cX1_copyFrom 0 = .ok (.aload_n 0, 1) := by decide +kernel
theorem dX1_copyFrom_1 : decode cX1_copyFrom 1 = .ok (.aload_n 1, 1) := by decide +kernel
theorem dX1_copyFrom_2 : decode cX1_copyFrom 2 = .ok (.getfield 9, 3) := by decide +kernel
theorem dX1_copyFrom_5 : decode cX1_copyFrom 5 = .ok (.putfield 9, 3) := by decide +kernel
theorem dX1_copyFrom_8 : decode cX1_copyFrom 8 = .ok (.aload_n 0, 1) := by decide +kernel
theorem dX1_copyFrom_9 : decode cX1_copyFrom 9 = .ok (.aload_n 1, 1) := by decide +kernel
theorem dX1_copyFrom_10 : decode cX1_copyFrom 10 = .ok (.getfield 15, 3) := by decide +kernel
theorem dX1_copyFrom_13 : decode cX1_copyFrom 13 = .ok (.putfield 15, 3) := by decide +kernel
theorem dX1_copyFrom_16 : decode cX1_copyFrom 16 = .ok (.aload_n 0, 1) := by decide +kernel
theorem dX1_copyFrom_17 : decode cX1_copyFrom 17 = .ok (.aload_n 1, 1) := by decide +kernel
theorem dX1_copyFrom_18 : decode cX1_copyFrom 18 = .ok (.getfield 18, 3) := by decide +kernel
theorem dX1_copyFrom_21 : decode cX1_copyFrom 21 = .ok (.putfield 18, 3) := by decide +kernel
theorem dX1_copyFrom_24 : decode cX1_copyFrom 24 = .ok (.aload_n 0, 1) := by decide +kernel
theorem dX1_copyFrom_25 : decode cX1_copyFrom 25 = .ok (.aload_n 1, 1) := by decide +kernel
theorem dX1_copyFrom_26 : decode cX1_copyFrom 26 = .ok (.getfield 21, 3) := by decide +kernel
theorem dX1_copyFrom_29 : decode cX1_copyFrom 29 = .ok (.putfield 21, 3) := by decide +kernel
theorem dX1_copyFrom_32 : decode cX1_copyFrom 32 = .ok (.aload_n 0, 1) := by decide +kernel
theorem dX1_copyFrom_33 : decode cX1_copyFrom 33 = .ok (.aload_n 1, 1) := by decide +kernel
theorem dX1_copyFrom_34 : decode cX1_copyFrom 34 = .ok (.getfield 24, 3) := by decide +kernel
theorem dX1_copyFrom_37 : decode cX1_copyFrom 37 = .ok (.putfield 24, 3) := by decide +kernel
theorem dX1_copyFrom_40 : decode cX1_copyFrom 40 = .ok (.aload_n 0, 1) := by decide +kernel
theorem dX1_copyFrom_41 : decode cX1_copyFrom 41 = .ok (.aload_n 1, 1) := by decide +kernel
theorem dX1_copyFrom_42 : decode cX1_copyFrom 42 = .ok (.getfield 27, 3) := by decide +kernel
theorem dX1_copyFrom_45 : decode cX1_copyFrom 45 = .ok (.putfield 27, 3) := by decide +kernel
theorem dX1_copyFrom_48 : decode cX1_copyFrom 48 = .ok (.aload_n 0, 1) := by decide +kernel
theorem dX1_copyFrom_49 : decode cX1_copyFrom 49 = .ok (.aload_n 1, 1) := by decide +kernel
theorem dX1_copyFrom_50 : decode cX1_copyFrom 50 = .ok (.getfield 30, 3) := by decide +kernel
theorem dX1_copyFrom_53 : decode cX1_copyFrom 53 = .ok (.putfield 30, 3) := by decide +kernel
theorem dX1_copyFrom_56 : decode cX1_copyFrom 56 = .ok (.aload_n 0, 1) := by decide +kernel
theorem dX1_copyFrom_57 : decode cX1_copyFrom 57 = .ok (.aload_n 1, 1) := by decide +kernel
theorem dX1_copyFrom_58 : decode cX1_copyFrom 58 = .ok (.getfield 33, 3) := by decide +kernel
theorem dX1_copyFrom_61 : decode cX1_copyFrom 61 = .ok (.putfield 33, 3) := by decide +kernel
theorem dX1_copyFrom_64 : decode cX1_copyFrom 64 = .ok (.aload_n 0, 1) := by decide +kernel
theorem dX1_copyFrom_65 : decode cX1_copyFrom 65 = .ok (.aload_n 1, 1) := by decide +kernel
theorem dX1_copyFrom_66 : decode cX1_copyFrom 66 = .ok (.getfield 36, 3) := by decide +kernel
theorem dX1_copyFrom_69 : decode cX1_copyFrom 69 = .ok (.putfield 36, 3) := by decide +kernel
theorem dX1_copyFrom_72 : decode cX1_copyFrom 72 = .ok (.aload_n 0, 1) := by decide +kernel
theorem dX1_copyFrom_73 : decode cX1_copyFrom 73 = .ok (.aload_n 1, 1) := by decide +kernel
theorem dX1_copyFrom_74 : decode cX1_copyFrom 74 = .ok (.getfield 43, 3) := by decide +kernel
theorem dX1_copyFrom_77 : decode cX1_copyFrom 77 = .ok (.putfield 43, 3) := by decide +kernel
theorem dX1_copyFrom_80 : decode cX1_copyFrom 80 = .ok (.aload_n 0, 1) := by decide +kernel
theorem dX1_copyFrom_81 : decode cX1_copyFrom 81 = .ok (.aload_n 1, 1) := by decide +kernel
theorem dX1_copyFrom_82 : decode cX1_copyFrom 82 = .ok (.getfield 49, 3) := by decide +kernel
theorem dX1_copyFrom_85 : decode cX1_copyFrom 85 = .ok (.putfield 49, 3) := by decide +kernel
theorem dX1_copyFrom_88 : decode cX1_copyFrom 88 = .ok (.aload_n 1, 1) := by decide +kernel
theorem dX1_copyFrom_89 : decode cX1_copyFrom 89 = .ok (.getfield 39, 3) := by decide +kernel
theorem dX1_copyFrom_92 : decode cX1_copyFrom 92 = .ok (.iconst 0, 1) := by decide +kernel
theorem dX1_copyFrom_93 : decode cX1_copyFrom 93 = .ok (.aload_n 0, 1) := by decide +kernel
theorem dX1_copyFrom_94 : decode cX1_copyFrom 94 = .ok (.getfield 39, 3) := by decide +kernel
theorem dX1_copyFrom_97 : decode cX1_copyFrom 97 = .ok (.iconst 0, 1) := by decide +kernel
theorem dX1_copyFrom_98 : decode cX1_copyFrom 98 = .ok (.bipush 8, 2) := by decide +kernel
theorem dX1_copyFrom_100 : decode cX1_copyFrom 100 = .ok (.invokestatic 52, 3) := by decide +kernel
theorem dX1_copyFrom_103 : decode cX1_copyFrom 103 = .ok (.aload_n 1, 1) := by decide +kernel
theorem dX1_copyFrom_104 : decode cX1_copyFrom 104 = .ok (.getfield 46, 3) := by decide +kernel
theorem dX1_copyFrom_107 : decode cX1_copyFrom 107 = .ok (.iconst 0, 1) := by decide +kernel
theorem dX1_copyFrom_108 : decode cX1_copyFrom 108 = .ok (.aload_n 0, 1) := by decide +kernel
theorem dX1_copyFrom_109 : decode cX1_copyFrom 109 = .ok (.getfield 46, 3) := by decide +kernel
theorem dX1_copyFrom_112 : decode cX1_copyFrom 112 = .ok (.iconst 0, 1) := by decide +kernel
theorem dX1_copyFrom_113 : decode cX1_copyFrom 113 = .ok (.bipush 6, 2) := by decide +kernel
theorem dX1_copyFrom_115 : decode cX1_copyFrom 115 = .ok (.invokestatic 52, 3) := by decide +kernel
theorem dX1_copyFrom_118 : decode cX1_copyFrom 118 = .ok (.return_, 1) := by decide +kernel
theorem dX1_setting_0 : decode cX1_setting 0 = .ok (.iload_n 1, 1) := by decide +kernel
theorem dX1_setting_1 : decode cX1_setting 1 = .ok (.lookupswitch 37 #[(0, 27), (1, 32)], 27) := by decide +kernel
theorem dX1_setting_28 : decode cX1_setting 28 = .ok (.aload_n 0, 1) := by decide +kernel
theorem dX1_setting_29 : decode cX1_setting 29 = .ok (.getfield 9, 3) := by decide +kernel
theorem dX1_setting_32 : decode cX1_setting 32 = .ok (.ireturn, 1) := by decide +kernel
theorem dX1_setting_33 : decode cX1_setting 33 = .ok (.aload_n 0, 1) := by decide +kernel
theorem dX1_setting_34 : decode cX1_setting 34 = .ok (.getfield 15, 3) := by decide +kernel
theorem dX1_setting_37 : decode cX1_setting 37 = .ok (.ireturn, 1) := by decide +kernel
theorem dX1_setting_38 : decode cX1_setting 38 = .ok (.aload_n 0, 1) := by decide +kernel
theorem dX1_setting_39 : decode cX1_setting 39 = .ok (.getfield 18, 3) := by decide +kernel
theorem dX1_setting_42 : decode cX1_setting 42 = .ok (.ireturn, 1) := by decide +kernel
theorem dX1_change_0 : decode cX1_change 0 = .ok (.iload_n 1, 1) := by decide +kernel
theorem dX1_change_1 : decode cX1_change 1 = .ok (.lookupswitch 58 #[(0, 27), (1, 50)], 27) := by decide +kernel
theorem dX1_change_28 : decode cX1_change 28 = .ok (.aload_n 0, 1) := by decide +kernel
theorem dX1_change_29 : decode cX1_change 29 = .ok (.dup, 1) := by decide +kernel
theorem dX1_change_30 : decode cX1_change 30 = .ok (.getfield 21, 3) := by decide +kernel
theorem dX1_change_33 : decode cX1_change 33 = .ok (.iload_n 2, 1) := by decide +kernel
theorem dX1_change_34 : decode cX1_change 34 = .ok (.aload_n 0, 1) := by decide +kernel
theorem dX1_change_35 : decode cX1_change 35 = .ok (.getfield 9, 3) := by decide +kernel
theorem dX1_change_38 : decode cX1_change 38 = .ok (.isub, 1) := by decide +kernel
theorem dX1_change_39 : decode cX1_change 39 = .ok (.iadd, 1) := by decide +kernel
theorem dX1_change_40 : decode cX1_change 40 = .ok (.putfield 21, 3) := by decide +kernel
theorem dX1_change_43 : decode cX1_change 43 = .ok (.aload_n 0, 1) := by decide +kernel
theorem dX1_change_44 : decode cX1_change 44 = .ok (.iload_n 2, 1) := by decide +kernel
theorem dX1_change_45 : decode cX1_change 45 = .ok (.putfield 9, 3) := by decide +kernel
theorem dX1_change_48 : decode cX1_change 48 = .ok (.goto 16, 3) := by decide +kernel
theorem dX1_change_51 : decode cX1_change 51 = .ok (.aload_n 0, 1) := by decide +kernel
theorem dX1_change_52 : decode cX1_change 52 = .ok (.iload_n 2, 1) := by decide +kernel
theorem dX1_change_53 : decode cX1_change 53 = .ok (.putfield 15, 3) := by decide +kernel
theorem dX1_change_56 : decode cX1_change 56 = .ok (.goto 8, 3) := by decide +kernel
theorem dX1_change_59 : decode cX1_change 59 = .ok (.aload_n 0, 1) := by decide +kernel
theorem dX1_change_60 : decode cX1_change 60 = .ok (.iload_n 2, 1) := by decide +kernel
theorem dX1_change_61 : decode cX1_change 61 = .ok (.putfield 18, 3) := by decide +kernel
theorem dX1_change_64 : decode cX1_change 64 = .ok (.return_, 1) := by decide +kernel
theorem dX1_missing_0 : decode cX1_missing 0 = .ok (.aload_n 0, 1) := by decide +kernel
theorem dX1_missing_1 : decode cX1_missing 1 = .ok (.getfield 9, 3) := by decide +kernel
theorem dX1_missing_4 : decode cX1_missing 4 = .ok (.aload_n 0, 1) := by decide +kernel
theorem dX1_missing_5 : decode cX1_missing 5 = .ok (.getfield 21, 3) := by decide +kernel
theorem dX1_missing_8 : decode cX1_missing 8 = .ok (.isub, 1) := by decide +kernel
theorem dX1_missing_9 : decode cX1_missing 9 = .ok (.aload_n 0, 1) := by decide +kernel
theorem dX1_missing_10 : decode cX1_missing 10 = .ok (.getfield 43, 3) := by decide +kernel
theorem dX1_missing_13 : decode cX1_missing 13 = .ok (.isub, 1) := by decide +kernel
theorem dX1_missing_14 : decode cX1_missing 14 = .ok (.aload_n 0, 1) := by decide +kernel
theorem dX1_missing_15 : decode cX1_missing 15 = .ok (.getfield 49, 3) := by decide +kernel
theorem dX1_missing_18 : decode cX1_missing 18 = .ok (.isub, 1) := by decide +kernel
theorem dX1_missing_19 : decode cX1_missing 19 = .ok (.ireturn, 1) := by decide +kernel
theorem dX1_mend_0 : decode cX1_mend 0 = .ok (.aload_n 0, 1) := by decide +kernel
theorem dX1_mend_1 : decode cX1_mend 1 = .ok (.dup, 1) := by decide +kernel
theorem dX1_mend_2 : decode cX1_mend 2 = .ok (.getfield 21, 3) := by decide +kernel
theorem dX1_mend_5 : decode cX1_mend 5 = .ok (.aload_n 0, 1) := by decide +kernel
theorem dX1_mend_6 : decode cX1_mend 6 = .ok (.invokevirtual 58, 3) := by decide +kernel
theorem dX1_mend_9 : decode cX1_mend 9 = .ok (.iadd, 1) := by decide +kernel
theorem dX1_mend_10 : decode cX1_mend 10 = .ok (.putfield 21, 3) := by decide +kernel
theorem dX1_mend_13 : decode cX1_mend 13 = .ok (.return_, 1) := by decide +kernel
theorem dX1_isDry_0 : decode cX1_isDry 0 = .ok (.aload_n 0, 1) := by decide +kernel
theorem dX1_isDry_1 : decode cX1_isDry 1 = .ok (.getfield 21, 3) := by decide +kernel
theorem dX1_isDry_4 : decode cX1_isDry 4 = .ok (.ifCond .gt 21, 3) := by decide +kernel
theorem dX1_isDry_7 : decode cX1_isDry 7 = .ok (.aload_n 0, 1) := by decide +kernel
theorem dX1_isDry_8 : decode cX1_isDry 8 = .ok (.getfield 43, 3) := by decide +kernel
theorem dX1_isDry_11 : decode cX1_isDry 11 = .ok (.ifCond .ne 14, 3) := by decide +kernel
theorem dX1_isDry_14 : decode cX1_isDry 14 = .ok (.aload_n 0, 1) := by decide +kernel
theorem dX1_isDry_15 : decode cX1_isDry 15 = .ok (.getfield 49, 3) := by decide +kernel
theorem dX1_isDry_18 : decode cX1_isDry 18 = .ok (.ifCond .ne 7, 3) := by decide +kernel
theorem dX1_isDry_21 : decode cX1_isDry 21 = .ok (.iconst 1, 1) := by decide +kernel
theorem dX1_isDry_22 : decode cX1_isDry 22 = .ok (.goto 4, 3) := by decide +kernel
theorem dX1_isDry_25 : decode cX1_isDry 25 = .ok (.iconst 0, 1) := by decide +kernel
theorem dX1_isDry_26 : decode cX1_isDry 26 = .ok (.ireturn, 1) := by decide +kernel
theorem dX1_letCreditsCome_0 : decode cX1_letCreditsCome 0 = .ok (.iconst 0, 1) := by decide +kernel
theorem dX1_letCreditsCome_1 : decode cX1_letCreditsCome 1 = .ok (.istore_n 2, 1) := by decide +kernel
theorem dX1_letCreditsCome_2 : decode cX1_letCreditsCome 2 = .ok (.iload_n 2, 1) := by decide +kernel
theorem dX1_letCreditsCome_3 : decode cX1_letCreditsCome 3 = .ok (.bipush 6, 2) := by decide +kernel
theorem dX1_letCreditsCome_5 : decode cX1_letCreditsCome 5 = .ok (.if_icmp .ge 31, 3) := by decide +kernel
theorem dX1_letCreditsCome_8 : decode cX1_letCreditsCome 8 = .ok (.aload_n 0, 1) := by decide +kernel
theorem dX1_letCreditsCome_9 : decode cX1_letCreditsCome 9 = .ok (.iload_n 1, 1) := by decide +kernel
theorem dX1_letCreditsCome_10 : decode cX1_letCreditsCome 10 = .ok (.invokevirtual 62, 3) := by decide +kernel
theorem dX1_letCreditsCome_13 : decode cX1_letCreditsCome 13 = .ok (.ifCond .eq 23, 3) := by decide +kernel
theorem dX1_letCreditsCome_16 : decode cX1_letCreditsCome 16 = .ok (.aload_n 0, 1) := by decide +kernel
theorem dX1_letCreditsCome_17 : decode cX1_letCreditsCome 17 = .ok (.invokevirtual 66, 3) := by decide +kernel
theorem dX1_letCreditsCome_20 : decode cX1_letCreditsCome 20 = .ok (.aload_n 0, 1) := by decide +kernel
theorem dX1_letCreditsCome_21 : decode cX1_letCreditsCome 21 = .ok (.dup, 1) := by decide +kernel
theorem dX1_letCreditsCome_22 : decode cX1_letCreditsCome 22 = .ok (.getfield 21, 3) := by decide +kernel
theorem dX1_letCreditsCome_25 : decode cX1_letCreditsCome 25 = .ok (.iconst 1, 1) := by decide +kernel
theorem dX1_letCreditsCome_26 : decode cX1_letCreditsCome 26 = .ok (.iadd, 1) := by decide +kernel
theorem dX1_letCreditsCome_27 : decode cX1_letCreditsCome 27 = .ok (.putfield 21, 3) := by decide +kernel
theorem dX1_letCreditsCome_30 : decode cX1_letCreditsCome 30 = .ok (.iinc 2 1, 3) := by decide +kernel
theorem dX1_letCreditsCome_33 : decode cX1_letCreditsCome 33 = .ok (.goto (-31), 3) := by decide +kernel
theorem dX1_letCreditsCome_36 : decode cX1_letCreditsCome 36 = .ok (.return_, 1) := by decide +kernel
theorem dX1_creditComes_0 : decode cX1_creditComes 0 = .ok (.aload_n 0, 1) := by decide +kernel
theorem dX1_creditComes_1 : decode cX1_creditComes 1 = .ok (.getfield 49, 3) := by decide +kernel
theorem dX1_creditComes_4 : decode cX1_creditComes 4 = .ok (.ifCond .le 17, 3) := by decide +kernel
theorem dX1_creditComes_7 : decode cX1_creditComes 7 = .ok (.aload_n 0, 1) := by decide +kernel
theorem dX1_creditComes_8 : decode cX1_creditComes 8 = .ok (.getfield 46, 3) := by decide +kernel
theorem dX1_creditComes_11 : decode cX1_creditComes 11 = .ok (.iconst 0, 1) := by decide +kernel
theorem dX1_creditComes_12 : decode cX1_creditComes 12 = .ok (.iaload, 1) := by decide +kernel
theorem dX1_creditComes_13 : decode cX1_creditComes 13 = .ok (.iload_n 1, 1) := by decide +kernel
theorem dX1_creditComes_14 : decode cX1_creditComes 14 = .ok (.if_icmp .gt 7, 3) := by decide +kernel
theorem dX1_creditComes_17 : decode cX1_creditComes 17 = .ok (.iconst 1, 1) := by decide +kernel
theorem dX1_creditComes_18 : decode cX1_creditComes 18 = .ok (.goto 4, 3) := by decide +kernel
theorem dX1_creditComes_21 : decode cX1_creditComes 21 = .ok (.iconst 0, 1) := by decide +kernel
theorem dX1_creditComes_22 : decode cX1_creditComes 22 = .ok (.ireturn, 1) := by decide +kernel
theorem dX1_loseFirst_0 : decode cX1_loseFirst 0 = .ok (.aload_n 0, 1) := by decide +kernel
theorem dX1_loseFirst_1 : decode cX1_loseFirst 1 = .ok (.invokevirtual 66, 3) := by decide +kernel
theorem dX1_loseFirst_4 : decode cX1_loseFirst 4 = .ok (.aload_n 0, 1) := by decide +kernel
theorem dX1_loseFirst_5 : decode cX1_loseFirst 5 = .ok (.dup, 1) := by decide +kernel
theorem dX1_loseFirst_6 : decode cX1_loseFirst 6 = .ok (.getfield 36, 3) := by decide +kernel
theorem dX1_loseFirst_9 : decode cX1_loseFirst 9 = .ok (.iconst 1, 1) := by decide +kernel
theorem dX1_loseFirst_10 : decode cX1_loseFirst 10 = .ok (.iadd, 1) := by decide +kernel
theorem dX1_loseFirst_11 : decode cX1_loseFirst 11 = .ok (.putfield 36, 3) := by decide +kernel
theorem dX1_loseFirst_14 : decode cX1_loseFirst 14 = .ok (.return_, 1) := by decide +kernel
theorem dX1_dropFirstOnTheWay_0 : decode cX1_dropFirstOnTheWay 0 = .ok (.aload_n 0, 1) := by decide +kernel
theorem dX1_dropFirstOnTheWay_1 : decode cX1_dropFirstOnTheWay 1 = .ok (.getfield 49, 3) := by decide +kernel
theorem dX1_dropFirstOnTheWay_4 : decode cX1_dropFirstOnTheWay 4 = .ok (.ifCond .gt 4, 3) := by decide +kernel
theorem dX1_dropFirstOnTheWay_7 : decode cX1_dropFirstOnTheWay 7 = .ok (.return_, 1) := by decide +kernel
theorem dX1_dropFirstOnTheWay_8 : decode cX1_dropFirstOnTheWay 8 = .ok (.iconst 1, 1) := by decide +kernel
theorem dX1_dropFirstOnTheWay_9 : decode cX1_dropFirstOnTheWay 9 = .ok (.istore_n 1, 1) := by decide +kernel
theorem dX1_dropFirstOnTheWay_10 : decode cX1_dropFirstOnTheWay 10 = .ok (.iload_n 1, 1) := by decide +kernel
theorem dX1_dropFirstOnTheWay_11 : decode cX1_dropFirstOnTheWay 11 = .ok (.aload_n 0, 1) := by decide +kernel
theorem dX1_dropFirstOnTheWay_12 : decode cX1_dropFirstOnTheWay 12 = .ok (.getfield 49, 3) := by decide +kernel
theorem dX1_dropFirstOnTheWay_15 : decode cX1_dropFirstOnTheWay 15 = .ok (.if_icmp .ge 23, 3) := by decide +kernel
theorem dX1_dropFirstOnTheWay_18 : decode cX1_dropFirstOnTheWay 18 = .ok (.aload_n 0, 1) := by decide +kernel
theorem dX1_dropFirstOnTheWay_19 : decode cX1_dropFirstOnTheWay 19 = .ok (.getfield 46, 3) := by decide +kernel
theorem dX1_dropFirstOnTheWay_22 : decode cX1_dropFirstOnTheWay 22 = .ok (.iload_n 1, 1) := by decide +kernel
theorem dX1_dropFirstOnTheWay_23 : decode cX1_dropFirstOnTheWay 23 = .ok (.iconst 1, 1) := by decide +kernel
theorem dX1_dropFirstOnTheWay_24 : decode cX1_dropFirstOnTheWay 24 = .ok (.isub, 1) := by decide +kernel
theorem dX1_dropFirstOnTheWay_25 : decode cX1_dropFirstOnTheWay 25 = .ok (.aload_n 0, 1) := by decide +kernel
theorem dX1_dropFirstOnTheWay_26 : decode cX1_dropFirstOnTheWay 26 = .ok (.getfield 46, 3) := by decide +kernel
theorem dX1_dropFirstOnTheWay_29 : decode cX1_dropFirstOnTheWay 29 = .ok (.iload_n 1, 1) := by decide +kernel
theorem dX1_dropFirstOnTheWay_30 : decode cX1_dropFirstOnTheWay 30 = .ok (.iaload, 1) := by decide +kernel
theorem dX1_dropFirstOnTheWay_31 : decode cX1_dropFirstOnTheWay 31 = .ok (.iastore, 1) := by decide +kernel
theorem dX1_dropFirstOnTheWay_32 : decode cX1_dropFirstOnTheWay 32 = .ok (.iinc 1 1, 3) := by decide +kernel
theorem dX1_dropFirstOnTheWay_35 : decode cX1_dropFirstOnTheWay 35 = .ok (.goto (-25), 3) := by decide +kernel
theorem dX1_dropFirstOnTheWay_38 : decode cX1_dropFirstOnTheWay 38 = .ok (.aload_n 0, 1) := by decide +kernel
theorem dX1_dropFirstOnTheWay_39 : decode cX1_dropFirstOnTheWay 39 = .ok (.dup, 1) := by decide +kernel
theorem dX1_dropFirstOnTheWay_40 : decode cX1_dropFirstOnTheWay 40 = .ok (.getfield 49, 3) := by decide +kernel
theorem dX1_dropFirstOnTheWay_43 : decode cX1_dropFirstOnTheWay 43 = .ok (.iconst 1, 1) := by decide +kernel
theorem dX1_dropFirstOnTheWay_44 : decode cX1_dropFirstOnTheWay 44 = .ok (.isub, 1) := by decide +kernel
theorem dX1_dropFirstOnTheWay_45 : decode cX1_dropFirstOnTheWay 45 = .ok (.putfield 49, 3) := by decide +kernel
theorem dX1_dropFirstOnTheWay_48 : decode cX1_dropFirstOnTheWay 48 = .ok (.return_, 1) := by decide +kernel
theorem dX1_receive_0 : decode cX1_receive 0 = .ok (.aload_n 0, 1) := by decide +kernel
theorem dX1_receive_1 : decode cX1_receive 1 = .ok (.dup, 1) := by decide +kernel
theorem dX1_receive_2 : decode cX1_receive 2 = .ok (.getfield 21, 3) := by decide +kernel
theorem dX1_receive_5 : decode cX1_receive 5 = .ok (.iconst 1, 1) := by decide +kernel
theorem dX1_receive_6 : decode cX1_receive 6 = .ok (.isub, 1) := by decide +kernel
theorem dX1_receive_7 : decode cX1_receive 7 = .ok (.putfield 21, 3) := by decide +kernel
theorem dX1_receive_10 : decode cX1_receive 10 = .ok (.aload_n 0, 1) := by decide +kernel
theorem dX1_receive_11 : decode cX1_receive 11 = .ok (.dup, 1) := by decide +kernel
theorem dX1_receive_12 : decode cX1_receive 12 = .ok (.getfield 27, 3) := by decide +kernel
theorem dX1_receive_15 : decode cX1_receive 15 = .ok (.iconst 1, 1) := by decide +kernel
theorem dX1_receive_16 : decode cX1_receive 16 = .ok (.iadd, 1) := by decide +kernel
theorem dX1_receive_17 : decode cX1_receive 17 = .ok (.putfield 27, 3) := by decide +kernel
theorem dX1_receive_20 : decode cX1_receive 20 = .ok (.aload_n 0, 1) := by decide +kernel
theorem dX1_receive_21 : decode cX1_receive 21 = .ok (.getfield 43, 3) := by decide +kernel
theorem dX1_receive_24 : decode cX1_receive 24 = .ok (.aload_n 0, 1) := by decide +kernel
theorem dX1_receive_25 : decode cX1_receive 25 = .ok (.getfield 9, 3) := by decide +kernel
theorem dX1_receive_28 : decode cX1_receive 28 = .ok (.if_icmp .ge 35, 3) := by decide +kernel
theorem dX1_receive_31 : decode cX1_receive 31 = .ok (.aload_n 0, 1) := by decide +kernel
theorem dX1_receive_32 : decode cX1_receive 32 = .ok (.getfield 43, 3) := by decide +kernel
theorem dX1_receive_35 : decode cX1_receive 35 = .ok (.bipush 8, 2) := by decide +kernel
theorem dX1_receive_37 : decode cX1_receive 37 = .ok (.if_icmp .ge 26, 3) := by decide +kernel
theorem dX1_receive_40 : decode cX1_receive 40 = .ok (.aload_n 0, 1) := by decide +kernel
theorem dX1_receive_41 : decode cX1_receive 41 = .ok (.getfield 39, 3) := by decide +kernel
theorem dX1_receive_44 : decode cX1_receive 44 = .ok (.aload_n 0, 1) := by decide +kernel
theorem dX1_receive_45 : decode cX1_receive 45 = .ok (.getfield 43, 3) := by decide +kernel
theorem dX1_receive_48 : decode cX1_receive 48 = .ok (.iload_n 1, 1) := by decide +kernel
theorem dX1_receive_49 : decode cX1_receive 49 = .ok (.iastore, 1) := by decide +kernel
theorem dX1_receive_50 : decode cX1_receive 50 = .ok (.aload_n 0, 1) := by decide +kernel
theorem dX1_receive_51 : decode cX1_receive 51 = .ok (.dup, 1) := by decide +kernel
theorem dX1_receive_52 : decode cX1_receive 52 = .ok (.getfield 43, 3) := by decide +kernel
theorem dX1_receive_55 : decode cX1_receive 55 = .ok (.iconst 1, 1) := by decide +kernel
theorem dX1_receive_56 : decode cX1_receive 56 = .ok (.iadd, 1) := by decide +kernel
theorem dX1_receive_57 : decode cX1_receive 57 = .ok (.putfield 43, 3) := by decide +kernel
theorem dX1_receive_60 : decode cX1_receive 60 = .ok (.goto 13, 3) := by decide +kernel
theorem dX1_receive_63 : decode cX1_receive 63 = .ok (.aload_n 0, 1) := by decide +kernel
theorem dX1_receive_64 : decode cX1_receive 64 = .ok (.dup, 1) := by decide +kernel
theorem dX1_receive_65 : decode cX1_receive 65 = .ok (.getfield 33, 3) := by decide +kernel
theorem dX1_receive_68 : decode cX1_receive 68 = .ok (.iconst 1, 1) := by decide +kernel
theorem dX1_receive_69 : decode cX1_receive 69 = .ok (.iadd, 1) := by decide +kernel
theorem dX1_receive_70 : decode cX1_receive 70 = .ok (.putfield 33, 3) := by decide +kernel
theorem dX1_receive_73 : decode cX1_receive 73 = .ok (.return_, 1) := by decide +kernel
theorem dX1_takeIfDue_0 : decode cX1_takeIfDue 0 = .ok (.aload_n 0, 1) := by decide +kernel
theorem dX1_takeIfDue_1 : decode cX1_takeIfDue 1 = .ok (.getfield 15, 3) := by decide +kernel
theorem dX1_takeIfDue_4 : decode cX1_takeIfDue 4 = .ok (.ifCond .le 18, 3) := by decide +kernel
theorem dX1_takeIfDue_7 : decode cX1_takeIfDue 7 = .ok (.iload_n 1, 1) := by decide +kernel
theorem dX1_takeIfDue_8 : decode cX1_takeIfDue 8 = .ok (.iconst 1, 1) := by decide +kernel
theorem dX1_takeIfDue_9 : decode cX1_takeIfDue 9 = .ok (.iadd, 1) := by decide +kernel
theorem dX1_takeIfDue_10 : decode cX1_takeIfDue 10 = .ok (.aload_n 0, 1) := by decide +kernel
theorem dX1_takeIfDue_11 : decode cX1_takeIfDue 11 = .ok (.getfield 15, 3) := by decide +kernel
theorem dX1_takeIfDue_14 : decode cX1_takeIfDue 14 = .ok (.irem, 1) := by decide +kernel
theorem dX1_takeIfDue_15 : decode cX1_takeIfDue 15 = .ok (.ifCond .ne 7, 3) := by decide +kernel
theorem dX1_takeIfDue_18 : decode cX1_takeIfDue 18 = .ok (.iconst 1, 1) := by decide +kernel
theorem dX1_takeIfDue_19 : decode cX1_takeIfDue 19 = .ok (.goto 4, 3) := by decide +kernel
theorem dX1_takeIfDue_22 : decode cX1_takeIfDue 22 = .ok (.iconst 0, 1) := by decide +kernel
theorem dX1_takeIfDue_23 : decode cX1_takeIfDue 23 = .ok (.istore_n 2, 1) := by decide +kernel
theorem dX1_takeIfDue_24 : decode cX1_takeIfDue 24 = .ok (.iload_n 2, 1) := by decide +kernel
theorem dX1_takeIfDue_25 : decode cX1_takeIfDue 25 = .ok (.ifCond .eq 10, 3) := by decide +kernel
theorem dX1_takeIfDue_28 : decode cX1_takeIfDue 28 = .ok (.aload_n 0, 1) := by decide +kernel
theorem dX1_takeIfDue_29 : decode cX1_takeIfDue 29 = .ok (.getfield 43, 3) := by decide +kernel
theorem dX1_takeIfDue_32 : decode cX1_takeIfDue 32 = .ok (.ifCond .gt 4, 3) := by decide +kernel
theorem dX1_takeIfDue_35 : decode cX1_takeIfDue 35 = .ok (.return_, 1) := by decide +kernel
theorem dX1_takeIfDue_36 : decode cX1_takeIfDue 36 = .ok (.iconst 1, 1) := by decide +kernel
theorem dX1_takeIfDue_37 : decode cX1_takeIfDue 37 = .ok (.istore_n 3, 1) := by decide +kernel
theorem dX1_takeIfDue_38 : decode cX1_takeIfDue 38 = .ok (.iload_n 3, 1) := by decide +kernel
theorem dX1_takeIfDue_39 : decode cX1_takeIfDue 39 = .ok (.aload_n 0, 1) := by decide +kernel
theorem dX1_takeIfDue_40 : decode cX1_takeIfDue 40 = .ok (.getfield 43, 3) := by decide +kernel
theorem dX1_takeIfDue_43 : decode cX1_takeIfDue 43 = .ok (.if_icmp .ge 23, 3) := by decide +kernel
theorem dX1_takeIfDue_46 : decode cX1_takeIfDue 46 = .ok (.aload_n 0, 1) := by decide +kernel
theorem dX1_takeIfDue_47 : decode cX1_takeIfDue 47 = .ok (.getfield 39, 3) := by decide +kernel
theorem dX1_takeIfDue_50 : decode cX1_takeIfDue 50 = .ok (.iload_n 3, 1) := by decide +kernel
theorem dX1_takeIfDue_51 : decode cX1_takeIfDue 51 = .ok (.iconst 1, 1) := by decide +kernel
theorem dX1_takeIfDue_52 : decode cX1_takeIfDue 52 = .ok (.isub, 1) := by decide +kernel
theorem dX1_takeIfDue_53 : decode cX1_takeIfDue 53 = .ok (.aload_n 0, 1) := by decide +kernel
theorem dX1_takeIfDue_54 : decode cX1_takeIfDue 54 = .ok (.getfield 39, 3) := by decide +kernel
theorem dX1_takeIfDue_57 : decode cX1_takeIfDue 57 = .ok (.iload_n 3, 1) := by decide +kernel
theorem dX1_takeIfDue_58 : decode cX1_takeIfDue 58 = .ok (.iaload, 1) := by decide +kernel
theorem dX1_takeIfDue_59 : decode cX1_takeIfDue 59 = .ok (.iastore, 1) := by decide +kernel
theorem dX1_takeIfDue_60 : decode cX1_takeIfDue 60 = .ok (.iinc 3 1, 3) := by decide +kernel
theorem dX1_takeIfDue_63 : decode cX1_takeIfDue 63 = .ok (.goto (-25), 3) := by decide +kernel
theorem dX1_takeIfDue_66 : decode cX1_takeIfDue 66 = .ok (.aload_n 0, 1) := by decide +kernel
theorem dX1_takeIfDue_67 : decode cX1_takeIfDue 67 = .ok (.dup, 1) := by decide +kernel
theorem dX1_takeIfDue_68 : decode cX1_takeIfDue 68 = .ok (.getfield 43, 3) := by decide +kernel
theorem dX1_takeIfDue_71 : decode cX1_takeIfDue 71 = .ok (.iconst 1, 1) := by decide +kernel
theorem dX1_takeIfDue_72 : decode cX1_takeIfDue 72 = .ok (.isub, 1) := by decide +kernel
theorem dX1_takeIfDue_73 : decode cX1_takeIfDue 73 = .ok (.putfield 43, 3) := by decide +kernel
theorem dX1_takeIfDue_76 : decode cX1_takeIfDue 76 = .ok (.aload_n 0, 1) := by decide +kernel
theorem dX1_takeIfDue_77 : decode cX1_takeIfDue 77 = .ok (.dup, 1) := by decide +kernel
theorem dX1_takeIfDue_78 : decode cX1_takeIfDue 78 = .ok (.getfield 30, 3) := by decide +kernel
theorem dX1_takeIfDue_81 : decode cX1_takeIfDue 81 = .ok (.iconst 1, 1) := by decide +kernel
theorem dX1_takeIfDue_82 : decode cX1_takeIfDue 82 = .ok (.iadd, 1) := by decide +kernel
theorem dX1_takeIfDue_83 : decode cX1_takeIfDue 83 = .ok (.putfield 30, 3) := by decide +kernel
theorem dX1_takeIfDue_86 : decode cX1_takeIfDue 86 = .ok (.aload_n 0, 1) := by decide +kernel
theorem dX1_takeIfDue_87 : decode cX1_takeIfDue 87 = .ok (.iload_n 1, 1) := by decide +kernel
theorem dX1_takeIfDue_88 : decode cX1_takeIfDue 88 = .ok (.aload_n 0, 1) := by decide +kernel
theorem dX1_takeIfDue_89 : decode cX1_takeIfDue 89 = .ok (.getfield 18, 3) := by decide +kernel
theorem dX1_takeIfDue_92 : decode cX1_takeIfDue 92 = .ok (.iadd, 1) := by decide +kernel
theorem dX1_takeIfDue_93 : decode cX1_takeIfDue 93 = .ok (.invokevirtual 69, 3) := by decide +kernel
theorem dX1_takeIfDue_96 : decode cX1_takeIfDue 96 = .ok (.return_, 1) := by decide +kernel
theorem dX1_sendCreditBack_0 : decode cX1_sendCreditBack 0 = .ok (.aload_n 0, 1) := by decide +kernel
theorem dX1_sendCreditBack_1 : decode cX1_sendCreditBack 1 = .ok (.getfield 49, 3) := by decide +kernel
theorem dX1_sendCreditBack_4 : decode cX1_sendCreditBack 4 = .ok (.bipush 6, 2) := by decide +kernel
theorem dX1_sendCreditBack_6 : decode cX1_sendCreditBack 6 = .ok (.if_icmp .lt 4, 3) := by decide +kernel
theorem dX1_sendCreditBack_9 : decode cX1_sendCreditBack 9 = .ok (.return_, 1) := by decide +kernel
theorem dX1_sendCreditBack_10 : decode cX1_sendCreditBack 10 = .ok (.aload_n 0, 1) := by decide +kernel
theorem dX1_sendCreditBack_11 : decode cX1_sendCreditBack 11 = .ok (.getfield 49, 3) := by decide +kernel
theorem dX1_sendCreditBack_14 : decode cX1_sendCreditBack 14 = .ok (.istore_n 2, 1) := by decide +kernel
theorem dX1_sendCreditBack_15 : decode cX1_sendCreditBack 15 = .ok (.iload_n 2, 1) := by decide +kernel
theorem dX1_sendCreditBack_16 : decode cX1_sendCreditBack 16 = .ok (.ifCond .le 35, 3) := by decide +kernel
theorem dX1_sendCreditBack_19 : decode cX1_sendCreditBack 19 = .ok (.aload_n 0, 1) := by decide +kernel
theorem dX1_sendCreditBack_20 : decode cX1_sendCreditBack 20 = .ok (.getfield 46, 3) := by decide +kernel
theorem dX1_sendCreditBack_23 : decode cX1_sendCreditBack 23 = .ok (.iload_n 2, 1) := by decide +kernel
theorem dX1_sendCreditBack_24 : decode cX1_sendCreditBack 24 = .ok (.iconst 1, 1) := by decide +kernel
theorem dX1_sendCreditBack_25 : decode cX1_sendCreditBack 25 = .ok (.isub, 1) := by decide +kernel
theorem dX1_sendCreditBack_26 : decode cX1_sendCreditBack 26 = .ok (.iaload, 1) := by decide +kernel
theorem dX1_sendCreditBack_27 : decode cX1_sendCreditBack 27 = .ok (.iload_n 1, 1) := by decide +kernel
theorem dX1_sendCreditBack_28 : decode cX1_sendCreditBack 28 = .ok (.if_icmp .le 23, 3) := by decide +kernel
theorem dX1_sendCreditBack_31 : decode cX1_sendCreditBack 31 = .ok (.aload_n 0, 1) := by decide +kernel
theorem dX1_sendCreditBack_32 : decode cX1_sendCreditBack 32 = .ok (.getfield 46, 3) := by decide +kernel
theorem dX1_sendCreditBack_35 : decode cX1_sendCreditBack 35 = .ok (.iload_n 2, 1) := by decide +kernel
theorem dX1_sendCreditBack_36 : decode cX1_sendCreditBack 36 = .ok (.aload_n 0, 1) := by decide +kernel
theorem dX1_sendCreditBack_37 : decode cX1_sendCreditBack 37 = .ok (.getfield 46, 3) := by decide +kernel
theorem dX1_sendCreditBack_40 : decode cX1_sendCreditBack 40 = .ok (.iload_n 2, 1) := by decide +kernel
theorem dX1_sendCreditBack_41 : decode cX1_sendCreditBack 41 = .ok (.iconst 1, 1) := by decide +kernel
theorem dX1_sendCreditBack_42 : decode cX1_sendCreditBack 42 = .ok (.isub, 1) := by decide +kernel
theorem dX1_sendCreditBack_43 : decode cX1_sendCreditBack 43 = .ok (.iaload, 1) := by decide +kernel
theorem dX1_sendCreditBack_44 : decode cX1_sendCreditBack 44 = .ok (.iastore, 1) := by decide +kernel
theorem dX1_sendCreditBack_45 : decode cX1_sendCreditBack 45 = .ok (.iinc 2 (-1), 3) := by decide +kernel
theorem dX1_sendCreditBack_48 : decode cX1_sendCreditBack 48 = .ok (.goto (-33), 3) := by decide +kernel
theorem dX1_sendCreditBack_51 : decode cX1_sendCreditBack 51 = .ok (.aload_n 0, 1) := by decide +kernel
theorem dX1_sendCreditBack_52 : decode cX1_sendCreditBack 52 = .ok (.getfield 46, 3) := by decide +kernel
theorem dX1_sendCreditBack_55 : decode cX1_sendCreditBack 55 = .ok (.iload_n 2, 1) := by decide +kernel
theorem dX1_sendCreditBack_56 : decode cX1_sendCreditBack 56 = .ok (.iload_n 1, 1) := by decide +kernel
theorem dX1_sendCreditBack_57 : decode cX1_sendCreditBack 57 = .ok (.iastore, 1) := by decide +kernel
theorem dX1_sendCreditBack_58 : decode cX1_sendCreditBack 58 = .ok (.aload_n 0, 1) := by decide +kernel
theorem dX1_sendCreditBack_59 : decode cX1_sendCreditBack 59 = .ok (.dup, 1) := by decide +kernel
theorem dX1_sendCreditBack_60 : decode cX1_sendCreditBack 60 = .ok (.getfield 49, 3) := by decide +kernel
theorem dX1_sendCreditBack_63 : decode cX1_sendCreditBack 63 = .ok (.iconst 1, 1) := by decide +kernel
theorem dX1_sendCreditBack_64 : decode cX1_sendCreditBack 64 = .ok (.iadd, 1) := by decide +kernel
theorem dX1_sendCreditBack_65 : decode cX1_sendCreditBack 65 = .ok (.putfield 49, 3) := by decide +kernel
theorem dX1_sendCreditBack_68 : decode cX1_sendCreditBack 68 = .ok (.return_, 1) := by decide +kernel
theorem dX1_figure_0 : decode cX1_figure 0 = .ok (.iload_n 1, 1) := by decide +kernel
theorem dX1_figure_1 : decode cX1_figure 1 = .ok (.tableswitch 129 0 11 #[63, 68, 73, 78, 86, 91, 96, 104, 109, 114, 119, 124], 63) := by decide +kernel
theorem dX1_figure_64 : decode cX1_figure 64 = .ok (.aload_n 0, 1) := by decide +kernel
theorem dX1_figure_65 : decode cX1_figure 65 = .ok (.getfield 9, 3) := by decide +kernel
theorem dX1_figure_68 : decode cX1_figure 68 = .ok (.ireturn, 1) := by decide +kernel
theorem dX1_figure_69 : decode cX1_figure 69 = .ok (.aload_n 0, 1) := by decide +kernel
theorem dX1_figure_70 : decode cX1_figure 70 = .ok (.getfield 15, 3) := by decide +kernel
theorem dX1_figure_73 : decode cX1_figure 73 = .ok (.ireturn, 1) := by decide +kernel
theorem dX1_figure_74 : decode cX1_figure 74 = .ok (.aload_n 0, 1) := by decide +kernel
theorem dX1_figure_75 : decode cX1_figure 75 = .ok (.getfield 18, 3) := by decide +kernel
theorem dX1_figure_78 : decode cX1_figure 78 = .ok (.ireturn, 1) := by decide +kernel
theorem dX1_figure_79 : decode cX1_figure 79 = .ok (.aload_n 0, 1) := by decide +kernel
theorem dX1_figure_80 : decode cX1_figure 80 = .ok (.getfield 21, 3) := by decide +kernel
theorem dX1_figure_83 : decode cX1_figure 83 = .ok (.bipush 100, 2) := by decide +kernel
theorem dX1_figure_85 : decode cX1_figure 85 = .ok (.iadd, 1) := by decide +kernel
theorem dX1_figure_86 : decode cX1_figure 86 = .ok (.ireturn, 1) := by decide +kernel
theorem dX1_figure_87 : decode cX1_figure 87 = .ok (.aload_n 0, 1) := by decide +kernel
theorem dX1_figure_88 : decode cX1_figure 88 = .ok (.getfield 43, 3) := by decide +kernel
theorem dX1_figure_91 : decode cX1_figure 91 = .ok (.ireturn, 1) := by decide +kernel
theorem dX1_figure_92 : decode cX1_figure 92 = .ok (.aload_n 0, 1) := by decide +kernel
theorem dX1_figure_93 : decode cX1_figure 93 = .ok (.getfield 49, 3) := by decide +kernel
theorem dX1_figure_96 : decode cX1_figure 96 = .ok (.ireturn, 1) := by decide +kernel
theorem dX1_figure_97 : decode cX1_figure 97 = .ok (.aload_n 0, 1) := by decide +kernel
theorem dX1_figure_98 : decode cX1_figure 98 = .ok (.invokevirtual 58, 3) := by decide +kernel
theorem dX1_figure_101 : decode cX1_figure 101 = .ok (.bipush 100, 2) := by decide +kernel
theorem dX1_figure_103 : decode cX1_figure 103 = .ok (.iadd, 1) := by decide +kernel
theorem dX1_figure_104 : decode cX1_figure 104 = .ok (.ireturn, 1) := by decide +kernel
theorem dX1_figure_105 : decode cX1_figure 105 = .ok (.aload_n 0, 1) := by decide +kernel
theorem dX1_figure_106 : decode cX1_figure 106 = .ok (.getfield 24, 3) := by decide +kernel
theorem dX1_figure_109 : decode cX1_figure 109 = .ok (.ireturn, 1) := by decide +kernel
theorem dX1_figure_110 : decode cX1_figure 110 = .ok (.aload_n 0, 1) := by decide +kernel
theorem dX1_figure_111 : decode cX1_figure 111 = .ok (.getfield 27, 3) := by decide +kernel
theorem dX1_figure_114 : decode cX1_figure 114 = .ok (.ireturn, 1) := by decide +kernel
theorem dX1_figure_115 : decode cX1_figure 115 = .ok (.aload_n 0, 1) := by decide +kernel
theorem dX1_figure_116 : decode cX1_figure 116 = .ok (.getfield 30, 3) := by decide +kernel
theorem dX1_figure_119 : decode cX1_figure 119 = .ok (.ireturn, 1) := by decide +kernel
theorem dX1_figure_120 : decode cX1_figure 120 = .ok (.aload_n 0, 1) := by decide +kernel
theorem dX1_figure_121 : decode cX1_figure 121 = .ok (.getfield 33, 3) := by decide +kernel
theorem dX1_figure_124 : decode cX1_figure 124 = .ok (.ireturn, 1) := by decide +kernel
theorem dX1_figure_125 : decode cX1_figure 125 = .ok (.aload_n 0, 1) := by decide +kernel
theorem dX1_figure_126 : decode cX1_figure 126 = .ok (.getfield 36, 3) := by decide +kernel
theorem dX1_figure_129 : decode cX1_figure 129 = .ok (.ireturn, 1) := by decide +kernel
theorem dX1_figure_130 : decode cX1_figure 130 = .ok (.bipush (-2), 2) := by decide +kernel
theorem dX1_figure_132 : decode cX1_figure 132 = .ok (.ireturn, 1) := by decide +kernel
theorem dX2_init_0 : decode cX2_init 0 = .ok (.aload_n 0, 1) := by decide +kernel
theorem dX2_init_1 : decode cX2_init 1 = .ok (.invokespecial 3, 3) := by decide +kernel
theorem dX2_init_4 : decode cX2_init 4 = .ok (.aload_n 0, 1) := by decide +kernel
theorem dX2_init_5 : decode cX2_init 5 = .ok (.bipush 8, 2) := by decide +kernel
theorem dX2_init_7 : decode cX2_init 7 = .ok (.newarray .int, 2) := by decide +kernel
theorem dX2_init_9 : decode cX2_init 9 = .ok (.putfield 9, 3) := by decide +kernel
theorem dX2_init_12 : decode cX2_init 12 = .ok (.aload_n 0, 1) := by decide +kernel
theorem dX2_init_13 : decode cX2_init 13 = .ok (.bipush 8, 2) := by decide +kernel
theorem dX2_init_15 : decode cX2_init 15 = .ok (.newarray .int, 2) := by decide +kernel
theorem dX2_init_17 : decode cX2_init 17 = .ok (.putfield 15, 3) := by decide +kernel
theorem dX2_init_20 : decode cX2_init 20 = .ok (.aload_n 0, 1) := by decide +kernel
theorem dX2_init_21 : decode cX2_init 21 = .ok (.bipush 8, 2) := by decide +kernel
theorem dX2_init_23 : decode cX2_init 23 = .ok (.newarray .int, 2) := by decide +kernel
theorem dX2_init_25 : decode cX2_init 25 = .ok (.putfield 18, 3) := by decide +kernel
theorem dX2_init_28 : decode cX2_init 28 = .ok (.aload_n 0, 1) := by decide +kernel
theorem dX2_init_29 : decode cX2_init 29 = .ok (.iconst 0, 1) := by decide +kernel
theorem dX2_init_30 : decode cX2_init 30 = .ok (.putfield 21, 3) := by decide +kernel
theorem dX2_init_33 : decode cX2_init 33 = .ok (.aload_n 0, 1) := by decide +kernel
theorem dX2_init_34 : decode cX2_init 34 = .ok (.iconst 0, 1) := by decide +kernel
theorem dX2_init_35 : decode cX2_init 35 = .ok (.putfield 25, 3) := by decide +kernel
theorem dX2_init_38 : decode cX2_init 38 = .ok (.aload_n 0, 1) := by decide +kernel
theorem dX2_init_39 : decode cX2_init 39 = .ok (.iconst 0, 1) := by decide +kernel
theorem dX2_init_40 : decode cX2_init 40 = .ok (.putfield 28, 3) := by decide +kernel
theorem dX2_init_43 : decode cX2_init 43 = .ok (.aload_n 0, 1) := by decide +kernel
theorem dX2_init_44 : decode cX2_init 44 = .ok (.iconst 0, 1) := by decide +kernel
theorem dX2_init_45 : decode cX2_init 45 = .ok (.putfield 31, 3) := by decide +kernel
theorem dX2_init_48 : decode cX2_init 48 = .ok (.return_, 1) := by decide +kernel
theorem dX2_copyFrom_0 : decode cX2_copyFrom 0 = .ok (.aload_n 0, 1) := by decide +kernel
theorem dX2_copyFrom_1 : decode cX2_copyFrom 1 = .ok (.aload_n 1, 1) := by decide +kernel
theorem dX2_copyFrom_2 : decode cX2_copyFrom 2 = .ok (.getfield 21, 3) := by decide +kernel
theorem dX2_copyFrom_5 : decode cX2_copyFrom 5 = .ok (.putfield 21, 3) := by decide +kernel
theorem dX2_copyFrom_8 : decode cX2_copyFrom 8 = .ok (.aload_n 0, 1) := by decide +kernel
theorem dX2_copyFrom_9 : decode cX2_copyFrom 9 = .ok (.aload_n 1, 1) := by decide +kernel
theorem dX2_copyFrom_10 : decode cX2_copyFrom 10 = .ok (.getfield 25, 3) := by decide +kernel
theorem dX2_copyFrom_13 : decode cX2_copyFrom 13 = .ok (.putfield 25, 3) := by decide +kernel
theorem dX2_copyFrom_16 : decode cX2_copyFrom 16 = .ok (.aload_n 0, 1) := by decide +kernel
theorem dX2_copyFrom_17 : decode cX2_copyFrom 17 = .ok (.aload_n 1, 1) := by decide +kernel
theorem dX2_copyFrom_18 : decode cX2_copyFrom 18 = .ok (.getfield 28, 3) := by decide +kernel
theorem dX2_copyFrom_21 : decode cX2_copyFrom 21 = .ok (.putfield 28, 3) := by decide +kernel
theorem dX2_copyFrom_24 : decode cX2_copyFrom 24 = .ok (.aload_n 1, 1) := by decide +kernel
theorem dX2_copyFrom_25 : decode cX2_copyFrom 25 = .ok (.getfield 9, 3) := by decide +kernel
theorem dX2_copyFrom_28 : decode cX2_copyFrom 28 = .ok (.iconst 0, 1) := by decide +kernel
theorem dX2_copyFrom_29 : decode cX2_copyFrom 29 = .ok (.aload_n 0, 1) := by decide +kernel
theorem dX2_copyFrom_30 : decode cX2_copyFrom 30 = .ok (.getfield 9, 3) := by decide +kernel
theorem dX2_copyFrom_33 : decode cX2_copyFrom 33 = .ok (.iconst 0, 1) := by decide +kernel
theorem dX2_copyFrom_34 : decode cX2_copyFrom 34 = .ok (.bipush 8, 2) := by decide +kernel
theorem dX2_copyFrom_36 : decode cX2_copyFrom 36 = .ok (.invokestatic 35, 3) := by decide +kernel
theorem dX2_copyFrom_39 : decode cX2_copyFrom 39 = .ok (.aload_n 1, 1) := by decide +kernel
theorem dX2_copyFrom_40 : decode cX2_copyFrom 40 = .ok (.getfield 15, 3) := by decide +kernel
theorem dX2_copyFrom_43 : decode cX2_copyFrom 43 = .ok (.iconst 0, 1) := by decide +kernel
theorem dX2_copyFrom_44 : decode cX2_copyFrom 44 = .ok (.aload_n 0, 1) := by decide +kernel
theorem dX2_copyFrom_45 : decode cX2_copyFrom 45 = .ok (.getfield 15, 3) := by decide +kernel
theorem dX2_copyFrom_48 : decode cX2_copyFrom 48 = .ok (.iconst 0, 1) := by decide +kernel
theorem dX2_copyFrom_49 : decode cX2_copyFrom 49 = .ok (.bipush 8, 2) := by decide +kernel
theorem dX2_copyFrom_51 : decode cX2_copyFrom 51 = .ok (.invokestatic 35, 3) := by decide +kernel
theorem dX2_copyFrom_54 : decode cX2_copyFrom 54 = .ok (.aload_n 1, 1) := by decide +kernel
theorem dX2_copyFrom_55 : decode cX2_copyFrom 55 = .ok (.getfield 18, 3) := by decide +kernel
theorem dX2_copyFrom_58 : decode cX2_copyFrom 58 = .ok (.iconst 0, 1) := by decide +kernel
theorem dX2_copyFrom_59 : decode cX2_copyFrom 59 = .ok (.aload_n 0, 1) := by decide +kernel
theorem dX2_copyFrom_60 : decode cX2_copyFrom 60 = .ok (.getfield 18, 3) := by decide +kernel
theorem dX2_copyFrom_63 : decode cX2_copyFrom 63 = .ok (.iconst 0, 1) := by decide +kernel
theorem dX2_copyFrom_64 : decode cX2_copyFrom 64 = .ok (.bipush 8, 2) := by decide +kernel
theorem dX2_copyFrom_66 : decode cX2_copyFrom 66 = .ok (.invokestatic 35, 3) := by decide +kernel
theorem dX2_copyFrom_69 : decode cX2_copyFrom 69 = .ok (.return_, 1) := by decide +kernel
theorem dX2_append_0 : decode cX2_append 0 = .ok (.aload_n 0, 1) := by decide +kernel
theorem dX2_append_1 : decode cX2_append 1 = .ok (.getfield 21, 3) := by decide +kernel
theorem dX2_append_4 : decode cX2_append 4 = .ok (.bipush 8, 2) := by decide +kernel
theorem dX2_append_6 : decode cX2_append 6 = .ok (.if_icmp .lt 4, 3) := by decide +kernel
theorem dX2_append_9 : decode cX2_append 9 = .ok (.return_, 1) := by decide +kernel
theorem dX2_append_10 : decode cX2_append 10 = .ok (.aload_n 0, 1) := by decide +kernel
theorem dX2_append_11 : decode cX2_append 11 = .ok (.getfield 9, 3) := by decide +kernel
theorem dX2_append_14 : decode cX2_append 14 = .ok (.aload_n 0, 1) := by decide +kernel
theorem dX2_append_15 : decode cX2_append 15 = .ok (.getfield 21, 3) := by decide +kernel
theorem dX2_append_18 : decode cX2_append 18 = .ok (.iload_n 1, 1) := by decide +kernel
theorem dX2_append_19 : decode cX2_append 19 = .ok (.iastore, 1) := by decide +kernel
theorem dX2_append_20 : decode cX2_append 20 = .ok (.aload_n 0, 1) := by decide +kernel
theorem dX2_append_21 : decode cX2_append 21 = .ok (.getfield 15, 3) := by decide +kernel
theorem dX2_append_24 : decode cX2_append 24 = .ok (.aload_n 0, 1) := by decide +kernel
theorem dX2_append_25 : decode cX2_append 25 = .ok (.getfield 21, 3) := by decide +kernel
theorem dX2_append_28 : decode cX2_append 28 = .ok (.iload_n 2, 1) := by decide +kernel
theorem dX2_append_29 : decode cX2_append 29 = .ok (.iastore, 1) := by decide +kernel
theorem dX2_append_30 : decode cX2_append 30 = .ok (.aload_n 0, 1) := by decide +kernel
theorem dX2_append_31 : decode cX2_append 31 = .ok (.getfield 18, 3) := by decide +kernel
theorem dX2_append_34 : decode cX2_append 34 = .ok (.aload_n 0, 1) := by decide +kernel
theorem dX2_append_35 : decode cX2_append 35 = .ok (.getfield 21, 3) := by decide +kernel
theorem dX2_append_38 : decode cX2_append 38 = .ok (.iload_n 3, 1) := by decide +kernel
theorem dX2_append_39 : decode cX2_append 39 = .ok (.iastore, 1) := by decide +kernel
theorem dX2_append_40 : decode cX2_append 40 = .ok (.aload_n 0, 1) := by decide +kernel
theorem dX2_append_41 : decode cX2_append 41 = .ok (.dup, 1) := by decide +kernel
theorem dX2_append_42 : decode cX2_append 42 = .ok (.getfield 21, 3) := by decide +kernel
theorem dX2_append_45 : decode cX2_append 45 = .ok (.iconst 1, 1) := by decide +kernel
theorem dX2_append_46 : decode cX2_append 46 = .ok (.iadd, 1) := by decide +kernel
theorem dX2_append_47 : decode cX2_append 47 = .ok (.putfield 21, 3) := by decide +kernel
theorem dX2_append_50 : decode cX2_append 50 = .ok (.return_, 1) := by decide +kernel
theorem dX2_offerFor_0 : decode cX2_offerFor 0 = .ok (.aload_n 0, 1) := by decide +kernel
theorem dX2_offerFor_1 : decode cX2_offerFor 1 = .ok (.getfield 31, 3) := by decide +kernel
theorem dX2_offerFor_4 : decode cX2_offerFor 4 = .ok (.ifCond .eq 5, 3) := by decide +kernel
theorem dX2_offerFor_7 : decode cX2_offerFor 7 = .ok (.iconst (-1), 1) := by decide +kernel
theorem dX2_offerFor_8 : decode cX2_offerFor 8 = .ok (.ireturn, 1) := by decide +kernel
theorem dX2_offerFor_9 : decode cX2_offerFor 9 = .ok (.iload_n 2, 1) := by decide +kernel
theorem dX2_offerFor_10 : decode cX2_offerFor 10 = .ok (.ifCond .ne 14, 3) := by decide +kernel
theorem dX2_offerFor_13 : decode cX2_offerFor 13 = .ok (.aload_n 0, 1) := by decide +kernel
theorem dX2_offerFor_14 : decode cX2_offerFor 14 = .ok (.getfield 21, 3) := by decide +kernel
theorem dX2_offerFor_17 : decode cX2_offerFor 17 = .ok (.iconst 1, 1) := by decide +kernel
theorem dX2_offerFor_18 : decode cX2_offerFor 18 = .ok (.invokestatic 41, 3) := by decide +kernel
theorem dX2_offerFor_21 : decode cX2_offerFor 21 = .ok (.goto 7, 3) := by decide +kernel
theorem dX2_offerFor_24 : decode cX2_offerFor 24 = .ok (.aload_n 0, 1) := by decide +kernel
theorem dX2_offerFor_25 : decode cX2_offerFor 25 = .ok (.getfield 21, 3) := by decide +kernel
theorem dX2_offerFor_28 : decode cX2_offerFor 28 = .ok (.istore_n 3, 1) := by decide +kernel
theorem dX2_offerFor_29 : decode cX2_offerFor 29 = .ok (.iconst 0, 1) := by decide +kernel
theorem dX2_offerFor_30 : decode cX2_offerFor 30 = .ok (.istore 4, 2) := by decide +kernel
theorem dX2_offerFor_32 : decode cX2_offerFor 32 = .ok (.iload 4, 2) := by decide +kernel
theorem dX2_offerFor_34 : decode cX2_offerFor 34 = .ok (.iload_n 3, 1) := by decide +kernel
theorem dX2_offerFor_35 : decode cX2_offerFor 35 = .ok (.if_icmp .ge 23, 3) := by decide +kernel
theorem dX2_offerFor_38 : decode cX2_offerFor 38 = .ok (.aload_n 0, 1) := by decide +kernel
theorem dX2_offerFor_39 : decode cX2_offerFor 39 = .ok (.getfield 15, 3) := by decide +kernel
theorem dX2_offerFor_42 : decode cX2_offerFor 42 = .ok (.iload 4, 2) := by decide +kernel
theorem dX2_offerFor_44 : decode cX2_offerFor 44 = .ok (.iaload, 1) := by decide +kernel
theorem dX2_offerFor_45 : decode cX2_offerFor 45 = .ok (.iload_n 1, 1) := by decide +kernel
theorem dX2_offerFor_46 : decode cX2_offerFor 46 = .ok (.if_icmp .ne 6, 3) := by decide +kernel
theorem dX2_offerFor_49 : decode cX2_offerFor 49 = .ok (.iload 4, 2) := by decide +kernel
theorem dX2_offerFor_51 : decode cX2_offerFor 51 = .ok (.ireturn, 1) := by decide +kernel
theorem dX2_offerFor_52 : decode cX2_offerFor 52 = .ok (.iinc 4 1, 3) := by decide +kernel
theorem dX2_offerFor_55 : decode cX2_offerFor 55 = .ok (.goto (-23), 3) := by decide +kernel
theorem dX2_offerFor_58 : decode cX2_offerFor 58 = .ok (.iconst (-1), 1) := by decide +kernel
theorem dX2_offerFor_59 : decode cX2_offerFor 59 = .ok (.ireturn, 1) := by decide +kernel
theorem dX2_sendFrom_0 : decode cX2_sendFrom 0 = .ok (.aload_n 0, 1) := by decide +kernel
theorem dX2_sendFrom_1 : decode cX2_sendFrom 1 = .ok (.getfield 9, 3) := by decide +kernel
theorem dX2_sendFrom_4 : decode cX2_sendFrom 4 = .ok (.iload_n 1, 1) := by decide +kernel
theorem dX2_sendFrom_5 : decode cX2_sendFrom 5 = .ok (.iaload, 1) := by decide +kernel
theorem dX2_sendFrom_6 : decode cX2_sendFrom 6 = .ok (.istore_n 2, 1) := by decide +kernel
theorem dX2_sendFrom_7 : decode cX2_sendFrom 7 = .ok (.iload_n 1, 1) := by decide +kernel
theorem dX2_sendFrom_8 : decode cX2_sendFrom 8 = .ok (.iconst 1, 1) := by decide +kernel
theorem dX2_sendFrom_9 : decode cX2_sendFrom 9 = .ok (.iadd, 1) := by decide +kernel
theorem dX2_sendFrom_10 : decode cX2_sendFrom 10 = .ok (.istore_n 3, 1) := by decide +kernel
theorem dX2_sendFrom_11 : decode cX2_sendFrom 11 = .ok (.iload_n 3, 1) := by decide +kernel
theorem dX2_sendFrom_12 : decode cX2_sendFrom 12 = .ok (.aload_n 0, 1) := by decide +kernel
theorem dX2_sendFrom_13 : decode cX2_sendFrom 13 = .ok (.getfield 21, 3) := by decide +kernel
theorem dX2_sendFrom_16 : decode cX2_sendFrom 16 = .ok (.if_icmp .ge 51, 3) := by decide +kernel
theorem dX2_sendFrom_19 : decode cX2_sendFrom 19 = .ok (.aload_n 0, 1) := by decide +kernel
theorem dX2_sendFrom_20 : decode cX2_sendFrom 20 = .ok (.getfield 9, 3) := by decide +kernel
theorem dX2_sendFrom_23 : decode cX2_sendFrom 23 = .ok (.iload_n 3, 1) := by decide +kernel
theorem dX2_sendFrom_24 : decode cX2_sendFrom 24 = .ok (.iconst 1, 1) := by decide +kernel
theorem dX2_sendFrom_25 : decode cX2_sendFrom 25 = .ok (.isub, 1) := by decide +kernel
theorem dX2_sendFrom_26 : decode cX2_sendFrom 26 = .ok (.aload_n 0, 1) := by decide +kernel
theorem dX2_sendFrom_27 : decode cX2_sendFrom 27 = .ok (.getfield 9, 3) := by decide +kernel
theorem dX2_sendFrom_30 : decode cX2_sendFrom 30 = .ok (.iload_n 3, 1) := by decide +kernel
theorem dX2_sendFrom_31 : decode cX2_sendFrom 31 = .ok (.iaload, 1) := by decide +kernel
theorem dX2_sendFrom_32 : decode cX2_sendFrom 32 = .ok (.iastore, 1) := by decide +kernel
theorem dX2_sendFrom_33 : decode cX2_sendFrom 33 = .ok (.aload_n 0, 1) := by decide +kernel
theorem dX2_sendFrom_34 : decode cX2_sendFrom 34 = .ok (.getfield 15, 3) := by decide +kernel
theorem dX2_sendFrom_37 : decode cX2_sendFrom 37 = .ok (.iload_n 3, 1) := by decide +kernel
theorem dX2_sendFrom_38 : decode cX2_sendFrom 38 = .ok (.iconst 1, 1) := by decide +kernel
theorem dX2_sendFrom_39 : decode cX2_sendFrom 39 = .ok (.isub, 1) := by decide +kernel
theorem dX2_sendFrom_40 : decode cX2_sendFrom 40 = .ok (.aload_n 0, 1) := by decide +kernel
theorem dX2_sendFrom_41 : decode cX2_sendFrom 41 = .ok (.getfield 15, 3) := by decide +kernel
theorem dX2_sendFrom_44 : decode cX2_sendFrom 44 = .ok (.iload_n 3, 1) := by decide +kernel
theorem dX2_sendFrom_45 : decode cX2_sendFrom 45 = .ok (.iaload, 1) := by decide +kernel
theorem dX2_sendFrom_46 : decode cX2_sendFrom 46 = .ok (.iastore, 1) := by decide +kernel
theorem dX2_sendFrom_47 : decode cX2_sendFrom 47 = .ok (.aload_n 0, 1) := by decide +kernel
theorem dX2_sendFrom_48 : decode cX2_sendFrom 48 = .ok (.getfield 18, 3) := by decide +kernel
theorem dX2_sendFrom_51 : decode cX2_sendFrom 51 = .ok (.iload_n 3, 1) := by decide +kernel
theorem dX2_sendFrom_52 : decode cX2_sendFrom 52 = .ok (.iconst 1, 1) := by decide +kernel
theorem dX2_sendFrom_53 : decode cX2_sendFrom 53 = .ok (.isub, 1) := by decide +kernel
theorem dX2_sendFrom_54 : decode cX2_sendFrom 54 = .ok (.aload_n 0, 1) := by decide +kernel
theorem dX2_sendFrom_55 : decode cX2_sendFrom 55 = .ok (.getfield 18, 3) := by decide +kernel
theorem dX2_sendFrom_58 : decode cX2_sendFrom 58 = .ok (.iload_n 3, 1) := by decide +kernel
theorem dX2_sendFrom_59 : decode cX2_sendFrom 59 = .ok (.iaload, 1) := by decide +kernel
theorem dX2_sendFrom_60 : decode cX2_sendFrom 60 = .ok (.iastore, 1) := by decide +kernel
theorem dX2_sendFrom_61 : decode cX2_sendFrom 61 = .ok (.iinc 3 1, 3) := by decide +kernel
theorem dX2_sendFrom_64 : decode cX2_sendFrom 64 = .ok (.goto (-53), 3) := by decide +kernel
theorem dX2_sendFrom_67 : decode cX2_sendFrom 67 = .ok (.aload_n 0, 1) := by decide +kernel
theorem dX2_sendFrom_68 : decode cX2_sendFrom 68 = .ok (.dup, 1) := by decide +kernel
theorem dX2_sendFrom_69 : decode cX2_sendFrom 69 = .ok (.getfield 21, 3) := by decide +kernel
theorem dX2_sendFrom_72 : decode cX2_sendFrom 72 = .ok (.iconst 1, 1) := by decide +kernel
theorem dX2_sendFrom_73 : decode cX2_sendFrom 73 = .ok (.isub, 1) := by decide +kernel
theorem dX2_sendFrom_74 : decode cX2_sendFrom 74 = .ok (.putfield 21, 3) := by decide +kernel
theorem dX2_sendFrom_77 : decode cX2_sendFrom 77 = .ok (.aload_n 0, 1) := by decide +kernel
theorem dX2_sendFrom_78 : decode cX2_sendFrom 78 = .ok (.dup, 1) := by decide +kernel
theorem dX2_sendFrom_79 : decode cX2_sendFrom 79 = .ok (.getfield 28, 3) := by decide +kernel
theorem dX2_sendFrom_82 : decode cX2_sendFrom 82 = .ok (.iconst 1, 1) := by decide +kernel
theorem dX2_sendFrom_83 : decode cX2_sendFrom 83 = .ok (.iadd, 1) := by decide +kernel
theorem dX2_sendFrom_84 : decode cX2_sendFrom 84 = .ok (.putfield 28, 3) := by decide +kernel
theorem dX2_sendFrom_87 : decode cX2_sendFrom 87 = .ok (.aload_n 0, 1) := by decide +kernel
theorem dX2_sendFrom_88 : decode cX2_sendFrom 88 = .ok (.iconst 1, 1) := by decide +kernel
theorem dX2_sendFrom_89 : decode cX2_sendFrom 89 = .ok (.putfield 31, 3) := by decide +kernel
theorem dX2_sendFrom_92 : decode cX2_sendFrom 92 = .ok (.iload_n 2, 1) := by decide +kernel
theorem dX2_sendFrom_93 : decode cX2_sendFrom 93 = .ok (.ireturn, 1) := by decide +kernel
theorem dX2_countBlocked_0 : decode cX2_countBlocked 0 = .ok (.aload_n 0, 1) := by decide +kernel
theorem dX2_countBlocked_1 : decode cX2_countBlocked 1 = .ok (.getfield 21, 3) := by decide +kernel
theorem dX2_countBlocked_4 : decode cX2_countBlocked 4 = .ok (.ifCond .le 20, 3) := by decide +kernel
theorem dX2_countBlocked_7 : decode cX2_countBlocked 7 = .ok (.aload_n 0, 1) := by decide +kernel
theorem dX2_countBlocked_8 : decode cX2_countBlocked 8 = .ok (.getfield 31, 3) := by decide +kernel
theorem dX2_countBlocked_11 : decode cX2_countBlocked 11 = .ok (.ifCond .ne 13, 3) := by decide +kernel
theorem dX2_countBlocked_14 : decode cX2_countBlocked 14 = .ok (.aload_n 0, 1) := by decide +kernel
theorem dX2_countBlocked_15 : decode cX2_countBlocked 15 = .ok (.dup, 1) := by decide +kernel
theorem dX2_countBlocked_16 : decode cX2_countBlocked 16 = .ok (.getfield 25, 3) := by decide +kernel
theorem dX2_countBlocked_19 : decode cX2_countBlocked 19 = .ok (.iconst 1, 1) := by decide +kernel
theorem dX2_countBlocked_20 : decode cX2_countBlocked 20 = .ok (.iadd, 1) := by decide +kernel
theorem dX2_countBlocked_21 : decode cX2_countBlocked 21 = .ok (.putfield 25, 3) := by decide +kernel
theorem dX2_countBlocked_24 : decode cX2_countBlocked 24 = .ok (.return_, 1) := by decide +kernel
theorem dX2_waitingFor_0 : decode cX2_waitingFor 0 = .ok (.iconst 0, 1) := by decide +kernel
theorem dX2_waitingFor_1 : decode cX2_waitingFor 1 = .ok (.istore_n 2, 1) := by decide +kernel
theorem dX2_waitingFor_2 : decode cX2_waitingFor 2 = .ok (.iconst 0, 1) := by decide +kernel
theorem dX2_waitingFor_3 : decode cX2_waitingFor 3 = .ok (.istore_n 3, 1) := by decide +kernel
theorem dX2_waitingFor_4 : decode cX2_waitingFor 4 = .ok (.iload_n 3, 1) := by decide +kernel
theorem dX2_waitingFor_5 : decode cX2_waitingFor 5 = .ok (.aload_n 0, 1) := by decide +kernel
theorem dX2_waitingFor_6 : decode cX2_waitingFor 6 = .ok (.getfield 21, 3) := by decide +kernel
theorem dX2_waitingFor_9 : decode cX2_waitingFor 9 = .ok (.if_icmp .ge 22, 3) := by decide +kernel
theorem dX2_waitingFor_12 : decode cX2_waitingFor 12 = .ok (.aload_n 0, 1) := by decide +kernel
theorem dX2_waitingFor_13 : decode cX2_waitingFor 13 = .ok (.getfield 15, 3) := by decide +kernel
theorem dX2_waitingFor_16 : decode cX2_waitingFor 16 = .ok (.iload_n 3, 1) := by decide +kernel
theorem dX2_waitingFor_17 : decode cX2_waitingFor 17 = .ok (.iaload, 1) := by decide +kernel
theorem dX2_waitingFor_18 : decode cX2_waitingFor 18 = .ok (.iload_n 1, 1) := by decide +kernel
theorem dX2_waitingFor_19 : decode cX2_waitingFor 19 = .ok (.if_icmp .ne 6, 3) := by decide +kernel
theorem dX2_waitingFor_22 : decode cX2_waitingFor 22 = .ok (.iinc 2 1, 3) := by decide +kernel
theorem dX2_waitingFor_25 : decode cX2_waitingFor 25 = .ok (.iinc 3 1, 3) := by decide +kernel
theorem dX2_waitingFor_28 : decode cX2_waitingFor 28 = .ok (.goto (-24), 3) := by decide +kernel
theorem dX2_waitingFor_31 : decode cX2_waitingFor 31 = .ok (.iload_n 2, 1) := by decide +kernel
theorem dX2_waitingFor_32 : decode cX2_waitingFor 32 = .ok (.ireturn, 1) := by decide +kernel
theorem dX2_holds_0 : decode cX2_holds 0 = .ok (.iconst 0, 1) := by decide +kernel
theorem dX2_holds_1 : decode cX2_holds 1 = .ok (.istore_n 2, 1) := by decide +kernel
theorem dX2_holds_2 : decode cX2_holds 2 = .ok (.iload_n 2, 1) := by decide +kernel
theorem dX2_holds_3 : decode cX2_holds 3 = .ok (.aload_n 0, 1) := by decide +kernel
theorem dX2_holds_4 : decode cX2_holds 4 = .ok (.getfield 21, 3) := by decide +kernel
theorem dX2_holds_7 : decode cX2_holds 7 = .ok (.if_icmp .ge 21, 3) := by decide +kernel
theorem dX2_holds_10 : decode cX2_holds 10 = .ok (.aload_n 0, 1) := by decide +kernel
theorem dX2_holds_11 : decode cX2_holds 11 = .ok (.getfield 9, 3) := by decide +kernel
theorem dX2_holds_14 : decode cX2_holds 14 = .ok (.iload_n 2, 1) := by decide +kernel
theorem dX2_holds_15 : decode cX2_holds 15 = .ok (.iaload, 1) := by decide +kernel
theorem dX2_holds_16 : decode cX2_holds 16 = .ok (.iload_n 1, 1) := by decide +kernel
theorem dX2_holds_17 : decode cX2_holds 17 = .ok (.if_icmp .ne 5, 3) := by decide +kernel
theorem dX2_holds_20 : decode cX2_holds 20 = .ok (.iconst 1, 1) := by decide +kernel
theorem dX2_holds_21 : decode cX2_holds 21 = .ok (.ireturn, 1) := by decide +kernel
theorem dX2_holds_22 : decode cX2_holds 22 = .ok (.iinc 2 1, 3) := by decide +kernel
theorem dX2_holds_25 : decode cX2_holds 25 = .ok (.goto (-23), 3) := by decide +kernel
theorem dX2_holds_28 : decode cX2_holds 28 = .ok (.iconst 0, 1) := by decide +kernel
theorem dX2_holds_29 : decode cX2_holds 29 = .ok (.ireturn, 1) := by decide +kernel
theorem dX2_figure_0 : decode cX2_figure 0 = .ok (.iload_n 1, 1) := by decide +kernel
theorem dX2_figure_1 : decode cX2_figure 1 = .ok (.tableswitch 65 0 3 #[31, 36, 41, 46], 31) := by decide +kernel
theorem dX2_figure_32 : decode cX2_figure 32 = .ok (.aload_n 0, 1) := by decide +kernel
theorem dX2_figure_33 : decode cX2_figure 33 = .ok (.getfield 21, 3) := by decide +kernel
theorem dX2_figure_36 : decode cX2_figure 36 = .ok (.ireturn, 1) := by decide +kernel
theorem dX2_figure_37 : decode cX2_figure 37 = .ok (.aload_n 0, 1) := by decide +kernel
theorem dX2_figure_38 : decode cX2_figure 38 = .ok (.getfield 25, 3) := by decide +kernel
theorem dX2_figure_41 : decode cX2_figure 41 = .ok (.ireturn, 1) := by decide +kernel
theorem dX2_figure_42 : decode cX2_figure 42 = .ok (.aload_n 0, 1) := by decide +kernel
theorem dX2_figure_43 : decode cX2_figure 43 = .ok (.getfield 28, 3) := by decide +kernel
theorem dX2_figure_46 : decode cX2_figure 46 = .ok (.ireturn, 1) := by decide +kernel
theorem dX2_figure_47 : decode cX2_figure 47 = .ok (.aload_n 0, 1) := by decide +kernel
theorem dX2_figure_48 : decode cX2_figure 48 = .ok (.getfield 21, 3) := by decide +kernel
theorem dX2_figure_51 : decode cX2_figure 51 = .ok (.ifCond .le 12, 3) := by decide +kernel
theorem dX2_figure_54 : decode cX2_figure 54 = .ok (.aload_n 0, 1) := by decide +kernel
theorem dX2_figure_55 : decode cX2_figure 55 = .ok (.getfield 15, 3) := by decide +kernel
theorem dX2_figure_58 : decode cX2_figure 58 = .ok (.iconst 0, 1) := by decide +kernel
theorem dX2_figure_59 : decode cX2_figure 59 = .ok (.iaload, 1) := by decide +kernel
theorem dX2_figure_60 : decode cX2_figure 60 = .ok (.goto 5, 3) := by decide +kernel
theorem dX2_figure_63 : decode cX2_figure 63 = .ok (.bipush (-5), 2) := by decide +kernel
theorem dX2_figure_65 : decode cX2_figure 65 = .ok (.ireturn, 1) := by decide +kernel
theorem dX2_figure_66 : decode cX2_figure 66 = .ok (.bipush (-2), 2) := by decide +kernel
theorem dX2_figure_68 : decode cX2_figure 68 = .ok (.ireturn, 1) := by decide +kernel
theorem dX2_packetFigure_0 : decode cX2_packetFigure 0 = .ok (.iload_n 1, 1) := by decide +kernel
theorem dX2_packetFigure_1 : decode cX2_packetFigure 1 = .ok (.aload_n 0, 1) := by decide +kernel
theorem dX2_packetFigure_2 : decode cX2_packetFigure 2 = .ok (.getfield 21, 3) := by decide +kernel
theorem dX2_packetFigure_5 : decode cX2_packetFigure 5 = .ok (.if_icmp .lt 6, 3) := by decide +kernel
theorem dX2_packetFigure_8 : decode cX2_packetFigure 8 = .ok (.bipush (-5), 2) := by decide +kernel
theorem dX2_packetFigure_10 : decode cX2_packetFigure 10 = .ok (.ireturn, 1) := by decide +kernel
theorem dX2_packetFigure_11 : decode cX2_packetFigure 11 = .ok (.iload_n 2, 1) := by decide +kernel
theorem dX2_packetFigure_12 : decode cX2_packetFigure 12 = .ok (.lookupswitch 42 #[(0, 28), (1, 35)], 28) := by decide +kernel
theorem dX2_packetFigure_40 : decode cX2_packetFigure 40 = .ok (.aload_n 0, 1) := by decide +kernel
theorem dX2_packetFigure_41 : decode cX2_packetFigure 41 = .ok (.getfield 9, 3) := by decide +kernel
theorem dX2_packetFigure_44 : decode cX2_packetFigure 44 = .ok (.iload_n 1, 1) := by decide +kernel
theorem dX2_packetFigure_45 : decode cX2_packetFigure 45 = .ok (.iaload, 1) := by decide +kernel
theorem dX2_packetFigure_46 : decode cX2_packetFigure 46 = .ok (.ireturn, 1) := by decide +kernel
theorem dX2_packetFigure_47 : decode cX2_packetFigure 47 = .ok (.aload_n 0, 1) := by decide +kernel
theorem dX2_packetFigure_48 : decode cX2_packetFigure 48 = .ok (.getfield 15, 3) := by decide +kernel
theorem dX2_packetFigure_51 : decode cX2_packetFigure 51 = .ok (.iload_n 1, 1) := by decide +kernel
theorem dX2_packetFigure_52 : decode cX2_packetFigure 52 = .ok (.iaload, 1) := by decide +kernel
theorem dX2_packetFigure_53 : decode cX2_packetFigure 53 = .ok (.ireturn, 1) := by decide +kernel
theorem dX2_packetFigure_54 : decode cX2_packetFigure 54 = .ok (.aload_n 0, 1) := by decide +kernel
theorem dX2_packetFigure_55 : decode cX2_packetFigure 55 = .ok (.getfield 18, 3) := by decide +kernel
theorem dX2_packetFigure_58 : decode cX2_packetFigure 58 = .ok (.iload_n 1, 1) := by decide +kernel
theorem dX2_packetFigure_59 : decode cX2_packetFigure 59 = .ok (.iaload, 1) := by decide +kernel
theorem dX2_packetFigure_60 : decode cX2_packetFigure 60 = .ok (.ireturn, 1) := by decide +kernel
