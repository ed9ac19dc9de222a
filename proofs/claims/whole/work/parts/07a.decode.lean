theorem dX0_init_0 : decode cX0_init 0 = .ok (.aload_n 0, 1) := by decide +kernel
theorem dX0_init_1 : decode cX0_init 1 = .ok (.invokespecial 3, 3) := by decide +kernel
theorem dX0_init_4 : decode cX0_init 4 = .ok (.aload_n 0, 1) := by decide +kernel
theorem dX0_init_5 : decode cX0_init 5 = .ok (.bipush 6, 2) := by decide +kernel
theorem dX0_init_7 : decode cX0_init 7 = .ok (.newarray .int, 2) := by decide +kernel
theorem dX0_init_9 : decode cX0_init 9 = .ok (.putfield 9, 3) := by decide +kernel
theorem dX0_init_12 : decode cX0_init 12 = .ok (.aload_n 0, 1) := by decide +kernel
theorem dX0_init_13 : decode cX0_init 13 = .ok (.bipush 6, 2) := by decide +kernel
theorem dX0_init_15 : decode cX0_init 15 = .ok (.newarray .int, 2) := by decide +kernel
theorem dX0_init_17 : decode cX0_init 17 = .ok (.putfield 15, 3) := by decide +kernel
theorem dX0_init_20 : decode cX0_init 20 = .ok (.aload_n 0, 1) := by decide +kernel
theorem dX0_init_21 : decode cX0_init 21 = .ok (.bipush 6, 2) := by decide +kernel
theorem dX0_init_23 : decode cX0_init 23 = .ok (.newarray .int, 2) := by decide +kernel
theorem dX0_init_25 : decode cX0_init 25 = .ok (.putfield 18, 3) := by decide +kernel
theorem dX0_init_28 : decode cX0_init 28 = .ok (.aload_n 0, 1) := by decide +kernel
theorem dX0_init_29 : decode cX0_init 29 = .ok (.bipush 6, 2) := by decide +kernel
theorem dX0_init_31 : decode cX0_init 31 = .ok (.newarray .int, 2) := by decide +kernel
theorem dX0_init_33 : decode cX0_init 33 = .ok (.putfield 21, 3) := by decide +kernel
theorem dX0_init_36 : decode cX0_init 36 = .ok (.aload_n 0, 1) := by decide +kernel
theorem dX0_init_37 : decode cX0_init 37 = .ok (.bipush 6, 2) := by decide +kernel
theorem dX0_init_39 : decode cX0_init 39 = .ok (.newarray .int, 2) := by decide +kernel
theorem dX0_init_41 : decode cX0_init 41 = .ok (.putfield 24, 3) := by decide +kernel
theorem dX0_init_44 : decode cX0_init 44 = .ok (.aload_n 0, 1) := by decide +kernel
theorem dX0_init_45 : decode cX0_init 45 = .ok (.bipush 6, 2) := by decide +kernel
theorem dX0_init_47 : decode cX0_init 47 = .ok (.newarray .int, 2) := by decide +kernel
theorem dX0_init_49 : decode cX0_init 49 = .ok (.putfield 27, 3) := by decide +kernel
theorem dX0_init_52 : decode cX0_init 52 = .ok (.return_, 1) := by decide +kernel
theorem dX0_copyFrom_0 : decode cX0_copyFrom 0 = .ok (.aload_n 1, 1) := by decide +kernel
theorem dX0_copyFrom_1 : decode cX0_copyFrom 1 = .ok (.getfield 9, 3) := by decide +kernel
theorem dX0_copyFrom_4 : decode cX0_copyFrom 4 = .ok (.iconst 0, 1) := by decide +kernel
theorem dX0_copyFrom_5 : decode cX0_copyFrom 5 = .ok (.aload_n 0, 1) := by decide +kernel
theorem dX0_copyFrom_6 : decode cX0_copyFrom 6 = .ok (.getfield 9, 3) := by decide +kernel
theorem dX0_copyFrom_9 : decode cX0_copyFrom 9 = .ok (.iconst 0, 1) := by decide +kernel
theorem dX0_copyFrom_10 : decode cX0_copyFrom 10 = .ok (.bipush 6, 2) := by decide +kernel
theorem dX0_copyFrom_12 : decode cX0_copyFrom 12 = .ok (.invokestatic 30, 3) := by decide +kernel
theorem dX0_copyFrom_15 : decode cX0_copyFrom 15 = .ok (.aload_n 1, 1) := by decide +kernel
theorem dX0_copyFrom_16 : decode cX0_copyFrom 16 = .ok (.getfield 15, 3) := by decide +kernel
theorem dX0_copyFrom_19 : decode cX0_copyFrom 19 = .ok (.iconst 0, 1) := by decide +kernel
theorem dX0_copyFrom_20 : decode cX0_copyFrom 20 = .ok (.aload_n 0, 1) := by decide +kernel
theorem dX0_copyFrom_21 : decode cX0_copyFrom 21 = .ok (.getfield 15, 3) := by decide +kernel
theorem dX0_copyFrom_24 : decode cX0_copyFrom 24 = .ok (.iconst 0, 1) := by decide +kernel
theorem dX0_copyFrom_25 : decode cX0_copyFrom 25 = .ok (.bipush 6, 2) := by decide +kernel
theorem dX0_copyFrom_27 : decode cX0_copyFrom 27 = .ok (.invokestatic 30, 3) := by decide +kernel
theorem dX0_copyFrom_30 : decode cX0_copyFrom 30 = .ok (.aload_n 1, 1) := by decide +kernel
theorem dX0_copyFrom_31 : decode cX0_copyFrom 31 = .ok (.getfield 18, 3) := by decide +kernel
theorem dX0_copyFrom_34 : decode cX0_copyFrom 34 = .ok (.iconst 0, 1) := by decide +kernel
theorem dX0_copyFrom_35 : decode cX0_copyFrom 35 = .ok (.aload_n 0, 1) := by decide +kernel
theorem dX0_copyFrom_36 : decode cX0_copyFrom 36 = .ok (.getfield 18, 3) := by decide +kernel
theorem dX0_copyFrom_39 : decode cX0_copyFrom 39 = .ok (.iconst 0, 1) := by decide +kernel
theorem dX0_copyFrom_40 : decode cX0_copyFrom 40 = .ok (.bipush 6, 2) := by decide +kernel
theorem dX0_copyFrom_42 : decode cX0_copyFrom 42 = .ok (.invokestatic 30, 3) := by decide +kernel
theorem dX0_copyFrom_45 : decode cX0_copyFrom 45 = .ok (.aload_n 1, 1) := by decide +kernel
theorem dX0_copyFrom_46 : decode cX0_copyFrom 46 = .ok (.getfield 21, 3) := by decide +kernel
theorem dX0_copyFrom_49 : decode cX0_copyFrom 49 = .ok (.iconst 0, 1) := by decide +kernel
theorem dX0_copyFrom_50 : decode cX0_copyFrom 50 = .ok (.aload_n 0, 1) := by decide +kernel
theorem dX0_copyFrom_51 : decode cX0_copyFrom 51 = .ok (.getfield 21, 3) := by decide +kernel
theorem dX0_copyFrom_54 : decode cX0_copyFrom 54 = .ok (.iconst 0, 1) := by decide +kernel
theorem dX0_copyFrom_55 : decode cX0_copyFrom 55 = .ok (.bipush 6, 2) := by decide +kernel
theorem dX0_copyFrom_57 : decode cX0_copyFrom 57 = .ok (.invokestatic 30, 3) := by decide +kernel
theorem dX0_copyFrom_60 : decode cX0_copyFrom 60 = .ok (.aload_n 1, 1) := by decide +kernel
theorem dX0_copyFrom_61 : decode cX0_copyFrom 61 = .ok (.getfield 24, 3) := by decide +kernel
theorem dX0_copyFrom_64 : decode cX0_copyFrom 64 = .ok (.iconst 0, 1) := by decide +kernel
theorem dX0_copyFrom_65 : decode cX0_copyFrom 65 = .ok (.aload_n 0, 1) := by decide +kernel
theorem dX0_copyFrom_66 : decode cX0_copyFrom 66 = .ok (.getfield 24, 3) := by decide +kernel
theorem dX0_copyFrom_69 : decode cX0_copyFrom 69 = .ok (.iconst 0, 1) := by decide +kernel
theorem dX0_copyFrom_70 : decode cX0_copyFrom 70 = .ok (.bipush 6, 2) := by decide +kernel
theorem dX0_copyFrom_72 : decode cX0_copyFrom 72 = .ok (.invokestatic 30, 3) := by decide +kernel
theorem dX0_copyFrom_75 : decode cX0_copyFrom 75 = .ok (.aload_n 0, 1) := by decide +kernel
theorem dX0_copyFrom_76 : decode cX0_copyFrom 76 = .ok (.aload_n 1, 1) := by decide +kernel
theorem dX0_copyFrom_77 : decode cX0_copyFrom 77 = .ok (.getfield 36, 3) := by decide +kernel
theorem dX0_copyFrom_80 : decode cX0_copyFrom 80 = .ok (.putfield 36, 3) := by decide +kernel
theorem dX0_copyFrom_83 : decode cX0_copyFrom 83 = .ok (.aload_n 0, 1) := by decide +kernel
theorem dX0_copyFrom_84 : decode cX0_copyFrom 84 = .ok (.aload_n 1, 1) := by decide +kernel
theorem dX0_copyFrom_85 : decode cX0_copyFrom 85 = .ok (.getfield 40, 3) := by decide +kernel
theorem dX0_copyFrom_88 : decode cX0_copyFrom 88 = .ok (.putfield 40, 3) := by decide +kernel
theorem dX0_copyFrom_91 : decode cX0_copyFrom 91 = .ok (.aload_n 0, 1) := by decide +kernel
theorem dX0_copyFrom_92 : decode cX0_copyFrom 92 = .ok (.aload_n 1, 1) := by decide +kernel
theorem dX0_copyFrom_93 : decode cX0_copyFrom 93 = .ok (.getfield 43, 3) := by decide +kernel
theorem dX0_copyFrom_96 : decode cX0_copyFrom 96 = .ok (.putfield 43, 3) := by decide +kernel
theorem dX0_copyFrom_99 : decode cX0_copyFrom 99 = .ok (.return_, 1) := by decide +kernel
theorem dX0_readFrom_0 : decode cX0_readFrom 0 = .ok (.aload_n 0, 1) := by decide +kernel
theorem dX0_readFrom_1 : decode cX0_readFrom 1 = .ok (.aload_n 1, 1) := by decide +kernel
theorem dX0_readFrom_2 : decode cX0_readFrom 2 = .ok (.invokevirtual 46, 3) := by decide +kernel
theorem dX0_readFrom_5 : decode cX0_readFrom 5 = .ok (.putfield 36, 3) := by decide +kernel
theorem dX0_readFrom_8 : decode cX0_readFrom 8 = .ok (.aload_n 0, 1) := by decide +kernel
theorem dX0_readFrom_9 : decode cX0_readFrom 9 = .ok (.iconst 0, 1) := by decide +kernel
theorem dX0_readFrom_10 : decode cX0_readFrom 10 = .ok (.putfield 40, 3) := by decide +kernel
theorem dX0_readFrom_13 : decode cX0_readFrom 13 = .ok (.aload_n 0, 1) := by decide +kernel
theorem dX0_readFrom_14 : decode cX0_readFrom 14 = .ok (.iconst 0, 1) := by decide +kernel
theorem dX0_readFrom_15 : decode cX0_readFrom 15 = .ok (.putfield 43, 3) := by decide +kernel
theorem dX0_readFrom_18 : decode cX0_readFrom 18 = .ok (.iconst 0, 1) := by decide +kernel
theorem dX0_readFrom_19 : decode cX0_readFrom 19 = .ok (.istore_n 2, 1) := by decide +kernel
theorem dX0_readFrom_20 : decode cX0_readFrom 20 = .ok (.iload_n 2, 1) := by decide +kernel
theorem dX0_readFrom_21 : decode cX0_readFrom 21 = .ok (.aload_n 0, 1) := by decide +kernel
theorem dX0_readFrom_22 : decode cX0_readFrom 22 = .ok (.getfield 36, 3) := by decide +kernel
theorem dX0_readFrom_25 : decode cX0_readFrom 25 = .ok (.if_icmp .ge 71, 3) := by decide +kernel
theorem dX0_readFrom_28 : decode cX0_readFrom 28 = .ok (.aload_n 0, 1) := by decide +kernel
theorem dX0_readFrom_29 : decode cX0_readFrom 29 = .ok (.getfield 9, 3) := by decide +kernel
theorem dX0_readFrom_32 : decode cX0_readFrom 32 = .ok (.iload_n 2, 1) := by decide +kernel
theorem dX0_readFrom_33 : decode cX0_readFrom 33 = .ok (.aload_n 1, 1) := by decide +kernel
theorem dX0_readFrom_34 : decode cX0_readFrom 34 = .ok (.iload_n 2, 1) := by decide +kernel
theorem dX0_readFrom_35 : decode cX0_readFrom 35 = .ok (.iconst 0, 1) := by decide +kernel
theorem dX0_readFrom_36 : decode cX0_readFrom 36 = .ok (.invokevirtual 51, 3) := by decide +kernel
theorem dX0_readFrom_39 : decode cX0_readFrom 39 = .ok (.iastore, 1) := by decide +kernel
theorem dX0_readFrom_40 : decode cX0_readFrom 40 = .ok (.aload_n 0, 1) := by decide +kernel
theorem dX0_readFrom_41 : decode cX0_readFrom 41 = .ok (.getfield 15, 3) := by decide +kernel
theorem dX0_readFrom_44 : decode cX0_readFrom 44 = .ok (.iload_n 2, 1) := by decide +kernel
theorem dX0_readFrom_45 : decode cX0_readFrom 45 = .ok (.aload_n 1, 1) := by decide +kernel
theorem dX0_readFrom_46 : decode cX0_readFrom 46 = .ok (.iload_n 2, 1) := by decide +kernel
theorem dX0_readFrom_47 : decode cX0_readFrom 47 = .ok (.iconst 1, 1) := by decide +kernel
theorem dX0_readFrom_48 : decode cX0_readFrom 48 = .ok (.invokevirtual 51, 3) := by decide +kernel
theorem dX0_readFrom_51 : decode cX0_readFrom 51 = .ok (.iastore, 1) := by decide +kernel
theorem dX0_readFrom_52 : decode cX0_readFrom 52 = .ok (.aload_n 0, 1) := by decide +kernel
theorem dX0_readFrom_53 : decode cX0_readFrom 53 = .ok (.getfield 18, 3) := by decide +kernel
theorem dX0_readFrom_56 : decode cX0_readFrom 56 = .ok (.iload_n 2, 1) := by decide +kernel
theorem dX0_readFrom_57 : decode cX0_readFrom 57 = .ok (.aload_n 1, 1) := by decide +kernel
theorem dX0_readFrom_58 : decode cX0_readFrom 58 = .ok (.iload_n 2, 1) := by decide +kernel
theorem dX0_readFrom_59 : decode cX0_readFrom 59 = .ok (.iconst 2, 1) := by decide +kernel
theorem dX0_readFrom_60 : decode cX0_readFrom 60 = .ok (.invokevirtual 51, 3) := by decide +kernel
theorem dX0_readFrom_63 : decode cX0_readFrom 63 = .ok (.iastore, 1) := by decide +kernel
theorem dX0_readFrom_64 : decode cX0_readFrom 64 = .ok (.aload_n 0, 1) := by decide +kernel
theorem dX0_readFrom_65 : decode cX0_readFrom 65 = .ok (.getfield 21, 3) := by decide +kernel
theorem dX0_readFrom_68 : decode cX0_readFrom 68 = .ok (.iload_n 2, 1) := by decide +kernel
theorem dX0_readFrom_69 : decode cX0_readFrom 69 = .ok (.aload_n 1, 1) := by decide +kernel
theorem dX0_readFrom_70 : decode cX0_readFrom 70 = .ok (.iload_n 2, 1) := by decide +kernel
theorem dX0_readFrom_71 : decode cX0_readFrom 71 = .ok (.invokevirtual 55, 3) := by decide +kernel
theorem dX0_readFrom_74 : decode cX0_readFrom 74 = .ok (.iastore, 1) := by decide +kernel
theorem dX0_readFrom_75 : decode cX0_readFrom 75 = .ok (.aload_n 0, 1) := by decide +kernel
theorem dX0_readFrom_76 : decode cX0_readFrom 76 = .ok (.getfield 9, 3) := by decide +kernel
theorem dX0_readFrom_79 : decode cX0_readFrom 79 = .ok (.iload_n 2, 1) := by decide +kernel
theorem dX0_readFrom_80 : decode cX0_readFrom 80 = .ok (.iaload, 1) := by decide +kernel
theorem dX0_readFrom_81 : decode cX0_readFrom 81 = .ok (.iconst 4, 1) := by decide +kernel
theorem dX0_readFrom_82 : decode cX0_readFrom 82 = .ok (.if_icmp .eq 8, 3) := by decide +kernel
theorem dX0_readFrom_85 : decode cX0_readFrom 85 = .ok (.aload_n 0, 1) := by decide +kernel
theorem dX0_readFrom_86 : decode cX0_readFrom 86 = .ok (.iload_n 2, 1) := by decide +kernel
theorem dX0_readFrom_87 : decode cX0_readFrom 87 = .ok (.invokevirtual 59, 3) := by decide +kernel
theorem dX0_readFrom_90 : decode cX0_readFrom 90 = .ok (.iinc 2 1, 3) := by decide +kernel
theorem dX0_readFrom_93 : decode cX0_readFrom 93 = .ok (.goto (-73), 3) := by decide +kernel
theorem dX0_readFrom_96 : decode cX0_readFrom 96 = .ok (.return_, 1) := by decide +kernel
theorem dX0_standUp_0 : decode cX0_standUp 0 = .ok (.aload_n 0, 1) := by decide +kernel
theorem dX0_standUp_1 : decode cX0_standUp 1 = .ok (.dup, 1) := by decide +kernel
theorem dX0_standUp_2 : decode cX0_standUp 2 = .ok (.getfield 40, 3) := by decide +kernel
theorem dX0_standUp_5 : decode cX0_standUp 5 = .ok (.iconst 1, 1) := by decide +kernel
theorem dX0_standUp_6 : decode cX0_standUp 6 = .ok (.iload_n 1, 1) := by decide +kernel
theorem dX0_standUp_7 : decode cX0_standUp 7 = .ok (.ishl, 1) := by decide +kernel
theorem dX0_standUp_8 : decode cX0_standUp 8 = .ok (.ior, 1) := by decide +kernel
theorem dX0_standUp_9 : decode cX0_standUp 9 = .ok (.putfield 40, 3) := by decide +kernel
theorem dX0_standUp_12 : decode cX0_standUp 12 = .ok (.aload_n 0, 1) := by decide +kernel
theorem dX0_standUp_13 : decode cX0_standUp 13 = .ok (.getfield 24, 3) := by decide +kernel
theorem dX0_standUp_16 : decode cX0_standUp 16 = .ok (.iload_n 1, 1) := by decide +kernel
theorem dX0_standUp_17 : decode cX0_standUp 17 = .ok (.aload_n 0, 1) := by decide +kernel
theorem dX0_standUp_18 : decode cX0_standUp 18 = .ok (.getfield 15, 3) := by decide +kernel
theorem dX0_standUp_21 : decode cX0_standUp 21 = .ok (.iload_n 1, 1) := by decide +kernel
theorem dX0_standUp_22 : decode cX0_standUp 22 = .ok (.iaload, 1) := by decide +kernel
theorem dX0_standUp_23 : decode cX0_standUp 23 = .ok (.iastore, 1) := by decide +kernel
theorem dX0_standUp_24 : decode cX0_standUp 24 = .ok (.return_, 1) := by decide +kernel
theorem dX0_size_0 : decode cX0_size 0 = .ok (.aload_n 0, 1) := by decide +kernel
theorem dX0_size_1 : decode cX0_size 1 = .ok (.getfield 36, 3) := by decide +kernel
theorem dX0_size_4 : decode cX0_size 4 = .ok (.ireturn, 1) := by decide +kernel
theorem dX0_has_0 : decode cX0_has 0 = .ok (.iload_n 1, 1) := by decide +kernel
theorem dX0_has_1 : decode cX0_has 1 = .ok (.ifCond .lt 15, 3) := by decide +kernel
theorem dX0_has_4 : decode cX0_has 4 = .ok (.iload_n 1, 1) := by decide +kernel
theorem dX0_has_5 : decode cX0_has 5 = .ok (.aload_n 0, 1) := by decide +kernel
theorem dX0_has_6 : decode cX0_has 6 = .ok (.getfield 36, 3) := by decide +kernel
theorem dX0_has_9 : decode cX0_has 9 = .ok (.if_icmp .ge 7, 3) := by decide +kernel
theorem dX0_has_12 : decode cX0_has 12 = .ok (.iconst 1, 1) := by decide +kernel
theorem dX0_has_13 : decode cX0_has 13 = .ok (.goto 4, 3) := by decide +kernel
theorem dX0_has_16 : decode cX0_has 16 = .ok (.iconst 0, 1) := by decide +kernel
theorem dX0_has_17 : decode cX0_has 17 = .ok (.ireturn, 1) := by decide +kernel
theorem dX0_stands_0 : decode cX0_stands 0 = .ok (.iload_n 1, 1) := by decide +kernel
theorem dX0_stands_1 : decode cX0_stands 1 = .ok (.ifCond .lt 27, 3) := by decide +kernel
theorem dX0_stands_4 : decode cX0_stands 4 = .ok (.iload_n 1, 1) := by decide +kernel
theorem dX0_stands_5 : decode cX0_stands 5 = .ok (.aload_n 0, 1) := by decide +kernel
theorem dX0_stands_6 : decode cX0_stands 6 = .ok (.getfield 36, 3) := by decide +kernel
theorem dX0_stands_9 : decode cX0_stands 9 = .ok (.if_icmp .ge 19, 3) := by decide +kernel
theorem dX0_stands_12 : decode cX0_stands 12 = .ok (.aload_n 0, 1) := by decide +kernel
theorem dX0_stands_13 : decode cX0_stands 13 = .ok (.getfield 40, 3) := by decide +kernel
theorem dX0_stands_16 : decode cX0_stands 16 = .ok (.iload_n 1, 1) := by decide +kernel
theorem dX0_stands_17 : decode cX0_stands 17 = .ok (.ishr, 1) := by decide +kernel
theorem dX0_stands_18 : decode cX0_stands 18 = .ok (.iconst 1, 1) := by decide +kernel
theorem dX0_stands_19 : decode cX0_stands 19 = .ok (.iand, 1) := by decide +kernel
theorem dX0_stands_20 : decode cX0_stands 20 = .ok (.iconst 1, 1) := by decide +kernel
theorem dX0_stands_21 : decode cX0_stands 21 = .ok (.if_icmp .ne 7, 3) := by decide +kernel
theorem dX0_stands_24 : decode cX0_stands 24 = .ok (.iconst 1, 1) := by decide +kernel
theorem dX0_stands_25 : decode cX0_stands 25 = .ok (.goto 4, 3) := by decide +kernel
theorem dX0_stands_28 : decode cX0_stands 28 = .ok (.iconst 0, 1) := by decide +kernel
theorem dX0_stands_29 : decode cX0_stands 29 = .ok (.ireturn, 1) := by decide +kernel
theorem dX0_standingBits_0 : decode cX0_standingBits 0 = .ok (.aload_n 0, 1) := by decide +kernel
theorem dX0_standingBits_1 : decode cX0_standingBits 1 = .ok (.getfield 40, 3) := by decide +kernel
theorem dX0_standingBits_4 : decode cX0_standingBits 4 = .ok (.ireturn, 1) := by decide +kernel
theorem dX0_hoursPassed_0 : decode cX0_hoursPassed 0 = .ok (.aload_n 0, 1) := by decide +kernel
theorem dX0_hoursPassed_1 : decode cX0_hoursPassed 1 = .ok (.getfield 43, 3) := by decide +kernel
theorem dX0_hoursPassed_4 : decode cX0_hoursPassed 4 = .ok (.ireturn, 1) := by decide +kernel
theorem dX0_kindOf_0 : decode cX0_kindOf 0 = .ok (.aload_n 0, 1) := by decide +kernel
theorem dX0_kindOf_1 : decode cX0_kindOf 1 = .ok (.iload_n 1, 1) := by decide +kernel
theorem dX0_kindOf_2 : decode cX0_kindOf 2 = .ok (.invokevirtual 63, 3) := by decide +kernel
theorem dX0_kindOf_5 : decode cX0_kindOf 5 = .ok (.ifCond .eq 12, 3) := by decide +kernel
theorem dX0_kindOf_8 : decode cX0_kindOf 8 = .ok (.aload_n 0, 1) := by decide +kernel
theorem dX0_kindOf_9 : decode cX0_kindOf 9 = .ok (.getfield 9, 3) := by decide +kernel
theorem dX0_kindOf_12 : decode cX0_kindOf 12 = .ok (.iload_n 1, 1) := by decide +kernel
theorem dX0_kindOf_13 : decode cX0_kindOf 13 = .ok (.iaload, 1) := by decide +kernel
theorem dX0_kindOf_14 : decode cX0_kindOf 14 = .ok (.goto 5, 3) := by decide +kernel
theorem dX0_kindOf_17 : decode cX0_kindOf 17 = .ok (.bipush (-9), 2) := by decide +kernel
theorem dX0_kindOf_19 : decode cX0_kindOf 19 = .ok (.ireturn, 1) := by decide +kernel
theorem dX0_stonesOf_0 : decode cX0_stonesOf 0 = .ok (.aload_n 0, 1) := by decide +kernel
theorem dX0_stonesOf_1 : decode cX0_stonesOf 1 = .ok (.iload_n 1, 1) := by decide +kernel
theorem dX0_stonesOf_2 : decode cX0_stonesOf 2 = .ok (.invokevirtual 63, 3) := by decide +kernel
theorem dX0_stonesOf_5 : decode cX0_stonesOf 5 = .ok (.ifCond .eq 12, 3) := by decide +kernel
theorem dX0_stonesOf_8 : decode cX0_stonesOf 8 = .ok (.aload_n 0, 1) := by decide +kernel
theorem dX0_stonesOf_9 : decode cX0_stonesOf 9 = .ok (.getfield 15, 3) := by decide +kernel
theorem dX0_stonesOf_12 : decode cX0_stonesOf 12 = .ok (.iload_n 1, 1) := by decide +kernel
theorem dX0_stonesOf_13 : decode cX0_stonesOf 13 = .ok (.iaload, 1) := by decide +kernel
theorem dX0_stonesOf_14 : decode cX0_stonesOf 14 = .ok (.goto 4, 3) := by decide +kernel
theorem dX0_stonesOf_17 : decode cX0_stonesOf 17 = .ok (.iconst 0, 1) := by decide +kernel
theorem dX0_stonesOf_18 : decode cX0_stonesOf 18 = .ok (.ireturn, 1) := by decide +kernel
theorem dX0_strengthOf_0 : decode cX0_strengthOf 0 = .ok (.aload_n 0, 1) := by decide +kernel
theorem dX0_strengthOf_1 : decode cX0_strengthOf 1 = .ok (.iload_n 1, 1) := by decide +kernel
theorem dX0_strengthOf_2 : decode cX0_strengthOf 2 = .ok (.invokevirtual 63, 3) := by decide +kernel
theorem dX0_strengthOf_5 : decode cX0_strengthOf 5 = .ok (.ifCond .eq 12, 3) := by decide +kernel
theorem dX0_strengthOf_8 : decode cX0_strengthOf 8 = .ok (.aload_n 0, 1) := by decide +kernel
theorem dX0_strengthOf_9 : decode cX0_strengthOf 9 = .ok (.getfield 18, 3) := by decide +kernel
theorem dX0_strengthOf_12 : decode cX0_strengthOf 12 = .ok (.iload_n 1, 1) := by decide +kernel
theorem dX0_strengthOf_13 : decode cX0_strengthOf 13 = .ok (.iaload, 1) := by decide +kernel
theorem dX0_strengthOf_14 : decode cX0_strengthOf 14 = .ok (.goto 4, 3) := by decide +kernel
theorem dX0_strengthOf_17 : decode cX0_strengthOf 17 = .ok (.iconst 0, 1) := by decide +kernel
theorem dX0_strengthOf_18 : decode cX0_strengthOf 18 = .ok (.ireturn, 1) := by decide +kernel
theorem dX0_deedOf_0 : decode cX0_deedOf 0 = .ok (.aload_n 0, 1) := by decide +kernel
theorem dX0_deedOf_1 : decode cX0_deedOf 1 = .ok (.iload_n 1, 1) := by decide +kernel
theorem dX0_deedOf_2 : decode cX0_deedOf 2 = .ok (.invokevirtual 63, 3) := by decide +kernel
theorem dX0_deedOf_5 : decode cX0_deedOf 5 = .ok (.ifCond .eq 12, 3) := by decide +kernel
theorem dX0_deedOf_8 : decode cX0_deedOf 8 = .ok (.aload_n 0, 1) := by decide +kernel
theorem dX0_deedOf_9 : decode cX0_deedOf 9 = .ok (.getfield 21, 3) := by decide +kernel
theorem dX0_deedOf_12 : decode cX0_deedOf 12 = .ok (.iload_n 1, 1) := by decide +kernel
theorem dX0_deedOf_13 : decode cX0_deedOf 13 = .ok (.iaload, 1) := by decide +kernel
theorem dX0_deedOf_14 : decode cX0_deedOf 14 = .ok (.goto 4, 3) := by decide +kernel
theorem dX0_deedOf_17 : decode cX0_deedOf 17 = .ok (.iconst 3, 1) := by decide +kernel
theorem dX0_deedOf_18 : decode cX0_deedOf 18 = .ok (.ireturn, 1) := by decide +kernel
theorem dX0_loadOf_0 : decode cX0_loadOf 0 = .ok (.aload_n 0, 1) := by decide +kernel
theorem dX0_loadOf_1 : decode cX0_loadOf 1 = .ok (.iload_n 1, 1) := by decide +kernel
theorem dX0_loadOf_2 : decode cX0_loadOf 2 = .ok (.invokevirtual 67, 3) := by decide +kernel
theorem dX0_loadOf_5 : decode cX0_loadOf 5 = .ok (.ifCond .eq 12, 3) := by decide +kernel
theorem dX0_loadOf_8 : decode cX0_loadOf 8 = .ok (.aload_n 0, 1) := by decide +kernel
theorem dX0_loadOf_9 : decode cX0_loadOf 9 = .ok (.getfield 24, 3) := by decide +kernel
theorem dX0_loadOf_12 : decode cX0_loadOf 12 = .ok (.iload_n 1, 1) := by decide +kernel
theorem dX0_loadOf_13 : decode cX0_loadOf 13 = .ok (.iaload, 1) := by decide +kernel
theorem dX0_loadOf_14 : decode cX0_loadOf 14 = .ok (.goto 4, 3) := by decide +kernel
theorem dX0_loadOf_17 : decode cX0_loadOf 17 = .ok (.iconst 0, 1) := by decide +kernel
theorem dX0_loadOf_18 : decode cX0_loadOf 18 = .ok (.ireturn, 1) := by decide +kernel
theorem dX0_givesOf_0 : decode cX0_givesOf 0 = .ok (.aload_n 0, 1) := by decide +kernel
theorem dX0_givesOf_1 : decode cX0_givesOf 1 = .ok (.iload_n 1, 1) := by decide +kernel
theorem dX0_givesOf_2 : decode cX0_givesOf 2 = .ok (.invokevirtual 67, 3) := by decide +kernel
theorem dX0_givesOf_5 : decode cX0_givesOf 5 = .ok (.ifCond .eq 21, 3) := by decide +kernel
theorem dX0_givesOf_8 : decode cX0_givesOf 8 = .ok (.aload_n 0, 1) := by decide +kernel
theorem dX0_givesOf_9 : decode cX0_givesOf 9 = .ok (.getfield 9, 3) := by decide +kernel
theorem dX0_givesOf_12 : decode cX0_givesOf 12 = .ok (.iload_n 1, 1) := by decide +kernel
theorem dX0_givesOf_13 : decode cX0_givesOf 13 = .ok (.iaload, 1) := by decide +kernel
theorem dX0_givesOf_14 : decode cX0_givesOf 14 = .ok (.aload_n 0, 1) := by decide +kernel
theorem dX0_givesOf_15 : decode cX0_givesOf 15 = .ok (.getfield 24, 3) := by decide +kernel
theorem dX0_givesOf_18 : decode cX0_givesOf 18 = .ok (.iload_n 1, 1) := by decide +kernel
theorem dX0_givesOf_19 : decode cX0_givesOf 19 = .ok (.iaload, 1) := by decide +kernel
theorem dX0_givesOf_20 : decode cX0_givesOf 20 = .ok (.invokestatic 70, 3) := by decide +kernel
theorem dX0_givesOf_23 : decode cX0_givesOf 23 = .ok (.goto 4, 3) := by decide +kernel
theorem dX0_givesOf_26 : decode cX0_givesOf 26 = .ok (.iconst 0, 1) := by decide +kernel
theorem dX0_givesOf_27 : decode cX0_givesOf 27 = .ok (.ireturn, 1) := by decide +kernel
theorem dX0_groundOf_0 : decode cX0_groundOf 0 = .ok (.aload_n 0, 1) := by decide +kernel
theorem dX0_groundOf_1 : decode cX0_groundOf 1 = .ok (.iload_n 1, 1) := by decide +kernel
theorem dX0_groundOf_2 : decode cX0_groundOf 2 = .ok (.invokevirtual 73, 3) := by decide +kernel
theorem dX0_groundOf_5 : decode cX0_groundOf 5 = .ok (.aload_n 0, 1) := by decide +kernel
theorem dX0_groundOf_6 : decode cX0_groundOf 6 = .ok (.iload_n 1, 1) := by decide +kernel
theorem dX0_groundOf_7 : decode cX0_groundOf 7 = .ok (.invokevirtual 76, 3) := by decide +kernel
theorem dX0_groundOf_10 : decode cX0_groundOf 10 = .ok (.isub, 1) := by decide +kernel
theorem dX0_groundOf_11 : decode cX0_groundOf 11 = .ok (.ireturn, 1) := by decide +kernel
theorem dX0_given_0 : decode cX0_given 0 = .ok (.iload_n 0, 1) := by decide +kernel
theorem dX0_given_1 : decode cX0_given 1 = .ok (.tableswitch 54 0 3 #[31, 35, 54, 48], 31) := by decide +kernel
theorem dX0_given_32 : decode cX0_given 32 = .ok (.iload_n 1, 1) := by decide +kernel
theorem dX0_given_33 : decode cX0_given 33 = .ok (.iconst 2, 1) := by decide +kernel
theorem dX0_given_34 : decode cX0_given 34 = .ok (.idiv, 1) := by decide +kernel
theorem dX0_given_35 : decode cX0_given 35 = .ok (.ireturn, 1) := by decide +kernel
theorem dX0_given_36 : decode cX0_given 36 = .ok (.iload_n 1, 1) := by decide +kernel
theorem dX0_given_37 : decode cX0_given 37 = .ok (.iconst 3, 1) := by decide +kernel
theorem dX0_given_38 : decode cX0_given 38 = .ok (.if_icmp .le 9, 3) := by decide +kernel
theorem dX0_given_41 : decode cX0_given 41 = .ok (.iload_n 1, 1) := by decide +kernel
theorem dX0_given_42 : decode cX0_given 42 = .ok (.iconst 3, 1) := by decide +kernel
theorem dX0_given_43 : decode cX0_given 43 = .ok (.isub, 1) := by decide +kernel
theorem dX0_given_44 : decode cX0_given 44 = .ok (.goto 4, 3) := by decide +kernel
theorem dX0_given_47 : decode cX0_given 47 = .ok (.iconst 0, 1) := by decide +kernel
theorem dX0_given_48 : decode cX0_given 48 = .ok (.ireturn, 1) := by decide +kernel
theorem dX0_given_49 : decode cX0_given 49 = .ok (.iload_n 1, 1) := by decide +kernel
theorem dX0_given_50 : decode cX0_given 50 = .ok (.iload_n 1, 1) := by decide +kernel
theorem dX0_given_51 : decode cX0_given 51 = .ok (.iconst 2, 1) := by decide +kernel
theorem dX0_given_52 : decode cX0_given 52 = .ok (.idiv, 1) := by decide +kernel
theorem dX0_given_53 : decode cX0_given 53 = .ok (.isub, 1) := by decide +kernel
theorem dX0_given_54 : decode cX0_given 54 = .ok (.ireturn, 1) := by decide +kernel
theorem dX0_given_55 : decode cX0_given 55 = .ok (.iconst 0, 1) := by decide +kernel
theorem dX0_given_56 : decode cX0_given 56 = .ok (.ireturn, 1) := by decide +kernel
theorem dX0_supportOf_0 : decode cX0_supportOf 0 = .ok (.iload_n 1, 1) := by decide +kernel
theorem dX0_supportOf_1 : decode cX0_supportOf 1 = .ok (.ifCond .lt 11, 3) := by decide +kernel
theorem dX0_supportOf_4 : decode cX0_supportOf 4 = .ok (.iload_n 1, 1) := by decide +kernel
theorem dX0_supportOf_5 : decode cX0_supportOf 5 = .ok (.aload_n 0, 1) := by decide +kernel
theorem dX0_supportOf_6 : decode cX0_supportOf 6 = .ok (.getfield 36, 3) := by decide +kernel
theorem dX0_supportOf_9 : decode cX0_supportOf 9 = .ok (.if_icmp .lt 5, 3) := by decide +kernel
theorem dX0_supportOf_12 : decode cX0_supportOf 12 = .ok (.iconst (-1), 1) := by decide +kernel
theorem dX0_supportOf_13 : decode cX0_supportOf 13 = .ok (.ireturn, 1) := by decide +kernel
theorem dX0_supportOf_14 : decode cX0_supportOf 14 = .ok (.aload_n 0, 1) := by decide +kernel
theorem dX0_supportOf_15 : decode cX0_supportOf 15 = .ok (.getfield 21, 3) := by decide +kernel
theorem dX0_supportOf_18 : decode cX0_supportOf 18 = .ok (.iload_n 1, 1) := by decide +kernel
theorem dX0_supportOf_19 : decode cX0_supportOf 19 = .ok (.iaload, 1) := by decide +kernel
theorem dX0_supportOf_20 : decode cX0_supportOf 20 = .ok (.tableswitch 39 0 2 #[28, 32, 36], 28) := by decide +kernel
theorem dX0_supportOf_48 : decode cX0_supportOf 48 = .ok (.iload_n 1, 1) := by decide +kernel
theorem dX0_supportOf_49 : decode cX0_supportOf 49 = .ok (.iconst 1, 1) := by decide +kernel
theorem dX0_supportOf_50 : decode cX0_supportOf 50 = .ok (.isub, 1) := by decide +kernel
theorem dX0_supportOf_51 : decode cX0_supportOf 51 = .ok (.ireturn, 1) := by decide +kernel
theorem dX0_supportOf_52 : decode cX0_supportOf 52 = .ok (.iload_n 1, 1) := by decide +kernel
theorem dX0_supportOf_53 : decode cX0_supportOf 53 = .ok (.iconst 1, 1) := by decide +kernel
theorem dX0_supportOf_54 : decode cX0_supportOf 54 = .ok (.iadd, 1) := by decide +kernel
theorem dX0_supportOf_55 : decode cX0_supportOf 55 = .ok (.ireturn, 1) := by decide +kernel
theorem dX0_supportOf_56 : decode cX0_supportOf 56 = .ok (.bipush (-2), 2) := by decide +kernel
theorem dX0_supportOf_58 : decode cX0_supportOf 58 = .ok (.ireturn, 1) := by decide +kernel
theorem dX0_supportOf_59 : decode cX0_supportOf 59 = .ok (.iconst (-1), 1) := by decide +kernel
theorem dX0_supportOf_60 : decode cX0_supportOf 60 = .ok (.ireturn, 1) := by decide +kernel
theorem dX0_passHour_0 : decode cX0_passHour 0 = .ok (.aload_n 0, 1) := by decide +kernel
theorem dX0_passHour_1 : decode cX0_passHour 1 = .ok (.invokevirtual 79, 3) := by decide +kernel
theorem dX0_passHour_4 : decode cX0_passHour 4 = .ok (.aload_n 0, 1) := by decide +kernel
theorem dX0_passHour_5 : decode cX0_passHour 5 = .ok (.invokevirtual 82, 3) := by decide +kernel
theorem dX0_passHour_8 : decode cX0_passHour 8 = .ok (.istore_n 1, 1) := by decide +kernel
theorem dX0_passHour_9 : decode cX0_passHour 9 = .ok (.aload_n 0, 1) := by decide +kernel
theorem dX0_passHour_10 : decode cX0_passHour 10 = .ok (.dup, 1) := by decide +kernel
theorem dX0_passHour_11 : decode cX0_passHour 11 = .ok (.getfield 40, 3) := by decide +kernel
theorem dX0_passHour_14 : decode cX0_passHour 14 = .ok (.iload_n 1, 1) := by decide +kernel
theorem dX0_passHour_15 : decode cX0_passHour 15 = .ok (.iconst (-1), 1) := by decide +kernel
theorem dX0_passHour_16 : decode cX0_passHour 16 = .ok (.ixor, 1) := by decide +kernel
theorem dX0_passHour_17 : decode cX0_passHour 17 = .ok (.iand, 1) := by decide +kernel
theorem dX0_passHour_18 : decode cX0_passHour 18 = .ok (.putfield 40, 3) := by decide +kernel
theorem dX0_passHour_21 : decode cX0_passHour 21 = .ok (.aload_n 0, 1) := by decide +kernel
theorem dX0_passHour_22 : decode cX0_passHour 22 = .ok (.dup, 1) := by decide +kernel
theorem dX0_passHour_23 : decode cX0_passHour 23 = .ok (.getfield 43, 3) := by decide +kernel
theorem dX0_passHour_26 : decode cX0_passHour 26 = .ok (.iconst 1, 1) := by decide +kernel
theorem dX0_passHour_27 : decode cX0_passHour 27 = .ok (.iadd, 1) := by decide +kernel
theorem dX0_passHour_28 : decode cX0_passHour 28 = .ok (.putfield 43, 3) := by decide +kernel
theorem dX0_passHour_31 : decode cX0_passHour 31 = .ok (.iload_n 1, 1) := by decide +kernel
theorem dX0_passHour_32 : decode cX0_passHour 32 = .ok (.invokestatic 85, 3) := by decide +kernel
theorem dX0_passHour_35 : decode cX0_passHour 35 = .ok (.ireturn, 1) := by decide +kernel
theorem dX0_passHours_0 : decode cX0_passHours 0 = .ok (.iconst 0, 1) := by decide +kernel
theorem dX0_passHours_1 : decode cX0_passHours 1 = .ok (.istore_n 2, 1) := by decide +kernel
theorem dX0_passHours_2 : decode cX0_passHours 2 = .ok (.iload_n 2, 1) := by decide +kernel
theorem dX0_passHours_3 : decode cX0_passHours 3 = .ok (.iload_n 1, 1) := by decide +kernel
theorem dX0_passHours_4 : decode cX0_passHours 4 = .ok (.if_icmp .ge 14, 3) := by decide +kernel
theorem dX0_passHours_7 : decode cX0_passHours 7 = .ok (.aload_n 0, 1) := by decide +kernel
theorem dX0_passHours_8 : decode cX0_passHours 8 = .ok (.invokevirtual 90, 3) := by decide +kernel
theorem dX0_passHours_11 : decode cX0_passHours 11 = .ok (.pop, 1) := by decide +kernel
theorem dX0_passHours_12 : decode cX0_passHours 12 = .ok (.iinc 2 1, 3) := by decide +kernel
theorem dX0_passHours_15 : decode cX0_passHours 15 = .ok (.goto (-13), 3) := by decide +kernel
theorem dX0_passHours_18 : decode cX0_passHours 18 = .ok (.return_, 1) := by decide +kernel
theorem dX0_passLoads_0 : decode cX0_passLoads 0 = .ok (.aload_n 0, 1) := by decide +kernel
theorem dX0_passLoads_1 : decode cX0_passLoads 1 = .ok (.getfield 15, 3) := by decide +kernel
theorem dX0_passLoads_4 : decode cX0_passLoads 4 = .ok (.iconst 0, 1) := by decide +kernel
theorem dX0_passLoads_5 : decode cX0_passLoads 5 = .ok (.aload_n 0, 1) := by decide +kernel
theorem dX0_passLoads_6 : decode cX0_passLoads 6 = .ok (.getfield 27, 3) := by decide +kernel
theorem dX0_passLoads_9 : decode cX0_passLoads 9 = .ok (.iconst 0, 1) := by decide +kernel
theorem dX0_passLoads_10 : decode cX0_passLoads 10 = .ok (.aload_n 0, 1) := by decide +kernel
theorem dX0_passLoads_11 : decode cX0_passLoads 11 = .ok (.getfield 36, 3) := by decide +kernel
theorem dX0_passLoads_14 : decode cX0_passLoads 14 = .ok (.invokestatic 30, 3) := by decide +kernel
theorem dX0_passLoads_17 : decode cX0_passLoads 17 = .ok (.iconst 0, 1) := by decide +kernel
theorem dX0_passLoads_18 : decode cX0_passLoads 18 = .ok (.istore_n 1, 1) := by decide +kernel
theorem dX0_passLoads_19 : decode cX0_passLoads 19 = .ok (.iload_n 1, 1) := by decide +kernel
theorem dX0_passLoads_20 : decode cX0_passLoads 20 = .ok (.aload_n 0, 1) := by decide +kernel
theorem dX0_passLoads_21 : decode cX0_passLoads 21 = .ok (.getfield 36, 3) := by decide +kernel
theorem dX0_passLoads_24 : decode cX0_passLoads 24 = .ok (.if_icmp .ge 55, 3) := by decide +kernel
theorem dX0_passLoads_27 : decode cX0_passLoads 27 = .ok (.aload_n 0, 1) := by decide +kernel
theorem dX0_passLoads_28 : decode cX0_passLoads 28 = .ok (.iload_n 1, 1) := by decide +kernel
theorem dX0_passLoads_29 : decode cX0_passLoads 29 = .ok (.invokevirtual 93, 3) := by decide +kernel
theorem dX0_passLoads_32 : decode cX0_passLoads 32 = .ok (.istore_n 2, 1) := by decide +kernel
theorem dX0_passLoads_33 : decode cX0_passLoads 33 = .ok (.aload_n 0, 1) := by decide +kernel
theorem dX0_passLoads_34 : decode cX0_passLoads 34 = .ok (.iload_n 1, 1) := by decide +kernel
theorem dX0_passLoads_35 : decode cX0_passLoads 35 = .ok (.invokevirtual 67, 3) := by decide +kernel
theorem dX0_passLoads_38 : decode cX0_passLoads 38 = .ok (.ifCond .eq 35, 3) := by decide +kernel
theorem dX0_passLoads_41 : decode cX0_passLoads 41 = .ok (.aload_n 0, 1) := by decide +kernel
theorem dX0_passLoads_42 : decode cX0_passLoads 42 = .ok (.iload_n 2, 1) := by decide +kernel
theorem dX0_passLoads_43 : decode cX0_passLoads 43 = .ok (.invokevirtual 67, 3) := by decide +kernel
theorem dX0_passLoads_46 : decode cX0_passLoads 46 = .ok (.ifCond .eq 27, 3) := by decide +kernel
theorem dX0_passLoads_49 : decode cX0_passLoads 49 = .ok (.aload_n 0, 1) := by decide +kernel
theorem dX0_passLoads_50 : decode cX0_passLoads 50 = .ok (.getfield 27, 3) := by decide +kernel
theorem dX0_passLoads_53 : decode cX0_passLoads 53 = .ok (.iload_n 2, 1) := by decide +kernel
theorem dX0_passLoads_54 : decode cX0_passLoads 54 = .ok (.dup2, 1) := by decide +kernel
theorem dX0_passLoads_55 : decode cX0_passLoads 55 = .ok (.iaload, 1) := by decide +kernel
theorem dX0_passLoads_56 : decode cX0_passLoads 56 = .ok (.aload_n 0, 1) := by decide +kernel
theorem dX0_passLoads_57 : decode cX0_passLoads 57 = .ok (.getfield 9, 3) := by decide +kernel
theorem dX0_passLoads_60 : decode cX0_passLoads 60 = .ok (.iload_n 1, 1) := by decide +kernel
theorem dX0_passLoads_61 : decode cX0_passLoads 61 = .ok (.iaload, 1) := by decide +kernel
theorem dX0_passLoads_62 : decode cX0_passLoads 62 = .ok (.aload_n 0, 1) := by decide +kernel
theorem dX0_passLoads_63 : decode cX0_passLoads 63 = .ok (.getfield 24, 3) := by decide +kernel
theorem dX0_passLoads_66 : decode cX0_passLoads 66 = .ok (.iload_n 1, 1) := by decide +kernel
theorem dX0_passLoads_67 : decode cX0_passLoads 67 = .ok (.iaload, 1) := by decide +kernel
theorem dX0_passLoads_68 : decode cX0_passLoads 68 = .ok (.invokestatic 70, 3) := by decide +kernel
theorem dX0_passLoads_71 : decode cX0_passLoads 71 = .ok (.iadd, 1) := by decide +kernel
theorem dX0_passLoads_72 : decode cX0_passLoads 72 = .ok (.iastore, 1) := by decide +kernel
theorem dX0_passLoads_73 : decode cX0_passLoads 73 = .ok (.iinc 1 1, 3) := by decide +kernel
theorem dX0_passLoads_76 : decode cX0_passLoads 76 = .ok (.goto (-57), 3) := by decide +kernel
theorem dX0_passLoads_79 : decode cX0_passLoads 79 = .ok (.aload_n 0, 1) := by decide +kernel
theorem dX0_passLoads_80 : decode cX0_passLoads 80 = .ok (.getfield 27, 3) := by decide +kernel
theorem dX0_passLoads_83 : decode cX0_passLoads 83 = .ok (.iconst 0, 1) := by decide +kernel
theorem dX0_passLoads_84 : decode cX0_passLoads 84 = .ok (.aload_n 0, 1) := by decide +kernel
theorem dX0_passLoads_85 : decode cX0_passLoads 85 = .ok (.getfield 24, 3) := by decide +kernel
theorem dX0_passLoads_88 : decode cX0_passLoads 88 = .ok (.iconst 0, 1) := by decide +kernel
theorem dX0_passLoads_89 : decode cX0_passLoads 89 = .ok (.aload_n 0, 1) := by decide +kernel
theorem dX0_passLoads_90 : decode cX0_passLoads 90 = .ok (.getfield 36, 3) := by decide +kernel
theorem dX0_passLoads_93 : decode cX0_passLoads 93 = .ok (.invokestatic 30, 3) := by decide +kernel
theorem dX0_passLoads_96 : decode cX0_passLoads 96 = .ok (.return_, 1) := by decide +kernel
theorem dX0_fallingBits_0 : decode cX0_fallingBits 0 = .ok (.iconst 0, 1) := by decide +kernel
theorem dX0_fallingBits_1 : decode cX0_fallingBits 1 = .ok (.istore_n 1, 1) := by decide +kernel
theorem dX0_fallingBits_2 : decode cX0_fallingBits 2 = .ok (.iconst 0, 1) := by decide +kernel
theorem dX0_fallingBits_3 : decode cX0_fallingBits 3 = .ok (.istore_n 2, 1) := by decide +kernel
theorem dX0_fallingBits_4 : decode cX0_fallingBits 4 = .ok (.iload_n 2, 1) := by decide +kernel
theorem dX0_fallingBits_5 : decode cX0_fallingBits 5 = .ok (.aload_n 0, 1) := by decide +kernel
theorem dX0_fallingBits_6 : decode cX0_fallingBits 6 = .ok (.getfield 36, 3) := by decide +kernel
theorem dX0_fallingBits_9 : decode cX0_fallingBits 9 = .ok (.if_icmp .ge 102, 3) := by decide +kernel
theorem dX0_fallingBits_12 : decode cX0_fallingBits 12 = .ok (.aload_n 0, 1) := by decide +kernel
theorem dX0_fallingBits_13 : decode cX0_fallingBits 13 = .ok (.iload_n 2, 1) := by decide +kernel
theorem dX0_fallingBits_14 : decode cX0_fallingBits 14 = .ok (.invokevirtual 93, 3) := by decide +kernel
theorem dX0_fallingBits_17 : decode cX0_fallingBits 17 = .ok (.istore_n 3, 1) := by decide +kernel
theorem dX0_fallingBits_18 : decode cX0_fallingBits 18 = .ok (.aload_n 0, 1) := by decide +kernel
theorem dX0_fallingBits_19 : decode cX0_fallingBits 19 = .ok (.getfield 9, 3) := by decide +kernel
theorem dX0_fallingBits_22 : decode cX0_fallingBits 22 = .ok (.iload_n 2, 1) := by decide +kernel
theorem dX0_fallingBits_23 : decode cX0_fallingBits 23 = .ok (.iaload, 1) := by decide +kernel
theorem dX0_fallingBits_24 : decode cX0_fallingBits 24 = .ok (.iconst 2, 1) := by decide +kernel
theorem dX0_fallingBits_25 : decode cX0_fallingBits 25 = .ok (.if_icmp .eq 17, 3) := by decide +kernel
theorem dX0_fallingBits_28 : decode cX0_fallingBits 28 = .ok (.iload_n 3, 1) := by decide +kernel
theorem dX0_fallingBits_29 : decode cX0_fallingBits 29 = .ok (.bipush (-2), 2) := by decide +kernel
theorem dX0_fallingBits_31 : decode cX0_fallingBits 31 = .ok (.if_icmp .eq 11, 3) := by decide +kernel
theorem dX0_fallingBits_34 : decode cX0_fallingBits 34 = .ok (.aload_n 0, 1) := by decide +kernel
theorem dX0_fallingBits_35 : decode cX0_fallingBits 35 = .ok (.iload_n 3, 1) := by decide +kernel
theorem dX0_fallingBits_36 : decode cX0_fallingBits 36 = .ok (.invokevirtual 67, 3) := by decide +kernel
theorem dX0_fallingBits_39 : decode cX0_fallingBits 39 = .ok (.ifCond .eq 7, 3) := by decide +kernel
theorem dX0_fallingBits_42 : decode cX0_fallingBits 42 = .ok (.iconst 1, 1) := by decide +kernel
theorem dX0_fallingBits_43 : decode cX0_fallingBits 43 = .ok (.goto 4, 3) := by decide +kernel
theorem dX0_fallingBits_46 : decode cX0_fallingBits 46 = .ok (.iconst 0, 1) := by decide +kernel
theorem dX0_fallingBits_47 : decode cX0_fallingBits 47 = .ok (.istore 4, 2) := by decide +kernel
theorem dX0_fallingBits_49 : decode cX0_fallingBits 49 = .ok (.aload_n 0, 1) := by decide +kernel
theorem dX0_fallingBits_50 : decode cX0_fallingBits 50 = .ok (.getfield 24, 3) := by decide +kernel
theorem dX0_fallingBits_53 : decode cX0_fallingBits 53 = .ok (.iload_n 2, 1) := by decide +kernel
theorem dX0_fallingBits_54 : decode cX0_fallingBits 54 = .ok (.iaload, 1) := by decide +kernel
theorem dX0_fallingBits_55 : decode cX0_fallingBits 55 = .ok (.aload_n 0, 1) := by decide +kernel
theorem dX0_fallingBits_56 : decode cX0_fallingBits 56 = .ok (.getfield 9, 3) := by decide +kernel
theorem dX0_fallingBits_59 : decode cX0_fallingBits 59 = .ok (.iload_n 2, 1) := by decide +kernel
theorem dX0_fallingBits_60 : decode cX0_fallingBits 60 = .ok (.iaload, 1) := by decide +kernel
theorem dX0_fallingBits_61 : decode cX0_fallingBits 61 = .ok (.aload_n 0, 1) := by decide +kernel
theorem dX0_fallingBits_62 : decode cX0_fallingBits 62 = .ok (.getfield 24, 3) := by decide +kernel
theorem dX0_fallingBits_65 : decode cX0_fallingBits 65 = .ok (.iload_n 2, 1) := by decide +kernel
theorem dX0_fallingBits_66 : decode cX0_fallingBits 66 = .ok (.iaload, 1) := by decide +kernel
theorem dX0_fallingBits_67 : decode cX0_fallingBits 67 = .ok (.invokestatic 70, 3) := by decide +kernel
theorem dX0_fallingBits_70 : decode cX0_fallingBits 70 = .ok (.isub, 1) := by decide +kernel
theorem dX0_fallingBits_71 : decode cX0_fallingBits 71 = .ok (.istore 5, 2) := by decide +kernel
theorem dX0_fallingBits_73 : decode cX0_fallingBits 73 = .ok (.aload_n 0, 1) := by decide +kernel
theorem dX0_fallingBits_74 : decode cX0_fallingBits 74 = .ok (.iload_n 2, 1) := by decide +kernel
theorem dX0_fallingBits_75 : decode cX0_fallingBits 75 = .ok (.invokevirtual 67, 3) := by decide +kernel
theorem dX0_fallingBits_78 : decode cX0_fallingBits 78 = .ok (.ifCond .eq 27, 3) := by decide +kernel
theorem dX0_fallingBits_81 : decode cX0_fallingBits 81 = .ok (.iload 4, 2) := by decide +kernel
theorem dX0_fallingBits_83 : decode cX0_fallingBits 83 = .ok (.ifCond .eq 16, 3) := by decide +kernel
theorem dX0_fallingBits_86 : decode cX0_fallingBits 86 = .ok (.iload 5, 2) := by decide +kernel
theorem dX0_fallingBits_88 : decode cX0_fallingBits 88 = .ok (.iconst 3, 1) := by decide +kernel
theorem dX0_fallingBits_89 : decode cX0_fallingBits 89 = .ok (.aload_n 0, 1) := by decide +kernel
theorem dX0_fallingBits_90 : decode cX0_fallingBits 90 = .ok (.getfield 18, 3) := by decide +kernel
theorem dX0_fallingBits_93 : decode cX0_fallingBits 93 = .ok (.iload_n 2, 1) := by decide +kernel
theorem dX0_fallingBits_94 : decode cX0_fallingBits 94 = .ok (.iaload, 1) := by decide +kernel
theorem dX0_fallingBits_95 : decode cX0_fallingBits 95 = .ok (.imul, 1) := by decide +kernel
theorem dX0_fallingBits_96 : decode cX0_fallingBits 96 = .ok (.if_icmp .le 9, 3) := by decide +kernel
theorem dX0_fallingBits_99 : decode cX0_fallingBits 99 = .ok (.iload_n 1, 1) := by decide +kernel
theorem dX0_fallingBits_100 : decode cX0_fallingBits 100 = .ok (.iconst 1, 1) := by decide +kernel
theorem dX0_fallingBits_101 : decode cX0_fallingBits 101 = .ok (.iload_n 2, 1) := by decide +kernel
theorem dX0_fallingBits_102 : decode cX0_fallingBits 102 = .ok (.ishl, 1) := by decide +kernel
theorem dX0_fallingBits_103 : decode cX0_fallingBits 103 = .ok (.ior, 1) := by decide +kernel
theorem dX0_fallingBits_104 : decode cX0_fallingBits 104 = .ok (.istore_n 1, 1) := by decide +kernel
theorem dX0_fallingBits_105 : decode cX0_fallingBits 105 = .ok (.iinc 2 1, 3) := by decide +kernel
theorem dX0_fallingBits_108 : decode cX0_fallingBits 108 = .ok (.goto (-104), 3) := by decide +kernel
theorem dX0_fallingBits_111 : decode cX0_fallingBits 111 = .ok (.iload_n 1, 1) := by decide +kernel
theorem dX0_fallingBits_112 : decode cX0_fallingBits 112 = .ok (.ireturn, 1) := by decide +kernel
theorem dX0_staysCalm_0 : decode cX0_staysCalm 0 = .ok (.iconst 0, 1) := by decide +kernel
theorem dX0_staysCalm_1 : decode cX0_staysCalm 1 = .ok (.istore_n 2, 1) := by decide +kernel
theorem dX0_staysCalm_2 : decode cX0_staysCalm 2 = .ok (.iload_n 2, 1) := by decide +kernel
theorem dX0_staysCalm_3 : decode cX0_staysCalm 3 = .ok (.iload_n 1, 1) := by decide +kernel
theorem dX0_staysCalm_4 : decode cX0_staysCalm 4 = .ok (.if_icmp .ge 18, 3) := by decide +kernel
theorem dX0_staysCalm_7 : decode cX0_staysCalm 7 = .ok (.aload_n 0, 1) := by decide +kernel
theorem dX0_staysCalm_8 : decode cX0_staysCalm 8 = .ok (.invokevirtual 90, 3) := by decide +kernel
theorem dX0_staysCalm_11 : decode cX0_staysCalm 11 = .ok (.ifCond .le 5, 3) := by decide +kernel
theorem dX0_staysCalm_14 : decode cX0_staysCalm 14 = .ok (.iconst 0, 1) := by decide +kernel
theorem dX0_staysCalm_15 : decode cX0_staysCalm 15 = .ok (.ireturn, 1) := by decide +kernel
theorem dX0_staysCalm_16 : decode cX0_staysCalm 16 = .ok (.iinc 2 1, 3) := by decide +kernel
theorem dX0_staysCalm_19 : decode cX0_staysCalm 19 = .ok (.goto (-17), 3) := by decide +kernel
theorem dX0_staysCalm_22 : decode cX0_staysCalm 22 = .ok (.iconst 1, 1) := by decide +kernel
theorem dX0_staysCalm_23 : decode cX0_staysCalm 23 = .ok (.ireturn, 1) := by decide +kernel
theorem dX0_canAdd_0 : decode cX0_canAdd 0 = .ok (.aload_n 0, 1) := by decide +kernel
theorem dX0_canAdd_1 : decode cX0_canAdd 1 = .ok (.iload_n 1, 1) := by decide +kernel
theorem dX0_canAdd_2 : decode cX0_canAdd 2 = .ok (.invokevirtual 63, 3) := by decide +kernel
theorem dX0_canAdd_5 : decode cX0_canAdd 5 = .ok (.ifCond .eq 27, 3) := by decide +kernel
theorem dX0_canAdd_8 : decode cX0_canAdd 8 = .ok (.iload_n 2, 1) := by decide +kernel
theorem dX0_canAdd_9 : decode cX0_canAdd 9 = .ok (.invokestatic 96, 3) := by decide +kernel
theorem dX0_canAdd_12 : decode cX0_canAdd 12 = .ok (.ifCond .eq 20, 3) := by decide +kernel
theorem dX0_canAdd_15 : decode cX0_canAdd 15 = .ok (.aload_n 0, 1) := by decide +kernel
theorem dX0_canAdd_16 : decode cX0_canAdd 16 = .ok (.getfield 15, 3) := by decide +kernel
theorem dX0_canAdd_19 : decode cX0_canAdd 19 = .ok (.iload_n 1, 1) := by decide +kernel
theorem dX0_canAdd_20 : decode cX0_canAdd 20 = .ok (.iaload, 1) := by decide +kernel
theorem dX0_canAdd_21 : decode cX0_canAdd 21 = .ok (.iload_n 2, 1) := by decide +kernel
theorem dX0_canAdd_22 : decode cX0_canAdd 22 = .ok (.iadd, 1) := by decide +kernel
theorem dX0_canAdd_23 : decode cX0_canAdd 23 = .ok (.bipush 99, 2) := by decide +kernel
theorem dX0_canAdd_25 : decode cX0_canAdd 25 = .ok (.if_icmp .gt 7, 3) := by decide +kernel
theorem dX0_canAdd_28 : decode cX0_canAdd 28 = .ok (.iconst 1, 1) := by decide +kernel
theorem dX0_canAdd_29 : decode cX0_canAdd 29 = .ok (.goto 4, 3) := by decide +kernel
theorem dX0_canAdd_32 : decode cX0_canAdd 32 = .ok (.iconst 0, 1) := by decide +kernel
theorem dX0_canAdd_33 : decode cX0_canAdd 33 = .ok (.ireturn, 1) := by decide +kernel
theorem dX0_addStones_0 : decode cX0_addStones 0 = .ok (.aload_n 0, 1) := by decide +kernel
theorem dX0_addStones_1 : decode cX0_addStones 1 = .ok (.iload_n 1, 1) := by decide +kernel
theorem dX0_addStones_2 : decode cX0_addStones 2 = .ok (.iload_n 2, 1) := by decide +kernel
theorem dX0_addStones_3 : decode cX0_addStones 3 = .ok (.invokevirtual 99, 3) := by decide +kernel
theorem dX0_addStones_6 : decode cX0_addStones 6 = .ok (.ifCond .ne 5, 3) := by decide +kernel
theorem dX0_addStones_9 : decode cX0_addStones 9 = .ok (.iconst 0, 1) := by decide +kernel
theorem dX0_addStones_10 : decode cX0_addStones 10 = .ok (.ireturn, 1) := by decide +kernel
theorem dX0_addStones_11 : decode cX0_addStones 11 = .ok (.aload_n 0, 1) := by decide +kernel
theorem dX0_addStones_12 : decode cX0_addStones 12 = .ok (.getfield 15, 3) := by decide +kernel
theorem dX0_addStones_15 : decode cX0_addStones 15 = .ok (.iload_n 1, 1) := by decide +kernel
theorem dX0_addStones_16 : decode cX0_addStones 16 = .ok (.dup2, 1) := by decide +kernel
theorem dX0_addStones_17 : decode cX0_addStones 17 = .ok (.iaload, 1) := by decide +kernel
theorem dX0_addStones_18 : decode cX0_addStones 18 = .ok (.iload_n 2, 1) := by decide +kernel
theorem dX0_addStones_19 : decode cX0_addStones 19 = .ok (.iadd, 1) := by decide +kernel
theorem dX0_addStones_20 : decode cX0_addStones 20 = .ok (.iastore, 1) := by decide +kernel
theorem dX0_addStones_21 : decode cX0_addStones 21 = .ok (.iconst 1, 1) := by decide +kernel
theorem dX0_addStones_22 : decode cX0_addStones 22 = .ok (.ireturn, 1) := by decide +kernel
theorem dX0_canRemove_0 : decode cX0_canRemove 0 = .ok (.aload_n 0, 1) := by decide +kernel
theorem dX0_canRemove_1 : decode cX0_canRemove 1 = .ok (.iload_n 1, 1) := by decide +kernel
theorem dX0_canRemove_2 : decode cX0_canRemove 2 = .ok (.invokevirtual 63, 3) := by decide +kernel
theorem dX0_canRemove_5 : decode cX0_canRemove 5 = .ok (.ifCond .eq 24, 3) := by decide +kernel
theorem dX0_canRemove_8 : decode cX0_canRemove 8 = .ok (.iload_n 2, 1) := by decide +kernel
theorem dX0_canRemove_9 : decode cX0_canRemove 9 = .ok (.invokestatic 96, 3) := by decide +kernel
theorem dX0_canRemove_12 : decode cX0_canRemove 12 = .ok (.ifCond .eq 17, 3) := by decide +kernel
theorem dX0_canRemove_15 : decode cX0_canRemove 15 = .ok (.aload_n 0, 1) := by decide +kernel
theorem dX0_canRemove_16 : decode cX0_canRemove 16 = .ok (.getfield 15, 3) := by decide +kernel
theorem dX0_canRemove_19 : decode cX0_canRemove 19 = .ok (.iload_n 1, 1) := by decide +kernel
theorem dX0_canRemove_20 : decode cX0_canRemove 20 = .ok (.iaload, 1) := by decide +kernel
theorem dX0_canRemove_21 : decode cX0_canRemove 21 = .ok (.iload_n 2, 1) := by decide +kernel
theorem dX0_canRemove_22 : decode cX0_canRemove 22 = .ok (.if_icmp .lt 7, 3) := by decide +kernel
theorem dX0_canRemove_25 : decode cX0_canRemove 25 = .ok (.iconst 1, 1) := by decide +kernel
theorem dX0_canRemove_26 : decode cX0_canRemove 26 = .ok (.goto 4, 3) := by decide +kernel
theorem dX0_canRemove_29 : decode cX0_canRemove 29 = .ok (.iconst 0, 1) := by decide +kernel
theorem dX0_canRemove_30 : decode cX0_canRemove 30 = .ok (.ireturn, 1) := by decide +kernel
theorem dX0_removeStones_0 : decode cX0_removeStones 0 = .ok (.aload_n 0, 1) := by decide +kernel
theorem dX0_removeStones_1 : decode cX0_removeStones 1 = .ok (.iload_n 1, 1) := by decide +kernel
theorem dX0_removeStones_2 : decode cX0_removeStones 2 = .ok (.iload_n 2, 1) := by decide +kernel
theorem dX0_removeStones_3 : decode cX0_removeStones 3 = .ok (.invokevirtual 103, 3) := by decide +kernel
theorem dX0_removeStones_6 : decode cX0_removeStones 6 = .ok (.ifCond .ne 5, 3) := by decide +kernel
theorem dX0_removeStones_9 : decode cX0_removeStones 9 = .ok (.iconst 0, 1) := by decide +kernel
theorem dX0_removeStones_10 : decode cX0_removeStones 10 = .ok (.ireturn, 1) := by decide +kernel
theorem dX0_removeStones_11 : decode cX0_removeStones 11 = .ok (.aload_n 0, 1) := by decide +kernel
theorem dX0_removeStones_12 : decode cX0_removeStones 12 = .ok (.getfield 15, 3) := by decide +kernel
theorem dX0_removeStones_15 : decode cX0_removeStones 15 = .ok (.iload_n 1, 1) := by decide +kernel
theorem dX0_removeStones_16 : decode cX0_removeStones 16 = .ok (.dup2, 1) := by decide +kernel
theorem dX0_removeStones_17 : decode cX0_removeStones 17 = .ok (.iaload, 1) := by decide +kernel
theorem dX0_removeStones_18 : decode cX0_removeStones 18 = .ok (.iload_n 2, 1) := by decide +kernel
theorem dX0_removeStones_19 : decode cX0_removeStones 19 = .ok (.isub, 1) := by decide +kernel
theorem dX0_removeStones_20 : decode cX0_removeStones 20 = .ok (.iastore, 1) := by decide +kernel
theorem dX0_removeStones_21 : decode cX0_removeStones 21 = .ok (.iconst 1, 1) := by decide +kernel
theorem dX0_removeStones_22 : decode cX0_removeStones 22 = .ok (.ireturn, 1) := by decide +kernel
theorem dX0_isDeed_0 : decode cX0_isDeed 0 = .ok (.iload_n 0, 1) := by decide +kernel
theorem dX0_isDeed_1 : decode cX0_isDeed 1 = .ok (.ifCond .lt 12, 3) := by decide +kernel
theorem dX0_isDeed_4 : decode cX0_isDeed 4 = .ok (.iload_n 0, 1) := by decide +kernel
theorem dX0_isDeed_5 : decode cX0_isDeed 5 = .ok (.iconst 2, 1) := by decide +kernel
theorem dX0_isDeed_6 : decode cX0_isDeed 6 = .ok (.if_icmp .gt 7, 3) := by decide +kernel
theorem dX0_isDeed_9 : decode cX0_isDeed 9 = .ok (.iconst 1, 1) := by decide +kernel
theorem dX0_isDeed_10 : decode cX0_isDeed 10 = .ok (.goto 4, 3) := by decide +kernel
theorem dX0_isDeed_13 : decode cX0_isDeed 13 = .ok (.iconst 0, 1) := by decide +kernel
theorem dX0_isDeed_14 : decode cX0_isDeed 14 = .ok (.ireturn, 1) := by decide +kernel
theorem dX0_writeDeed_0 : decode cX0_writeDeed 0 = .ok (.aload_n 0, 1) := by decide +kernel
theorem dX0_writeDeed_1 : decode cX0_writeDeed 1 = .ok (.iload_n 1, 1) := by decide +kernel
theorem dX0_writeDeed_2 : decode cX0_writeDeed 2 = .ok (.invokevirtual 63, 3) := by decide +kernel
theorem dX0_writeDeed_5 : decode cX0_writeDeed 5 = .ok (.ifCond .eq 20, 3) := by decide +kernel
theorem dX0_writeDeed_8 : decode cX0_writeDeed 8 = .ok (.iload_n 2, 1) := by decide +kernel
theorem dX0_writeDeed_9 : decode cX0_writeDeed 9 = .ok (.invokestatic 106, 3) := by decide +kernel
theorem dX0_writeDeed_12 : decode cX0_writeDeed 12 = .ok (.ifCond .eq 13, 3) := by decide +kernel
theorem dX0_writeDeed_15 : decode cX0_writeDeed 15 = .ok (.aload_n 0, 1) := by decide +kernel
theorem dX0_writeDeed_16 : decode cX0_writeDeed 16 = .ok (.getfield 21, 3) := by decide +kernel
theorem dX0_writeDeed_19 : decode cX0_writeDeed 19 = .ok (.iload_n 1, 1) := by decide +kernel
theorem dX0_writeDeed_20 : decode cX0_writeDeed 20 = .ok (.iaload, 1) := by decide +kernel
theorem dX0_writeDeed_21 : decode cX0_writeDeed 21 = .ok (.iload_n 2, 1) := by decide +kernel
theorem dX0_writeDeed_22 : decode cX0_writeDeed 22 = .ok (.if_icmp .ne 5, 3) := by decide +kernel
theorem dX0_writeDeed_25 : decode cX0_writeDeed 25 = .ok (.iconst 0, 1) := by decide +kernel
theorem dX0_writeDeed_26 : decode cX0_writeDeed 26 = .ok (.ireturn, 1) := by decide +kernel
theorem dX0_writeDeed_27 : decode cX0_writeDeed 27 = .ok (.aload_n 0, 1) := by decide +kernel
theorem dX0_writeDeed_28 : decode cX0_writeDeed 28 = .ok (.getfield 21, 3) := by decide +kernel
theorem dX0_writeDeed_31 : decode cX0_writeDeed 31 = .ok (.iload_n 1, 1) := by decide +kernel
theorem dX0_writeDeed_32 : decode cX0_writeDeed 32 = .ok (.iload_n 2, 1) := by decide +kernel
theorem dX0_writeDeed_33 : decode cX0_writeDeed 33 = .ok (.iastore, 1) := by decide +kernel
theorem dX0_writeDeed_34 : decode cX0_writeDeed 34 = .ok (.iconst 1, 1) := by decide +kernel
theorem dX0_writeDeed_35 : decode cX0_writeDeed 35 = .ok (.ireturn, 1) := by decide +kernel
theorem dX0_raise_0 : decode cX0_raise 0 = .ok (.aload_n 0, 1) := by decide +kernel
theorem dX0_raise_1 : decode cX0_raise 1 = .ok (.iload_n 1, 1) := by decide +kernel
theorem dX0_raise_2 : decode cX0_raise 2 = .ok (.invokevirtual 63, 3) := by decide +kernel
theorem dX0_raise_5 : decode cX0_raise 5 = .ok (.ifCond .eq 11, 3) := by decide +kernel
theorem dX0_raise_8 : decode cX0_raise 8 = .ok (.aload_n 0, 1) := by decide +kernel
theorem dX0_raise_9 : decode cX0_raise 9 = .ok (.iload_n 1, 1) := by decide +kernel
theorem dX0_raise_10 : decode cX0_raise 10 = .ok (.invokevirtual 67, 3) := by decide +kernel
theorem dX0_raise_13 : decode cX0_raise 13 = .ok (.ifCond .eq 5, 3) := by decide +kernel
theorem dX0_raise_16 : decode cX0_raise 16 = .ok (.iconst 0, 1) := by decide +kernel
theorem dX0_raise_17 : decode cX0_raise 17 = .ok (.ireturn, 1) := by decide +kernel
theorem dX0_raise_18 : decode cX0_raise 18 = .ok (.aload_n 0, 1) := by decide +kernel
theorem dX0_raise_19 : decode cX0_raise 19 = .ok (.getfield 9, 3) := by decide +kernel
theorem dX0_raise_22 : decode cX0_raise 22 = .ok (.iload_n 1, 1) := by decide +kernel
theorem dX0_raise_23 : decode cX0_raise 23 = .ok (.iaload, 1) := by decide +kernel
theorem dX0_raise_24 : decode cX0_raise 24 = .ok (.iconst 4, 1) := by decide +kernel
theorem dX0_raise_25 : decode cX0_raise 25 = .ok (.if_icmp .ne 10, 3) := by decide +kernel
theorem dX0_raise_28 : decode cX0_raise 28 = .ok (.aload_n 0, 1) := by decide +kernel
theorem dX0_raise_29 : decode cX0_raise 29 = .ok (.getfield 9, 3) := by decide +kernel
theorem dX0_raise_32 : decode cX0_raise 32 = .ok (.iload_n 1, 1) := by decide +kernel
theorem dX0_raise_33 : decode cX0_raise 33 = .ok (.iconst 0, 1) := by decide +kernel
theorem dX0_raise_34 : decode cX0_raise 34 = .ok (.iastore, 1) := by decide +kernel
theorem dX0_raise_35 : decode cX0_raise 35 = .ok (.aload_n 0, 1) := by decide +kernel
theorem dX0_raise_36 : decode cX0_raise 36 = .ok (.iload_n 1, 1) := by decide +kernel
theorem dX0_raise_37 : decode cX0_raise 37 = .ok (.invokevirtual 59, 3) := by decide +kernel
theorem dX0_raise_40 : decode cX0_raise 40 = .ok (.iconst 1, 1) := by decide +kernel
theorem dX0_raise_41 : decode cX0_raise 41 = .ok (.ireturn, 1) := by decide +kernel
theorem dX0_emptyAllBut_0 : decode cX0_emptyAllBut 0 = .ok (.iconst 0, 1) := by decide +kernel
theorem dX0_emptyAllBut_1 : decode cX0_emptyAllBut 1 = .ok (.istore_n 2, 1) := by decide +kernel
theorem dX0_emptyAllBut_2 : decode cX0_emptyAllBut 2 = .ok (.iload_n 2, 1) := by decide +kernel
theorem dX0_emptyAllBut_3 : decode cX0_emptyAllBut 3 = .ok (.aload_n 0, 1) := by decide +kernel
theorem dX0_emptyAllBut_4 : decode cX0_emptyAllBut 4 = .ok (.getfield 36, 3) := by decide +kernel
theorem dX0_emptyAllBut_7 : decode cX0_emptyAllBut 7 = .ok (.if_icmp .ge 24, 3) := by decide +kernel
theorem dX0_emptyAllBut_10 : decode cX0_emptyAllBut 10 = .ok (.iload_n 1, 1) := by decide +kernel
theorem dX0_emptyAllBut_11 : decode cX0_emptyAllBut 11 = .ok (.iload_n 2, 1) := by decide +kernel
theorem dX0_emptyAllBut_12 : decode cX0_emptyAllBut 12 = .ok (.ishr, 1) := by decide +kernel
theorem dX0_emptyAllBut_13 : decode cX0_emptyAllBut 13 = .ok (.iconst 1, 1) := by decide +kernel
theorem dX0_emptyAllBut_14 : decode cX0_emptyAllBut 14 = .ok (.iand, 1) := by decide +kernel
theorem dX0_emptyAllBut_15 : decode cX0_emptyAllBut 15 = .ok (.ifCond .ne 10, 3) := by decide +kernel
theorem dX0_emptyAllBut_18 : decode cX0_emptyAllBut 18 = .ok (.aload_n 0, 1) := by decide +kernel
theorem dX0_emptyAllBut_19 : decode cX0_emptyAllBut 19 = .ok (.getfield 15, 3) := by decide +kernel
theorem dX0_emptyAllBut_22 : decode cX0_emptyAllBut 22 = .ok (.iload_n 2, 1) := by decide +kernel
theorem dX0_emptyAllBut_23 : decode cX0_emptyAllBut 23 = .ok (.iconst 0, 1) := by decide +kernel
theorem dX0_emptyAllBut_24 : decode cX0_emptyAllBut 24 = .ok (.iastore, 1) := by decide +kernel
theorem dX0_emptyAllBut_25 : decode cX0_emptyAllBut 25 = .ok (.iinc 2 1, 3) := by decide +kernel
theorem dX0_emptyAllBut_28 : decode cX0_emptyAllBut 28 = .ok (.goto (-26), 3) := by decide +kernel
theorem dX0_emptyAllBut_31 : decode cX0_emptyAllBut 31 = .ok (.return_, 1) := by decide +kernel
theorem dX0_failDeeds_0 : decode cX0_failDeeds 0 = .ok (.iconst 0, 1) := by decide +kernel
theorem dX0_failDeeds_1 : decode cX0_failDeeds 1 = .ok (.istore_n 2, 1) := by decide +kernel
theorem dX0_failDeeds_2 : decode cX0_failDeeds 2 = .ok (.iload_n 2, 1) := by decide +kernel
theorem dX0_failDeeds_3 : decode cX0_failDeeds 3 = .ok (.aload_n 0, 1) := by decide +kernel
theorem dX0_failDeeds_4 : decode cX0_failDeeds 4 = .ok (.getfield 36, 3) := by decide +kernel
theorem dX0_failDeeds_7 : decode cX0_failDeeds 7 = .ok (.if_icmp .ge 25, 3) := by decide +kernel
theorem dX0_failDeeds_10 : decode cX0_failDeeds 10 = .ok (.iload_n 1, 1) := by decide +kernel
theorem dX0_failDeeds_11 : decode cX0_failDeeds 11 = .ok (.iload_n 2, 1) := by decide +kernel
theorem dX0_failDeeds_12 : decode cX0_failDeeds 12 = .ok (.ishr, 1) := by decide +kernel
theorem dX0_failDeeds_13 : decode cX0_failDeeds 13 = .ok (.iconst 1, 1) := by decide +kernel
theorem dX0_failDeeds_14 : decode cX0_failDeeds 14 = .ok (.iand, 1) := by decide +kernel
theorem dX0_failDeeds_15 : decode cX0_failDeeds 15 = .ok (.iconst 1, 1) := by decide +kernel
theorem dX0_failDeeds_16 : decode cX0_failDeeds 16 = .ok (.if_icmp .ne 10, 3) := by decide +kernel
theorem dX0_failDeeds_19 : decode cX0_failDeeds 19 = .ok (.aload_n 0, 1) := by decide +kernel
theorem dX0_failDeeds_20 : decode cX0_failDeeds 20 = .ok (.getfield 21, 3) := by decide +kernel
theorem dX0_failDeeds_23 : decode cX0_failDeeds 23 = .ok (.iload_n 2, 1) := by decide +kernel
theorem dX0_failDeeds_24 : decode cX0_failDeeds 24 = .ok (.iconst 3, 1) := by decide +kernel
theorem dX0_failDeeds_25 : decode cX0_failDeeds 25 = .ok (.iastore, 1) := by decide +kernel
theorem dX0_failDeeds_26 : decode cX0_failDeeds 26 = .ok (.iinc 2 1, 3) := by decide +kernel
theorem dX0_failDeeds_29 : decode cX0_failDeeds 29 = .ok (.goto (-27), 3) := by decide +kernel
theorem dX0_failDeeds_32 : decode cX0_failDeeds 32 = .ok (.return_, 1) := by decide +kernel
theorem dX0_ringBits_0 : decode cX0_ringBits 0 = .ok (.iconst 0, 1) := by decide +kernel
theorem dX0_ringBits_1 : decode cX0_ringBits 1 = .ok (.istore_n 1, 1) := by decide +kernel
theorem dX0_ringBits_2 : decode cX0_ringBits 2 = .ok (.iconst 0, 1) := by decide +kernel
theorem dX0_ringBits_3 : decode cX0_ringBits 3 = .ok (.istore_n 2, 1) := by decide +kernel
theorem dX0_ringBits_4 : decode cX0_ringBits 4 = .ok (.iload_n 2, 1) := by decide +kernel
theorem dX0_ringBits_5 : decode cX0_ringBits 5 = .ok (.iconst 1, 1) := by decide +kernel
theorem dX0_ringBits_6 : decode cX0_ringBits 6 = .ok (.iadd, 1) := by decide +kernel
theorem dX0_ringBits_7 : decode cX0_ringBits 7 = .ok (.aload_n 0, 1) := by decide +kernel
theorem dX0_ringBits_8 : decode cX0_ringBits 8 = .ok (.getfield 36, 3) := by decide +kernel
theorem dX0_ringBits_11 : decode cX0_ringBits 11 = .ok (.if_icmp .ge 36, 3) := by decide +kernel
theorem dX0_ringBits_14 : decode cX0_ringBits 14 = .ok (.aload_n 0, 1) := by decide +kernel
theorem dX0_ringBits_15 : decode cX0_ringBits 15 = .ok (.getfield 21, 3) := by decide +kernel
theorem dX0_ringBits_18 : decode cX0_ringBits 18 = .ok (.iload_n 2, 1) := by decide +kernel
theorem dX0_ringBits_19 : decode cX0_ringBits 19 = .ok (.iaload, 1) := by decide +kernel
theorem dX0_ringBits_20 : decode cX0_ringBits 20 = .ok (.iconst 1, 1) := by decide +kernel
theorem dX0_ringBits_21 : decode cX0_ringBits 21 = .ok (.if_icmp .ne 20, 3) := by decide +kernel
theorem dX0_ringBits_24 : decode cX0_ringBits 24 = .ok (.aload_n 0, 1) := by decide +kernel
theorem dX0_ringBits_25 : decode cX0_ringBits 25 = .ok (.getfield 21, 3) := by decide +kernel
theorem dX0_ringBits_28 : decode cX0_ringBits 28 = .ok (.iload_n 2, 1) := by decide +kernel
theorem dX0_ringBits_29 : decode cX0_ringBits 29 = .ok (.iconst 1, 1) := by decide +kernel
theorem dX0_ringBits_30 : decode cX0_ringBits 30 = .ok (.iadd, 1) := by decide +kernel
theorem dX0_ringBits_31 : decode cX0_ringBits 31 = .ok (.iaload, 1) := by decide +kernel
theorem dX0_ringBits_32 : decode cX0_ringBits 32 = .ok (.ifCond .ne 9, 3) := by decide +kernel
theorem dX0_ringBits_35 : decode cX0_ringBits 35 = .ok (.iload_n 1, 1) := by decide +kernel
theorem dX0_ringBits_36 : decode cX0_ringBits 36 = .ok (.iconst 3, 1) := by decide +kernel
theorem dX0_ringBits_37 : decode cX0_ringBits 37 = .ok (.iload_n 2, 1) := by decide +kernel
theorem dX0_ringBits_38 : decode cX0_ringBits 38 = .ok (.ishl, 1) := by decide +kernel
theorem dX0_ringBits_39 : decode cX0_ringBits 39 = .ok (.ior, 1) := by decide +kernel
theorem dX0_ringBits_40 : decode cX0_ringBits 40 = .ok (.istore_n 1, 1) := by decide +kernel
theorem dX0_ringBits_41 : decode cX0_ringBits 41 = .ok (.iinc 2 1, 3) := by decide +kernel
theorem dX0_ringBits_44 : decode cX0_ringBits 44 = .ok (.goto (-40), 3) := by decide +kernel
theorem dX0_ringBits_47 : decode cX0_ringBits 47 = .ok (.iload_n 1, 1) := by decide +kernel
theorem dX0_ringBits_48 : decode cX0_ringBits 48 = .ok (.ireturn, 1) := by decide +kernel
theorem dX0_allStones_0 : decode cX0_allStones 0 = .ok (.iconst 0, 1) := by decide +kernel
theorem dX0_allStones_1 : decode cX0_allStones 1 = .ok (.istore_n 1, 1) := by decide +kernel
theorem dX0_allStones_2 : decode cX0_allStones 2 = .ok (.iconst 0, 1) := by decide +kernel
theorem dX0_allStones_3 : decode cX0_allStones 3 = .ok (.istore_n 2, 1) := by decide +kernel
theorem dX0_allStones_4 : decode cX0_allStones 4 = .ok (.iload_n 2, 1) := by decide +kernel
theorem dX0_allStones_5 : decode cX0_allStones 5 = .ok (.aload_n 0, 1) := by decide +kernel
theorem dX0_allStones_6 : decode cX0_allStones 6 = .ok (.getfield 36, 3) := by decide +kernel
theorem dX0_allStones_9 : decode cX0_allStones 9 = .ok (.if_icmp .ge 18, 3) := by decide +kernel
theorem dX0_allStones_12 : decode cX0_allStones 12 = .ok (.iload_n 1, 1) := by decide +kernel
theorem dX0_allStones_13 : decode cX0_allStones 13 = .ok (.aload_n 0, 1) := by decide +kernel
theorem dX0_allStones_14 : decode cX0_allStones 14 = .ok (.getfield 15, 3) := by decide +kernel
theorem dX0_allStones_17 : decode cX0_allStones 17 = .ok (.iload_n 2, 1) := by decide +kernel
theorem dX0_allStones_18 : decode cX0_allStones 18 = .ok (.iaload, 1) := by decide +kernel
theorem dX0_allStones_19 : decode cX0_allStones 19 = .ok (.iadd, 1) := by decide +kernel
theorem dX0_allStones_20 : decode cX0_allStones 20 = .ok (.istore_n 1, 1) := by decide +kernel
theorem dX0_allStones_21 : decode cX0_allStones 21 = .ok (.iinc 2 1, 3) := by decide +kernel
theorem dX0_allStones_24 : decode cX0_allStones 24 = .ok (.goto (-20), 3) := by decide +kernel
theorem dX0_allStones_27 : decode cX0_allStones 27 = .ok (.iload_n 1, 1) := by decide +kernel
theorem dX0_allStones_28 : decode cX0_allStones 28 = .ok (.ireturn, 1) := by decide +kernel
theorem dX0_allGround_0 : decode cX0_allGround 0 = .ok (.iconst 0, 1) := by decide +kernel
theorem dX0_allGround_1 : decode cX0_allGround 1 = .ok (.istore_n 1, 1) := by decide +kernel
theorem dX0_allGround_2 : decode cX0_allGround 2 = .ok (.iconst 0, 1) := by decide +kernel
theorem dX0_allGround_3 : decode cX0_allGround 3 = .ok (.istore_n 2, 1) := by decide +kernel
theorem dX0_allGround_4 : decode cX0_allGround 4 = .ok (.iload_n 2, 1) := by decide +kernel
theorem dX0_allGround_5 : decode cX0_allGround 5 = .ok (.aload_n 0, 1) := by decide +kernel
theorem dX0_allGround_6 : decode cX0_allGround 6 = .ok (.getfield 36, 3) := by decide +kernel
theorem dX0_allGround_9 : decode cX0_allGround 9 = .ok (.if_icmp .ge 17, 3) := by decide +kernel
theorem dX0_allGround_12 : decode cX0_allGround 12 = .ok (.iload_n 1, 1) := by decide +kernel
theorem dX0_allGround_13 : decode cX0_allGround 13 = .ok (.aload_n 0, 1) := by decide +kernel
theorem dX0_allGround_14 : decode cX0_allGround 14 = .ok (.iload_n 2, 1) := by decide +kernel
theorem dX0_allGround_15 : decode cX0_allGround 15 = .ok (.invokevirtual 109, 3) := by decide +kernel
theorem dX0_allGround_18 : decode cX0_allGround 18 = .ok (.iadd, 1) := by decide +kernel
theorem dX0_allGround_19 : decode cX0_allGround 19 = .ok (.istore_n 1, 1) := by decide +kernel
theorem dX0_allGround_20 : decode cX0_allGround 20 = .ok (.iinc 2 1, 3) := by decide +kernel
theorem dX0_allGround_23 : decode cX0_allGround 23 = .ok (.goto (-19), 3) := by decide +kernel
theorem dX0_allGround_26 : decode cX0_allGround 26 = .ok (.iload_n 1, 1) := by decide +kernel
theorem dX0_allGround_27 : decode cX0_allGround 27 = .ok (.ireturn, 1) := by decide +kernel
theorem dX0_monkLoad_0 : decode cX0_monkLoad 0 = .ok (.iconst 0, 1) := by decide +kernel
theorem dX0_monkLoad_1 : decode cX0_monkLoad 1 = .ok (.istore_n 1, 1) := by decide +kernel
theorem dX0_monkLoad_2 : decode cX0_monkLoad 2 = .ok (.iconst 0, 1) := by decide +kernel
theorem dX0_monkLoad_3 : decode cX0_monkLoad 3 = .ok (.istore_n 2, 1) := by decide +kernel
theorem dX0_monkLoad_4 : decode cX0_monkLoad 4 = .ok (.iload_n 2, 1) := by decide +kernel
theorem dX0_monkLoad_5 : decode cX0_monkLoad 5 = .ok (.aload_n 0, 1) := by decide +kernel
theorem dX0_monkLoad_6 : decode cX0_monkLoad 6 = .ok (.getfield 36, 3) := by decide +kernel
theorem dX0_monkLoad_9 : decode cX0_monkLoad 9 = .ok (.if_icmp .ge 27, 3) := by decide +kernel
theorem dX0_monkLoad_12 : decode cX0_monkLoad 12 = .ok (.aload_n 0, 1) := by decide +kernel
theorem dX0_monkLoad_13 : decode cX0_monkLoad 13 = .ok (.iload_n 2, 1) := by decide +kernel
theorem dX0_monkLoad_14 : decode cX0_monkLoad 14 = .ok (.invokevirtual 93, 3) := by decide +kernel
theorem dX0_monkLoad_17 : decode cX0_monkLoad 17 = .ok (.bipush (-2), 2) := by decide +kernel
theorem dX0_monkLoad_19 : decode cX0_monkLoad 19 = .ok (.if_icmp .ne 11, 3) := by decide +kernel
theorem dX0_monkLoad_22 : decode cX0_monkLoad 22 = .ok (.iload_n 1, 1) := by decide +kernel
theorem dX0_monkLoad_23 : decode cX0_monkLoad 23 = .ok (.aload_n 0, 1) := by decide +kernel
theorem dX0_monkLoad_24 : decode cX0_monkLoad 24 = .ok (.iload_n 2, 1) := by decide +kernel
theorem dX0_monkLoad_25 : decode cX0_monkLoad 25 = .ok (.invokevirtual 76, 3) := by decide +kernel
theorem dX0_monkLoad_28 : decode cX0_monkLoad 28 = .ok (.iadd, 1) := by decide +kernel
theorem dX0_monkLoad_29 : decode cX0_monkLoad 29 = .ok (.istore_n 1, 1) := by decide +kernel
theorem dX0_monkLoad_30 : decode cX0_monkLoad 30 = .ok (.iinc 2 1, 3) := by decide +kernel
theorem dX0_monkLoad_33 : decode cX0_monkLoad 33 = .ok (.goto (-29), 3) := by decide +kernel
theorem dX0_monkLoad_36 : decode cX0_monkLoad 36 = .ok (.iload_n 1, 1) := by decide +kernel
theorem dX0_monkLoad_37 : decode cX0_monkLoad 37 = .ok (.ireturn, 1) := by decide +kernel
