theorem dX4_init_0 : decode cX4_init 0 = .ok (.aload_n 0, 1) := by decide +kernel
theorem dX4_init_1 : decode cX4_init 1 = .ok (.invokespecial 3, 3) := by decide +kernel
theorem dX4_init_4 : decode cX4_init 4 = .ok (.aload_n 0, 1) := by decide +kernel
theorem dX4_init_5 : decode cX4_init 5 = .ok (.new 9, 3) := by decide +kernel
theorem dX4_init_8 : decode cX4_init 8 = .ok (.dup, 1) := by decide +kernel
theorem dX4_init_9 : decode cX4_init 9 = .ok (.invokespecial 11, 3) := by decide +kernel
theorem dX4_init_12 : decode cX4_init 12 = .ok (.putfield 12, 3) := by decide +kernel
theorem dX4_init_15 : decode cX4_init 15 = .ok (.aload_n 0, 1) := by decide +kernel
theorem dX4_init_16 : decode cX4_init 16 = .ok (.new 16, 3) := by decide +kernel
theorem dX4_init_19 : decode cX4_init 19 = .ok (.dup, 1) := by decide +kernel
theorem dX4_init_20 : decode cX4_init 20 = .ok (.invokespecial 18, 3) := by decide +kernel
theorem dX4_init_23 : decode cX4_init 23 = .ok (.putfield 19, 3) := by decide +kernel
theorem dX4_init_26 : decode cX4_init 26 = .ok (.aload_n 0, 1) := by decide +kernel
theorem dX4_init_27 : decode cX4_init 27 = .ok (.new 16, 3) := by decide +kernel
theorem dX4_init_30 : decode cX4_init 30 = .ok (.dup, 1) := by decide +kernel
theorem dX4_init_31 : decode cX4_init 31 = .ok (.invokespecial 18, 3) := by decide +kernel
theorem dX4_init_34 : decode cX4_init 34 = .ok (.putfield 23, 3) := by decide +kernel
theorem dX4_init_37 : decode cX4_init 37 = .ok (.aload_n 0, 1) := by decide +kernel
theorem dX4_init_38 : decode cX4_init 38 = .ok (.new 26, 3) := by decide +kernel
theorem dX4_init_41 : decode cX4_init 41 = .ok (.dup, 1) := by decide +kernel
theorem dX4_init_42 : decode cX4_init 42 = .ok (.invokespecial 28, 3) := by decide +kernel
theorem dX4_init_45 : decode cX4_init 45 = .ok (.putfield 29, 3) := by decide +kernel
theorem dX4_init_48 : decode cX4_init 48 = .ok (.aload_n 0, 1) := by decide +kernel
theorem dX4_init_49 : decode cX4_init 49 = .ok (.new 33, 3) := by decide +kernel
theorem dX4_init_52 : decode cX4_init 52 = .ok (.dup, 1) := by decide +kernel
theorem dX4_init_53 : decode cX4_init 53 = .ok (.invokespecial 35, 3) := by decide +kernel
theorem dX4_init_56 : decode cX4_init 56 = .ok (.putfield 36, 3) := by decide +kernel
theorem dX4_init_59 : decode cX4_init 59 = .ok (.aload_n 0, 1) := by decide +kernel
theorem dX4_init_60 : decode cX4_init 60 = .ok (.iconst 2, 1) := by decide +kernel
theorem dX4_init_61 : decode cX4_init 61 = .ok (.anewarray 16, 3) := by decide +kernel
theorem dX4_init_64 : decode cX4_init 64 = .ok (.putfield 40, 3) := by decide +kernel
theorem dX4_init_67 : decode cX4_init 67 = .ok (.iconst 0, 1) := by decide +kernel
theorem dX4_init_68 : decode cX4_init 68 = .ok (.istore_n 1, 1) := by decide +kernel
theorem dX4_init_69 : decode cX4_init 69 = .ok (.iload_n 1, 1) := by decide +kernel
theorem dX4_init_70 : decode cX4_init 70 = .ok (.iconst 2, 1) := by decide +kernel
theorem dX4_init_71 : decode cX4_init 71 = .ok (.if_icmp .ge 22, 3) := by decide +kernel
theorem dX4_init_74 : decode cX4_init 74 = .ok (.aload_n 0, 1) := by decide +kernel
theorem dX4_init_75 : decode cX4_init 75 = .ok (.getfield 40, 3) := by decide +kernel
theorem dX4_init_78 : decode cX4_init 78 = .ok (.iload_n 1, 1) := by decide +kernel
theorem dX4_init_79 : decode cX4_init 79 = .ok (.new 16, 3) := by decide +kernel
theorem dX4_init_82 : decode cX4_init 82 = .ok (.dup, 1) := by decide +kernel
theorem dX4_init_83 : decode cX4_init 83 = .ok (.invokespecial 18, 3) := by decide +kernel
theorem dX4_init_86 : decode cX4_init 86 = .ok (.aastore, 1) := by decide +kernel
theorem dX4_init_87 : decode cX4_init 87 = .ok (.iinc 1 1, 3) := by decide +kernel
theorem dX4_init_90 : decode cX4_init 90 = .ok (.goto (-21), 3) := by decide +kernel
theorem dX4_init_93 : decode cX4_init 93 = .ok (.return_, 1) := by decide +kernel
theorem dX4_write_0 : decode cX4_write 0 = .ok (.iload_n 1, 1) := by decide +kernel
theorem dX4_write_1 : decode cX4_write 1 = .ok (.ifCond .lt 10, 3) := by decide +kernel
theorem dX4_write_4 : decode cX4_write 4 = .ok (.iload_n 1, 1) := by decide +kernel
theorem dX4_write_5 : decode cX4_write 5 = .ok (.sipush 255, 3) := by decide +kernel
theorem dX4_write_8 : decode cX4_write 8 = .ok (.if_icmp .le 6, 3) := by decide +kernel
theorem dX4_write_11 : decode cX4_write 11 = .ok (.bipush (-2), 2) := by decide +kernel
theorem dX4_write_13 : decode cX4_write 13 = .ok (.ireturn, 1) := by decide +kernel
theorem dX4_write_14 : decode cX4_write 14 = .ok (.aload_n 0, 1) := by decide +kernel
theorem dX4_write_15 : decode cX4_write 15 = .ok (.getfield 12, 3) := by decide +kernel
theorem dX4_write_18 : decode cX4_write 18 = .ok (.iload_n 1, 1) := by decide +kernel
theorem dX4_write_19 : decode cX4_write 19 = .ok (.invokevirtual 44, 3) := by decide +kernel
theorem dX4_write_22 : decode cX4_write 22 = .ok (.ifCond .eq 13, 3) := by decide +kernel
theorem dX4_write_25 : decode cX4_write 25 = .ok (.aload_n 0, 1) := by decide +kernel
theorem dX4_write_26 : decode cX4_write 26 = .ok (.getfield 12, 3) := by decide +kernel
theorem dX4_write_29 : decode cX4_write 29 = .ok (.invokevirtual 48, 3) := by decide +kernel
theorem dX4_write_32 : decode cX4_write 32 = .ok (.goto 5, 3) := by decide +kernel
theorem dX4_write_35 : decode cX4_write 35 = .ok (.bipush (-4), 2) := by decide +kernel
theorem dX4_write_37 : decode cX4_write 37 = .ok (.ireturn, 1) := by decide +kernel
theorem dX4_wipe_0 : decode cX4_wipe 0 = .ok (.aload_n 0, 1) := by decide +kernel
theorem dX4_wipe_1 : decode cX4_wipe 1 = .ok (.getfield 12, 3) := by decide +kernel
theorem dX4_wipe_4 : decode cX4_wipe 4 = .ok (.invokevirtual 52, 3) := by decide +kernel
theorem dX4_wipe_7 : decode cX4_wipe 7 = .ok (.ireturn, 1) := by decide +kernel
theorem dX4_fault_0 : decode cX4_fault 0 = .ok (.aload_n 0, 1) := by decide +kernel
theorem dX4_fault_1 : decode cX4_fault 1 = .ok (.getfield 12, 3) := by decide +kernel
theorem dX4_fault_4 : decode cX4_fault 4 = .ok (.invokevirtual 55, 3) := by decide +kernel
theorem dX4_fault_7 : decode cX4_fault 7 = .ok (.ireturn, 1) := by decide +kernel
theorem dX4_lane_0 : decode cX4_lane 0 = .ok (.aload_n 0, 1) := by decide +kernel
theorem dX4_lane_1 : decode cX4_lane 1 = .ok (.getfield 12, 3) := by decide +kernel
theorem dX4_lane_4 : decode cX4_lane 4 = .ok (.invokevirtual 55, 3) := by decide +kernel
theorem dX4_lane_7 : decode cX4_lane 7 = .ok (.bipush (-9), 2) := by decide +kernel
theorem dX4_lane_9 : decode cX4_lane 9 = .ok (.if_icmp .eq 6, 3) := by decide +kernel
theorem dX4_lane_12 : decode cX4_lane 12 = .ok (.bipush (-3), 2) := by decide +kernel
theorem dX4_lane_14 : decode cX4_lane 14 = .ok (.ireturn, 1) := by decide +kernel
theorem dX4_lane_15 : decode cX4_lane 15 = .ok (.aload_n 0, 1) := by decide +kernel
theorem dX4_lane_16 : decode cX4_lane 16 = .ok (.getfield 19, 3) := by decide +kernel
theorem dX4_lane_19 : decode cX4_lane 19 = .ok (.aload_n 0, 1) := by decide +kernel
theorem dX4_lane_20 : decode cX4_lane 20 = .ok (.getfield 12, 3) := by decide +kernel
theorem dX4_lane_23 : decode cX4_lane 23 = .ok (.invokevirtual 58, 3) := by decide +kernel
theorem dX4_lane_26 : decode cX4_lane 26 = .ok (.aload_n 0, 1) := by decide +kernel
theorem dX4_lane_27 : decode cX4_lane 27 = .ok (.getfield 29, 3) := by decide +kernel
theorem dX4_lane_30 : decode cX4_lane 30 = .ok (.invokevirtual 62, 3) := by decide +kernel
theorem dX4_lane_33 : decode cX4_lane 33 = .ok (.aload_n 0, 1) := by decide +kernel
theorem dX4_lane_34 : decode cX4_lane 34 = .ok (.iconst 0, 1) := by decide +kernel
theorem dX4_lane_35 : decode cX4_lane 35 = .ok (.putfield 64, 3) := by decide +kernel
theorem dX4_lane_38 : decode cX4_lane 38 = .ok (.aload_n 0, 1) := by decide +kernel
theorem dX4_lane_39 : decode cX4_lane 39 = .ok (.getfield 19, 3) := by decide +kernel
theorem dX4_lane_42 : decode cX4_lane 42 = .ok (.invokevirtual 68, 3) := by decide +kernel
theorem dX4_lane_45 : decode cX4_lane 45 = .ok (.ireturn, 1) := by decide +kernel
theorem dX4_house_0 : decode cX4_house 0 = .ok (.aload_n 0, 1) := by decide +kernel
theorem dX4_house_1 : decode cX4_house 1 = .ok (.getfield 19, 3) := by decide +kernel
theorem dX4_house_4 : decode cX4_house 4 = .ok (.iload_n 1, 1) := by decide +kernel
theorem dX4_house_5 : decode cX4_house 5 = .ok (.invokevirtual 71, 3) := by decide +kernel
theorem dX4_house_8 : decode cX4_house 8 = .ok (.ifCond .ne 5, 3) := by decide +kernel
theorem dX4_house_11 : decode cX4_house 11 = .ok (.iconst (-1), 1) := by decide +kernel
theorem dX4_house_12 : decode cX4_house 12 = .ok (.ireturn, 1) := by decide +kernel
theorem dX4_house_13 : decode cX4_house 13 = .ok (.iload_n 2, 1) := by decide +kernel
theorem dX4_house_14 : decode cX4_house 14 = .ok (.tableswitch 126 0 7 #[46, 55, 64, 73, 82, 99, 108, 117], 46) := by decide +kernel
theorem dX4_house_60 : decode cX4_house 60 = .ok (.aload_n 0, 1) := by decide +kernel
theorem dX4_house_61 : decode cX4_house 61 = .ok (.getfield 19, 3) := by decide +kernel
theorem dX4_house_64 : decode cX4_house 64 = .ok (.iload_n 1, 1) := by decide +kernel
theorem dX4_house_65 : decode cX4_house 65 = .ok (.invokevirtual 74, 3) := by decide +kernel
theorem dX4_house_68 : decode cX4_house 68 = .ok (.ireturn, 1) := by decide +kernel
theorem dX4_house_69 : decode cX4_house 69 = .ok (.aload_n 0, 1) := by decide +kernel
theorem dX4_house_70 : decode cX4_house 70 = .ok (.getfield 19, 3) := by decide +kernel
theorem dX4_house_73 : decode cX4_house 73 = .ok (.iload_n 1, 1) := by decide +kernel
theorem dX4_house_74 : decode cX4_house 74 = .ok (.invokevirtual 78, 3) := by decide +kernel
theorem dX4_house_77 : decode cX4_house 77 = .ok (.ireturn, 1) := by decide +kernel
theorem dX4_house_78 : decode cX4_house 78 = .ok (.aload_n 0, 1) := by decide +kernel
theorem dX4_house_79 : decode cX4_house 79 = .ok (.getfield 19, 3) := by decide +kernel
theorem dX4_house_82 : decode cX4_house 82 = .ok (.iload_n 1, 1) := by decide +kernel
theorem dX4_house_83 : decode cX4_house 83 = .ok (.invokevirtual 81, 3) := by decide +kernel
theorem dX4_house_86 : decode cX4_house 86 = .ok (.ireturn, 1) := by decide +kernel
theorem dX4_house_87 : decode cX4_house 87 = .ok (.aload_n 0, 1) := by decide +kernel
theorem dX4_house_88 : decode cX4_house 88 = .ok (.getfield 19, 3) := by decide +kernel
theorem dX4_house_91 : decode cX4_house 91 = .ok (.iload_n 1, 1) := by decide +kernel
theorem dX4_house_92 : decode cX4_house 92 = .ok (.invokevirtual 84, 3) := by decide +kernel
theorem dX4_house_95 : decode cX4_house 95 = .ok (.ireturn, 1) := by decide +kernel
theorem dX4_house_96 : decode cX4_house 96 = .ok (.aload_n 0, 1) := by decide +kernel
theorem dX4_house_97 : decode cX4_house 97 = .ok (.getfield 19, 3) := by decide +kernel
theorem dX4_house_100 : decode cX4_house 100 = .ok (.iload_n 1, 1) := by decide +kernel
theorem dX4_house_101 : decode cX4_house 101 = .ok (.invokevirtual 87, 3) := by decide +kernel
theorem dX4_house_104 : decode cX4_house 104 = .ok (.ifCond .eq 7, 3) := by decide +kernel
theorem dX4_house_107 : decode cX4_house 107 = .ok (.iconst 1, 1) := by decide +kernel
theorem dX4_house_108 : decode cX4_house 108 = .ok (.goto 4, 3) := by decide +kernel
theorem dX4_house_111 : decode cX4_house 111 = .ok (.iconst 0, 1) := by decide +kernel
theorem dX4_house_112 : decode cX4_house 112 = .ok (.ireturn, 1) := by decide +kernel
theorem dX4_house_113 : decode cX4_house 113 = .ok (.aload_n 0, 1) := by decide +kernel
theorem dX4_house_114 : decode cX4_house 114 = .ok (.getfield 19, 3) := by decide +kernel
theorem dX4_house_117 : decode cX4_house 117 = .ok (.iload_n 1, 1) := by decide +kernel
theorem dX4_house_118 : decode cX4_house 118 = .ok (.invokevirtual 90, 3) := by decide +kernel
theorem dX4_house_121 : decode cX4_house 121 = .ok (.ireturn, 1) := by decide +kernel
theorem dX4_house_122 : decode cX4_house 122 = .ok (.aload_n 0, 1) := by decide +kernel
theorem dX4_house_123 : decode cX4_house 123 = .ok (.getfield 19, 3) := by decide +kernel
theorem dX4_house_126 : decode cX4_house 126 = .ok (.iload_n 1, 1) := by decide +kernel
theorem dX4_house_127 : decode cX4_house 127 = .ok (.invokevirtual 93, 3) := by decide +kernel
theorem dX4_house_130 : decode cX4_house 130 = .ok (.ireturn, 1) := by decide +kernel
theorem dX4_house_131 : decode cX4_house 131 = .ok (.aload_n 0, 1) := by decide +kernel
theorem dX4_house_132 : decode cX4_house 132 = .ok (.getfield 19, 3) := by decide +kernel
theorem dX4_house_135 : decode cX4_house 135 = .ok (.iload_n 1, 1) := by decide +kernel
theorem dX4_house_136 : decode cX4_house 136 = .ok (.invokevirtual 96, 3) := by decide +kernel
theorem dX4_house_139 : decode cX4_house 139 = .ok (.ireturn, 1) := by decide +kernel
theorem dX4_house_140 : decode cX4_house 140 = .ok (.bipush (-2), 2) := by decide +kernel
theorem dX4_house_142 : decode cX4_house 142 = .ok (.ireturn, 1) := by decide +kernel
theorem dX4_hour_0 : decode cX4_hour 0 = .ok (.aload_n 0, 1) := by decide +kernel
theorem dX4_hour_1 : decode cX4_hour 1 = .ok (.getfield 29, 3) := by decide +kernel
theorem dX4_hour_4 : decode cX4_hour 4 = .ok (.aload_n 0, 1) := by decide +kernel
theorem dX4_hour_5 : decode cX4_hour 5 = .ok (.getfield 19, 3) := by decide +kernel
theorem dX4_hour_8 : decode cX4_hour 8 = .ok (.invokevirtual 99, 3) := by decide +kernel
theorem dX4_hour_11 : decode cX4_hour 11 = .ok (.aload_n 0, 1) := by decide +kernel
theorem dX4_hour_12 : decode cX4_hour 12 = .ok (.getfield 19, 3) := by decide +kernel
theorem dX4_hour_15 : decode cX4_hour 15 = .ok (.invokevirtual 103, 3) := by decide +kernel
theorem dX4_hour_18 : decode cX4_hour 18 = .ok (.ireturn, 1) := by decide +kernel
theorem dX4_bring_0 : decode cX4_bring 0 = .ok (.aload_n 0, 1) := by decide +kernel
theorem dX4_bring_1 : decode cX4_bring 1 = .ok (.getfield 19, 3) := by decide +kernel
theorem dX4_bring_4 : decode cX4_bring 4 = .ok (.iload_n 1, 1) := by decide +kernel
theorem dX4_bring_5 : decode cX4_bring 5 = .ok (.invokevirtual 71, 3) := by decide +kernel
theorem dX4_bring_8 : decode cX4_bring 8 = .ok (.ifCond .ne 5, 3) := by decide +kernel
theorem dX4_bring_11 : decode cX4_bring 11 = .ok (.iconst (-1), 1) := by decide +kernel
theorem dX4_bring_12 : decode cX4_bring 12 = .ok (.ireturn, 1) := by decide +kernel
theorem dX4_bring_13 : decode cX4_bring 13 = .ok (.iload_n 2, 1) := by decide +kernel
theorem dX4_bring_14 : decode cX4_bring 14 = .ok (.invokestatic 106, 3) := by decide +kernel
theorem dX4_bring_17 : decode cX4_bring 17 = .ok (.ifCond .ne 6, 3) := by decide +kernel
theorem dX4_bring_20 : decode cX4_bring 20 = .ok (.bipush (-2), 2) := by decide +kernel
theorem dX4_bring_22 : decode cX4_bring 22 = .ok (.ireturn, 1) := by decide +kernel
theorem dX4_bring_23 : decode cX4_bring 23 = .ok (.aload_n 0, 1) := by decide +kernel
theorem dX4_bring_24 : decode cX4_bring 24 = .ok (.getfield 19, 3) := by decide +kernel
theorem dX4_bring_27 : decode cX4_bring 27 = .ok (.iload_n 1, 1) := by decide +kernel
theorem dX4_bring_28 : decode cX4_bring 28 = .ok (.iload_n 2, 1) := by decide +kernel
theorem dX4_bring_29 : decode cX4_bring 29 = .ok (.invokevirtual 109, 3) := by decide +kernel
theorem dX4_bring_32 : decode cX4_bring 32 = .ok (.ifCond .ne 6, 3) := by decide +kernel
theorem dX4_bring_35 : decode cX4_bring 35 = .ok (.bipush (-4), 2) := by decide +kernel
theorem dX4_bring_37 : decode cX4_bring 37 = .ok (.ireturn, 1) := by decide +kernel
theorem dX4_bring_38 : decode cX4_bring 38 = .ok (.aload_n 0, 1) := by decide +kernel
theorem dX4_bring_39 : decode cX4_bring 39 = .ok (.getfield 29, 3) := by decide +kernel
theorem dX4_bring_42 : decode cX4_bring 42 = .ok (.aload_n 0, 1) := by decide +kernel
theorem dX4_bring_43 : decode cX4_bring 43 = .ok (.getfield 19, 3) := by decide +kernel
theorem dX4_bring_46 : decode cX4_bring 46 = .ok (.invokevirtual 99, 3) := by decide +kernel
theorem dX4_bring_49 : decode cX4_bring 49 = .ok (.aload_n 0, 1) := by decide +kernel
theorem dX4_bring_50 : decode cX4_bring 50 = .ok (.getfield 19, 3) := by decide +kernel
theorem dX4_bring_53 : decode cX4_bring 53 = .ok (.iload_n 1, 1) := by decide +kernel
theorem dX4_bring_54 : decode cX4_bring 54 = .ok (.iload_n 2, 1) := by decide +kernel
theorem dX4_bring_55 : decode cX4_bring 55 = .ok (.invokevirtual 113, 3) := by decide +kernel
theorem dX4_bring_58 : decode cX4_bring 58 = .ok (.pop, 1) := by decide +kernel
theorem dX4_bring_59 : decode cX4_bring 59 = .ok (.aload_n 0, 1) := by decide +kernel
theorem dX4_bring_60 : decode cX4_bring 60 = .ok (.getfield 19, 3) := by decide +kernel
theorem dX4_bring_63 : decode cX4_bring 63 = .ok (.iload_n 1, 1) := by decide +kernel
theorem dX4_bring_64 : decode cX4_bring 64 = .ok (.invokevirtual 78, 3) := by decide +kernel
theorem dX4_bring_67 : decode cX4_bring 67 = .ok (.ireturn, 1) := by decide +kernel
theorem dX4_take_0 : decode cX4_take 0 = .ok (.aload_n 0, 1) := by decide +kernel
theorem dX4_take_1 : decode cX4_take 1 = .ok (.getfield 19, 3) := by decide +kernel
theorem dX4_take_4 : decode cX4_take 4 = .ok (.iload_n 1, 1) := by decide +kernel
theorem dX4_take_5 : decode cX4_take 5 = .ok (.invokevirtual 71, 3) := by decide +kernel
theorem dX4_take_8 : decode cX4_take 8 = .ok (.ifCond .ne 5, 3) := by decide +kernel
theorem dX4_take_11 : decode cX4_take 11 = .ok (.iconst (-1), 1) := by decide +kernel
theorem dX4_take_12 : decode cX4_take 12 = .ok (.ireturn, 1) := by decide +kernel
theorem dX4_take_13 : decode cX4_take 13 = .ok (.iload_n 2, 1) := by decide +kernel
theorem dX4_take_14 : decode cX4_take 14 = .ok (.invokestatic 106, 3) := by decide +kernel
theorem dX4_take_17 : decode cX4_take 17 = .ok (.ifCond .ne 6, 3) := by decide +kernel
theorem dX4_take_20 : decode cX4_take 20 = .ok (.bipush (-2), 2) := by decide +kernel
theorem dX4_take_22 : decode cX4_take 22 = .ok (.ireturn, 1) := by decide +kernel
theorem dX4_take_23 : decode cX4_take 23 = .ok (.aload_n 0, 1) := by decide +kernel
theorem dX4_take_24 : decode cX4_take 24 = .ok (.getfield 19, 3) := by decide +kernel
theorem dX4_take_27 : decode cX4_take 27 = .ok (.iload_n 1, 1) := by decide +kernel
theorem dX4_take_28 : decode cX4_take 28 = .ok (.iload_n 2, 1) := by decide +kernel
theorem dX4_take_29 : decode cX4_take 29 = .ok (.invokevirtual 116, 3) := by decide +kernel
theorem dX4_take_32 : decode cX4_take 32 = .ok (.ifCond .ne 6, 3) := by decide +kernel
theorem dX4_take_35 : decode cX4_take 35 = .ok (.bipush (-3), 2) := by decide +kernel
theorem dX4_take_37 : decode cX4_take 37 = .ok (.ireturn, 1) := by decide +kernel
theorem dX4_take_38 : decode cX4_take 38 = .ok (.aload_n 0, 1) := by decide +kernel
theorem dX4_take_39 : decode cX4_take 39 = .ok (.getfield 29, 3) := by decide +kernel
theorem dX4_take_42 : decode cX4_take 42 = .ok (.aload_n 0, 1) := by decide +kernel
theorem dX4_take_43 : decode cX4_take 43 = .ok (.getfield 19, 3) := by decide +kernel
theorem dX4_take_46 : decode cX4_take 46 = .ok (.invokevirtual 99, 3) := by decide +kernel
theorem dX4_take_49 : decode cX4_take 49 = .ok (.aload_n 0, 1) := by decide +kernel
theorem dX4_take_50 : decode cX4_take 50 = .ok (.getfield 19, 3) := by decide +kernel
theorem dX4_take_53 : decode cX4_take 53 = .ok (.iload_n 1, 1) := by decide +kernel
theorem dX4_take_54 : decode cX4_take 54 = .ok (.iload_n 2, 1) := by decide +kernel
theorem dX4_take_55 : decode cX4_take 55 = .ok (.invokevirtual 119, 3) := by decide +kernel
theorem dX4_take_58 : decode cX4_take 58 = .ok (.pop, 1) := by decide +kernel
theorem dX4_take_59 : decode cX4_take 59 = .ok (.aload_n 0, 1) := by decide +kernel
theorem dX4_take_60 : decode cX4_take 60 = .ok (.getfield 19, 3) := by decide +kernel
theorem dX4_take_63 : decode cX4_take 63 = .ok (.iload_n 1, 1) := by decide +kernel
theorem dX4_take_64 : decode cX4_take 64 = .ok (.invokevirtual 78, 3) := by decide +kernel
theorem dX4_take_67 : decode cX4_take 67 = .ok (.ireturn, 1) := by decide +kernel
theorem dX4_deed_0 : decode cX4_deed 0 = .ok (.aload_n 0, 1) := by decide +kernel
theorem dX4_deed_1 : decode cX4_deed 1 = .ok (.getfield 19, 3) := by decide +kernel
theorem dX4_deed_4 : decode cX4_deed 4 = .ok (.iload_n 1, 1) := by decide +kernel
theorem dX4_deed_5 : decode cX4_deed 5 = .ok (.invokevirtual 71, 3) := by decide +kernel
theorem dX4_deed_8 : decode cX4_deed 8 = .ok (.ifCond .ne 5, 3) := by decide +kernel
theorem dX4_deed_11 : decode cX4_deed 11 = .ok (.iconst (-1), 1) := by decide +kernel
theorem dX4_deed_12 : decode cX4_deed 12 = .ok (.ireturn, 1) := by decide +kernel
theorem dX4_deed_13 : decode cX4_deed 13 = .ok (.iload_n 2, 1) := by decide +kernel
theorem dX4_deed_14 : decode cX4_deed 14 = .ok (.invokestatic 122, 3) := by decide +kernel
theorem dX4_deed_17 : decode cX4_deed 17 = .ok (.ifCond .ne 6, 3) := by decide +kernel
theorem dX4_deed_20 : decode cX4_deed 20 = .ok (.bipush (-2), 2) := by decide +kernel
theorem dX4_deed_22 : decode cX4_deed 22 = .ok (.ireturn, 1) := by decide +kernel
theorem dX4_deed_23 : decode cX4_deed 23 = .ok (.aload_n 0, 1) := by decide +kernel
theorem dX4_deed_24 : decode cX4_deed 24 = .ok (.getfield 19, 3) := by decide +kernel
theorem dX4_deed_27 : decode cX4_deed 27 = .ok (.iload_n 1, 1) := by decide +kernel
theorem dX4_deed_28 : decode cX4_deed 28 = .ok (.invokevirtual 84, 3) := by decide +kernel
theorem dX4_deed_31 : decode cX4_deed 31 = .ok (.istore_n 3, 1) := by decide +kernel
theorem dX4_deed_32 : decode cX4_deed 32 = .ok (.iload_n 3, 1) := by decide +kernel
theorem dX4_deed_33 : decode cX4_deed 33 = .ok (.iload_n 2, 1) := by decide +kernel
theorem dX4_deed_34 : decode cX4_deed 34 = .ok (.if_icmp .ne 6, 3) := by decide +kernel
theorem dX4_deed_37 : decode cX4_deed 37 = .ok (.bipush (-3), 2) := by decide +kernel
theorem dX4_deed_39 : decode cX4_deed 39 = .ok (.ireturn, 1) := by decide +kernel
theorem dX4_deed_40 : decode cX4_deed 40 = .ok (.aload_n 0, 1) := by decide +kernel
theorem dX4_deed_41 : decode cX4_deed 41 = .ok (.getfield 29, 3) := by decide +kernel
theorem dX4_deed_44 : decode cX4_deed 44 = .ok (.aload_n 0, 1) := by decide +kernel
theorem dX4_deed_45 : decode cX4_deed 45 = .ok (.getfield 19, 3) := by decide +kernel
theorem dX4_deed_48 : decode cX4_deed 48 = .ok (.invokevirtual 99, 3) := by decide +kernel
theorem dX4_deed_51 : decode cX4_deed 51 = .ok (.aload_n 0, 1) := by decide +kernel
theorem dX4_deed_52 : decode cX4_deed 52 = .ok (.getfield 19, 3) := by decide +kernel
theorem dX4_deed_55 : decode cX4_deed 55 = .ok (.iload_n 1, 1) := by decide +kernel
theorem dX4_deed_56 : decode cX4_deed 56 = .ok (.iload_n 2, 1) := by decide +kernel
theorem dX4_deed_57 : decode cX4_deed 57 = .ok (.invokevirtual 125, 3) := by decide +kernel
theorem dX4_deed_60 : decode cX4_deed 60 = .ok (.pop, 1) := by decide +kernel
theorem dX4_deed_61 : decode cX4_deed 61 = .ok (.iload_n 3, 1) := by decide +kernel
theorem dX4_deed_62 : decode cX4_deed 62 = .ok (.ireturn, 1) := by decide +kernel
theorem dX4_build_0 : decode cX4_build 0 = .ok (.aload_n 0, 1) := by decide +kernel
theorem dX4_build_1 : decode cX4_build 1 = .ok (.getfield 19, 3) := by decide +kernel
theorem dX4_build_4 : decode cX4_build 4 = .ok (.iload_n 1, 1) := by decide +kernel
theorem dX4_build_5 : decode cX4_build 5 = .ok (.invokevirtual 71, 3) := by decide +kernel
theorem dX4_build_8 : decode cX4_build 8 = .ok (.ifCond .ne 5, 3) := by decide +kernel
theorem dX4_build_11 : decode cX4_build 11 = .ok (.iconst (-1), 1) := by decide +kernel
theorem dX4_build_12 : decode cX4_build 12 = .ok (.ireturn, 1) := by decide +kernel
theorem dX4_build_13 : decode cX4_build 13 = .ok (.aload_n 0, 1) := by decide +kernel
theorem dX4_build_14 : decode cX4_build 14 = .ok (.getfield 19, 3) := by decide +kernel
theorem dX4_build_17 : decode cX4_build 17 = .ok (.iload_n 1, 1) := by decide +kernel
theorem dX4_build_18 : decode cX4_build 18 = .ok (.invokevirtual 87, 3) := by decide +kernel
theorem dX4_build_21 : decode cX4_build 21 = .ok (.ifCond .eq 6, 3) := by decide +kernel
theorem dX4_build_24 : decode cX4_build 24 = .ok (.bipush (-3), 2) := by decide +kernel
theorem dX4_build_26 : decode cX4_build 26 = .ok (.ireturn, 1) := by decide +kernel
theorem dX4_build_27 : decode cX4_build 27 = .ok (.aload_n 0, 1) := by decide +kernel
theorem dX4_build_28 : decode cX4_build 28 = .ok (.getfield 29, 3) := by decide +kernel
theorem dX4_build_31 : decode cX4_build 31 = .ok (.aload_n 0, 1) := by decide +kernel
theorem dX4_build_32 : decode cX4_build 32 = .ok (.getfield 19, 3) := by decide +kernel
theorem dX4_build_35 : decode cX4_build 35 = .ok (.invokevirtual 99, 3) := by decide +kernel
theorem dX4_build_38 : decode cX4_build 38 = .ok (.aload_n 0, 1) := by decide +kernel
theorem dX4_build_39 : decode cX4_build 39 = .ok (.getfield 19, 3) := by decide +kernel
theorem dX4_build_42 : decode cX4_build 42 = .ok (.iload_n 1, 1) := by decide +kernel
theorem dX4_build_43 : decode cX4_build 43 = .ok (.invokevirtual 128, 3) := by decide +kernel
theorem dX4_build_46 : decode cX4_build 46 = .ok (.pop, 1) := by decide +kernel
theorem dX4_build_47 : decode cX4_build 47 = .ok (.aload_n 0, 1) := by decide +kernel
theorem dX4_build_48 : decode cX4_build 48 = .ok (.getfield 19, 3) := by decide +kernel
theorem dX4_build_51 : decode cX4_build 51 = .ok (.iload_n 1, 1) := by decide +kernel
theorem dX4_build_52 : decode cX4_build 52 = .ok (.invokevirtual 78, 3) := by decide +kernel
theorem dX4_build_55 : decode cX4_build 55 = .ok (.ireturn, 1) := by decide +kernel
theorem dX4_undo_0 : decode cX4_undo 0 = .ok (.aload_n 0, 1) := by decide +kernel
theorem dX4_undo_1 : decode cX4_undo 1 = .ok (.getfield 29, 3) := by decide +kernel
theorem dX4_undo_4 : decode cX4_undo 4 = .ok (.invokevirtual 131, 3) := by decide +kernel
theorem dX4_undo_7 : decode cX4_undo 7 = .ok (.ifCond .ne 6, 3) := by decide +kernel
theorem dX4_undo_10 : decode cX4_undo 10 = .ok (.bipush (-3), 2) := by decide +kernel
theorem dX4_undo_12 : decode cX4_undo 12 = .ok (.ireturn, 1) := by decide +kernel
theorem dX4_undo_13 : decode cX4_undo 13 = .ok (.aload_n 0, 1) := by decide +kernel
theorem dX4_undo_14 : decode cX4_undo 14 = .ok (.getfield 29, 3) := by decide +kernel
theorem dX4_undo_17 : decode cX4_undo 17 = .ok (.aload_n 0, 1) := by decide +kernel
theorem dX4_undo_18 : decode cX4_undo 18 = .ok (.getfield 19, 3) := by decide +kernel
theorem dX4_undo_21 : decode cX4_undo 21 = .ok (.invokevirtual 132, 3) := by decide +kernel
theorem dX4_undo_24 : decode cX4_undo 24 = .ok (.aload_n 0, 1) := by decide +kernel
theorem dX4_undo_25 : decode cX4_undo 25 = .ok (.getfield 29, 3) := by decide +kernel
theorem dX4_undo_28 : decode cX4_undo 28 = .ok (.invokevirtual 131, 3) := by decide +kernel
theorem dX4_undo_31 : decode cX4_undo 31 = .ok (.ireturn, 1) := by decide +kernel
theorem dX4_later_0 : decode cX4_later 0 = .ok (.aload_n 0, 1) := by decide +kernel
theorem dX4_later_1 : decode cX4_later 1 = .ok (.getfield 19, 3) := by decide +kernel
theorem dX4_later_4 : decode cX4_later 4 = .ok (.iload_n 1, 1) := by decide +kernel
theorem dX4_later_5 : decode cX4_later 5 = .ok (.invokevirtual 71, 3) := by decide +kernel
theorem dX4_later_8 : decode cX4_later 8 = .ok (.ifCond .ne 5, 3) := by decide +kernel
theorem dX4_later_11 : decode cX4_later 11 = .ok (.iconst (-1), 1) := by decide +kernel
theorem dX4_later_12 : decode cX4_later 12 = .ok (.ireturn, 1) := by decide +kernel
theorem dX4_later_13 : decode cX4_later 13 = .ok (.iload_n 2, 1) := by decide +kernel
theorem dX4_later_14 : decode cX4_later 14 = .ok (.ifCond .lt 16, 3) := by decide +kernel
theorem dX4_later_17 : decode cX4_later 17 = .ok (.iload_n 2, 1) := by decide +kernel
theorem dX4_later_18 : decode cX4_later 18 = .ok (.bipush 30, 2) := by decide +kernel
theorem dX4_later_20 : decode cX4_later 20 = .ok (.if_icmp .gt 10, 3) := by decide +kernel
theorem dX4_later_23 : decode cX4_later 23 = .ok (.iload_n 3, 1) := by decide +kernel
theorem dX4_later_24 : decode cX4_later 24 = .ok (.invokestatic 135, 3) := by decide +kernel
theorem dX4_later_27 : decode cX4_later 27 = .ok (.ifCond .ne 6, 3) := by decide +kernel
theorem dX4_later_30 : decode cX4_later 30 = .ok (.bipush (-2), 2) := by decide +kernel
theorem dX4_later_32 : decode cX4_later 32 = .ok (.ireturn, 1) := by decide +kernel
theorem dX4_later_33 : decode cX4_later 33 = .ok (.aload_n 0, 1) := by decide +kernel
theorem dX4_later_34 : decode cX4_later 34 = .ok (.getfield 23, 3) := by decide +kernel
theorem dX4_later_37 : decode cX4_later 37 = .ok (.aload_n 0, 1) := by decide +kernel
theorem dX4_later_38 : decode cX4_later 38 = .ok (.getfield 19, 3) := by decide +kernel
theorem dX4_later_41 : decode cX4_later 41 = .ok (.invokevirtual 138, 3) := by decide +kernel
theorem dX4_later_44 : decode cX4_later 44 = .ok (.aload_n 0, 1) := by decide +kernel
theorem dX4_later_45 : decode cX4_later 45 = .ok (.getfield 23, 3) := by decide +kernel
theorem dX4_later_48 : decode cX4_later 48 = .ok (.iload_n 2, 1) := by decide +kernel
theorem dX4_later_49 : decode cX4_later 49 = .ok (.invokevirtual 141, 3) := by decide +kernel
theorem dX4_later_52 : decode cX4_later 52 = .ok (.iload_n 3, 1) := by decide +kernel
theorem dX4_later_53 : decode cX4_later 53 = .ok (.ifCond .ne 14, 3) := by decide +kernel
theorem dX4_later_56 : decode cX4_later 56 = .ok (.aload_n 0, 1) := by decide +kernel
theorem dX4_later_57 : decode cX4_later 57 = .ok (.getfield 23, 3) := by decide +kernel
theorem dX4_later_60 : decode cX4_later 60 = .ok (.iload_n 1, 1) := by decide +kernel
theorem dX4_later_61 : decode cX4_later 61 = .ok (.invokevirtual 90, 3) := by decide +kernel
theorem dX4_later_64 : decode cX4_later 64 = .ok (.goto 11, 3) := by decide +kernel
theorem dX4_later_67 : decode cX4_later 67 = .ok (.aload_n 0, 1) := by decide +kernel
theorem dX4_later_68 : decode cX4_later 68 = .ok (.getfield 23, 3) := by decide +kernel
theorem dX4_later_71 : decode cX4_later 71 = .ok (.iload_n 1, 1) := by decide +kernel
theorem dX4_later_72 : decode cX4_later 72 = .ok (.invokevirtual 96, 3) := by decide +kernel
theorem dX4_later_75 : decode cX4_later 75 = .ok (.ireturn, 1) := by decide +kernel
theorem dX4_standing_0 : decode cX4_standing 0 = .ok (.iload_n 1, 1) := by decide +kernel
theorem dX4_standing_1 : decode cX4_standing 1 = .ok (.ifCond .lt 9, 3) := by decide +kernel
theorem dX4_standing_4 : decode cX4_standing 4 = .ok (.iload_n 1, 1) := by decide +kernel
theorem dX4_standing_5 : decode cX4_standing 5 = .ok (.bipush 30, 2) := by decide +kernel
theorem dX4_standing_7 : decode cX4_standing 7 = .ok (.if_icmp .le 6, 3) := by decide +kernel
theorem dX4_standing_10 : decode cX4_standing 10 = .ok (.bipush (-2), 2) := by decide +kernel
theorem dX4_standing_12 : decode cX4_standing 12 = .ok (.ireturn, 1) := by decide +kernel
theorem dX4_standing_13 : decode cX4_standing 13 = .ok (.aload_n 0, 1) := by decide +kernel
theorem dX4_standing_14 : decode cX4_standing 14 = .ok (.getfield 23, 3) := by decide +kernel
theorem dX4_standing_17 : decode cX4_standing 17 = .ok (.aload_n 0, 1) := by decide +kernel
theorem dX4_standing_18 : decode cX4_standing 18 = .ok (.getfield 19, 3) := by decide +kernel
theorem dX4_standing_21 : decode cX4_standing 21 = .ok (.invokevirtual 138, 3) := by decide +kernel
theorem dX4_standing_24 : decode cX4_standing 24 = .ok (.aload_n 0, 1) := by decide +kernel
theorem dX4_standing_25 : decode cX4_standing 25 = .ok (.getfield 23, 3) := by decide +kernel
theorem dX4_standing_28 : decode cX4_standing 28 = .ok (.iload_n 1, 1) := by decide +kernel
theorem dX4_standing_29 : decode cX4_standing 29 = .ok (.invokevirtual 141, 3) := by decide +kernel
theorem dX4_standing_32 : decode cX4_standing 32 = .ok (.aload_n 0, 1) := by decide +kernel
theorem dX4_standing_33 : decode cX4_standing 33 = .ok (.getfield 23, 3) := by decide +kernel
theorem dX4_standing_36 : decode cX4_standing 36 = .ok (.invokevirtual 145, 3) := by decide +kernel
theorem dX4_standing_39 : decode cX4_standing 39 = .ok (.ireturn, 1) := by decide +kernel
theorem dX4_falls_0 : decode cX4_falls 0 = .ok (.aload_n 0, 1) := by decide +kernel
theorem dX4_falls_1 : decode cX4_falls 1 = .ok (.getfield 19, 3) := by decide +kernel
theorem dX4_falls_4 : decode cX4_falls 4 = .ok (.iload_n 1, 1) := by decide +kernel
theorem dX4_falls_5 : decode cX4_falls 5 = .ok (.invokevirtual 71, 3) := by decide +kernel
theorem dX4_falls_8 : decode cX4_falls 8 = .ok (.ifCond .ne 5, 3) := by decide +kernel
theorem dX4_falls_11 : decode cX4_falls 11 = .ok (.iconst (-1), 1) := by decide +kernel
theorem dX4_falls_12 : decode cX4_falls 12 = .ok (.ireturn, 1) := by decide +kernel
theorem dX4_falls_13 : decode cX4_falls 13 = .ok (.aload_n 0, 1) := by decide +kernel
theorem dX4_falls_14 : decode cX4_falls 14 = .ok (.getfield 19, 3) := by decide +kernel
theorem dX4_falls_17 : decode cX4_falls 17 = .ok (.iload_n 1, 1) := by decide +kernel
theorem dX4_falls_18 : decode cX4_falls 18 = .ok (.invokevirtual 87, 3) := by decide +kernel
theorem dX4_falls_21 : decode cX4_falls 21 = .ok (.ifCond .ne 6, 3) := by decide +kernel
theorem dX4_falls_24 : decode cX4_falls 24 = .ok (.bipush (-3), 2) := by decide +kernel
theorem dX4_falls_26 : decode cX4_falls 26 = .ok (.ireturn, 1) := by decide +kernel
theorem dX4_falls_27 : decode cX4_falls 27 = .ok (.aload_n 0, 1) := by decide +kernel
theorem dX4_falls_28 : decode cX4_falls 28 = .ok (.getfield 23, 3) := by decide +kernel
theorem dX4_falls_31 : decode cX4_falls 31 = .ok (.aload_n 0, 1) := by decide +kernel
theorem dX4_falls_32 : decode cX4_falls 32 = .ok (.getfield 19, 3) := by decide +kernel
theorem dX4_falls_35 : decode cX4_falls 35 = .ok (.invokevirtual 138, 3) := by decide +kernel
theorem dX4_falls_38 : decode cX4_falls 38 = .ok (.iconst 1, 1) := by decide +kernel
theorem dX4_falls_39 : decode cX4_falls 39 = .ok (.istore_n 2, 1) := by decide +kernel
theorem dX4_falls_40 : decode cX4_falls 40 = .ok (.iload_n 2, 1) := by decide +kernel
theorem dX4_falls_41 : decode cX4_falls 41 = .ok (.bipush 30, 2) := by decide +kernel
theorem dX4_falls_43 : decode cX4_falls 43 = .ok (.if_icmp .gt 30, 3) := by decide +kernel
theorem dX4_falls_46 : decode cX4_falls 46 = .ok (.aload_n 0, 1) := by decide +kernel
theorem dX4_falls_47 : decode cX4_falls 47 = .ok (.getfield 23, 3) := by decide +kernel
theorem dX4_falls_50 : decode cX4_falls 50 = .ok (.invokevirtual 103, 3) := by decide +kernel
theorem dX4_falls_53 : decode cX4_falls 53 = .ok (.pop, 1) := by decide +kernel
theorem dX4_falls_54 : decode cX4_falls 54 = .ok (.aload_n 0, 1) := by decide +kernel
theorem dX4_falls_55 : decode cX4_falls 55 = .ok (.getfield 23, 3) := by decide +kernel
theorem dX4_falls_58 : decode cX4_falls 58 = .ok (.iload_n 1, 1) := by decide +kernel
theorem dX4_falls_59 : decode cX4_falls 59 = .ok (.invokevirtual 87, 3) := by decide +kernel
theorem dX4_falls_62 : decode cX4_falls 62 = .ok (.ifCond .ne 5, 3) := by decide +kernel
theorem dX4_falls_65 : decode cX4_falls 65 = .ok (.iload_n 2, 1) := by decide +kernel
theorem dX4_falls_66 : decode cX4_falls 66 = .ok (.ireturn, 1) := by decide +kernel
theorem dX4_falls_67 : decode cX4_falls 67 = .ok (.iinc 2 1, 3) := by decide +kernel
theorem dX4_falls_70 : decode cX4_falls 70 = .ok (.goto (-30), 3) := by decide +kernel
theorem dX4_falls_73 : decode cX4_falls 73 = .ok (.bipush (-9), 2) := by decide +kernel
theorem dX4_falls_75 : decode cX4_falls 75 = .ok (.ireturn, 1) := by decide +kernel
theorem dX4_rings_0 : decode cX4_rings 0 = .ok (.aload_n 0, 1) := by decide +kernel
theorem dX4_rings_1 : decode cX4_rings 1 = .ok (.getfield 19, 3) := by decide +kernel
theorem dX4_rings_4 : decode cX4_rings 4 = .ok (.invokevirtual 148, 3) := by decide +kernel
theorem dX4_rings_7 : decode cX4_rings 7 = .ok (.ireturn, 1) := by decide +kernel
theorem dX4_orders_0 : decode cX4_orders 0 = .ok (.iload_n 1, 1) := by decide +kernel
theorem dX4_orders_1 : decode cX4_orders 1 = .ok (.iconst 1, 1) := by decide +kernel
theorem dX4_orders_2 : decode cX4_orders 2 = .ok (.if_icmp .lt 25, 3) := by decide +kernel
theorem dX4_orders_5 : decode cX4_orders 5 = .ok (.iload_n 1, 1) := by decide +kernel
theorem dX4_orders_6 : decode cX4_orders 6 = .ok (.iconst 4, 1) := by decide +kernel
theorem dX4_orders_7 : decode cX4_orders 7 = .ok (.if_icmp .gt 20, 3) := by decide +kernel
theorem dX4_orders_10 : decode cX4_orders 10 = .ok (.iload 4, 2) := by decide +kernel
theorem dX4_orders_12 : decode cX4_orders 12 = .ok (.invokestatic 135, 3) := by decide +kernel
theorem dX4_orders_15 : decode cX4_orders 15 = .ok (.ifCond .eq 12, 3) := by decide +kernel
theorem dX4_orders_18 : decode cX4_orders 18 = .ok (.aload_n 0, 1) := by decide +kernel
theorem dX4_orders_19 : decode cX4_orders 19 = .ok (.iload_n 1, 1) := by decide +kernel
theorem dX4_orders_20 : decode cX4_orders 20 = .ok (.lload_n 2, 1) := by decide +kernel
theorem dX4_orders_21 : decode cX4_orders 21 = .ok (.invokevirtual 151, 3) := by decide +kernel
theorem dX4_orders_24 : decode cX4_orders 24 = .ok (.ifCond .ne 6, 3) := by decide +kernel
theorem dX4_orders_27 : decode cX4_orders 27 = .ok (.bipush (-2), 2) := by decide +kernel
theorem dX4_orders_29 : decode cX4_orders 29 = .ok (.ireturn, 1) := by decide +kernel
theorem dX4_orders_30 : decode cX4_orders 30 = .ok (.iconst 0, 1) := by decide +kernel
theorem dX4_orders_31 : decode cX4_orders 31 = .ok (.istore 5, 2) := by decide +kernel
theorem dX4_orders_33 : decode cX4_orders 33 = .ok (.bipush (-9), 2) := by decide +kernel
theorem dX4_orders_35 : decode cX4_orders 35 = .ok (.istore 6, 2) := by decide +kernel
theorem dX4_orders_37 : decode cX4_orders 37 = .ok (.iconst 0, 1) := by decide +kernel
theorem dX4_orders_38 : decode cX4_orders 38 = .ok (.istore 7, 2) := by decide +kernel
theorem dX4_orders_40 : decode cX4_orders 40 = .ok (.iload 7, 2) := by decide +kernel
theorem dX4_orders_42 : decode cX4_orders 42 = .ok (.iconst 1, 1) := by decide +kernel
theorem dX4_orders_43 : decode cX4_orders 43 = .ok (.iconst 2, 1) := by decide +kernel
theorem dX4_orders_44 : decode cX4_orders 44 = .ok (.iload_n 1, 1) := by decide +kernel
theorem dX4_orders_45 : decode cX4_orders 45 = .ok (.imul, 1) := by decide +kernel
theorem dX4_orders_46 : decode cX4_orders 46 = .ok (.ishl, 1) := by decide +kernel
theorem dX4_orders_47 : decode cX4_orders 47 = .ok (.if_icmp .ge 52, 3) := by decide +kernel
theorem dX4_orders_50 : decode cX4_orders 50 = .ok (.iload_n 1, 1) := by decide +kernel
theorem dX4_orders_51 : decode cX4_orders 51 = .ok (.iload 7, 2) := by decide +kernel
theorem dX4_orders_53 : decode cX4_orders 53 = .ok (.invokestatic 155, 3) := by decide +kernel
theorem dX4_orders_56 : decode cX4_orders 56 = .ok (.ifCond .eq 37, 3) := by decide +kernel
theorem dX4_orders_59 : decode cX4_orders 59 = .ok (.aload_n 0, 1) := by decide +kernel
theorem dX4_orders_60 : decode cX4_orders 60 = .ok (.iload_n 1, 1) := by decide +kernel
theorem dX4_orders_61 : decode cX4_orders 61 = .ok (.lload_n 2, 1) := by decide +kernel
theorem dX4_orders_62 : decode cX4_orders 62 = .ok (.iload 7, 2) := by decide +kernel
theorem dX4_orders_64 : decode cX4_orders 64 = .ok (.invokevirtual 158, 3) := by decide +kernel
theorem dX4_orders_67 : decode cX4_orders 67 = .ok (.ifCond .eq 26, 3) := by decide +kernel
theorem dX4_orders_70 : decode cX4_orders 70 = .ok (.iinc 5 1, 3) := by decide +kernel
theorem dX4_orders_73 : decode cX4_orders 73 = .ok (.iload 6, 2) := by decide +kernel
theorem dX4_orders_75 : decode cX4_orders 75 = .ok (.bipush (-9), 2) := by decide +kernel
theorem dX4_orders_77 : decode cX4_orders 77 = .ok (.if_icmp .ne 12, 3) := by decide +kernel
theorem dX4_orders_80 : decode cX4_orders 80 = .ok (.iload_n 1, 1) := by decide +kernel
theorem dX4_orders_81 : decode cX4_orders 81 = .ok (.iload 7, 2) := by decide +kernel
theorem dX4_orders_83 : decode cX4_orders 83 = .ok (.invokestatic 162, 3) := by decide +kernel
theorem dX4_orders_86 : decode cX4_orders 86 = .ok (.goto 5, 3) := by decide +kernel
theorem dX4_orders_89 : decode cX4_orders 89 = .ok (.iload 6, 2) := by decide +kernel
theorem dX4_orders_91 : decode cX4_orders 91 = .ok (.istore 6, 2) := by decide +kernel
theorem dX4_orders_93 : decode cX4_orders 93 = .ok (.iinc 7 1, 3) := by decide +kernel
theorem dX4_orders_96 : decode cX4_orders 96 = .ok (.goto (-56), 3) := by decide +kernel
theorem dX4_orders_99 : decode cX4_orders 99 = .ok (.iload 4, 2) := by decide +kernel
theorem dX4_orders_101 : decode cX4_orders 101 = .ok (.ifCond .ne 8, 3) := by decide +kernel
theorem dX4_orders_104 : decode cX4_orders 104 = .ok (.iload 5, 2) := by decide +kernel
theorem dX4_orders_106 : decode cX4_orders 106 = .ok (.goto 5, 3) := by decide +kernel
theorem dX4_orders_109 : decode cX4_orders 109 = .ok (.iload 6, 2) := by decide +kernel
theorem dX4_orders_111 : decode cX4_orders 111 = .ok (.ireturn, 1) := by decide +kernel
theorem dX4_areMoves_0 : decode cX4_areMoves 0 = .ok (.iconst 3, 1) := by decide +kernel
theorem dX4_areMoves_1 : decode cX4_areMoves 1 = .ok (.iload_n 1, 1) := by decide +kernel
theorem dX4_areMoves_2 : decode cX4_areMoves 2 = .ok (.imul, 1) := by decide +kernel
theorem dX4_areMoves_3 : decode cX4_areMoves 3 = .ok (.istore 4, 2) := by decide +kernel
theorem dX4_areMoves_5 : decode cX4_areMoves 5 = .ok (.lload_n 2, 1) := by decide +kernel
theorem dX4_areMoves_6 : decode cX4_areMoves 6 = .ok (.iload 4, 2) := by decide +kernel
theorem dX4_areMoves_8 : decode cX4_areMoves 8 = .ok (.invokestatic 166, 3) := by decide +kernel
theorem dX4_areMoves_11 : decode cX4_areMoves 11 = .ok (.ifCond .ne 5, 3) := by decide +kernel
theorem dX4_areMoves_14 : decode cX4_areMoves 14 = .ok (.iconst 0, 1) := by decide +kernel
theorem dX4_areMoves_15 : decode cX4_areMoves 15 = .ok (.ireturn, 1) := by decide +kernel
theorem dX4_areMoves_16 : decode cX4_areMoves 16 = .ok (.iconst 0, 1) := by decide +kernel
theorem dX4_areMoves_17 : decode cX4_areMoves 17 = .ok (.istore 5, 2) := by decide +kernel
theorem dX4_areMoves_19 : decode cX4_areMoves 19 = .ok (.iload 5, 2) := by decide +kernel
theorem dX4_areMoves_21 : decode cX4_areMoves 21 = .ok (.iload 4, 2) := by decide +kernel
theorem dX4_areMoves_23 : decode cX4_areMoves 23 = .ok (.if_icmp .ge 73, 3) := by decide +kernel
theorem dX4_areMoves_26 : decode cX4_areMoves 26 = .ok (.aload_n 0, 1) := by decide +kernel
theorem dX4_areMoves_27 : decode cX4_areMoves 27 = .ok (.getfield 19, 3) := by decide +kernel
theorem dX4_areMoves_30 : decode cX4_areMoves 30 = .ok (.lload_n 2, 1) := by decide +kernel
theorem dX4_areMoves_31 : decode cX4_areMoves 31 = .ok (.iload 4, 2) := by decide +kernel
theorem dX4_areMoves_33 : decode cX4_areMoves 33 = .ok (.iload 5, 2) := by decide +kernel
theorem dX4_areMoves_35 : decode cX4_areMoves 35 = .ok (.invokestatic 170, 3) := by decide +kernel
theorem dX4_areMoves_38 : decode cX4_areMoves 38 = .ok (.invokevirtual 71, 3) := by decide +kernel
theorem dX4_areMoves_41 : decode cX4_areMoves 41 = .ok (.ifCond .eq 39, 3) := by decide +kernel
theorem dX4_areMoves_44 : decode cX4_areMoves 44 = .ok (.lload_n 2, 1) := by decide +kernel
theorem dX4_areMoves_45 : decode cX4_areMoves 45 = .ok (.iload 4, 2) := by decide +kernel
theorem dX4_areMoves_47 : decode cX4_areMoves 47 = .ok (.iload 5, 2) := by decide +kernel
theorem dX4_areMoves_49 : decode cX4_areMoves 49 = .ok (.iconst 1, 1) := by decide +kernel
theorem dX4_areMoves_50 : decode cX4_areMoves 50 = .ok (.iadd, 1) := by decide +kernel
theorem dX4_areMoves_51 : decode cX4_areMoves 51 = .ok (.invokestatic 170, 3) := by decide +kernel
theorem dX4_areMoves_54 : decode cX4_areMoves 54 = .ok (.invokestatic 135, 3) := by decide +kernel
theorem dX4_areMoves_57 : decode cX4_areMoves 57 = .ok (.ifCond .eq 23, 3) := by decide +kernel
theorem dX4_areMoves_60 : decode cX4_areMoves 60 = .ok (.lload_n 2, 1) := by decide +kernel
theorem dX4_areMoves_61 : decode cX4_areMoves 61 = .ok (.iload 4, 2) := by decide +kernel
theorem dX4_areMoves_63 : decode cX4_areMoves 63 = .ok (.iload 5, 2) := by decide +kernel
theorem dX4_areMoves_65 : decode cX4_areMoves 65 = .ok (.iconst 2, 1) := by decide +kernel
theorem dX4_areMoves_66 : decode cX4_areMoves 66 = .ok (.iadd, 1) := by decide +kernel
theorem dX4_areMoves_67 : decode cX4_areMoves 67 = .ok (.invokestatic 170, 3) := by decide +kernel
theorem dX4_areMoves_70 : decode cX4_areMoves 70 = .ok (.invokestatic 106, 3) := by decide +kernel
theorem dX4_areMoves_73 : decode cX4_areMoves 73 = .ok (.ifCond .eq 7, 3) := by decide +kernel
theorem dX4_areMoves_76 : decode cX4_areMoves 76 = .ok (.iconst 1, 1) := by decide +kernel
theorem dX4_areMoves_77 : decode cX4_areMoves 77 = .ok (.goto 4, 3) := by decide +kernel
theorem dX4_areMoves_80 : decode cX4_areMoves 80 = .ok (.iconst 0, 1) := by decide +kernel
theorem dX4_areMoves_81 : decode cX4_areMoves 81 = .ok (.istore 6, 2) := by decide +kernel
theorem dX4_areMoves_83 : decode cX4_areMoves 83 = .ok (.iload 6, 2) := by decide +kernel
theorem dX4_areMoves_85 : decode cX4_areMoves 85 = .ok (.ifCond .ne 5, 3) := by decide +kernel
theorem dX4_areMoves_88 : decode cX4_areMoves 88 = .ok (.iconst 0, 1) := by decide +kernel
theorem dX4_areMoves_89 : decode cX4_areMoves 89 = .ok (.ireturn, 1) := by decide +kernel
theorem dX4_areMoves_90 : decode cX4_areMoves 90 = .ok (.iinc 5 3, 3) := by decide +kernel
theorem dX4_areMoves_93 : decode cX4_areMoves 93 = .ok (.goto (-74), 3) := by decide +kernel
theorem dX4_areMoves_96 : decode cX4_areMoves 96 = .ok (.iconst 1, 1) := by decide +kernel
theorem dX4_areMoves_97 : decode cX4_areMoves 97 = .ok (.ireturn, 1) := by decide +kernel
theorem dX4_moveAt_0 : decode cX4_moveAt 0 = .ok (.iload_n 1, 1) := by decide +kernel
theorem dX4_moveAt_1 : decode cX4_moveAt 1 = .ok (.iconst 2, 1) := by decide +kernel
theorem dX4_moveAt_2 : decode cX4_moveAt 2 = .ok (.iload_n 0, 1) := by decide +kernel
theorem dX4_moveAt_3 : decode cX4_moveAt 3 = .ok (.iconst 1, 1) := by decide +kernel
theorem dX4_moveAt_4 : decode cX4_moveAt 4 = .ok (.isub, 1) := by decide +kernel
theorem dX4_moveAt_5 : decode cX4_moveAt 5 = .ok (.iload_n 2, 1) := by decide +kernel
theorem dX4_moveAt_6 : decode cX4_moveAt 6 = .ok (.isub, 1) := by decide +kernel
theorem dX4_moveAt_7 : decode cX4_moveAt 7 = .ok (.imul, 1) := by decide +kernel
theorem dX4_moveAt_8 : decode cX4_moveAt 8 = .ok (.ishr, 1) := by decide +kernel
theorem dX4_moveAt_9 : decode cX4_moveAt 9 = .ok (.iconst 3, 1) := by decide +kernel
theorem dX4_moveAt_10 : decode cX4_moveAt 10 = .ok (.iand, 1) := by decide +kernel
theorem dX4_moveAt_11 : decode cX4_moveAt 11 = .ok (.ireturn, 1) := by decide +kernel
theorem dX4_isOrder_0 : decode cX4_isOrder 0 = .ok (.iconst 0, 1) := by decide +kernel
theorem dX4_isOrder_1 : decode cX4_isOrder 1 = .ok (.istore_n 2, 1) := by decide +kernel
theorem dX4_isOrder_2 : decode cX4_isOrder 2 = .ok (.iconst 0, 1) := by decide +kernel
theorem dX4_isOrder_3 : decode cX4_isOrder 3 = .ok (.istore_n 3, 1) := by decide +kernel
theorem dX4_isOrder_4 : decode cX4_isOrder 4 = .ok (.iload_n 3, 1) := by decide +kernel
theorem dX4_isOrder_5 : decode cX4_isOrder 5 = .ok (.iload_n 0, 1) := by decide +kernel
theorem dX4_isOrder_6 : decode cX4_isOrder 6 = .ok (.if_icmp .ge 20, 3) := by decide +kernel
theorem dX4_isOrder_9 : decode cX4_isOrder 9 = .ok (.iload_n 2, 1) := by decide +kernel
theorem dX4_isOrder_10 : decode cX4_isOrder 10 = .ok (.iconst 1, 1) := by decide +kernel
theorem dX4_isOrder_11 : decode cX4_isOrder 11 = .ok (.iload_n 0, 1) := by decide +kernel
theorem dX4_isOrder_12 : decode cX4_isOrder 12 = .ok (.iload_n 1, 1) := by decide +kernel
theorem dX4_isOrder_13 : decode cX4_isOrder 13 = .ok (.iload_n 3, 1) := by decide +kernel
theorem dX4_isOrder_14 : decode cX4_isOrder 14 = .ok (.invokestatic 174, 3) := by decide +kernel
theorem dX4_isOrder_17 : decode cX4_isOrder 17 = .ok (.ishl, 1) := by decide +kernel
theorem dX4_isOrder_18 : decode cX4_isOrder 18 = .ok (.ior, 1) := by decide +kernel
theorem dX4_isOrder_19 : decode cX4_isOrder 19 = .ok (.istore_n 2, 1) := by decide +kernel
theorem dX4_isOrder_20 : decode cX4_isOrder 20 = .ok (.iinc 3 1, 3) := by decide +kernel
theorem dX4_isOrder_23 : decode cX4_isOrder 23 = .ok (.goto (-19), 3) := by decide +kernel
theorem dX4_isOrder_26 : decode cX4_isOrder 26 = .ok (.iload_n 2, 1) := by decide +kernel
theorem dX4_isOrder_27 : decode cX4_isOrder 27 = .ok (.iconst 1, 1) := by decide +kernel
theorem dX4_isOrder_28 : decode cX4_isOrder 28 = .ok (.iload_n 0, 1) := by decide +kernel
theorem dX4_isOrder_29 : decode cX4_isOrder 29 = .ok (.ishl, 1) := by decide +kernel
theorem dX4_isOrder_30 : decode cX4_isOrder 30 = .ok (.iconst 1, 1) := by decide +kernel
theorem dX4_isOrder_31 : decode cX4_isOrder 31 = .ok (.isub, 1) := by decide +kernel
theorem dX4_isOrder_32 : decode cX4_isOrder 32 = .ok (.if_icmp .ne 7, 3) := by decide +kernel
theorem dX4_isOrder_35 : decode cX4_isOrder 35 = .ok (.iconst 1, 1) := by decide +kernel
theorem dX4_isOrder_36 : decode cX4_isOrder 36 = .ok (.goto 4, 3) := by decide +kernel
theorem dX4_isOrder_39 : decode cX4_isOrder 39 = .ok (.iconst 0, 1) := by decide +kernel
theorem dX4_isOrder_40 : decode cX4_isOrder 40 = .ok (.ireturn, 1) := by decide +kernel
theorem dX4_orderNumber_0 : decode cX4_orderNumber 0 = .ok (.iconst 0, 1) := by decide +kernel
theorem dX4_orderNumber_1 : decode cX4_orderNumber 1 = .ok (.istore_n 2, 1) := by decide +kernel
theorem dX4_orderNumber_2 : decode cX4_orderNumber 2 = .ok (.iconst 0, 1) := by decide +kernel
theorem dX4_orderNumber_3 : decode cX4_orderNumber 3 = .ok (.istore_n 3, 1) := by decide +kernel
theorem dX4_orderNumber_4 : decode cX4_orderNumber 4 = .ok (.iload_n 3, 1) := by decide +kernel
theorem dX4_orderNumber_5 : decode cX4_orderNumber 5 = .ok (.iload_n 0, 1) := by decide +kernel
theorem dX4_orderNumber_6 : decode cX4_orderNumber 6 = .ok (.if_icmp .ge 23, 3) := by decide +kernel
theorem dX4_orderNumber_9 : decode cX4_orderNumber 9 = .ok (.bipush 10, 2) := by decide +kernel
theorem dX4_orderNumber_11 : decode cX4_orderNumber 11 = .ok (.iload_n 2, 1) := by decide +kernel
theorem dX4_orderNumber_12 : decode cX4_orderNumber 12 = .ok (.imul, 1) := by decide +kernel
theorem dX4_orderNumber_13 : decode cX4_orderNumber 13 = .ok (.iload_n 0, 1) := by decide +kernel
theorem dX4_orderNumber_14 : decode cX4_orderNumber 14 = .ok (.iload_n 1, 1) := by decide +kernel
theorem dX4_orderNumber_15 : decode cX4_orderNumber 15 = .ok (.iload_n 3, 1) := by decide +kernel
theorem dX4_orderNumber_16 : decode cX4_orderNumber 16 = .ok (.invokestatic 174, 3) := by decide +kernel
theorem dX4_orderNumber_19 : decode cX4_orderNumber 19 = .ok (.iadd, 1) := by decide +kernel
theorem dX4_orderNumber_20 : decode cX4_orderNumber 20 = .ok (.iconst 1, 1) := by decide +kernel
theorem dX4_orderNumber_21 : decode cX4_orderNumber 21 = .ok (.iadd, 1) := by decide +kernel
theorem dX4_orderNumber_22 : decode cX4_orderNumber 22 = .ok (.istore_n 2, 1) := by decide +kernel
theorem dX4_orderNumber_23 : decode cX4_orderNumber 23 = .ok (.iinc 3 1, 3) := by decide +kernel
theorem dX4_orderNumber_26 : decode cX4_orderNumber 26 = .ok (.goto (-22), 3) := by decide +kernel
theorem dX4_orderNumber_29 : decode cX4_orderNumber 29 = .ok (.iload_n 2, 1) := by decide +kernel
theorem dX4_orderNumber_30 : decode cX4_orderNumber 30 = .ok (.ireturn, 1) := by decide +kernel
theorem dX4_isSafeOrder_0 : decode cX4_isSafeOrder 0 = .ok (.aload_n 0, 1) := by decide +kernel
theorem dX4_isSafeOrder_1 : decode cX4_isSafeOrder 1 = .ok (.getfield 23, 3) := by decide +kernel
theorem dX4_isSafeOrder_4 : decode cX4_isSafeOrder 4 = .ok (.aload_n 0, 1) := by decide +kernel
theorem dX4_isSafeOrder_5 : decode cX4_isSafeOrder 5 = .ok (.getfield 19, 3) := by decide +kernel
theorem dX4_isSafeOrder_8 : decode cX4_isSafeOrder 8 = .ok (.invokevirtual 138, 3) := by decide +kernel
theorem dX4_isSafeOrder_11 : decode cX4_isSafeOrder 11 = .ok (.iconst 0, 1) := by decide +kernel
theorem dX4_isSafeOrder_12 : decode cX4_isSafeOrder 12 = .ok (.istore 5, 2) := by decide +kernel
theorem dX4_isSafeOrder_14 : decode cX4_isSafeOrder 14 = .ok (.iload 5, 2) := by decide +kernel
theorem dX4_isSafeOrder_16 : decode cX4_isSafeOrder 16 = .ok (.iload_n 1, 1) := by decide +kernel
theorem dX4_isSafeOrder_17 : decode cX4_isSafeOrder 17 = .ok (.if_icmp .ge 38, 3) := by decide +kernel
theorem dX4_isSafeOrder_20 : decode cX4_isSafeOrder 20 = .ok (.aload_n 0, 1) := by decide +kernel
theorem dX4_isSafeOrder_21 : decode cX4_isSafeOrder 21 = .ok (.iload_n 1, 1) := by decide +kernel
theorem dX4_isSafeOrder_22 : decode cX4_isSafeOrder 22 = .ok (.lload_n 2, 1) := by decide +kernel
theorem dX4_isSafeOrder_23 : decode cX4_isSafeOrder 23 = .ok (.iload_n 1, 1) := by decide +kernel
theorem dX4_isSafeOrder_24 : decode cX4_isSafeOrder 24 = .ok (.iload 4, 2) := by decide +kernel
theorem dX4_isSafeOrder_26 : decode cX4_isSafeOrder 26 = .ok (.iload 5, 2) := by decide +kernel
theorem dX4_isSafeOrder_28 : decode cX4_isSafeOrder 28 = .ok (.invokestatic 174, 3) := by decide +kernel
theorem dX4_isSafeOrder_31 : decode cX4_isSafeOrder 31 = .ok (.invokevirtual 178, 3) := by decide +kernel
theorem dX4_isSafeOrder_34 : decode cX4_isSafeOrder 34 = .ok (.ifCond .eq 13, 3) := by decide +kernel
theorem dX4_isSafeOrder_37 : decode cX4_isSafeOrder 37 = .ok (.aload_n 0, 1) := by decide +kernel
theorem dX4_isSafeOrder_38 : decode cX4_isSafeOrder 38 = .ok (.getfield 23, 3) := by decide +kernel
theorem dX4_isSafeOrder_41 : decode cX4_isSafeOrder 41 = .ok (.invokevirtual 103, 3) := by decide +kernel
theorem dX4_isSafeOrder_44 : decode cX4_isSafeOrder 44 = .ok (.ifCond .le 5, 3) := by decide +kernel
theorem dX4_isSafeOrder_47 : decode cX4_isSafeOrder 47 = .ok (.iconst 0, 1) := by decide +kernel
theorem dX4_isSafeOrder_48 : decode cX4_isSafeOrder 48 = .ok (.ireturn, 1) := by decide +kernel
theorem dX4_isSafeOrder_49 : decode cX4_isSafeOrder 49 = .ok (.iinc 5 1, 3) := by decide +kernel
theorem dX4_isSafeOrder_52 : decode cX4_isSafeOrder 52 = .ok (.goto (-38), 3) := by decide +kernel
theorem dX4_isSafeOrder_55 : decode cX4_isSafeOrder 55 = .ok (.iconst 1, 1) := by decide +kernel
theorem dX4_isSafeOrder_56 : decode cX4_isSafeOrder 56 = .ok (.ireturn, 1) := by decide +kernel
theorem dX4_canMove_0 : decode cX4_canMove 0 = .ok (.iconst 3, 1) := by decide +kernel
theorem dX4_canMove_1 : decode cX4_canMove 1 = .ok (.iload_n 1, 1) := by decide +kernel
theorem dX4_canMove_2 : decode cX4_canMove 2 = .ok (.imul, 1) := by decide +kernel
theorem dX4_canMove_3 : decode cX4_canMove 3 = .ok (.istore 5, 2) := by decide +kernel
theorem dX4_canMove_5 : decode cX4_canMove 5 = .ok (.iconst 3, 1) := by decide +kernel
theorem dX4_canMove_6 : decode cX4_canMove 6 = .ok (.iload 4, 2) := by decide +kernel
theorem dX4_canMove_8 : decode cX4_canMove 8 = .ok (.imul, 1) := by decide +kernel
theorem dX4_canMove_9 : decode cX4_canMove 9 = .ok (.istore 6, 2) := by decide +kernel
theorem dX4_canMove_11 : decode cX4_canMove 11 = .ok (.lload_n 2, 1) := by decide +kernel
theorem dX4_canMove_12 : decode cX4_canMove 12 = .ok (.iload 5, 2) := by decide +kernel
theorem dX4_canMove_14 : decode cX4_canMove 14 = .ok (.iload 6, 2) := by decide +kernel
theorem dX4_canMove_16 : decode cX4_canMove 16 = .ok (.invokestatic 170, 3) := by decide +kernel
theorem dX4_canMove_19 : decode cX4_canMove 19 = .ok (.istore 7, 2) := by decide +kernel
theorem dX4_canMove_21 : decode cX4_canMove 21 = .ok (.lload_n 2, 1) := by decide +kernel
theorem dX4_canMove_22 : decode cX4_canMove 22 = .ok (.iload 5, 2) := by decide +kernel
theorem dX4_canMove_24 : decode cX4_canMove 24 = .ok (.iload 6, 2) := by decide +kernel
theorem dX4_canMove_26 : decode cX4_canMove 26 = .ok (.iconst 2, 1) := by decide +kernel
theorem dX4_canMove_27 : decode cX4_canMove 27 = .ok (.iadd, 1) := by decide +kernel
theorem dX4_canMove_28 : decode cX4_canMove 28 = .ok (.invokestatic 170, 3) := by decide +kernel
theorem dX4_canMove_31 : decode cX4_canMove 31 = .ok (.istore 8, 2) := by decide +kernel
theorem dX4_canMove_33 : decode cX4_canMove 33 = .ok (.lload_n 2, 1) := by decide +kernel
theorem dX4_canMove_34 : decode cX4_canMove 34 = .ok (.iload 5, 2) := by decide +kernel
theorem dX4_canMove_36 : decode cX4_canMove 36 = .ok (.iload 6, 2) := by decide +kernel
theorem dX4_canMove_38 : decode cX4_canMove 38 = .ok (.iconst 1, 1) := by decide +kernel
theorem dX4_canMove_39 : decode cX4_canMove 39 = .ok (.iadd, 1) := by decide +kernel
theorem dX4_canMove_40 : decode cX4_canMove 40 = .ok (.invokestatic 170, 3) := by decide +kernel
theorem dX4_canMove_43 : decode cX4_canMove 43 = .ok (.ifCond .ne 17, 3) := by decide +kernel
theorem dX4_canMove_46 : decode cX4_canMove 46 = .ok (.aload_n 0, 1) := by decide +kernel
theorem dX4_canMove_47 : decode cX4_canMove 47 = .ok (.getfield 23, 3) := by decide +kernel
theorem dX4_canMove_50 : decode cX4_canMove 50 = .ok (.iload 7, 2) := by decide +kernel
theorem dX4_canMove_52 : decode cX4_canMove 52 = .ok (.iload 8, 2) := by decide +kernel
theorem dX4_canMove_54 : decode cX4_canMove 54 = .ok (.invokevirtual 113, 3) := by decide +kernel
theorem dX4_canMove_57 : decode cX4_canMove 57 = .ok (.goto 14, 3) := by decide +kernel
theorem dX4_canMove_60 : decode cX4_canMove 60 = .ok (.aload_n 0, 1) := by decide +kernel
theorem dX4_canMove_61 : decode cX4_canMove 61 = .ok (.getfield 23, 3) := by decide +kernel
theorem dX4_canMove_64 : decode cX4_canMove 64 = .ok (.iload 7, 2) := by decide +kernel
theorem dX4_canMove_66 : decode cX4_canMove 66 = .ok (.iload 8, 2) := by decide +kernel
theorem dX4_canMove_68 : decode cX4_canMove 68 = .ok (.invokevirtual 119, 3) := by decide +kernel
theorem dX4_canMove_71 : decode cX4_canMove 71 = .ok (.ireturn, 1) := by decide +kernel
theorem dX4_piano_0 : decode cX4_piano 0 = .ok (.iload_n 1, 1) := by decide +kernel
theorem dX4_piano_1 : decode cX4_piano 1 = .ok (.invokestatic 106, 3) := by decide +kernel
theorem dX4_piano_4 : decode cX4_piano 4 = .ok (.ifCond .ne 6, 3) := by decide +kernel
theorem dX4_piano_7 : decode cX4_piano 7 = .ok (.bipush (-2), 2) := by decide +kernel
theorem dX4_piano_9 : decode cX4_piano 9 = .ok (.ireturn, 1) := by decide +kernel
theorem dX4_piano_10 : decode cX4_piano 10 = .ok (.iconst 0, 1) := by decide +kernel
theorem dX4_piano_11 : decode cX4_piano 11 = .ok (.istore_n 2, 1) := by decide +kernel
theorem dX4_piano_12 : decode cX4_piano 12 = .ok (.iconst 0, 1) := by decide +kernel
theorem dX4_piano_13 : decode cX4_piano 13 = .ok (.istore_n 3, 1) := by decide +kernel
theorem dX4_piano_14 : decode cX4_piano 14 = .ok (.iload_n 3, 1) := by decide +kernel
theorem dX4_piano_15 : decode cX4_piano 15 = .ok (.aload_n 0, 1) := by decide +kernel
theorem dX4_piano_16 : decode cX4_piano 16 = .ok (.getfield 19, 3) := by decide +kernel
theorem dX4_piano_19 : decode cX4_piano 19 = .ok (.invokevirtual 68, 3) := by decide +kernel
theorem dX4_piano_22 : decode cX4_piano 22 = .ok (.if_icmp .ge 61, 3) := by decide +kernel
theorem dX4_piano_25 : decode cX4_piano 25 = .ok (.aload_n 0, 1) := by decide +kernel
theorem dX4_piano_26 : decode cX4_piano 26 = .ok (.getfield 23, 3) := by decide +kernel
theorem dX4_piano_29 : decode cX4_piano 29 = .ok (.aload_n 0, 1) := by decide +kernel
theorem dX4_piano_30 : decode cX4_piano 30 = .ok (.getfield 19, 3) := by decide +kernel
theorem dX4_piano_33 : decode cX4_piano 33 = .ok (.invokevirtual 138, 3) := by decide +kernel
theorem dX4_piano_36 : decode cX4_piano 36 = .ok (.aload_n 0, 1) := by decide +kernel
theorem dX4_piano_37 : decode cX4_piano 37 = .ok (.getfield 23, 3) := by decide +kernel
theorem dX4_piano_40 : decode cX4_piano 40 = .ok (.iload_n 3, 1) := by decide +kernel
theorem dX4_piano_41 : decode cX4_piano 41 = .ok (.invokevirtual 87, 3) := by decide +kernel
theorem dX4_piano_44 : decode cX4_piano 44 = .ok (.ifCond .eq 33, 3) := by decide +kernel
theorem dX4_piano_47 : decode cX4_piano 47 = .ok (.aload_n 0, 1) := by decide +kernel
theorem dX4_piano_48 : decode cX4_piano 48 = .ok (.getfield 23, 3) := by decide +kernel
theorem dX4_piano_51 : decode cX4_piano 51 = .ok (.iload_n 3, 1) := by decide +kernel
theorem dX4_piano_52 : decode cX4_piano 52 = .ok (.iload_n 1, 1) := by decide +kernel
theorem dX4_piano_53 : decode cX4_piano 53 = .ok (.invokevirtual 113, 3) := by decide +kernel
theorem dX4_piano_56 : decode cX4_piano 56 = .ok (.ifCond .eq 21, 3) := by decide +kernel
theorem dX4_piano_59 : decode cX4_piano 59 = .ok (.aload_n 0, 1) := by decide +kernel
theorem dX4_piano_60 : decode cX4_piano 60 = .ok (.getfield 23, 3) := by decide +kernel
theorem dX4_piano_63 : decode cX4_piano 63 = .ok (.bipush 6, 2) := by decide +kernel
theorem dX4_piano_65 : decode cX4_piano 65 = .ok (.invokevirtual 181, 3) := by decide +kernel
theorem dX4_piano_68 : decode cX4_piano 68 = .ok (.ifCond .eq 9, 3) := by decide +kernel
theorem dX4_piano_71 : decode cX4_piano 71 = .ok (.iload_n 2, 1) := by decide +kernel
theorem dX4_piano_72 : decode cX4_piano 72 = .ok (.iconst 1, 1) := by decide +kernel
theorem dX4_piano_73 : decode cX4_piano 73 = .ok (.iload_n 3, 1) := by decide +kernel
theorem dX4_piano_74 : decode cX4_piano 74 = .ok (.ishl, 1) := by decide +kernel
theorem dX4_piano_75 : decode cX4_piano 75 = .ok (.ior, 1) := by decide +kernel
theorem dX4_piano_76 : decode cX4_piano 76 = .ok (.istore_n 2, 1) := by decide +kernel
theorem dX4_piano_77 : decode cX4_piano 77 = .ok (.iinc 3 1, 3) := by decide +kernel
theorem dX4_piano_80 : decode cX4_piano 80 = .ok (.goto (-66), 3) := by decide +kernel
theorem dX4_piano_83 : decode cX4_piano 83 = .ok (.iload_n 2, 1) := by decide +kernel
theorem dX4_piano_84 : decode cX4_piano 84 = .ok (.ireturn, 1) := by decide +kernel
theorem dX4_sacks_0 : decode cX4_sacks 0 = .ok (.iload_n 1, 1) := by decide +kernel
theorem dX4_sacks_1 : decode cX4_sacks 1 = .ok (.invokestatic 135, 3) := by decide +kernel
theorem dX4_sacks_4 : decode cX4_sacks 4 = .ok (.ifCond .ne 6, 3) := by decide +kernel
theorem dX4_sacks_7 : decode cX4_sacks 7 = .ok (.bipush (-2), 2) := by decide +kernel
theorem dX4_sacks_9 : decode cX4_sacks 9 = .ok (.ireturn, 1) := by decide +kernel
theorem dX4_sacks_10 : decode cX4_sacks 10 = .ok (.aload_n 0, 1) := by decide +kernel
theorem dX4_sacks_11 : decode cX4_sacks 11 = .ok (.getfield 23, 3) := by decide +kernel
theorem dX4_sacks_14 : decode cX4_sacks 14 = .ok (.aload_n 0, 1) := by decide +kernel
theorem dX4_sacks_15 : decode cX4_sacks 15 = .ok (.getfield 19, 3) := by decide +kernel
theorem dX4_sacks_18 : decode cX4_sacks 18 = .ok (.invokevirtual 138, 3) := by decide +kernel
theorem dX4_sacks_21 : decode cX4_sacks 21 = .ok (.aload_n 0, 1) := by decide +kernel
theorem dX4_sacks_22 : decode cX4_sacks 22 = .ok (.getfield 23, 3) := by decide +kernel
theorem dX4_sacks_25 : decode cX4_sacks 25 = .ok (.bipush 6, 2) := by decide +kernel
theorem dX4_sacks_27 : decode cX4_sacks 27 = .ok (.invokevirtual 181, 3) := by decide +kernel
theorem dX4_sacks_30 : decode cX4_sacks 30 = .ok (.ifCond .eq 5, 3) := by decide +kernel
theorem dX4_sacks_33 : decode cX4_sacks 33 = .ok (.iconst 0, 1) := by decide +kernel
theorem dX4_sacks_34 : decode cX4_sacks 34 = .ok (.ireturn, 1) := by decide +kernel
theorem dX4_sacks_35 : decode cX4_sacks 35 = .ok (.bipush 19, 2) := by decide +kernel
theorem dX4_sacks_37 : decode cX4_sacks 37 = .ok (.istore_n 2, 1) := by decide +kernel
theorem dX4_sacks_38 : decode cX4_sacks 38 = .ok (.bipush (-9), 2) := by decide +kernel
theorem dX4_sacks_40 : decode cX4_sacks 40 = .ok (.istore_n 3, 1) := by decide +kernel
theorem dX4_sacks_41 : decode cX4_sacks 41 = .ok (.iconst 0, 1) := by decide +kernel
theorem dX4_sacks_42 : decode cX4_sacks 42 = .ok (.istore 4, 2) := by decide +kernel
theorem dX4_sacks_44 : decode cX4_sacks 44 = .ok (.iload 4, 2) := by decide +kernel
theorem dX4_sacks_46 : decode cX4_sacks 46 = .ok (.aload_n 0, 1) := by decide +kernel
theorem dX4_sacks_47 : decode cX4_sacks 47 = .ok (.getfield 19, 3) := by decide +kernel
theorem dX4_sacks_50 : decode cX4_sacks 50 = .ok (.invokevirtual 68, 3) := by decide +kernel
theorem dX4_sacks_53 : decode cX4_sacks 53 = .ok (.if_icmp .ge 77, 3) := by decide +kernel
theorem dX4_sacks_56 : decode cX4_sacks 56 = .ok (.iload 4, 2) := by decide +kernel
theorem dX4_sacks_58 : decode cX4_sacks 58 = .ok (.istore 5, 2) := by decide +kernel
theorem dX4_sacks_60 : decode cX4_sacks 60 = .ok (.iload 5, 2) := by decide +kernel
theorem dX4_sacks_62 : decode cX4_sacks 62 = .ok (.aload_n 0, 1) := by decide +kernel
theorem dX4_sacks_63 : decode cX4_sacks 63 = .ok (.getfield 19, 3) := by decide +kernel
theorem dX4_sacks_66 : decode cX4_sacks 66 = .ok (.invokevirtual 68, 3) := by decide +kernel
theorem dX4_sacks_69 : decode cX4_sacks 69 = .ok (.if_icmp .ge 55, 3) := by decide +kernel
theorem dX4_sacks_72 : decode cX4_sacks 72 = .ok (.iload 4, 2) := by decide +kernel
theorem dX4_sacks_74 : decode cX4_sacks 74 = .ok (.iload 5, 2) := by decide +kernel
theorem dX4_sacks_76 : decode cX4_sacks 76 = .ok (.if_icmp .ne 13, 3) := by decide +kernel
theorem dX4_sacks_79 : decode cX4_sacks 79 = .ok (.aload_n 0, 1) := by decide +kernel
theorem dX4_sacks_80 : decode cX4_sacks 80 = .ok (.iload 4, 2) := by decide +kernel
theorem dX4_sacks_82 : decode cX4_sacks 82 = .ok (.iload_n 2, 1) := by decide +kernel
theorem dX4_sacks_83 : decode cX4_sacks 83 = .ok (.invokevirtual 184, 3) := by decide +kernel
theorem dX4_sacks_86 : decode cX4_sacks 86 = .ok (.goto 12, 3) := by decide +kernel
theorem dX4_sacks_89 : decode cX4_sacks 89 = .ok (.aload_n 0, 1) := by decide +kernel
theorem dX4_sacks_90 : decode cX4_sacks 90 = .ok (.iload 4, 2) := by decide +kernel
theorem dX4_sacks_92 : decode cX4_sacks 92 = .ok (.iload 5, 2) := by decide +kernel
theorem dX4_sacks_94 : decode cX4_sacks 94 = .ok (.iload_n 2, 1) := by decide +kernel
theorem dX4_sacks_95 : decode cX4_sacks 95 = .ok (.invokevirtual 187, 3) := by decide +kernel
theorem dX4_sacks_98 : decode cX4_sacks 98 = .ok (.istore 6, 2) := by decide +kernel
theorem dX4_sacks_100 : decode cX4_sacks 100 = .ok (.iload 6, 2) := by decide +kernel
theorem dX4_sacks_102 : decode cX4_sacks 102 = .ok (.iload_n 2, 1) := by decide +kernel
theorem dX4_sacks_103 : decode cX4_sacks 103 = .ok (.if_icmp .ge 15, 3) := by decide +kernel
theorem dX4_sacks_106 : decode cX4_sacks 106 = .ok (.iload 6, 2) := by decide +kernel
theorem dX4_sacks_108 : decode cX4_sacks 108 = .ok (.istore_n 2, 1) := by decide +kernel
theorem dX4_sacks_109 : decode cX4_sacks 109 = .ok (.bipush 10, 2) := by decide +kernel
theorem dX4_sacks_111 : decode cX4_sacks 111 = .ok (.iload 4, 2) := by decide +kernel
theorem dX4_sacks_113 : decode cX4_sacks 113 = .ok (.imul, 1) := by decide +kernel
theorem dX4_sacks_114 : decode cX4_sacks 114 = .ok (.iload 5, 2) := by decide +kernel
theorem dX4_sacks_116 : decode cX4_sacks 116 = .ok (.iadd, 1) := by decide +kernel
theorem dX4_sacks_117 : decode cX4_sacks 117 = .ok (.istore_n 3, 1) := by decide +kernel
theorem dX4_sacks_118 : decode cX4_sacks 118 = .ok (.iinc 5 1, 3) := by decide +kernel
theorem dX4_sacks_121 : decode cX4_sacks 121 = .ok (.goto (-61), 3) := by decide +kernel
theorem dX4_sacks_124 : decode cX4_sacks 124 = .ok (.iinc 4 1, 3) := by decide +kernel
theorem dX4_sacks_127 : decode cX4_sacks 127 = .ok (.goto (-83), 3) := by decide +kernel
theorem dX4_sacks_130 : decode cX4_sacks 130 = .ok (.iload_n 1, 1) := by decide +kernel
theorem dX4_sacks_131 : decode cX4_sacks 131 = .ok (.ifCond .ne 13, 3) := by decide +kernel
theorem dX4_sacks_134 : decode cX4_sacks 134 = .ok (.iload_n 3, 1) := by decide +kernel
theorem dX4_sacks_135 : decode cX4_sacks 135 = .ok (.bipush (-9), 2) := by decide +kernel
theorem dX4_sacks_137 : decode cX4_sacks 137 = .ok (.if_icmp .eq 7, 3) := by decide +kernel
theorem dX4_sacks_140 : decode cX4_sacks 140 = .ok (.iload_n 2, 1) := by decide +kernel
theorem dX4_sacks_141 : decode cX4_sacks 141 = .ok (.goto 4, 3) := by decide +kernel
theorem dX4_sacks_144 : decode cX4_sacks 144 = .ok (.iload_n 3, 1) := by decide +kernel
theorem dX4_sacks_145 : decode cX4_sacks 145 = .ok (.ireturn, 1) := by decide +kernel
theorem dX4_fewestFromOne_0 : decode cX4_fewestFromOne 0 = .ok (.iconst 1, 1) := by decide +kernel
theorem dX4_fewestFromOne_1 : decode cX4_fewestFromOne 1 = .ok (.istore_n 3, 1) := by decide +kernel
theorem dX4_fewestFromOne_2 : decode cX4_fewestFromOne 2 = .ok (.iload_n 3, 1) := by decide +kernel
theorem dX4_fewestFromOne_3 : decode cX4_fewestFromOne 3 = .ok (.aload_n 0, 1) := by decide +kernel
theorem dX4_fewestFromOne_4 : decode cX4_fewestFromOne 4 = .ok (.iload_n 1, 1) := by decide +kernel
theorem dX4_fewestFromOne_5 : decode cX4_fewestFromOne 5 = .ok (.invokevirtual 190, 3) := by decide +kernel
theorem dX4_fewestFromOne_8 : decode cX4_fewestFromOne 8 = .ok (.if_icmp .gt 27, 3) := by decide +kernel
theorem dX4_fewestFromOne_11 : decode cX4_fewestFromOne 11 = .ok (.iload_n 3, 1) := by decide +kernel
theorem dX4_fewestFromOne_12 : decode cX4_fewestFromOne 12 = .ok (.iload_n 2, 1) := by decide +kernel
theorem dX4_fewestFromOne_13 : decode cX4_fewestFromOne 13 = .ok (.if_icmp .ge 22, 3) := by decide +kernel
theorem dX4_fewestFromOne_16 : decode cX4_fewestFromOne 16 = .ok (.aload_n 0, 1) := by decide +kernel
theorem dX4_fewestFromOne_17 : decode cX4_fewestFromOne 17 = .ok (.iload_n 1, 1) := by decide +kernel
theorem dX4_fewestFromOne_18 : decode cX4_fewestFromOne 18 = .ok (.iload_n 3, 1) := by decide +kernel
theorem dX4_fewestFromOne_19 : decode cX4_fewestFromOne 19 = .ok (.iload_n 1, 1) := by decide +kernel
theorem dX4_fewestFromOne_20 : decode cX4_fewestFromOne 20 = .ok (.iconst 0, 1) := by decide +kernel
theorem dX4_fewestFromOne_21 : decode cX4_fewestFromOne 21 = .ok (.invokevirtual 193, 3) := by decide +kernel
theorem dX4_fewestFromOne_24 : decode cX4_fewestFromOne 24 = .ok (.ifCond .eq 5, 3) := by decide +kernel
theorem dX4_fewestFromOne_27 : decode cX4_fewestFromOne 27 = .ok (.iload_n 3, 1) := by decide +kernel
theorem dX4_fewestFromOne_28 : decode cX4_fewestFromOne 28 = .ok (.ireturn, 1) := by decide +kernel
theorem dX4_fewestFromOne_29 : decode cX4_fewestFromOne 29 = .ok (.iinc 3 1, 3) := by decide +kernel
theorem dX4_fewestFromOne_32 : decode cX4_fewestFromOne 32 = .ok (.goto (-30), 3) := by decide +kernel
theorem dX4_fewestFromOne_35 : decode cX4_fewestFromOne 35 = .ok (.iload_n 2, 1) := by decide +kernel
theorem dX4_fewestFromOne_36 : decode cX4_fewestFromOne 36 = .ok (.ireturn, 1) := by decide +kernel
theorem dX4_fewestFromTwo_0 : decode cX4_fewestFromTwo 0 = .ok (.aload_n 0, 1) := by decide +kernel
theorem dX4_fewestFromTwo_1 : decode cX4_fewestFromTwo 1 = .ok (.iload_n 1, 1) := by decide +kernel
theorem dX4_fewestFromTwo_2 : decode cX4_fewestFromTwo 2 = .ok (.invokevirtual 190, 3) := by decide +kernel
theorem dX4_fewestFromTwo_5 : decode cX4_fewestFromTwo 5 = .ok (.istore 4, 2) := by decide +kernel
theorem dX4_fewestFromTwo_7 : decode cX4_fewestFromTwo 7 = .ok (.aload_n 0, 1) := by decide +kernel
theorem dX4_fewestFromTwo_8 : decode cX4_fewestFromTwo 8 = .ok (.iload_n 2, 1) := by decide +kernel
theorem dX4_fewestFromTwo_9 : decode cX4_fewestFromTwo 9 = .ok (.invokevirtual 190, 3) := by decide +kernel
theorem dX4_fewestFromTwo_12 : decode cX4_fewestFromTwo 12 = .ok (.istore 5, 2) := by decide +kernel
theorem dX4_fewestFromTwo_14 : decode cX4_fewestFromTwo 14 = .ok (.aload_n 0, 1) := by decide +kernel
theorem dX4_fewestFromTwo_15 : decode cX4_fewestFromTwo 15 = .ok (.iload_n 1, 1) := by decide +kernel
theorem dX4_fewestFromTwo_16 : decode cX4_fewestFromTwo 16 = .ok (.iload 4, 2) := by decide +kernel
theorem dX4_fewestFromTwo_18 : decode cX4_fewestFromTwo 18 = .ok (.iload_n 2, 1) := by decide +kernel
theorem dX4_fewestFromTwo_19 : decode cX4_fewestFromTwo 19 = .ok (.iload 5, 2) := by decide +kernel
theorem dX4_fewestFromTwo_21 : decode cX4_fewestFromTwo 21 = .ok (.invokevirtual 193, 3) := by decide +kernel
theorem dX4_fewestFromTwo_24 : decode cX4_fewestFromTwo 24 = .ok (.ifCond .ne 5, 3) := by decide +kernel
theorem dX4_fewestFromTwo_27 : decode cX4_fewestFromTwo 27 = .ok (.iload_n 3, 1) := by decide +kernel
theorem dX4_fewestFromTwo_28 : decode cX4_fewestFromTwo 28 = .ok (.ireturn, 1) := by decide +kernel
theorem dX4_fewestFromTwo_29 : decode cX4_fewestFromTwo 29 = .ok (.iload_n 3, 1) := by decide +kernel
theorem dX4_fewestFromTwo_30 : decode cX4_fewestFromTwo 30 = .ok (.istore 6, 2) := by decide +kernel
theorem dX4_fewestFromTwo_32 : decode cX4_fewestFromTwo 32 = .ok (.iconst 1, 1) := by decide +kernel
theorem dX4_fewestFromTwo_33 : decode cX4_fewestFromTwo 33 = .ok (.istore 7, 2) := by decide +kernel
theorem dX4_fewestFromTwo_35 : decode cX4_fewestFromTwo 35 = .ok (.iload 7, 2) := by decide +kernel
theorem dX4_fewestFromTwo_37 : decode cX4_fewestFromTwo 37 = .ok (.iload 4, 2) := by decide +kernel
theorem dX4_fewestFromTwo_39 : decode cX4_fewestFromTwo 39 = .ok (.if_icmp .gt 55, 3) := by decide +kernel
theorem dX4_fewestFromTwo_42 : decode cX4_fewestFromTwo 42 = .ok (.iconst 1, 1) := by decide +kernel
theorem dX4_fewestFromTwo_43 : decode cX4_fewestFromTwo 43 = .ok (.istore 8, 2) := by decide +kernel
theorem dX4_fewestFromTwo_45 : decode cX4_fewestFromTwo 45 = .ok (.iload 8, 2) := by decide +kernel
theorem dX4_fewestFromTwo_47 : decode cX4_fewestFromTwo 47 = .ok (.iload 5, 2) := by decide +kernel
theorem dX4_fewestFromTwo_49 : decode cX4_fewestFromTwo 49 = .ok (.if_icmp .gt 39, 3) := by decide +kernel
theorem dX4_fewestFromTwo_52 : decode cX4_fewestFromTwo 52 = .ok (.iload 7, 2) := by decide +kernel
theorem dX4_fewestFromTwo_54 : decode cX4_fewestFromTwo 54 = .ok (.iload 8, 2) := by decide +kernel
theorem dX4_fewestFromTwo_56 : decode cX4_fewestFromTwo 56 = .ok (.iadd, 1) := by decide +kernel
theorem dX4_fewestFromTwo_57 : decode cX4_fewestFromTwo 57 = .ok (.iload 6, 2) := by decide +kernel
theorem dX4_fewestFromTwo_59 : decode cX4_fewestFromTwo 59 = .ok (.if_icmp .ge 29, 3) := by decide +kernel
theorem dX4_fewestFromTwo_62 : decode cX4_fewestFromTwo 62 = .ok (.aload_n 0, 1) := by decide +kernel
theorem dX4_fewestFromTwo_63 : decode cX4_fewestFromTwo 63 = .ok (.iload_n 1, 1) := by decide +kernel
theorem dX4_fewestFromTwo_64 : decode cX4_fewestFromTwo 64 = .ok (.iload 7, 2) := by decide +kernel
theorem dX4_fewestFromTwo_66 : decode cX4_fewestFromTwo 66 = .ok (.iload_n 2, 1) := by decide +kernel
theorem dX4_fewestFromTwo_67 : decode cX4_fewestFromTwo 67 = .ok (.iload 8, 2) := by decide +kernel
theorem dX4_fewestFromTwo_69 : decode cX4_fewestFromTwo 69 = .ok (.invokevirtual 193, 3) := by decide +kernel
theorem dX4_fewestFromTwo_72 : decode cX4_fewestFromTwo 72 = .ok (.ifCond .eq 10, 3) := by decide +kernel
theorem dX4_fewestFromTwo_75 : decode cX4_fewestFromTwo 75 = .ok (.iload 7, 2) := by decide +kernel
theorem dX4_fewestFromTwo_77 : decode cX4_fewestFromTwo 77 = .ok (.iload 8, 2) := by decide +kernel
theorem dX4_fewestFromTwo_79 : decode cX4_fewestFromTwo 79 = .ok (.iadd, 1) := by decide +kernel
theorem dX4_fewestFromTwo_80 : decode cX4_fewestFromTwo 80 = .ok (.istore 6, 2) := by decide +kernel
theorem dX4_fewestFromTwo_82 : decode cX4_fewestFromTwo 82 = .ok (.iinc 8 1, 3) := by decide +kernel
theorem dX4_fewestFromTwo_85 : decode cX4_fewestFromTwo 85 = .ok (.goto (-40), 3) := by decide +kernel
theorem dX4_fewestFromTwo_88 : decode cX4_fewestFromTwo 88 = .ok (.iinc 7 1, 3) := by decide +kernel
theorem dX4_fewestFromTwo_91 : decode cX4_fewestFromTwo 91 = .ok (.goto (-56), 3) := by decide +kernel
theorem dX4_fewestFromTwo_94 : decode cX4_fewestFromTwo 94 = .ok (.iload 6, 2) := by decide +kernel
theorem dX4_fewestFromTwo_96 : decode cX4_fewestFromTwo 96 = .ok (.ireturn, 1) := by decide +kernel
theorem dX4_mostTaken_0 : decode cX4_mostTaken 0 = .ok (.bipush 9, 2) := by decide +kernel
theorem dX4_mostTaken_2 : decode cX4_mostTaken 2 = .ok (.aload_n 0, 1) := by decide +kernel
theorem dX4_mostTaken_3 : decode cX4_mostTaken 3 = .ok (.getfield 19, 3) := by decide +kernel
theorem dX4_mostTaken_6 : decode cX4_mostTaken 6 = .ok (.iload_n 1, 1) := by decide +kernel
theorem dX4_mostTaken_7 : decode cX4_mostTaken 7 = .ok (.invokevirtual 78, 3) := by decide +kernel
theorem dX4_mostTaken_10 : decode cX4_mostTaken 10 = .ok (.invokestatic 197, 3) := by decide +kernel
theorem dX4_mostTaken_13 : decode cX4_mostTaken 13 = .ok (.ireturn, 1) := by decide +kernel
theorem dX4_isCalmWithout_0 : decode cX4_isCalmWithout 0 = .ok (.aload_n 0, 1) := by decide +kernel
theorem dX4_isCalmWithout_1 : decode cX4_isCalmWithout 1 = .ok (.getfield 23, 3) := by decide +kernel
theorem dX4_isCalmWithout_4 : decode cX4_isCalmWithout 4 = .ok (.aload_n 0, 1) := by decide +kernel
theorem dX4_isCalmWithout_5 : decode cX4_isCalmWithout 5 = .ok (.getfield 19, 3) := by decide +kernel
theorem dX4_isCalmWithout_8 : decode cX4_isCalmWithout 8 = .ok (.invokevirtual 138, 3) := by decide +kernel
theorem dX4_isCalmWithout_11 : decode cX4_isCalmWithout 11 = .ok (.aload_n 0, 1) := by decide +kernel
theorem dX4_isCalmWithout_12 : decode cX4_isCalmWithout 12 = .ok (.getfield 23, 3) := by decide +kernel
theorem dX4_isCalmWithout_15 : decode cX4_isCalmWithout 15 = .ok (.iload_n 1, 1) := by decide +kernel
theorem dX4_isCalmWithout_16 : decode cX4_isCalmWithout 16 = .ok (.iload_n 2, 1) := by decide +kernel
theorem dX4_isCalmWithout_17 : decode cX4_isCalmWithout 17 = .ok (.invokevirtual 119, 3) := by decide +kernel
theorem dX4_isCalmWithout_20 : decode cX4_isCalmWithout 20 = .ok (.pop, 1) := by decide +kernel
theorem dX4_isCalmWithout_21 : decode cX4_isCalmWithout 21 = .ok (.aload_n 0, 1) := by decide +kernel
theorem dX4_isCalmWithout_22 : decode cX4_isCalmWithout 22 = .ok (.getfield 23, 3) := by decide +kernel
theorem dX4_isCalmWithout_25 : decode cX4_isCalmWithout 25 = .ok (.iload_n 3, 1) := by decide +kernel
theorem dX4_isCalmWithout_26 : decode cX4_isCalmWithout 26 = .ok (.iload 4, 2) := by decide +kernel
theorem dX4_isCalmWithout_28 : decode cX4_isCalmWithout 28 = .ok (.invokevirtual 119, 3) := by decide +kernel
theorem dX4_isCalmWithout_31 : decode cX4_isCalmWithout 31 = .ok (.pop, 1) := by decide +kernel
theorem dX4_isCalmWithout_32 : decode cX4_isCalmWithout 32 = .ok (.aload_n 0, 1) := by decide +kernel
theorem dX4_isCalmWithout_33 : decode cX4_isCalmWithout 33 = .ok (.getfield 23, 3) := by decide +kernel
theorem dX4_isCalmWithout_36 : decode cX4_isCalmWithout 36 = .ok (.bipush 6, 2) := by decide +kernel
theorem dX4_isCalmWithout_38 : decode cX4_isCalmWithout 38 = .ok (.invokevirtual 181, 3) := by decide +kernel
theorem dX4_isCalmWithout_41 : decode cX4_isCalmWithout 41 = .ok (.ireturn, 1) := by decide +kernel
theorem dX4_judge_0 : decode cX4_judge 0 = .ok (.iload_n 1, 1) := by decide +kernel
theorem dX4_judge_1 : decode cX4_judge 1 = .ok (.iconst 1, 1) := by decide +kernel
theorem dX4_judge_2 : decode cX4_judge 2 = .ok (.if_icmp .lt 18, 3) := by decide +kernel
theorem dX4_judge_5 : decode cX4_judge 5 = .ok (.iload_n 1, 1) := by decide +kernel
theorem dX4_judge_6 : decode cX4_judge 6 = .ok (.iconst 4, 1) := by decide +kernel
theorem dX4_judge_7 : decode cX4_judge 7 = .ok (.if_icmp .gt 13, 3) := by decide +kernel
theorem dX4_judge_10 : decode cX4_judge 10 = .ok (.lload_n 2, 1) := by decide +kernel
theorem dX4_judge_11 : decode cX4_judge 11 = .ok (.iconst 4, 1) := by decide +kernel
theorem dX4_judge_12 : decode cX4_judge 12 = .ok (.iload_n 1, 1) := by decide +kernel
theorem dX4_judge_13 : decode cX4_judge 13 = .ok (.imul, 1) := by decide +kernel
theorem dX4_judge_14 : decode cX4_judge 14 = .ok (.invokestatic 166, 3) := by decide +kernel
theorem dX4_judge_17 : decode cX4_judge 17 = .ok (.ifCond .ne 6, 3) := by decide +kernel
theorem dX4_judge_20 : decode cX4_judge 20 = .ok (.bipush (-2), 2) := by decide +kernel
theorem dX4_judge_22 : decode cX4_judge 22 = .ok (.ireturn, 1) := by decide +kernel
theorem dX4_judge_23 : decode cX4_judge 23 = .ok (.aload_n 0, 1) := by decide +kernel
theorem dX4_judge_24 : decode cX4_judge 24 = .ok (.getfield 23, 3) := by decide +kernel
theorem dX4_judge_27 : decode cX4_judge 27 = .ok (.aload_n 0, 1) := by decide +kernel
theorem dX4_judge_28 : decode cX4_judge 28 = .ok (.getfield 19, 3) := by decide +kernel
theorem dX4_judge_31 : decode cX4_judge 31 = .ok (.invokevirtual 138, 3) := by decide +kernel
theorem dX4_judge_34 : decode cX4_judge 34 = .ok (.iconst 0, 1) := by decide +kernel
theorem dX4_judge_35 : decode cX4_judge 35 = .ok (.istore 4, 2) := by decide +kernel
theorem dX4_judge_37 : decode cX4_judge 37 = .ok (.iload 4, 2) := by decide +kernel
theorem dX4_judge_39 : decode cX4_judge 39 = .ok (.iload_n 1, 1) := by decide +kernel
theorem dX4_judge_40 : decode cX4_judge 40 = .ok (.if_icmp .ge 27, 3) := by decide +kernel
theorem dX4_judge_43 : decode cX4_judge 43 = .ok (.aload_n 0, 1) := by decide +kernel
theorem dX4_judge_44 : decode cX4_judge 44 = .ok (.lload_n 2, 1) := by decide +kernel
theorem dX4_judge_45 : decode cX4_judge 45 = .ok (.iconst 4, 1) := by decide +kernel
theorem dX4_judge_46 : decode cX4_judge 46 = .ok (.iload_n 1, 1) := by decide +kernel
theorem dX4_judge_47 : decode cX4_judge 47 = .ok (.imul, 1) := by decide +kernel
theorem dX4_judge_48 : decode cX4_judge 48 = .ok (.iconst 4, 1) := by decide +kernel
theorem dX4_judge_49 : decode cX4_judge 49 = .ok (.iload 4, 2) := by decide +kernel
theorem dX4_judge_51 : decode cX4_judge 51 = .ok (.imul, 1) := by decide +kernel
theorem dX4_judge_52 : decode cX4_judge 52 = .ok (.invokevirtual 202, 3) := by decide +kernel
theorem dX4_judge_55 : decode cX4_judge 55 = .ok (.ifCond .ne 6, 3) := by decide +kernel
theorem dX4_judge_58 : decode cX4_judge 58 = .ok (.iload 4, 2) := by decide +kernel
theorem dX4_judge_60 : decode cX4_judge 60 = .ok (.ireturn, 1) := by decide +kernel
theorem dX4_judge_61 : decode cX4_judge 61 = .ok (.iinc 4 1, 3) := by decide +kernel
theorem dX4_judge_64 : decode cX4_judge 64 = .ok (.goto (-27), 3) := by decide +kernel
theorem dX4_judge_67 : decode cX4_judge 67 = .ok (.bipush (-9), 2) := by decide +kernel
theorem dX4_judge_69 : decode cX4_judge 69 = .ok (.ireturn, 1) := by decide +kernel
theorem dX4_canBe_0 : decode cX4_canBe 0 = .ok (.lload_n 1, 1) := by decide +kernel
theorem dX4_canBe_1 : decode cX4_canBe 1 = .ok (.iload_n 3, 1) := by decide +kernel
theorem dX4_canBe_2 : decode cX4_canBe 2 = .ok (.iload 4, 2) := by decide +kernel
theorem dX4_canBe_4 : decode cX4_canBe 4 = .ok (.iconst 1, 1) := by decide +kernel
theorem dX4_canBe_5 : decode cX4_canBe 5 = .ok (.iadd, 1) := by decide +kernel
theorem dX4_canBe_6 : decode cX4_canBe 6 = .ok (.invokestatic 170, 3) := by decide +kernel
theorem dX4_canBe_9 : decode cX4_canBe 9 = .ok (.istore 5, 2) := by decide +kernel
theorem dX4_canBe_11 : decode cX4_canBe 11 = .ok (.lload_n 1, 1) := by decide +kernel
theorem dX4_canBe_12 : decode cX4_canBe 12 = .ok (.iload_n 3, 1) := by decide +kernel
theorem dX4_canBe_13 : decode cX4_canBe 13 = .ok (.iload 4, 2) := by decide +kernel
theorem dX4_canBe_15 : decode cX4_canBe 15 = .ok (.iconst 2, 1) := by decide +kernel
theorem dX4_canBe_16 : decode cX4_canBe 16 = .ok (.iadd, 1) := by decide +kernel
theorem dX4_canBe_17 : decode cX4_canBe 17 = .ok (.invokestatic 170, 3) := by decide +kernel
theorem dX4_canBe_20 : decode cX4_canBe 20 = .ok (.istore 6, 2) := by decide +kernel
theorem dX4_canBe_22 : decode cX4_canBe 22 = .ok (.lload_n 1, 1) := by decide +kernel
theorem dX4_canBe_23 : decode cX4_canBe 23 = .ok (.iload_n 3, 1) := by decide +kernel
theorem dX4_canBe_24 : decode cX4_canBe 24 = .ok (.iload 4, 2) := by decide +kernel
theorem dX4_canBe_26 : decode cX4_canBe 26 = .ok (.iconst 3, 1) := by decide +kernel
theorem dX4_canBe_27 : decode cX4_canBe 27 = .ok (.iadd, 1) := by decide +kernel
theorem dX4_canBe_28 : decode cX4_canBe 28 = .ok (.invokestatic 170, 3) := by decide +kernel
theorem dX4_canBe_31 : decode cX4_canBe 31 = .ok (.istore 7, 2) := by decide +kernel
theorem dX4_canBe_33 : decode cX4_canBe 33 = .ok (.lload_n 1, 1) := by decide +kernel
theorem dX4_canBe_34 : decode cX4_canBe 34 = .ok (.iload_n 3, 1) := by decide +kernel
theorem dX4_canBe_35 : decode cX4_canBe 35 = .ok (.iload 4, 2) := by decide +kernel
theorem dX4_canBe_37 : decode cX4_canBe 37 = .ok (.invokestatic 170, 3) := by decide +kernel
theorem dX4_canBe_40 : decode cX4_canBe 40 = .ok (.tableswitch 244 0 6 #[44, 75, 100, 125, 150, 178, 206], 44) := by decide +kernel
theorem dX4_canBe_84 : decode cX4_canBe 84 = .ok (.iload 5, 2) := by decide +kernel
theorem dX4_canBe_86 : decode cX4_canBe 86 = .ok (.ifCond .ne 27, 3) := by decide +kernel
theorem dX4_canBe_89 : decode cX4_canBe 89 = .ok (.iload 6, 2) := by decide +kernel
theorem dX4_canBe_91 : decode cX4_canBe 91 = .ok (.ifCond .ne 22, 3) := by decide +kernel
theorem dX4_canBe_94 : decode cX4_canBe 94 = .ok (.iload 7, 2) := by decide +kernel
theorem dX4_canBe_96 : decode cX4_canBe 96 = .ok (.ifCond .ne 17, 3) := by decide +kernel
theorem dX4_canBe_99 : decode cX4_canBe 99 = .ok (.aload_n 0, 1) := by decide +kernel
theorem dX4_canBe_100 : decode cX4_canBe 100 = .ok (.getfield 23, 3) := by decide +kernel
theorem dX4_canBe_103 : decode cX4_canBe 103 = .ok (.invokevirtual 103, 3) := by decide +kernel
theorem dX4_canBe_106 : decode cX4_canBe 106 = .ok (.ifCond .lt 7, 3) := by decide +kernel
theorem dX4_canBe_109 : decode cX4_canBe 109 = .ok (.iconst 1, 1) := by decide +kernel
theorem dX4_canBe_110 : decode cX4_canBe 110 = .ok (.goto 4, 3) := by decide +kernel
theorem dX4_canBe_113 : decode cX4_canBe 113 = .ok (.iconst 0, 1) := by decide +kernel
theorem dX4_canBe_114 : decode cX4_canBe 114 = .ok (.ireturn, 1) := by decide +kernel
theorem dX4_canBe_115 : decode cX4_canBe 115 = .ok (.iload 5, 2) := by decide +kernel
theorem dX4_canBe_117 : decode cX4_canBe 117 = .ok (.ifCond .ne 21, 3) := by decide +kernel
theorem dX4_canBe_120 : decode cX4_canBe 120 = .ok (.aload_n 0, 1) := by decide +kernel
theorem dX4_canBe_121 : decode cX4_canBe 121 = .ok (.getfield 23, 3) := by decide +kernel
theorem dX4_canBe_124 : decode cX4_canBe 124 = .ok (.iload 6, 2) := by decide +kernel
theorem dX4_canBe_126 : decode cX4_canBe 126 = .ok (.iload 7, 2) := by decide +kernel
theorem dX4_canBe_128 : decode cX4_canBe 128 = .ok (.invokevirtual 113, 3) := by decide +kernel
theorem dX4_canBe_131 : decode cX4_canBe 131 = .ok (.ifCond .eq 7, 3) := by decide +kernel
theorem dX4_canBe_134 : decode cX4_canBe 134 = .ok (.iconst 1, 1) := by decide +kernel
theorem dX4_canBe_135 : decode cX4_canBe 135 = .ok (.goto 4, 3) := by decide +kernel
theorem dX4_canBe_138 : decode cX4_canBe 138 = .ok (.iconst 0, 1) := by decide +kernel
theorem dX4_canBe_139 : decode cX4_canBe 139 = .ok (.ireturn, 1) := by decide +kernel
theorem dX4_canBe_140 : decode cX4_canBe 140 = .ok (.iload 5, 2) := by decide +kernel
theorem dX4_canBe_142 : decode cX4_canBe 142 = .ok (.ifCond .ne 21, 3) := by decide +kernel
theorem dX4_canBe_145 : decode cX4_canBe 145 = .ok (.aload_n 0, 1) := by decide +kernel
theorem dX4_canBe_146 : decode cX4_canBe 146 = .ok (.getfield 23, 3) := by decide +kernel
theorem dX4_canBe_149 : decode cX4_canBe 149 = .ok (.iload 6, 2) := by decide +kernel
theorem dX4_canBe_151 : decode cX4_canBe 151 = .ok (.iload 7, 2) := by decide +kernel
theorem dX4_canBe_153 : decode cX4_canBe 153 = .ok (.invokevirtual 119, 3) := by decide +kernel
theorem dX4_canBe_156 : decode cX4_canBe 156 = .ok (.ifCond .eq 7, 3) := by decide +kernel
theorem dX4_canBe_159 : decode cX4_canBe 159 = .ok (.iconst 1, 1) := by decide +kernel
theorem dX4_canBe_160 : decode cX4_canBe 160 = .ok (.goto 4, 3) := by decide +kernel
theorem dX4_canBe_163 : decode cX4_canBe 163 = .ok (.iconst 0, 1) := by decide +kernel
theorem dX4_canBe_164 : decode cX4_canBe 164 = .ok (.ireturn, 1) := by decide +kernel
theorem dX4_canBe_165 : decode cX4_canBe 165 = .ok (.iload 5, 2) := by decide +kernel
theorem dX4_canBe_167 : decode cX4_canBe 167 = .ok (.ifCond .ne 21, 3) := by decide +kernel
theorem dX4_canBe_170 : decode cX4_canBe 170 = .ok (.aload_n 0, 1) := by decide +kernel
theorem dX4_canBe_171 : decode cX4_canBe 171 = .ok (.getfield 23, 3) := by decide +kernel
theorem dX4_canBe_174 : decode cX4_canBe 174 = .ok (.iload 6, 2) := by decide +kernel
theorem dX4_canBe_176 : decode cX4_canBe 176 = .ok (.iload 7, 2) := by decide +kernel
theorem dX4_canBe_178 : decode cX4_canBe 178 = .ok (.invokevirtual 125, 3) := by decide +kernel
theorem dX4_canBe_181 : decode cX4_canBe 181 = .ok (.ifCond .eq 7, 3) := by decide +kernel
theorem dX4_canBe_184 : decode cX4_canBe 184 = .ok (.iconst 1, 1) := by decide +kernel
theorem dX4_canBe_185 : decode cX4_canBe 185 = .ok (.goto 4, 3) := by decide +kernel
theorem dX4_canBe_188 : decode cX4_canBe 188 = .ok (.iconst 0, 1) := by decide +kernel
theorem dX4_canBe_189 : decode cX4_canBe 189 = .ok (.ireturn, 1) := by decide +kernel
theorem dX4_canBe_190 : decode cX4_canBe 190 = .ok (.iload 5, 2) := by decide +kernel
theorem dX4_canBe_192 : decode cX4_canBe 192 = .ok (.ifCond .ne 24, 3) := by decide +kernel
theorem dX4_canBe_195 : decode cX4_canBe 195 = .ok (.iload 6, 2) := by decide +kernel
theorem dX4_canBe_197 : decode cX4_canBe 197 = .ok (.ifCond .ne 19, 3) := by decide +kernel
theorem dX4_canBe_200 : decode cX4_canBe 200 = .ok (.aload_n 0, 1) := by decide +kernel
theorem dX4_canBe_201 : decode cX4_canBe 201 = .ok (.getfield 23, 3) := by decide +kernel
theorem dX4_canBe_204 : decode cX4_canBe 204 = .ok (.iload 7, 2) := by decide +kernel
theorem dX4_canBe_206 : decode cX4_canBe 206 = .ok (.invokevirtual 128, 3) := by decide +kernel
theorem dX4_canBe_209 : decode cX4_canBe 209 = .ok (.ifCond .eq 7, 3) := by decide +kernel
theorem dX4_canBe_212 : decode cX4_canBe 212 = .ok (.iconst 1, 1) := by decide +kernel
theorem dX4_canBe_213 : decode cX4_canBe 213 = .ok (.goto 4, 3) := by decide +kernel
theorem dX4_canBe_216 : decode cX4_canBe 216 = .ok (.iconst 0, 1) := by decide +kernel
theorem dX4_canBe_217 : decode cX4_canBe 217 = .ok (.ireturn, 1) := by decide +kernel
theorem dX4_canBe_218 : decode cX4_canBe 218 = .ok (.iload 5, 2) := by decide +kernel
