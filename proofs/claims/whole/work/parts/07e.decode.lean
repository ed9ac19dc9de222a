theorem dX5_init_0 : decode cX5_init 0 = .ok (.aload_n 0, 1) := by decide +kernel
theorem dX5_init_1 : decode cX5_init 1 = .ok (.invokespecial 1, 3) := by decide +kernel
theorem dX5_init_4 : decode cX5_init 4 = .ok (.aload_n 0, 1) := by decide +kernel
theorem dX5_init_5 : decode cX5_init 5 = .ok (.bipush 6, 2) := by decide +kernel
theorem dX5_init_7 : decode cX5_init 7 = .ok (.newarray .int, 2) := by decide +kernel
theorem dX5_init_9 : decode cX5_init 9 = .ok (.putfield 7, 3) := by decide +kernel
theorem dX5_init_12 : decode cX5_init 12 = .ok (.aload_n 0, 1) := by decide +kernel
theorem dX5_init_13 : decode cX5_init 13 = .ok (.bipush 62, 2) := by decide +kernel
theorem dX5_init_15 : decode cX5_init 15 = .ok (.newarray .int, 2) := by decide +kernel
theorem dX5_init_17 : decode cX5_init 17 = .ok (.putfield 13, 3) := by decide +kernel
theorem dX5_init_20 : decode cX5_init 20 = .ok (.aload_n 0, 1) := by decide +kernel
theorem dX5_init_21 : decode cX5_init 21 = .ok (.bipush 24, 2) := by decide +kernel
theorem dX5_init_23 : decode cX5_init 23 = .ok (.newarray .int, 2) := by decide +kernel
theorem dX5_init_25 : decode cX5_init 25 = .ok (.putfield 16, 3) := by decide +kernel
theorem dX5_init_28 : decode cX5_init 28 = .ok (.aload_n 0, 1) := by decide +kernel
theorem dX5_init_29 : decode cX5_init 29 = .ok (.bipush 64, 2) := by decide +kernel
theorem dX5_init_31 : decode cX5_init 31 = .ok (.newarray .int, 2) := by decide +kernel
theorem dX5_init_33 : decode cX5_init 33 = .ok (.putfield 19, 3) := by decide +kernel
theorem dX5_init_36 : decode cX5_init 36 = .ok (.aload_n 0, 1) := by decide +kernel
theorem dX5_init_37 : decode cX5_init 37 = .ok (.bipush 6, 2) := by decide +kernel
theorem dX5_init_39 : decode cX5_init 39 = .ok (.newarray .int, 2) := by decide +kernel
theorem dX5_init_41 : decode cX5_init 41 = .ok (.putfield 22, 3) := by decide +kernel
theorem dX5_init_44 : decode cX5_init 44 = .ok (.aload_n 0, 1) := by decide +kernel
theorem dX5_init_45 : decode cX5_init 45 = .ok (.bipush 6, 2) := by decide +kernel
theorem dX5_init_47 : decode cX5_init 47 = .ok (.newarray .int, 2) := by decide +kernel
theorem dX5_init_49 : decode cX5_init 49 = .ok (.putfield 25, 3) := by decide +kernel
theorem dX5_init_52 : decode cX5_init 52 = .ok (.aload_n 0, 1) := by decide +kernel
theorem dX5_init_53 : decode cX5_init 53 = .ok (.sipush 434, 3) := by decide +kernel
theorem dX5_init_56 : decode cX5_init 56 = .ok (.newarray .int, 2) := by decide +kernel
theorem dX5_init_58 : decode cX5_init 58 = .ok (.putfield 28, 3) := by decide +kernel
theorem dX5_init_61 : decode cX5_init 61 = .ok (.aload_n 0, 1) := by decide +kernel
theorem dX5_init_62 : decode cX5_init 62 = .ok (.bipush 6, 2) := by decide +kernel
theorem dX5_init_64 : decode cX5_init 64 = .ok (.newarray .int, 2) := by decide +kernel
theorem dX5_init_66 : decode cX5_init 66 = .ok (.putfield 31, 3) := by decide +kernel
theorem dX5_init_69 : decode cX5_init 69 = .ok (.aload_n 0, 1) := by decide +kernel
theorem dX5_init_70 : decode cX5_init 70 = .ok (.bipush 6, 2) := by decide +kernel
theorem dX5_init_72 : decode cX5_init 72 = .ok (.newarray .int, 2) := by decide +kernel
theorem dX5_init_74 : decode cX5_init 74 = .ok (.putfield 34, 3) := by decide +kernel
theorem dX5_init_77 : decode cX5_init 77 = .ok (.aload_n 0, 1) := by decide +kernel
theorem dX5_init_78 : decode cX5_init 78 = .ok (.bipush 6, 2) := by decide +kernel
theorem dX5_init_80 : decode cX5_init 80 = .ok (.newarray .int, 2) := by decide +kernel
theorem dX5_init_82 : decode cX5_init 82 = .ok (.putfield 37, 3) := by decide +kernel
theorem dX5_init_85 : decode cX5_init 85 = .ok (.aload_n 0, 1) := by decide +kernel
theorem dX5_init_86 : decode cX5_init 86 = .ok (.iconst 2, 1) := by decide +kernel
theorem dX5_init_87 : decode cX5_init 87 = .ok (.newarray .boolean, 2) := by decide +kernel
theorem dX5_init_89 : decode cX5_init 89 = .ok (.putfield 40, 3) := by decide +kernel
theorem dX5_init_92 : decode cX5_init 92 = .ok (.aload_n 0, 1) := by decide +kernel
theorem dX5_init_93 : decode cX5_init 93 = .ok (.bipush 62, 2) := by decide +kernel
theorem dX5_init_95 : decode cX5_init 95 = .ok (.newarray .int, 2) := by decide +kernel
theorem dX5_init_97 : decode cX5_init 97 = .ok (.putfield 44, 3) := by decide +kernel
theorem dX5_init_100 : decode cX5_init 100 = .ok (.return_, 1) := by decide +kernel
theorem dX5_in_0 : decode cX5_in 0 = .ok (.lload_n 0, 1) := by decide +kernel
theorem dX5_in_1 : decode cX5_in 1 = .ok (.lload_n 2, 1) := by decide +kernel
theorem dX5_in_2 : decode cX5_in 2 = .ok (.lcmp, 1) := by decide +kernel
theorem dX5_in_3 : decode cX5_in 3 = .ok (.ifCond .lt 14, 3) := by decide +kernel
theorem dX5_in_6 : decode cX5_in 6 = .ok (.lload_n 0, 1) := by decide +kernel
theorem dX5_in_7 : decode cX5_in 7 = .ok (.lload 4, 2) := by decide +kernel
theorem dX5_in_9 : decode cX5_in 9 = .ok (.lcmp, 1) := by decide +kernel
theorem dX5_in_10 : decode cX5_in 10 = .ok (.ifCond .gt 7, 3) := by decide +kernel
theorem dX5_in_13 : decode cX5_in 13 = .ok (.iconst 1, 1) := by decide +kernel
theorem dX5_in_14 : decode cX5_in 14 = .ok (.goto 4, 3) := by decide +kernel
theorem dX5_in_17 : decode cX5_in 17 = .ok (.iconst 0, 1) := by decide +kernel
theorem dX5_in_18 : decode cX5_in 18 = .ok (.ireturn, 1) := by decide +kernel
theorem dX5_has_0 : decode cX5_has 0 = .ok (.iload_n 0, 1) := by decide +kernel
theorem dX5_has_1 : decode cX5_has 1 = .ok (.iload_n 1, 1) := by decide +kernel
theorem dX5_has_2 : decode cX5_has 2 = .ok (.ishr, 1) := by decide +kernel
theorem dX5_has_3 : decode cX5_has 3 = .ok (.iconst 1, 1) := by decide +kernel
theorem dX5_has_4 : decode cX5_has 4 = .ok (.iand, 1) := by decide +kernel
theorem dX5_has_5 : decode cX5_has 5 = .ok (.iconst 1, 1) := by decide +kernel
theorem dX5_has_6 : decode cX5_has 6 = .ok (.if_icmp .ne 7, 3) := by decide +kernel
theorem dX5_has_9 : decode cX5_has 9 = .ok (.iconst 1, 1) := by decide +kernel
theorem dX5_has_10 : decode cX5_has 10 = .ok (.goto 4, 3) := by decide +kernel
theorem dX5_has_13 : decode cX5_has 13 = .ok (.iconst 0, 1) := by decide +kernel
theorem dX5_has_14 : decode cX5_has 14 = .ok (.ireturn, 1) := by decide +kernel
theorem dX5_ones_0 : decode cX5_ones 0 = .ok (.iconst 0, 1) := by decide +kernel
theorem dX5_ones_1 : decode cX5_ones 1 = .ok (.istore_n 1, 1) := by decide +kernel
theorem dX5_ones_2 : decode cX5_ones 2 = .ok (.iconst 0, 1) := by decide +kernel
theorem dX5_ones_3 : decode cX5_ones 3 = .ok (.istore_n 2, 1) := by decide +kernel
theorem dX5_ones_4 : decode cX5_ones 4 = .ok (.iload_n 2, 1) := by decide +kernel
theorem dX5_ones_5 : decode cX5_ones 5 = .ok (.bipush 8, 2) := by decide +kernel
theorem dX5_ones_7 : decode cX5_ones 7 = .ok (.if_icmp .ge 17, 3) := by decide +kernel
theorem dX5_ones_10 : decode cX5_ones 10 = .ok (.iload_n 1, 1) := by decide +kernel
theorem dX5_ones_11 : decode cX5_ones 11 = .ok (.iload_n 0, 1) := by decide +kernel
theorem dX5_ones_12 : decode cX5_ones 12 = .ok (.iload_n 2, 1) := by decide +kernel
theorem dX5_ones_13 : decode cX5_ones 13 = .ok (.ishr, 1) := by decide +kernel
theorem dX5_ones_14 : decode cX5_ones 14 = .ok (.iconst 1, 1) := by decide +kernel
theorem dX5_ones_15 : decode cX5_ones 15 = .ok (.iand, 1) := by decide +kernel
theorem dX5_ones_16 : decode cX5_ones 16 = .ok (.iadd, 1) := by decide +kernel
theorem dX5_ones_17 : decode cX5_ones 17 = .ok (.istore_n 1, 1) := by decide +kernel
theorem dX5_ones_18 : decode cX5_ones 18 = .ok (.iinc 2 1, 3) := by decide +kernel
theorem dX5_ones_21 : decode cX5_ones 21 = .ok (.goto (-17), 3) := by decide +kernel
theorem dX5_ones_24 : decode cX5_ones 24 = .ok (.iload_n 1, 1) := by decide +kernel
theorem dX5_ones_25 : decode cX5_ones 25 = .ok (.ireturn, 1) := by decide +kernel
theorem dX5_write_0 : decode cX5_write 0 = .ok (.iload_n 1, 1) := by decide +kernel
theorem dX5_write_1 : decode cX5_write 1 = .ok (.i2l, 1) := by decide +kernel
theorem dX5_write_2 : decode cX5_write 2 = .ok (.lconst 0, 1) := by decide +kernel
theorem dX5_write_3 : decode cX5_write 3 = .ok (.ldc2_w 47, 3) := by decide +kernel
theorem dX5_write_6 : decode cX5_write 6 = .ok (.invokestatic 49, 3) := by decide +kernel
theorem dX5_write_9 : decode cX5_write 9 = .ok (.ifCond .ne 6, 3) := by decide +kernel
theorem dX5_write_12 : decode cX5_write 12 = .ok (.bipush (-2), 2) := by decide +kernel
theorem dX5_write_14 : decode cX5_write 14 = .ok (.ireturn, 1) := by decide +kernel
theorem dX5_write_15 : decode cX5_write 15 = .ok (.aload_n 0, 1) := by decide +kernel
theorem dX5_write_16 : decode cX5_write 16 = .ok (.getfield 53, 3) := by decide +kernel
theorem dX5_write_19 : decode cX5_write 19 = .ok (.bipush 64, 2) := by decide +kernel
theorem dX5_write_21 : decode cX5_write 21 = .ok (.if_icmp .ne 6, 3) := by decide +kernel
theorem dX5_write_24 : decode cX5_write 24 = .ok (.bipush (-4), 2) := by decide +kernel
theorem dX5_write_26 : decode cX5_write 26 = .ok (.ireturn, 1) := by decide +kernel
theorem dX5_write_27 : decode cX5_write 27 = .ok (.aload_n 0, 1) := by decide +kernel
theorem dX5_write_28 : decode cX5_write 28 = .ok (.getfield 19, 3) := by decide +kernel
theorem dX5_write_31 : decode cX5_write 31 = .ok (.aload_n 0, 1) := by decide +kernel
theorem dX5_write_32 : decode cX5_write 32 = .ok (.getfield 53, 3) := by decide +kernel
theorem dX5_write_35 : decode cX5_write 35 = .ok (.iload_n 1, 1) := by decide +kernel
theorem dX5_write_36 : decode cX5_write 36 = .ok (.iastore, 1) := by decide +kernel
theorem dX5_write_37 : decode cX5_write 37 = .ok (.aload_n 0, 1) := by decide +kernel
theorem dX5_write_38 : decode cX5_write 38 = .ok (.dup, 1) := by decide +kernel
theorem dX5_write_39 : decode cX5_write 39 = .ok (.getfield 53, 3) := by decide +kernel
theorem dX5_write_42 : decode cX5_write 42 = .ok (.iconst 1, 1) := by decide +kernel
theorem dX5_write_43 : decode cX5_write 43 = .ok (.iadd, 1) := by decide +kernel
theorem dX5_write_44 : decode cX5_write 44 = .ok (.putfield 53, 3) := by decide +kernel
theorem dX5_write_47 : decode cX5_write 47 = .ok (.aload_n 0, 1) := by decide +kernel
theorem dX5_write_48 : decode cX5_write 48 = .ok (.getfield 53, 3) := by decide +kernel
theorem dX5_write_51 : decode cX5_write 51 = .ok (.ireturn, 1) := by decide +kernel
theorem dX5_wipe_0 : decode cX5_wipe 0 = .ok (.aload_n 0, 1) := by decide +kernel
theorem dX5_wipe_1 : decode cX5_wipe 1 = .ok (.getfield 53, 3) := by decide +kernel
theorem dX5_wipe_4 : decode cX5_wipe 4 = .ok (.istore_n 1, 1) := by decide +kernel
theorem dX5_wipe_5 : decode cX5_wipe 5 = .ok (.aload_n 0, 1) := by decide +kernel
theorem dX5_wipe_6 : decode cX5_wipe 6 = .ok (.iconst 0, 1) := by decide +kernel
theorem dX5_wipe_7 : decode cX5_wipe 7 = .ok (.putfield 53, 3) := by decide +kernel
theorem dX5_wipe_10 : decode cX5_wipe 10 = .ok (.iload_n 1, 1) := by decide +kernel
theorem dX5_wipe_11 : decode cX5_wipe 11 = .ok (.ireturn, 1) := by decide +kernel
theorem dX5_deedOf_0 : decode cX5_deedOf 0 = .ok (.iload_n 0, 1) := by decide +kernel
theorem dX5_deedOf_1 : decode cX5_deedOf 1 = .ok (.bipush 108, 2) := by decide +kernel
theorem dX5_deedOf_3 : decode cX5_deedOf 3 = .ok (.if_icmp .ne 7, 3) := by decide +kernel
theorem dX5_deedOf_6 : decode cX5_deedOf 6 = .ok (.iconst 0, 1) := by decide +kernel
theorem dX5_deedOf_7 : decode cX5_deedOf 7 = .ok (.goto 25, 3) := by decide +kernel
theorem dX5_deedOf_10 : decode cX5_deedOf 10 = .ok (.iload_n 0, 1) := by decide +kernel
theorem dX5_deedOf_11 : decode cX5_deedOf 11 = .ok (.bipush 114, 2) := by decide +kernel
theorem dX5_deedOf_13 : decode cX5_deedOf 13 = .ok (.if_icmp .ne 7, 3) := by decide +kernel
theorem dX5_deedOf_16 : decode cX5_deedOf 16 = .ok (.iconst 1, 1) := by decide +kernel
theorem dX5_deedOf_17 : decode cX5_deedOf 17 = .ok (.goto 15, 3) := by decide +kernel
theorem dX5_deedOf_20 : decode cX5_deedOf 20 = .ok (.iload_n 0, 1) := by decide +kernel
theorem dX5_deedOf_21 : decode cX5_deedOf 21 = .ok (.bipush 109, 2) := by decide +kernel
theorem dX5_deedOf_23 : decode cX5_deedOf 23 = .ok (.if_icmp .ne 7, 3) := by decide +kernel
theorem dX5_deedOf_26 : decode cX5_deedOf 26 = .ok (.iconst 2, 1) := by decide +kernel
theorem dX5_deedOf_27 : decode cX5_deedOf 27 = .ok (.goto 5, 3) := by decide +kernel
theorem dX5_deedOf_30 : decode cX5_deedOf 30 = .ok (.bipush (-9), 2) := by decide +kernel
theorem dX5_deedOf_32 : decode cX5_deedOf 32 = .ok (.ireturn, 1) := by decide +kernel
theorem dX5_readText_0 : decode cX5_readText 0 = .ok (.aload_n 0, 1) := by decide +kernel
theorem dX5_readText_1 : decode cX5_readText 1 = .ok (.iconst 0, 1) := by decide +kernel
theorem dX5_readText_2 : decode cX5_readText 2 = .ok (.putfield 57, 3) := by decide +kernel
theorem dX5_readText_5 : decode cX5_readText 5 = .ok (.aload_n 0, 1) := by decide +kernel
theorem dX5_readText_6 : decode cX5_readText 6 = .ok (.getfield 53, 3) := by decide +kernel
theorem dX5_readText_9 : decode cX5_readText 9 = .ok (.ifCond .eq 14, 3) := by decide +kernel
theorem dX5_readText_12 : decode cX5_readText 12 = .ok (.aload_n 0, 1) := by decide +kernel
theorem dX5_readText_13 : decode cX5_readText 13 = .ok (.getfield 19, 3) := by decide +kernel
theorem dX5_readText_16 : decode cX5_readText 16 = .ok (.iconst 0, 1) := by decide +kernel
theorem dX5_readText_17 : decode cX5_readText 17 = .ok (.iaload, 1) := by decide +kernel
theorem dX5_readText_18 : decode cX5_readText 18 = .ok (.bipush 65, 2) := by decide +kernel
theorem dX5_readText_20 : decode cX5_readText 20 = .ok (.if_icmp .eq 5, 3) := by decide +kernel
theorem dX5_readText_23 : decode cX5_readText 23 = .ok (.iconst 0, 1) := by decide +kernel
theorem dX5_readText_24 : decode cX5_readText 24 = .ok (.ireturn, 1) := by decide +kernel
theorem dX5_readText_25 : decode cX5_readText 25 = .ok (.iconst 1, 1) := by decide +kernel
theorem dX5_readText_26 : decode cX5_readText 26 = .ok (.istore_n 1, 1) := by decide +kernel
theorem dX5_readText_27 : decode cX5_readText 27 = .ok (.iload_n 1, 1) := by decide +kernel
theorem dX5_readText_28 : decode cX5_readText 28 = .ok (.aload_n 0, 1) := by decide +kernel
theorem dX5_readText_29 : decode cX5_readText 29 = .ok (.getfield 53, 3) := by decide +kernel
theorem dX5_readText_32 : decode cX5_readText 32 = .ok (.if_icmp .ge 164, 3) := by decide +kernel
theorem dX5_readText_35 : decode cX5_readText 35 = .ok (.iload_n 1, 1) := by decide +kernel
theorem dX5_readText_36 : decode cX5_readText 36 = .ok (.iconst 1, 1) := by decide +kernel
theorem dX5_readText_37 : decode cX5_readText 37 = .ok (.isub, 1) := by decide +kernel
theorem dX5_readText_38 : decode cX5_readText 38 = .ok (.iconst 5, 1) := by decide +kernel
theorem dX5_readText_39 : decode cX5_readText 39 = .ok (.irem, 1) := by decide +kernel
theorem dX5_readText_40 : decode cX5_readText 40 = .ok (.istore_n 2, 1) := by decide +kernel
theorem dX5_readText_41 : decode cX5_readText 41 = .ok (.aload_n 0, 1) := by decide +kernel
theorem dX5_readText_42 : decode cX5_readText 42 = .ok (.getfield 19, 3) := by decide +kernel
theorem dX5_readText_45 : decode cX5_readText 45 = .ok (.iload_n 1, 1) := by decide +kernel
theorem dX5_readText_46 : decode cX5_readText 46 = .ok (.iaload, 1) := by decide +kernel
theorem dX5_readText_47 : decode cX5_readText 47 = .ok (.istore_n 3, 1) := by decide +kernel
theorem dX5_readText_48 : decode cX5_readText 48 = .ok (.iload_n 2, 1) := by decide +kernel
theorem dX5_readText_49 : decode cX5_readText 49 = .ok (.ifCond .ne 26, 3) := by decide +kernel
theorem dX5_readText_52 : decode cX5_readText 52 = .ok (.iload_n 3, 1) := by decide +kernel
theorem dX5_readText_53 : decode cX5_readText 53 = .ok (.bipush 72, 2) := by decide +kernel
theorem dX5_readText_55 : decode cX5_readText 55 = .ok (.if_icmp .ne 16, 3) := by decide +kernel
theorem dX5_readText_58 : decode cX5_readText 58 = .ok (.aload_n 0, 1) := by decide +kernel
theorem dX5_readText_59 : decode cX5_readText 59 = .ok (.getfield 57, 3) := by decide +kernel
theorem dX5_readText_62 : decode cX5_readText 62 = .ok (.bipush 6, 2) := by decide +kernel
theorem dX5_readText_64 : decode cX5_readText 64 = .ok (.if_icmp .ge 7, 3) := by decide +kernel
theorem dX5_readText_67 : decode cX5_readText 67 = .ok (.iconst 1, 1) := by decide +kernel
theorem dX5_readText_68 : decode cX5_readText 68 = .ok (.goto 59, 3) := by decide +kernel
theorem dX5_readText_71 : decode cX5_readText 71 = .ok (.iconst 0, 1) := by decide +kernel
theorem dX5_readText_72 : decode cX5_readText 72 = .ok (.goto 55, 3) := by decide +kernel
theorem dX5_readText_75 : decode cX5_readText 75 = .ok (.iload_n 2, 1) := by decide +kernel
theorem dX5_readText_76 : decode cX5_readText 76 = .ok (.iconst 1, 1) := by decide +kernel
theorem dX5_readText_77 : decode cX5_readText 77 = .ok (.if_icmp .ne 17, 3) := by decide +kernel
theorem dX5_readText_80 : decode cX5_readText 80 = .ok (.iload_n 3, 1) := by decide +kernel
theorem dX5_readText_81 : decode cX5_readText 81 = .ok (.i2l, 1) := by decide +kernel
theorem dX5_readText_82 : decode cX5_readText 82 = .ok (.ldc2_w 60, 3) := by decide +kernel
theorem dX5_readText_85 : decode cX5_readText 85 = .ok (.ldc2_w 62, 3) := by decide +kernel
theorem dX5_readText_88 : decode cX5_readText 88 = .ok (.invokestatic 49, 3) := by decide +kernel
theorem dX5_readText_91 : decode cX5_readText 91 = .ok (.goto 36, 3) := by decide +kernel
theorem dX5_readText_94 : decode cX5_readText 94 = .ok (.iload_n 2, 1) := by decide +kernel
theorem dX5_readText_95 : decode cX5_readText 95 = .ok (.iconst 4, 1) := by decide +kernel
theorem dX5_readText_96 : decode cX5_readText 96 = .ok (.if_icmp .ge 17, 3) := by decide +kernel
theorem dX5_readText_99 : decode cX5_readText 99 = .ok (.iload_n 3, 1) := by decide +kernel
theorem dX5_readText_100 : decode cX5_readText 100 = .ok (.i2l, 1) := by decide +kernel
theorem dX5_readText_101 : decode cX5_readText 101 = .ok (.ldc2_w 60, 3) := by decide +kernel
theorem dX5_readText_104 : decode cX5_readText 104 = .ok (.ldc2_w 64, 3) := by decide +kernel
theorem dX5_readText_107 : decode cX5_readText 107 = .ok (.invokestatic 49, 3) := by decide +kernel
theorem dX5_readText_110 : decode cX5_readText 110 = .ok (.goto 17, 3) := by decide +kernel
theorem dX5_readText_113 : decode cX5_readText 113 = .ok (.iload_n 3, 1) := by decide +kernel
theorem dX5_readText_114 : decode cX5_readText 114 = .ok (.invokestatic 66, 3) := by decide +kernel
theorem dX5_readText_117 : decode cX5_readText 117 = .ok (.bipush (-9), 2) := by decide +kernel
theorem dX5_readText_119 : decode cX5_readText 119 = .ok (.if_icmp .eq 7, 3) := by decide +kernel
theorem dX5_readText_122 : decode cX5_readText 122 = .ok (.iconst 1, 1) := by decide +kernel
theorem dX5_readText_123 : decode cX5_readText 123 = .ok (.goto 4, 3) := by decide +kernel
theorem dX5_readText_126 : decode cX5_readText 126 = .ok (.iconst 0, 1) := by decide +kernel
theorem dX5_readText_127 : decode cX5_readText 127 = .ok (.istore 4, 2) := by decide +kernel
theorem dX5_readText_129 : decode cX5_readText 129 = .ok (.iload 4, 2) := by decide +kernel
theorem dX5_readText_131 : decode cX5_readText 131 = .ok (.ifCond .ne 5, 3) := by decide +kernel
theorem dX5_readText_134 : decode cX5_readText 134 = .ok (.iload_n 1, 1) := by decide +kernel
theorem dX5_readText_135 : decode cX5_readText 135 = .ok (.ireturn, 1) := by decide +kernel
theorem dX5_readText_136 : decode cX5_readText 136 = .ok (.iload_n 2, 1) := by decide +kernel
theorem dX5_readText_137 : decode cX5_readText 137 = .ok (.ifCond .le 34, 3) := by decide +kernel
theorem dX5_readText_140 : decode cX5_readText 140 = .ok (.aload_n 0, 1) := by decide +kernel
theorem dX5_readText_141 : decode cX5_readText 141 = .ok (.getfield 16, 3) := by decide +kernel
theorem dX5_readText_144 : decode cX5_readText 144 = .ok (.iconst 4, 1) := by decide +kernel
theorem dX5_readText_145 : decode cX5_readText 145 = .ok (.aload_n 0, 1) := by decide +kernel
theorem dX5_readText_146 : decode cX5_readText 146 = .ok (.getfield 57, 3) := by decide +kernel
theorem dX5_readText_149 : decode cX5_readText 149 = .ok (.imul, 1) := by decide +kernel
theorem dX5_readText_150 : decode cX5_readText 150 = .ok (.iload_n 2, 1) := by decide +kernel
theorem dX5_readText_151 : decode cX5_readText 151 = .ok (.iadd, 1) := by decide +kernel
theorem dX5_readText_152 : decode cX5_readText 152 = .ok (.iconst 1, 1) := by decide +kernel
theorem dX5_readText_153 : decode cX5_readText 153 = .ok (.isub, 1) := by decide +kernel
theorem dX5_readText_154 : decode cX5_readText 154 = .ok (.iload_n 2, 1) := by decide +kernel
theorem dX5_readText_155 : decode cX5_readText 155 = .ok (.iconst 4, 1) := by decide +kernel
theorem dX5_readText_156 : decode cX5_readText 156 = .ok (.if_icmp .ne 10, 3) := by decide +kernel
theorem dX5_readText_159 : decode cX5_readText 159 = .ok (.iload_n 3, 1) := by decide +kernel
theorem dX5_readText_160 : decode cX5_readText 160 = .ok (.invokestatic 66, 3) := by decide +kernel
theorem dX5_readText_163 : decode cX5_readText 163 = .ok (.goto 7, 3) := by decide +kernel
theorem dX5_readText_166 : decode cX5_readText 166 = .ok (.iload_n 3, 1) := by decide +kernel
theorem dX5_readText_167 : decode cX5_readText 167 = .ok (.bipush 48, 2) := by decide +kernel
theorem dX5_readText_169 : decode cX5_readText 169 = .ok (.isub, 1) := by decide +kernel
theorem dX5_readText_170 : decode cX5_readText 170 = .ok (.iastore, 1) := by decide +kernel
theorem dX5_readText_171 : decode cX5_readText 171 = .ok (.aload_n 0, 1) := by decide +kernel
theorem dX5_readText_172 : decode cX5_readText 172 = .ok (.dup, 1) := by decide +kernel
theorem dX5_readText_173 : decode cX5_readText 173 = .ok (.getfield 57, 3) := by decide +kernel
theorem dX5_readText_176 : decode cX5_readText 176 = .ok (.iload_n 2, 1) := by decide +kernel
theorem dX5_readText_177 : decode cX5_readText 177 = .ok (.iconst 4, 1) := by decide +kernel
theorem dX5_readText_178 : decode cX5_readText 178 = .ok (.if_icmp .ne 7, 3) := by decide +kernel
theorem dX5_readText_181 : decode cX5_readText 181 = .ok (.iconst 1, 1) := by decide +kernel
theorem dX5_readText_182 : decode cX5_readText 182 = .ok (.goto 4, 3) := by decide +kernel
theorem dX5_readText_185 : decode cX5_readText 185 = .ok (.iconst 0, 1) := by decide +kernel
theorem dX5_readText_186 : decode cX5_readText 186 = .ok (.iadd, 1) := by decide +kernel
theorem dX5_readText_187 : decode cX5_readText 187 = .ok (.putfield 57, 3) := by decide +kernel
theorem dX5_readText_190 : decode cX5_readText 190 = .ok (.iinc 1 1, 3) := by decide +kernel
theorem dX5_readText_193 : decode cX5_readText 193 = .ok (.goto (-166), 3) := by decide +kernel
theorem dX5_readText_196 : decode cX5_readText 196 = .ok (.aload_n 0, 1) := by decide +kernel
theorem dX5_readText_197 : decode cX5_readText 197 = .ok (.getfield 53, 3) := by decide +kernel
theorem dX5_readText_200 : decode cX5_readText 200 = .ok (.iconst 1, 1) := by decide +kernel
theorem dX5_readText_201 : decode cX5_readText 201 = .ok (.isub, 1) := by decide +kernel
theorem dX5_readText_202 : decode cX5_readText 202 = .ok (.iconst 5, 1) := by decide +kernel
theorem dX5_readText_203 : decode cX5_readText 203 = .ok (.irem, 1) := by decide +kernel
theorem dX5_readText_204 : decode cX5_readText 204 = .ok (.ifCond .ne 8, 3) := by decide +kernel
theorem dX5_readText_207 : decode cX5_readText 207 = .ok (.bipush (-9), 2) := by decide +kernel
theorem dX5_readText_209 : decode cX5_readText 209 = .ok (.goto 7, 3) := by decide +kernel
theorem dX5_readText_212 : decode cX5_readText 212 = .ok (.aload_n 0, 1) := by decide +kernel
theorem dX5_readText_213 : decode cX5_readText 213 = .ok (.getfield 53, 3) := by decide +kernel
theorem dX5_readText_216 : decode cX5_readText 216 = .ok (.ireturn, 1) := by decide +kernel
theorem dX5_fault_0 : decode cX5_fault 0 = .ok (.aload_n 0, 1) := by decide +kernel
theorem dX5_fault_1 : decode cX5_fault 1 = .ok (.invokevirtual 70, 3) := by decide +kernel
theorem dX5_fault_4 : decode cX5_fault 4 = .ok (.ireturn, 1) := by decide +kernel
theorem dX5_lane_0 : decode cX5_lane 0 = .ok (.aload_n 0, 1) := by decide +kernel
theorem dX5_lane_1 : decode cX5_lane 1 = .ok (.invokevirtual 70, 3) := by decide +kernel
theorem dX5_lane_4 : decode cX5_lane 4 = .ok (.bipush (-9), 2) := by decide +kernel
theorem dX5_lane_6 : decode cX5_lane 6 = .ok (.if_icmp .eq 6, 3) := by decide +kernel
theorem dX5_lane_9 : decode cX5_lane 9 = .ok (.bipush (-3), 2) := by decide +kernel
theorem dX5_lane_11 : decode cX5_lane 11 = .ok (.ireturn, 1) := by decide +kernel
theorem dX5_lane_12 : decode cX5_lane 12 = .ok (.aload_n 0, 1) := by decide +kernel
theorem dX5_lane_13 : decode cX5_lane 13 = .ok (.aload_n 0, 1) := by decide +kernel
theorem dX5_lane_14 : decode cX5_lane 14 = .ok (.getfield 57, 3) := by decide +kernel
theorem dX5_lane_17 : decode cX5_lane 17 = .ok (.putfield 74, 3) := by decide +kernel
theorem dX5_lane_20 : decode cX5_lane 20 = .ok (.iconst 0, 1) := by decide +kernel
theorem dX5_lane_21 : decode cX5_lane 21 = .ok (.istore_n 1, 1) := by decide +kernel
theorem dX5_lane_22 : decode cX5_lane 22 = .ok (.iload_n 1, 1) := by decide +kernel
theorem dX5_lane_23 : decode cX5_lane 23 = .ok (.bipush 31, 2) := by decide +kernel
theorem dX5_lane_25 : decode cX5_lane 25 = .ok (.if_icmp .ge 16, 3) := by decide +kernel
theorem dX5_lane_28 : decode cX5_lane 28 = .ok (.aload_n 0, 1) := by decide +kernel
theorem dX5_lane_29 : decode cX5_lane 29 = .ok (.getfield 13, 3) := by decide +kernel
theorem dX5_lane_32 : decode cX5_lane 32 = .ok (.iload_n 1, 1) := by decide +kernel
theorem dX5_lane_33 : decode cX5_lane 33 = .ok (.iconst 0, 1) := by decide +kernel
theorem dX5_lane_34 : decode cX5_lane 34 = .ok (.iastore, 1) := by decide +kernel
theorem dX5_lane_35 : decode cX5_lane 35 = .ok (.iinc 1 1, 3) := by decide +kernel
theorem dX5_lane_38 : decode cX5_lane 38 = .ok (.goto (-16), 3) := by decide +kernel
theorem dX5_lane_41 : decode cX5_lane 41 = .ok (.iconst 0, 1) := by decide +kernel
theorem dX5_lane_42 : decode cX5_lane 42 = .ok (.istore_n 1, 1) := by decide +kernel
theorem dX5_lane_43 : decode cX5_lane 43 = .ok (.iload_n 1, 1) := by decide +kernel
theorem dX5_lane_44 : decode cX5_lane 44 = .ok (.aload_n 0, 1) := by decide +kernel
theorem dX5_lane_45 : decode cX5_lane 45 = .ok (.getfield 74, 3) := by decide +kernel
theorem dX5_lane_48 : decode cX5_lane 48 = .ok (.if_icmp .ge 140, 3) := by decide +kernel
theorem dX5_lane_51 : decode cX5_lane 51 = .ok (.aload_n 0, 1) := by decide +kernel
theorem dX5_lane_52 : decode cX5_lane 52 = .ok (.getfield 13, 3) := by decide +kernel
theorem dX5_lane_55 : decode cX5_lane 55 = .ok (.iconst 0, 1) := by decide +kernel
theorem dX5_lane_56 : decode cX5_lane 56 = .ok (.iload_n 1, 1) := by decide +kernel
theorem dX5_lane_57 : decode cX5_lane 57 = .ok (.iadd, 1) := by decide +kernel
theorem dX5_lane_58 : decode cX5_lane 58 = .ok (.aload_n 0, 1) := by decide +kernel
theorem dX5_lane_59 : decode cX5_lane 59 = .ok (.getfield 16, 3) := by decide +kernel
theorem dX5_lane_62 : decode cX5_lane 62 = .ok (.iconst 4, 1) := by decide +kernel
theorem dX5_lane_63 : decode cX5_lane 63 = .ok (.iload_n 1, 1) := by decide +kernel
theorem dX5_lane_64 : decode cX5_lane 64 = .ok (.imul, 1) := by decide +kernel
theorem dX5_lane_65 : decode cX5_lane 65 = .ok (.iaload, 1) := by decide +kernel
theorem dX5_lane_66 : decode cX5_lane 66 = .ok (.iastore, 1) := by decide +kernel
theorem dX5_lane_67 : decode cX5_lane 67 = .ok (.aload_n 0, 1) := by decide +kernel
theorem dX5_lane_68 : decode cX5_lane 68 = .ok (.getfield 13, 3) := by decide +kernel
theorem dX5_lane_71 : decode cX5_lane 71 = .ok (.bipush 6, 2) := by decide +kernel
theorem dX5_lane_73 : decode cX5_lane 73 = .ok (.iload_n 1, 1) := by decide +kernel
theorem dX5_lane_74 : decode cX5_lane 74 = .ok (.iadd, 1) := by decide +kernel
theorem dX5_lane_75 : decode cX5_lane 75 = .ok (.aload_n 0, 1) := by decide +kernel
theorem dX5_lane_76 : decode cX5_lane 76 = .ok (.getfield 16, 3) := by decide +kernel
theorem dX5_lane_79 : decode cX5_lane 79 = .ok (.iconst 4, 1) := by decide +kernel
theorem dX5_lane_80 : decode cX5_lane 80 = .ok (.iload_n 1, 1) := by decide +kernel
theorem dX5_lane_81 : decode cX5_lane 81 = .ok (.imul, 1) := by decide +kernel
theorem dX5_lane_82 : decode cX5_lane 82 = .ok (.iconst 1, 1) := by decide +kernel
theorem dX5_lane_83 : decode cX5_lane 83 = .ok (.iadd, 1) := by decide +kernel
theorem dX5_lane_84 : decode cX5_lane 84 = .ok (.iaload, 1) := by decide +kernel
theorem dX5_lane_85 : decode cX5_lane 85 = .ok (.iastore, 1) := by decide +kernel
theorem dX5_lane_86 : decode cX5_lane 86 = .ok (.aload_n 0, 1) := by decide +kernel
theorem dX5_lane_87 : decode cX5_lane 87 = .ok (.getfield 7, 3) := by decide +kernel
theorem dX5_lane_90 : decode cX5_lane 90 = .ok (.iload_n 1, 1) := by decide +kernel
theorem dX5_lane_91 : decode cX5_lane 91 = .ok (.aload_n 0, 1) := by decide +kernel
theorem dX5_lane_92 : decode cX5_lane 92 = .ok (.getfield 16, 3) := by decide +kernel
theorem dX5_lane_95 : decode cX5_lane 95 = .ok (.iconst 4, 1) := by decide +kernel
theorem dX5_lane_96 : decode cX5_lane 96 = .ok (.iload_n 1, 1) := by decide +kernel
theorem dX5_lane_97 : decode cX5_lane 97 = .ok (.imul, 1) := by decide +kernel
theorem dX5_lane_98 : decode cX5_lane 98 = .ok (.iconst 2, 1) := by decide +kernel
theorem dX5_lane_99 : decode cX5_lane 99 = .ok (.iadd, 1) := by decide +kernel
theorem dX5_lane_100 : decode cX5_lane 100 = .ok (.iaload, 1) := by decide +kernel
theorem dX5_lane_101 : decode cX5_lane 101 = .ok (.iastore, 1) := by decide +kernel
theorem dX5_lane_102 : decode cX5_lane 102 = .ok (.aload_n 0, 1) := by decide +kernel
theorem dX5_lane_103 : decode cX5_lane 103 = .ok (.getfield 13, 3) := by decide +kernel
theorem dX5_lane_106 : decode cX5_lane 106 = .ok (.bipush 12, 2) := by decide +kernel
theorem dX5_lane_108 : decode cX5_lane 108 = .ok (.iload_n 1, 1) := by decide +kernel
theorem dX5_lane_109 : decode cX5_lane 109 = .ok (.iadd, 1) := by decide +kernel
theorem dX5_lane_110 : decode cX5_lane 110 = .ok (.aload_n 0, 1) := by decide +kernel
theorem dX5_lane_111 : decode cX5_lane 111 = .ok (.getfield 16, 3) := by decide +kernel
theorem dX5_lane_114 : decode cX5_lane 114 = .ok (.iconst 4, 1) := by decide +kernel
theorem dX5_lane_115 : decode cX5_lane 115 = .ok (.iload_n 1, 1) := by decide +kernel
theorem dX5_lane_116 : decode cX5_lane 116 = .ok (.imul, 1) := by decide +kernel
theorem dX5_lane_117 : decode cX5_lane 117 = .ok (.iconst 3, 1) := by decide +kernel
theorem dX5_lane_118 : decode cX5_lane 118 = .ok (.iadd, 1) := by decide +kernel
theorem dX5_lane_119 : decode cX5_lane 119 = .ok (.iaload, 1) := by decide +kernel
theorem dX5_lane_120 : decode cX5_lane 120 = .ok (.iastore, 1) := by decide +kernel
theorem dX5_lane_121 : decode cX5_lane 121 = .ok (.aload_n 0, 1) := by decide +kernel
theorem dX5_lane_122 : decode cX5_lane 122 = .ok (.getfield 13, 3) := by decide +kernel
theorem dX5_lane_125 : decode cX5_lane 125 = .ok (.bipush 18, 2) := by decide +kernel
theorem dX5_lane_127 : decode cX5_lane 127 = .ok (.iload_n 1, 1) := by decide +kernel
theorem dX5_lane_128 : decode cX5_lane 128 = .ok (.iadd, 1) := by decide +kernel
theorem dX5_lane_129 : decode cX5_lane 129 = .ok (.aload_n 0, 1) := by decide +kernel
theorem dX5_lane_130 : decode cX5_lane 130 = .ok (.getfield 16, 3) := by decide +kernel
theorem dX5_lane_133 : decode cX5_lane 133 = .ok (.iconst 4, 1) := by decide +kernel
theorem dX5_lane_134 : decode cX5_lane 134 = .ok (.iload_n 1, 1) := by decide +kernel
theorem dX5_lane_135 : decode cX5_lane 135 = .ok (.imul, 1) := by decide +kernel
theorem dX5_lane_136 : decode cX5_lane 136 = .ok (.iaload, 1) := by decide +kernel
theorem dX5_lane_137 : decode cX5_lane 137 = .ok (.iconst 4, 1) := by decide +kernel
theorem dX5_lane_138 : decode cX5_lane 138 = .ok (.if_icmp .ne 7, 3) := by decide +kernel
theorem dX5_lane_141 : decode cX5_lane 141 = .ok (.iconst 0, 1) := by decide +kernel
theorem dX5_lane_142 : decode cX5_lane 142 = .ok (.goto 4, 3) := by decide +kernel
theorem dX5_lane_145 : decode cX5_lane 145 = .ok (.iconst 1, 1) := by decide +kernel
theorem dX5_lane_146 : decode cX5_lane 146 = .ok (.iastore, 1) := by decide +kernel
theorem dX5_lane_147 : decode cX5_lane 147 = .ok (.aload_n 0, 1) := by decide +kernel
theorem dX5_lane_148 : decode cX5_lane 148 = .ok (.getfield 13, 3) := by decide +kernel
theorem dX5_lane_151 : decode cX5_lane 151 = .ok (.bipush 24, 2) := by decide +kernel
theorem dX5_lane_153 : decode cX5_lane 153 = .ok (.iload_n 1, 1) := by decide +kernel
theorem dX5_lane_154 : decode cX5_lane 154 = .ok (.iadd, 1) := by decide +kernel
theorem dX5_lane_155 : decode cX5_lane 155 = .ok (.aload_n 0, 1) := by decide +kernel
theorem dX5_lane_156 : decode cX5_lane 156 = .ok (.getfield 16, 3) := by decide +kernel
theorem dX5_lane_159 : decode cX5_lane 159 = .ok (.iconst 4, 1) := by decide +kernel
theorem dX5_lane_160 : decode cX5_lane 160 = .ok (.iload_n 1, 1) := by decide +kernel
theorem dX5_lane_161 : decode cX5_lane 161 = .ok (.imul, 1) := by decide +kernel
theorem dX5_lane_162 : decode cX5_lane 162 = .ok (.iaload, 1) := by decide +kernel
theorem dX5_lane_163 : decode cX5_lane 163 = .ok (.iconst 4, 1) := by decide +kernel
theorem dX5_lane_164 : decode cX5_lane 164 = .ok (.if_icmp .ne 7, 3) := by decide +kernel
theorem dX5_lane_167 : decode cX5_lane 167 = .ok (.iconst 0, 1) := by decide +kernel
theorem dX5_lane_168 : decode cX5_lane 168 = .ok (.goto 13, 3) := by decide +kernel
theorem dX5_lane_171 : decode cX5_lane 171 = .ok (.aload_n 0, 1) := by decide +kernel
theorem dX5_lane_172 : decode cX5_lane 172 = .ok (.getfield 16, 3) := by decide +kernel
theorem dX5_lane_175 : decode cX5_lane 175 = .ok (.iconst 4, 1) := by decide +kernel
theorem dX5_lane_176 : decode cX5_lane 176 = .ok (.iload_n 1, 1) := by decide +kernel
theorem dX5_lane_177 : decode cX5_lane 177 = .ok (.imul, 1) := by decide +kernel
theorem dX5_lane_178 : decode cX5_lane 178 = .ok (.iconst 1, 1) := by decide +kernel
theorem dX5_lane_179 : decode cX5_lane 179 = .ok (.iadd, 1) := by decide +kernel
theorem dX5_lane_180 : decode cX5_lane 180 = .ok (.iaload, 1) := by decide +kernel
theorem dX5_lane_181 : decode cX5_lane 181 = .ok (.iastore, 1) := by decide +kernel
theorem dX5_lane_182 : decode cX5_lane 182 = .ok (.iinc 1 1, 3) := by decide +kernel
theorem dX5_lane_185 : decode cX5_lane 185 = .ok (.goto (-142), 3) := by decide +kernel
theorem dX5_lane_188 : decode cX5_lane 188 = .ok (.aload_n 0, 1) := by decide +kernel
theorem dX5_lane_189 : decode cX5_lane 189 = .ok (.iconst 0, 1) := by decide +kernel
theorem dX5_lane_190 : decode cX5_lane 190 = .ok (.putfield 77, 3) := by decide +kernel
theorem dX5_lane_193 : decode cX5_lane 193 = .ok (.aload_n 0, 1) := by decide +kernel
theorem dX5_lane_194 : decode cX5_lane 194 = .ok (.getfield 40, 3) := by decide +kernel
theorem dX5_lane_197 : decode cX5_lane 197 = .ok (.iconst 0, 1) := by decide +kernel
theorem dX5_lane_198 : decode cX5_lane 198 = .ok (.iconst 0, 1) := by decide +kernel
theorem dX5_lane_199 : decode cX5_lane 199 = .ok (.bastore, 1) := by decide +kernel
theorem dX5_lane_200 : decode cX5_lane 200 = .ok (.aload_n 0, 1) := by decide +kernel
theorem dX5_lane_201 : decode cX5_lane 201 = .ok (.getfield 40, 3) := by decide +kernel
theorem dX5_lane_204 : decode cX5_lane 204 = .ok (.iconst 1, 1) := by decide +kernel
theorem dX5_lane_205 : decode cX5_lane 205 = .ok (.iconst 0, 1) := by decide +kernel
theorem dX5_lane_206 : decode cX5_lane 206 = .ok (.bastore, 1) := by decide +kernel
theorem dX5_lane_207 : decode cX5_lane 207 = .ok (.aload_n 0, 1) := by decide +kernel
theorem dX5_lane_208 : decode cX5_lane 208 = .ok (.getfield 74, 3) := by decide +kernel
theorem dX5_lane_211 : decode cX5_lane 211 = .ok (.ireturn, 1) := by decide +kernel
theorem dX5_isHouse_0 : decode cX5_isHouse 0 = .ok (.iload_n 1, 1) := by decide +kernel
theorem dX5_isHouse_1 : decode cX5_isHouse 1 = .ok (.i2l, 1) := by decide +kernel
theorem dX5_isHouse_2 : decode cX5_isHouse 2 = .ok (.lconst 0, 1) := by decide +kernel
theorem dX5_isHouse_3 : decode cX5_isHouse 3 = .ok (.aload_n 0, 1) := by decide +kernel
theorem dX5_isHouse_4 : decode cX5_isHouse 4 = .ok (.getfield 74, 3) := by decide +kernel
theorem dX5_isHouse_7 : decode cX5_isHouse 7 = .ok (.iconst 1, 1) := by decide +kernel
theorem dX5_isHouse_8 : decode cX5_isHouse 8 = .ok (.isub, 1) := by decide +kernel
theorem dX5_isHouse_9 : decode cX5_isHouse 9 = .ok (.i2l, 1) := by decide +kernel
theorem dX5_isHouse_10 : decode cX5_isHouse 10 = .ok (.invokestatic 49, 3) := by decide +kernel
theorem dX5_isHouse_13 : decode cX5_isHouse 13 = .ok (.ireturn, 1) := by decide +kernel
theorem dX5_at_0 : decode cX5_at 0 = .ok (.aload_n 0, 1) := by decide +kernel
theorem dX5_at_1 : decode cX5_at 1 = .ok (.getfield 13, 3) := by decide +kernel
theorem dX5_at_4 : decode cX5_at 4 = .ok (.bipush 31, 2) := by decide +kernel
theorem dX5_at_6 : decode cX5_at 6 = .ok (.iload_n 1, 1) := by decide +kernel
theorem dX5_at_7 : decode cX5_at 7 = .ok (.imul, 1) := by decide +kernel
theorem dX5_at_8 : decode cX5_at 8 = .ok (.iload_n 2, 1) := by decide +kernel
theorem dX5_at_9 : decode cX5_at 9 = .ok (.iadd, 1) := by decide +kernel
theorem dX5_at_10 : decode cX5_at 10 = .ok (.iload_n 3, 1) := by decide +kernel
theorem dX5_at_11 : decode cX5_at 11 = .ok (.iadd, 1) := by decide +kernel
theorem dX5_at_12 : decode cX5_at 12 = .ok (.iaload, 1) := by decide +kernel
theorem dX5_at_13 : decode cX5_at 13 = .ok (.ireturn, 1) := by decide +kernel
theorem dX5_givesOf_0 : decode cX5_givesOf 0 = .ok (.aload_n 0, 1) := by decide +kernel
theorem dX5_givesOf_1 : decode cX5_givesOf 1 = .ok (.iload_n 1, 1) := by decide +kernel
theorem dX5_givesOf_2 : decode cX5_givesOf 2 = .ok (.bipush 24, 2) := by decide +kernel
theorem dX5_givesOf_4 : decode cX5_givesOf 4 = .ok (.iload_n 2, 1) := by decide +kernel
theorem dX5_givesOf_5 : decode cX5_givesOf 5 = .ok (.invokevirtual 80, 3) := by decide +kernel
theorem dX5_givesOf_8 : decode cX5_givesOf 8 = .ok (.istore_n 3, 1) := by decide +kernel
theorem dX5_givesOf_9 : decode cX5_givesOf 9 = .ok (.aload_n 0, 1) := by decide +kernel
theorem dX5_givesOf_10 : decode cX5_givesOf 10 = .ok (.iload_n 1, 1) := by decide +kernel
theorem dX5_givesOf_11 : decode cX5_givesOf 11 = .ok (.iconst 0, 1) := by decide +kernel
theorem dX5_givesOf_12 : decode cX5_givesOf 12 = .ok (.iload_n 2, 1) := by decide +kernel
theorem dX5_givesOf_13 : decode cX5_givesOf 13 = .ok (.invokevirtual 80, 3) := by decide +kernel
theorem dX5_givesOf_16 : decode cX5_givesOf 16 = .ok (.istore 4, 2) := by decide +kernel
theorem dX5_givesOf_18 : decode cX5_givesOf 18 = .ok (.aload_n 0, 1) := by decide +kernel
theorem dX5_givesOf_19 : decode cX5_givesOf 19 = .ok (.iload_n 1, 1) := by decide +kernel
theorem dX5_givesOf_20 : decode cX5_givesOf 20 = .ok (.bipush 18, 2) := by decide +kernel
theorem dX5_givesOf_22 : decode cX5_givesOf 22 = .ok (.iload_n 2, 1) := by decide +kernel
theorem dX5_givesOf_23 : decode cX5_givesOf 23 = .ok (.invokevirtual 80, 3) := by decide +kernel
theorem dX5_givesOf_26 : decode cX5_givesOf 26 = .ok (.ifCond .eq 9, 3) := by decide +kernel
theorem dX5_givesOf_29 : decode cX5_givesOf 29 = .ok (.iload 4, 2) := by decide +kernel
theorem dX5_givesOf_31 : decode cX5_givesOf 31 = .ok (.iconst 2, 1) := by decide +kernel
theorem dX5_givesOf_32 : decode cX5_givesOf 32 = .ok (.if_icmp .ne 5, 3) := by decide +kernel
theorem dX5_givesOf_35 : decode cX5_givesOf 35 = .ok (.iconst 0, 1) := by decide +kernel
theorem dX5_givesOf_36 : decode cX5_givesOf 36 = .ok (.ireturn, 1) := by decide +kernel
theorem dX5_givesOf_37 : decode cX5_givesOf 37 = .ok (.iload 4, 2) := by decide +kernel
theorem dX5_givesOf_39 : decode cX5_givesOf 39 = .ok (.iconst 1, 1) := by decide +kernel
theorem dX5_givesOf_40 : decode cX5_givesOf 40 = .ok (.if_icmp .ne 16, 3) := by decide +kernel
theorem dX5_givesOf_43 : decode cX5_givesOf 43 = .ok (.iload_n 3, 1) := by decide +kernel
theorem dX5_givesOf_44 : decode cX5_givesOf 44 = .ok (.iconst 3, 1) := by decide +kernel
theorem dX5_givesOf_45 : decode cX5_givesOf 45 = .ok (.if_icmp .ge 7, 3) := by decide +kernel
theorem dX5_givesOf_48 : decode cX5_givesOf 48 = .ok (.iconst 0, 1) := by decide +kernel
theorem dX5_givesOf_49 : decode cX5_givesOf 49 = .ok (.goto 6, 3) := by decide +kernel
theorem dX5_givesOf_52 : decode cX5_givesOf 52 = .ok (.iload_n 3, 1) := by decide +kernel
theorem dX5_givesOf_53 : decode cX5_givesOf 53 = .ok (.iconst 3, 1) := by decide +kernel
theorem dX5_givesOf_54 : decode cX5_givesOf 54 = .ok (.isub, 1) := by decide +kernel
theorem dX5_givesOf_55 : decode cX5_givesOf 55 = .ok (.ireturn, 1) := by decide +kernel
theorem dX5_givesOf_56 : decode cX5_givesOf 56 = .ok (.iload 4, 2) := by decide +kernel
theorem dX5_givesOf_58 : decode cX5_givesOf 58 = .ok (.iconst 3, 1) := by decide +kernel
theorem dX5_givesOf_59 : decode cX5_givesOf 59 = .ok (.if_icmp .ne 11, 3) := by decide +kernel
theorem dX5_givesOf_62 : decode cX5_givesOf 62 = .ok (.iload_n 3, 1) := by decide +kernel
theorem dX5_givesOf_63 : decode cX5_givesOf 63 = .ok (.iconst 1, 1) := by decide +kernel
theorem dX5_givesOf_64 : decode cX5_givesOf 64 = .ok (.iadd, 1) := by decide +kernel
theorem dX5_givesOf_65 : decode cX5_givesOf 65 = .ok (.iconst 2, 1) := by decide +kernel
theorem dX5_givesOf_66 : decode cX5_givesOf 66 = .ok (.idiv, 1) := by decide +kernel
theorem dX5_givesOf_67 : decode cX5_givesOf 67 = .ok (.goto 6, 3) := by decide +kernel
theorem dX5_givesOf_70 : decode cX5_givesOf 70 = .ok (.iload_n 3, 1) := by decide +kernel
theorem dX5_givesOf_71 : decode cX5_givesOf 71 = .ok (.iconst 2, 1) := by decide +kernel
theorem dX5_givesOf_72 : decode cX5_givesOf 72 = .ok (.idiv, 1) := by decide +kernel
theorem dX5_givesOf_73 : decode cX5_givesOf 73 = .ok (.ireturn, 1) := by decide +kernel
theorem dX5_groundOf_0 : decode cX5_groundOf 0 = .ok (.aload_n 0, 1) := by decide +kernel
theorem dX5_groundOf_1 : decode cX5_groundOf 1 = .ok (.iload_n 1, 1) := by decide +kernel
theorem dX5_groundOf_2 : decode cX5_groundOf 2 = .ok (.bipush 18, 2) := by decide +kernel
theorem dX5_groundOf_4 : decode cX5_groundOf 4 = .ok (.iload_n 2, 1) := by decide +kernel
theorem dX5_groundOf_5 : decode cX5_groundOf 5 = .ok (.invokevirtual 80, 3) := by decide +kernel
theorem dX5_groundOf_8 : decode cX5_groundOf 8 = .ok (.ifCond .ne 7, 3) := by decide +kernel
theorem dX5_groundOf_11 : decode cX5_groundOf 11 = .ok (.iconst 0, 1) := by decide +kernel
theorem dX5_groundOf_12 : decode cX5_groundOf 12 = .ok (.goto 18, 3) := by decide +kernel
theorem dX5_groundOf_15 : decode cX5_groundOf 15 = .ok (.aload_n 0, 1) := by decide +kernel
theorem dX5_groundOf_16 : decode cX5_groundOf 16 = .ok (.iload_n 1, 1) := by decide +kernel
theorem dX5_groundOf_17 : decode cX5_groundOf 17 = .ok (.bipush 24, 2) := by decide +kernel
theorem dX5_groundOf_19 : decode cX5_groundOf 19 = .ok (.iload_n 2, 1) := by decide +kernel
theorem dX5_groundOf_20 : decode cX5_groundOf 20 = .ok (.invokevirtual 80, 3) := by decide +kernel
theorem dX5_groundOf_23 : decode cX5_groundOf 23 = .ok (.aload_n 0, 1) := by decide +kernel
theorem dX5_groundOf_24 : decode cX5_groundOf 24 = .ok (.iload_n 1, 1) := by decide +kernel
theorem dX5_groundOf_25 : decode cX5_groundOf 25 = .ok (.iload_n 2, 1) := by decide +kernel
theorem dX5_groundOf_26 : decode cX5_groundOf 26 = .ok (.invokevirtual 84, 3) := by decide +kernel
theorem dX5_groundOf_29 : decode cX5_groundOf 29 = .ok (.isub, 1) := by decide +kernel
theorem dX5_groundOf_30 : decode cX5_groundOf 30 = .ok (.ireturn, 1) := by decide +kernel
theorem dX5_leansOn_0 : decode cX5_leansOn 0 = .ok (.aload_n 0, 1) := by decide +kernel
theorem dX5_leansOn_1 : decode cX5_leansOn 1 = .ok (.iload_n 1, 1) := by decide +kernel
theorem dX5_leansOn_2 : decode cX5_leansOn 2 = .ok (.bipush 12, 2) := by decide +kernel
theorem dX5_leansOn_4 : decode cX5_leansOn 4 = .ok (.iload_n 2, 1) := by decide +kernel
theorem dX5_leansOn_5 : decode cX5_leansOn 5 = .ok (.invokevirtual 80, 3) := by decide +kernel
theorem dX5_leansOn_8 : decode cX5_leansOn 8 = .ok (.istore_n 3, 1) := by decide +kernel
theorem dX5_leansOn_9 : decode cX5_leansOn 9 = .ok (.iload_n 3, 1) := by decide +kernel
theorem dX5_leansOn_10 : decode cX5_leansOn 10 = .ok (.ifCond .ne 9, 3) := by decide +kernel
theorem dX5_leansOn_13 : decode cX5_leansOn 13 = .ok (.iload_n 2, 1) := by decide +kernel
theorem dX5_leansOn_14 : decode cX5_leansOn 14 = .ok (.iconst 1, 1) := by decide +kernel
theorem dX5_leansOn_15 : decode cX5_leansOn 15 = .ok (.isub, 1) := by decide +kernel
theorem dX5_leansOn_16 : decode cX5_leansOn 16 = .ok (.goto 16, 3) := by decide +kernel
theorem dX5_leansOn_19 : decode cX5_leansOn 19 = .ok (.iload_n 3, 1) := by decide +kernel
theorem dX5_leansOn_20 : decode cX5_leansOn 20 = .ok (.iconst 1, 1) := by decide +kernel
theorem dX5_leansOn_21 : decode cX5_leansOn 21 = .ok (.if_icmp .ne 9, 3) := by decide +kernel
theorem dX5_leansOn_24 : decode cX5_leansOn 24 = .ok (.iload_n 2, 1) := by decide +kernel
theorem dX5_leansOn_25 : decode cX5_leansOn 25 = .ok (.iconst 1, 1) := by decide +kernel
theorem dX5_leansOn_26 : decode cX5_leansOn 26 = .ok (.iadd, 1) := by decide +kernel
theorem dX5_leansOn_27 : decode cX5_leansOn 27 = .ok (.goto 5, 3) := by decide +kernel
theorem dX5_leansOn_30 : decode cX5_leansOn 30 = .ok (.bipush (-9), 2) := by decide +kernel
theorem dX5_leansOn_32 : decode cX5_leansOn 32 = .ok (.ireturn, 1) := by decide +kernel
theorem dX5_isHeld_0 : decode cX5_isHeld 0 = .ok (.aload_n 0, 1) := by decide +kernel
theorem dX5_isHeld_1 : decode cX5_isHeld 1 = .ok (.iload_n 1, 1) := by decide +kernel
theorem dX5_isHeld_2 : decode cX5_isHeld 2 = .ok (.bipush 12, 2) := by decide +kernel
theorem dX5_isHeld_4 : decode cX5_isHeld 4 = .ok (.iload_n 2, 1) := by decide +kernel
theorem dX5_isHeld_5 : decode cX5_isHeld 5 = .ok (.invokevirtual 80, 3) := by decide +kernel
theorem dX5_isHeld_8 : decode cX5_isHeld 8 = .ok (.iconst 2, 1) := by decide +kernel
theorem dX5_isHeld_9 : decode cX5_isHeld 9 = .ok (.if_icmp .ne 5, 3) := by decide +kernel
theorem dX5_isHeld_12 : decode cX5_isHeld 12 = .ok (.iconst 1, 1) := by decide +kernel
theorem dX5_isHeld_13 : decode cX5_isHeld 13 = .ok (.ireturn, 1) := by decide +kernel
theorem dX5_isHeld_14 : decode cX5_isHeld 14 = .ok (.aload_n 0, 1) := by decide +kernel
theorem dX5_isHeld_15 : decode cX5_isHeld 15 = .ok (.iload_n 1, 1) := by decide +kernel
theorem dX5_isHeld_16 : decode cX5_isHeld 16 = .ok (.iload_n 2, 1) := by decide +kernel
theorem dX5_isHeld_17 : decode cX5_isHeld 17 = .ok (.invokevirtual 88, 3) := by decide +kernel
theorem dX5_isHeld_20 : decode cX5_isHeld 20 = .ok (.istore_n 3, 1) := by decide +kernel
theorem dX5_isHeld_21 : decode cX5_isHeld 21 = .ok (.aload_n 0, 1) := by decide +kernel
theorem dX5_isHeld_22 : decode cX5_isHeld 22 = .ok (.iload_n 3, 1) := by decide +kernel
theorem dX5_isHeld_23 : decode cX5_isHeld 23 = .ok (.invokevirtual 91, 3) := by decide +kernel
theorem dX5_isHeld_26 : decode cX5_isHeld 26 = .ok (.ifCond .eq 19, 3) := by decide +kernel
theorem dX5_isHeld_29 : decode cX5_isHeld 29 = .ok (.aload_n 0, 1) := by decide +kernel
theorem dX5_isHeld_30 : decode cX5_isHeld 30 = .ok (.iload_n 1, 1) := by decide +kernel
theorem dX5_isHeld_31 : decode cX5_isHeld 31 = .ok (.bipush 18, 2) := by decide +kernel
theorem dX5_isHeld_33 : decode cX5_isHeld 33 = .ok (.iload_n 3, 1) := by decide +kernel
theorem dX5_isHeld_34 : decode cX5_isHeld 34 = .ok (.invokevirtual 80, 3) := by decide +kernel
theorem dX5_isHeld_37 : decode cX5_isHeld 37 = .ok (.iconst 1, 1) := by decide +kernel
theorem dX5_isHeld_38 : decode cX5_isHeld 38 = .ok (.if_icmp .ne 7, 3) := by decide +kernel
theorem dX5_isHeld_41 : decode cX5_isHeld 41 = .ok (.iconst 1, 1) := by decide +kernel
theorem dX5_isHeld_42 : decode cX5_isHeld 42 = .ok (.goto 4, 3) := by decide +kernel
theorem dX5_isHeld_45 : decode cX5_isHeld 45 = .ok (.iconst 0, 1) := by decide +kernel
theorem dX5_isHeld_46 : decode cX5_isHeld 46 = .ok (.ireturn, 1) := by decide +kernel
theorem dX5_hourOn_0 : decode cX5_hourOn 0 = .ok (.bipush 31, 2) := by decide +kernel
theorem dX5_hourOn_2 : decode cX5_hourOn 2 = .ok (.iload_n 1, 1) := by decide +kernel
theorem dX5_hourOn_3 : decode cX5_hourOn 3 = .ok (.imul, 1) := by decide +kernel
theorem dX5_hourOn_4 : decode cX5_hourOn 4 = .ok (.istore_n 2, 1) := by decide +kernel
theorem dX5_hourOn_5 : decode cX5_hourOn 5 = .ok (.iconst 0, 1) := by decide +kernel
theorem dX5_hourOn_6 : decode cX5_hourOn 6 = .ok (.istore_n 3, 1) := by decide +kernel
theorem dX5_hourOn_7 : decode cX5_hourOn 7 = .ok (.iload_n 3, 1) := by decide +kernel
theorem dX5_hourOn_8 : decode cX5_hourOn 8 = .ok (.aload_n 0, 1) := by decide +kernel
theorem dX5_hourOn_9 : decode cX5_hourOn 9 = .ok (.getfield 74, 3) := by decide +kernel
theorem dX5_hourOn_12 : decode cX5_hourOn 12 = .ok (.if_icmp .ge 78, 3) := by decide +kernel
theorem dX5_hourOn_15 : decode cX5_hourOn 15 = .ok (.aload_n 0, 1) := by decide +kernel
theorem dX5_hourOn_16 : decode cX5_hourOn 16 = .ok (.getfield 22, 3) := by decide +kernel
theorem dX5_hourOn_19 : decode cX5_hourOn 19 = .ok (.iload_n 3, 1) := by decide +kernel
theorem dX5_hourOn_20 : decode cX5_hourOn 20 = .ok (.aload_n 0, 1) := by decide +kernel
theorem dX5_hourOn_21 : decode cX5_hourOn 21 = .ok (.iload_n 1, 1) := by decide +kernel
theorem dX5_hourOn_22 : decode cX5_hourOn 22 = .ok (.bipush 6, 2) := by decide +kernel
theorem dX5_hourOn_24 : decode cX5_hourOn 24 = .ok (.iload_n 3, 1) := by decide +kernel
theorem dX5_hourOn_25 : decode cX5_hourOn 25 = .ok (.invokevirtual 80, 3) := by decide +kernel
theorem dX5_hourOn_28 : decode cX5_hourOn 28 = .ok (.iastore, 1) := by decide +kernel
theorem dX5_hourOn_29 : decode cX5_hourOn 29 = .ok (.iconst 0, 1) := by decide +kernel
theorem dX5_hourOn_30 : decode cX5_hourOn 30 = .ok (.istore 4, 2) := by decide +kernel
theorem dX5_hourOn_32 : decode cX5_hourOn 32 = .ok (.iload 4, 2) := by decide +kernel
theorem dX5_hourOn_34 : decode cX5_hourOn 34 = .ok (.aload_n 0, 1) := by decide +kernel
theorem dX5_hourOn_35 : decode cX5_hourOn 35 = .ok (.getfield 74, 3) := by decide +kernel
theorem dX5_hourOn_38 : decode cX5_hourOn 38 = .ok (.if_icmp .ge 46, 3) := by decide +kernel
theorem dX5_hourOn_41 : decode cX5_hourOn 41 = .ok (.aload_n 0, 1) := by decide +kernel
theorem dX5_hourOn_42 : decode cX5_hourOn 42 = .ok (.getfield 22, 3) := by decide +kernel
theorem dX5_hourOn_45 : decode cX5_hourOn 45 = .ok (.iload_n 3, 1) := by decide +kernel
theorem dX5_hourOn_46 : decode cX5_hourOn 46 = .ok (.dup2, 1) := by decide +kernel
theorem dX5_hourOn_47 : decode cX5_hourOn 47 = .ok (.iaload, 1) := by decide +kernel
theorem dX5_hourOn_48 : decode cX5_hourOn 48 = .ok (.iload 4, 2) := by decide +kernel
theorem dX5_hourOn_50 : decode cX5_hourOn 50 = .ok (.iload_n 3, 1) := by decide +kernel
theorem dX5_hourOn_51 : decode cX5_hourOn 51 = .ok (.if_icmp .eq 24, 3) := by decide +kernel
theorem dX5_hourOn_54 : decode cX5_hourOn 54 = .ok (.aload_n 0, 1) := by decide +kernel
theorem dX5_hourOn_55 : decode cX5_hourOn 55 = .ok (.iload_n 1, 1) := by decide +kernel
theorem dX5_hourOn_56 : decode cX5_hourOn 56 = .ok (.iload 4, 2) := by decide +kernel
theorem dX5_hourOn_58 : decode cX5_hourOn 58 = .ok (.invokevirtual 88, 3) := by decide +kernel
theorem dX5_hourOn_61 : decode cX5_hourOn 61 = .ok (.iload_n 3, 1) := by decide +kernel
theorem dX5_hourOn_62 : decode cX5_hourOn 62 = .ok (.if_icmp .ne 13, 3) := by decide +kernel
theorem dX5_hourOn_65 : decode cX5_hourOn 65 = .ok (.aload_n 0, 1) := by decide +kernel
theorem dX5_hourOn_66 : decode cX5_hourOn 66 = .ok (.iload_n 1, 1) := by decide +kernel
theorem dX5_hourOn_67 : decode cX5_hourOn 67 = .ok (.iload 4, 2) := by decide +kernel
theorem dX5_hourOn_69 : decode cX5_hourOn 69 = .ok (.invokevirtual 84, 3) := by decide +kernel
theorem dX5_hourOn_72 : decode cX5_hourOn 72 = .ok (.goto 4, 3) := by decide +kernel
theorem dX5_hourOn_75 : decode cX5_hourOn 75 = .ok (.iconst 0, 1) := by decide +kernel
theorem dX5_hourOn_76 : decode cX5_hourOn 76 = .ok (.iadd, 1) := by decide +kernel
theorem dX5_hourOn_77 : decode cX5_hourOn 77 = .ok (.iastore, 1) := by decide +kernel
theorem dX5_hourOn_78 : decode cX5_hourOn 78 = .ok (.iinc 4 1, 3) := by decide +kernel
theorem dX5_hourOn_81 : decode cX5_hourOn 81 = .ok (.goto (-49), 3) := by decide +kernel
theorem dX5_hourOn_84 : decode cX5_hourOn 84 = .ok (.iinc 3 1, 3) := by decide +kernel
theorem dX5_hourOn_87 : decode cX5_hourOn 87 = .ok (.goto (-80), 3) := by decide +kernel
theorem dX5_hourOn_90 : decode cX5_hourOn 90 = .ok (.iconst 0, 1) := by decide +kernel
theorem dX5_hourOn_91 : decode cX5_hourOn 91 = .ok (.istore_n 3, 1) := by decide +kernel
theorem dX5_hourOn_92 : decode cX5_hourOn 92 = .ok (.iload_n 3, 1) := by decide +kernel
theorem dX5_hourOn_93 : decode cX5_hourOn 93 = .ok (.aload_n 0, 1) := by decide +kernel
theorem dX5_hourOn_94 : decode cX5_hourOn 94 = .ok (.getfield 74, 3) := by decide +kernel
theorem dX5_hourOn_97 : decode cX5_hourOn 97 = .ok (.if_icmp .ge 42, 3) := by decide +kernel
theorem dX5_hourOn_100 : decode cX5_hourOn 100 = .ok (.aload_n 0, 1) := by decide +kernel
theorem dX5_hourOn_101 : decode cX5_hourOn 101 = .ok (.getfield 13, 3) := by decide +kernel
theorem dX5_hourOn_104 : decode cX5_hourOn 104 = .ok (.iload_n 2, 1) := by decide +kernel
theorem dX5_hourOn_105 : decode cX5_hourOn 105 = .ok (.bipush 24, 2) := by decide +kernel
theorem dX5_hourOn_107 : decode cX5_hourOn 107 = .ok (.iadd, 1) := by decide +kernel
theorem dX5_hourOn_108 : decode cX5_hourOn 108 = .ok (.iload_n 3, 1) := by decide +kernel
theorem dX5_hourOn_109 : decode cX5_hourOn 109 = .ok (.iadd, 1) := by decide +kernel
theorem dX5_hourOn_110 : decode cX5_hourOn 110 = .ok (.aload_n 0, 1) := by decide +kernel
theorem dX5_hourOn_111 : decode cX5_hourOn 111 = .ok (.iload_n 1, 1) := by decide +kernel
theorem dX5_hourOn_112 : decode cX5_hourOn 112 = .ok (.bipush 18, 2) := by decide +kernel
theorem dX5_hourOn_114 : decode cX5_hourOn 114 = .ok (.iload_n 3, 1) := by decide +kernel
theorem dX5_hourOn_115 : decode cX5_hourOn 115 = .ok (.invokevirtual 80, 3) := by decide +kernel
theorem dX5_hourOn_118 : decode cX5_hourOn 118 = .ok (.iconst 1, 1) := by decide +kernel
theorem dX5_hourOn_119 : decode cX5_hourOn 119 = .ok (.if_icmp .ne 12, 3) := by decide +kernel
theorem dX5_hourOn_122 : decode cX5_hourOn 122 = .ok (.aload_n 0, 1) := by decide +kernel
theorem dX5_hourOn_123 : decode cX5_hourOn 123 = .ok (.getfield 22, 3) := by decide +kernel
theorem dX5_hourOn_126 : decode cX5_hourOn 126 = .ok (.iload_n 3, 1) := by decide +kernel
theorem dX5_hourOn_127 : decode cX5_hourOn 127 = .ok (.iaload, 1) := by decide +kernel
theorem dX5_hourOn_128 : decode cX5_hourOn 128 = .ok (.goto 4, 3) := by decide +kernel
theorem dX5_hourOn_131 : decode cX5_hourOn 131 = .ok (.iconst 0, 1) := by decide +kernel
theorem dX5_hourOn_132 : decode cX5_hourOn 132 = .ok (.iastore, 1) := by decide +kernel
theorem dX5_hourOn_133 : decode cX5_hourOn 133 = .ok (.iinc 3 1, 3) := by decide +kernel
theorem dX5_hourOn_136 : decode cX5_hourOn 136 = .ok (.goto (-44), 3) := by decide +kernel
theorem dX5_hourOn_139 : decode cX5_hourOn 139 = .ok (.iconst 0, 1) := by decide +kernel
theorem dX5_hourOn_140 : decode cX5_hourOn 140 = .ok (.istore_n 3, 1) := by decide +kernel
theorem dX5_hourOn_141 : decode cX5_hourOn 141 = .ok (.iconst 0, 1) := by decide +kernel
theorem dX5_hourOn_142 : decode cX5_hourOn 142 = .ok (.istore 4, 2) := by decide +kernel
theorem dX5_hourOn_144 : decode cX5_hourOn 144 = .ok (.iload 4, 2) := by decide +kernel
theorem dX5_hourOn_146 : decode cX5_hourOn 146 = .ok (.aload_n 0, 1) := by decide +kernel
theorem dX5_hourOn_147 : decode cX5_hourOn 147 = .ok (.getfield 74, 3) := by decide +kernel
theorem dX5_hourOn_150 : decode cX5_hourOn 150 = .ok (.if_icmp .ge 98, 3) := by decide +kernel
theorem dX5_hourOn_153 : decode cX5_hourOn 153 = .ok (.aload_n 0, 1) := by decide +kernel
theorem dX5_hourOn_154 : decode cX5_hourOn 154 = .ok (.iload_n 1, 1) := by decide +kernel
theorem dX5_hourOn_155 : decode cX5_hourOn 155 = .ok (.iconst 0, 1) := by decide +kernel
theorem dX5_hourOn_156 : decode cX5_hourOn 156 = .ok (.iload 4, 2) := by decide +kernel
theorem dX5_hourOn_158 : decode cX5_hourOn 158 = .ok (.invokevirtual 80, 3) := by decide +kernel
theorem dX5_hourOn_161 : decode cX5_hourOn 161 = .ok (.iconst 2, 1) := by decide +kernel
theorem dX5_hourOn_162 : decode cX5_hourOn 162 = .ok (.if_icmp .eq 17, 3) := by decide +kernel
theorem dX5_hourOn_165 : decode cX5_hourOn 165 = .ok (.aload_n 0, 1) := by decide +kernel
theorem dX5_hourOn_166 : decode cX5_hourOn 166 = .ok (.iload_n 1, 1) := by decide +kernel
theorem dX5_hourOn_167 : decode cX5_hourOn 167 = .ok (.iload 4, 2) := by decide +kernel
theorem dX5_hourOn_169 : decode cX5_hourOn 169 = .ok (.invokevirtual 95, 3) := by decide +kernel
theorem dX5_hourOn_172 : decode cX5_hourOn 172 = .ok (.ifCond .ne 7, 3) := by decide +kernel
theorem dX5_hourOn_175 : decode cX5_hourOn 175 = .ok (.iconst 1, 1) := by decide +kernel
theorem dX5_hourOn_176 : decode cX5_hourOn 176 = .ok (.goto 4, 3) := by decide +kernel
theorem dX5_hourOn_179 : decode cX5_hourOn 179 = .ok (.iconst 0, 1) := by decide +kernel
theorem dX5_hourOn_180 : decode cX5_hourOn 180 = .ok (.istore 5, 2) := by decide +kernel
theorem dX5_hourOn_182 : decode cX5_hourOn 182 = .ok (.aload_n 0, 1) := by decide +kernel
theorem dX5_hourOn_183 : decode cX5_hourOn 183 = .ok (.iload_n 1, 1) := by decide +kernel
theorem dX5_hourOn_184 : decode cX5_hourOn 184 = .ok (.iload 4, 2) := by decide +kernel
theorem dX5_hourOn_186 : decode cX5_hourOn 186 = .ok (.invokevirtual 99, 3) := by decide +kernel
theorem dX5_hourOn_189 : decode cX5_hourOn 189 = .ok (.iconst 3, 1) := by decide +kernel
theorem dX5_hourOn_190 : decode cX5_hourOn 190 = .ok (.aload_n 0, 1) := by decide +kernel
theorem dX5_hourOn_191 : decode cX5_hourOn 191 = .ok (.getfield 7, 3) := by decide +kernel
theorem dX5_hourOn_194 : decode cX5_hourOn 194 = .ok (.iload 4, 2) := by decide +kernel
theorem dX5_hourOn_196 : decode cX5_hourOn 196 = .ok (.iaload, 1) := by decide +kernel
theorem dX5_hourOn_197 : decode cX5_hourOn 197 = .ok (.imul, 1) := by decide +kernel
theorem dX5_hourOn_198 : decode cX5_hourOn 198 = .ok (.if_icmp .le 7, 3) := by decide +kernel
theorem dX5_hourOn_201 : decode cX5_hourOn 201 = .ok (.iconst 1, 1) := by decide +kernel
theorem dX5_hourOn_202 : decode cX5_hourOn 202 = .ok (.goto 4, 3) := by decide +kernel
theorem dX5_hourOn_205 : decode cX5_hourOn 205 = .ok (.iconst 0, 1) := by decide +kernel
theorem dX5_hourOn_206 : decode cX5_hourOn 206 = .ok (.istore 6, 2) := by decide +kernel
theorem dX5_hourOn_208 : decode cX5_hourOn 208 = .ok (.iload_n 3, 1) := by decide +kernel
theorem dX5_hourOn_209 : decode cX5_hourOn 209 = .ok (.aload_n 0, 1) := by decide +kernel
theorem dX5_hourOn_210 : decode cX5_hourOn 210 = .ok (.iload_n 1, 1) := by decide +kernel
theorem dX5_hourOn_211 : decode cX5_hourOn 211 = .ok (.bipush 18, 2) := by decide +kernel
theorem dX5_hourOn_213 : decode cX5_hourOn 213 = .ok (.iload 4, 2) := by decide +kernel
theorem dX5_hourOn_215 : decode cX5_hourOn 215 = .ok (.invokevirtual 80, 3) := by decide +kernel
theorem dX5_hourOn_218 : decode cX5_hourOn 218 = .ok (.iconst 1, 1) := by decide +kernel
theorem dX5_hourOn_219 : decode cX5_hourOn 219 = .ok (.if_icmp .ne 20, 3) := by decide +kernel
theorem dX5_hourOn_222 : decode cX5_hourOn 222 = .ok (.iload 5, 2) := by decide +kernel
theorem dX5_hourOn_224 : decode cX5_hourOn 224 = .ok (.ifCond .ne 8, 3) := by decide +kernel
theorem dX5_hourOn_227 : decode cX5_hourOn 227 = .ok (.iload 6, 2) := by decide +kernel
theorem dX5_hourOn_229 : decode cX5_hourOn 229 = .ok (.ifCond .eq 10, 3) := by decide +kernel
theorem dX5_hourOn_232 : decode cX5_hourOn 232 = .ok (.iconst 1, 1) := by decide +kernel
theorem dX5_hourOn_233 : decode cX5_hourOn 233 = .ok (.iload 4, 2) := by decide +kernel
theorem dX5_hourOn_235 : decode cX5_hourOn 235 = .ok (.ishl, 1) := by decide +kernel
theorem dX5_hourOn_236 : decode cX5_hourOn 236 = .ok (.goto 4, 3) := by decide +kernel
theorem dX5_hourOn_239 : decode cX5_hourOn 239 = .ok (.iconst 0, 1) := by decide +kernel
theorem dX5_hourOn_240 : decode cX5_hourOn 240 = .ok (.ior, 1) := by decide +kernel
theorem dX5_hourOn_241 : decode cX5_hourOn 241 = .ok (.istore_n 3, 1) := by decide +kernel
theorem dX5_hourOn_242 : decode cX5_hourOn 242 = .ok (.iinc 4 1, 3) := by decide +kernel
theorem dX5_hourOn_245 : decode cX5_hourOn 245 = .ok (.goto (-101), 3) := by decide +kernel
theorem dX5_hourOn_248 : decode cX5_hourOn 248 = .ok (.iconst 0, 1) := by decide +kernel
theorem dX5_hourOn_249 : decode cX5_hourOn 249 = .ok (.istore 4, 2) := by decide +kernel
theorem dX5_hourOn_251 : decode cX5_hourOn 251 = .ok (.iload 4, 2) := by decide +kernel
theorem dX5_hourOn_253 : decode cX5_hourOn 253 = .ok (.aload_n 0, 1) := by decide +kernel
theorem dX5_hourOn_254 : decode cX5_hourOn 254 = .ok (.getfield 74, 3) := by decide +kernel
theorem dX5_hourOn_257 : decode cX5_hourOn 257 = .ok (.if_icmp .ge 89, 3) := by decide +kernel
theorem dX5_hourOn_260 : decode cX5_hourOn 260 = .ok (.aload_n 0, 1) := by decide +kernel
theorem dX5_hourOn_261 : decode cX5_hourOn 261 = .ok (.getfield 25, 3) := by decide +kernel
theorem dX5_hourOn_264 : decode cX5_hourOn 264 = .ok (.iload 4, 2) := by decide +kernel
theorem dX5_hourOn_266 : decode cX5_hourOn 266 = .ok (.iload_n 3, 1) := by decide +kernel
theorem dX5_hourOn_267 : decode cX5_hourOn 267 = .ok (.iload 4, 2) := by decide +kernel
theorem dX5_hourOn_269 : decode cX5_hourOn 269 = .ok (.invokestatic 102, 3) := by decide +kernel
theorem dX5_hourOn_272 : decode cX5_hourOn 272 = .ok (.ifCond .eq 7, 3) := by decide +kernel
theorem dX5_hourOn_275 : decode cX5_hourOn 275 = .ok (.iconst 1, 1) := by decide +kernel
theorem dX5_hourOn_276 : decode cX5_hourOn 276 = .ok (.goto 4, 3) := by decide +kernel
theorem dX5_hourOn_279 : decode cX5_hourOn 279 = .ok (.iconst 0, 1) := by decide +kernel
theorem dX5_hourOn_280 : decode cX5_hourOn 280 = .ok (.iastore, 1) := by decide +kernel
theorem dX5_hourOn_281 : decode cX5_hourOn 281 = .ok (.aload_n 0, 1) := by decide +kernel
theorem dX5_hourOn_282 : decode cX5_hourOn 282 = .ok (.getfield 13, 3) := by decide +kernel
theorem dX5_hourOn_285 : decode cX5_hourOn 285 = .ok (.iload_n 2, 1) := by decide +kernel
theorem dX5_hourOn_286 : decode cX5_hourOn 286 = .ok (.bipush 18, 2) := by decide +kernel
theorem dX5_hourOn_288 : decode cX5_hourOn 288 = .ok (.iadd, 1) := by decide +kernel
theorem dX5_hourOn_289 : decode cX5_hourOn 289 = .ok (.iload 4, 2) := by decide +kernel
theorem dX5_hourOn_291 : decode cX5_hourOn 291 = .ok (.iadd, 1) := by decide +kernel
theorem dX5_hourOn_292 : decode cX5_hourOn 292 = .ok (.dup2, 1) := by decide +kernel
theorem dX5_hourOn_293 : decode cX5_hourOn 293 = .ok (.iaload, 1) := by decide +kernel
theorem dX5_hourOn_294 : decode cX5_hourOn 294 = .ok (.aload_n 0, 1) := by decide +kernel
theorem dX5_hourOn_295 : decode cX5_hourOn 295 = .ok (.getfield 25, 3) := by decide +kernel
theorem dX5_hourOn_298 : decode cX5_hourOn 298 = .ok (.iload 4, 2) := by decide +kernel
theorem dX5_hourOn_300 : decode cX5_hourOn 300 = .ok (.iaload, 1) := by decide +kernel
theorem dX5_hourOn_301 : decode cX5_hourOn 301 = .ok (.isub, 1) := by decide +kernel
theorem dX5_hourOn_302 : decode cX5_hourOn 302 = .ok (.iastore, 1) := by decide +kernel
theorem dX5_hourOn_303 : decode cX5_hourOn 303 = .ok (.aload_n 0, 1) := by decide +kernel
theorem dX5_hourOn_304 : decode cX5_hourOn 304 = .ok (.getfield 13, 3) := by decide +kernel
theorem dX5_hourOn_307 : decode cX5_hourOn 307 = .ok (.iload_n 2, 1) := by decide +kernel
theorem dX5_hourOn_308 : decode cX5_hourOn 308 = .ok (.bipush 24, 2) := by decide +kernel
theorem dX5_hourOn_310 : decode cX5_hourOn 310 = .ok (.iadd, 1) := by decide +kernel
theorem dX5_hourOn_311 : decode cX5_hourOn 311 = .ok (.iload 4, 2) := by decide +kernel
theorem dX5_hourOn_313 : decode cX5_hourOn 313 = .ok (.iadd, 1) := by decide +kernel
theorem dX5_hourOn_314 : decode cX5_hourOn 314 = .ok (.iload_n 3, 1) := by decide +kernel
theorem dX5_hourOn_315 : decode cX5_hourOn 315 = .ok (.iload 4, 2) := by decide +kernel
theorem dX5_hourOn_317 : decode cX5_hourOn 317 = .ok (.invokestatic 102, 3) := by decide +kernel
theorem dX5_hourOn_320 : decode cX5_hourOn 320 = .ok (.ifCond .eq 7, 3) := by decide +kernel
theorem dX5_hourOn_323 : decode cX5_hourOn 323 = .ok (.iconst 0, 1) := by decide +kernel
theorem dX5_hourOn_324 : decode cX5_hourOn 324 = .ok (.goto 15, 3) := by decide +kernel
theorem dX5_hourOn_327 : decode cX5_hourOn 327 = .ok (.aload_n 0, 1) := by decide +kernel
theorem dX5_hourOn_328 : decode cX5_hourOn 328 = .ok (.getfield 13, 3) := by decide +kernel
theorem dX5_hourOn_331 : decode cX5_hourOn 331 = .ok (.iload_n 2, 1) := by decide +kernel
theorem dX5_hourOn_332 : decode cX5_hourOn 332 = .ok (.bipush 24, 2) := by decide +kernel
theorem dX5_hourOn_334 : decode cX5_hourOn 334 = .ok (.iadd, 1) := by decide +kernel
theorem dX5_hourOn_335 : decode cX5_hourOn 335 = .ok (.iload 4, 2) := by decide +kernel
theorem dX5_hourOn_337 : decode cX5_hourOn 337 = .ok (.iadd, 1) := by decide +kernel
theorem dX5_hourOn_338 : decode cX5_hourOn 338 = .ok (.iaload, 1) := by decide +kernel
theorem dX5_hourOn_339 : decode cX5_hourOn 339 = .ok (.iastore, 1) := by decide +kernel
theorem dX5_hourOn_340 : decode cX5_hourOn 340 = .ok (.iinc 4 1, 3) := by decide +kernel
theorem dX5_hourOn_343 : decode cX5_hourOn 343 = .ok (.goto (-92), 3) := by decide +kernel
theorem dX5_hourOn_346 : decode cX5_hourOn 346 = .ok (.aload_n 0, 1) := by decide +kernel
theorem dX5_hourOn_347 : decode cX5_hourOn 347 = .ok (.getfield 13, 3) := by decide +kernel
theorem dX5_hourOn_350 : decode cX5_hourOn 350 = .ok (.iload_n 2, 1) := by decide +kernel
theorem dX5_hourOn_351 : decode cX5_hourOn 351 = .ok (.bipush 30, 2) := by decide +kernel
theorem dX5_hourOn_353 : decode cX5_hourOn 353 = .ok (.iadd, 1) := by decide +kernel
theorem dX5_hourOn_354 : decode cX5_hourOn 354 = .ok (.dup2, 1) := by decide +kernel
theorem dX5_hourOn_355 : decode cX5_hourOn 355 = .ok (.iaload, 1) := by decide +kernel
theorem dX5_hourOn_356 : decode cX5_hourOn 356 = .ok (.iconst 1, 1) := by decide +kernel
theorem dX5_hourOn_357 : decode cX5_hourOn 357 = .ok (.iadd, 1) := by decide +kernel
theorem dX5_hourOn_358 : decode cX5_hourOn 358 = .ok (.iastore, 1) := by decide +kernel
theorem dX5_hourOn_359 : decode cX5_hourOn 359 = .ok (.iload_n 3, 1) := by decide +kernel
theorem dX5_hourOn_360 : decode cX5_hourOn 360 = .ok (.ireturn, 1) := by decide +kernel
theorem dX5_standingOn_0 : decode cX5_standingOn 0 = .ok (.iconst 0, 1) := by decide +kernel
theorem dX5_standingOn_1 : decode cX5_standingOn 1 = .ok (.istore_n 2, 1) := by decide +kernel
theorem dX5_standingOn_2 : decode cX5_standingOn 2 = .ok (.iconst 0, 1) := by decide +kernel
theorem dX5_standingOn_3 : decode cX5_standingOn 3 = .ok (.istore_n 3, 1) := by decide +kernel
theorem dX5_standingOn_4 : decode cX5_standingOn 4 = .ok (.iload_n 3, 1) := by decide +kernel
theorem dX5_standingOn_5 : decode cX5_standingOn 5 = .ok (.aload_n 0, 1) := by decide +kernel
theorem dX5_standingOn_6 : decode cX5_standingOn 6 = .ok (.getfield 74, 3) := by decide +kernel
theorem dX5_standingOn_9 : decode cX5_standingOn 9 = .ok (.if_icmp .ge 22, 3) := by decide +kernel
theorem dX5_standingOn_12 : decode cX5_standingOn 12 = .ok (.iload_n 2, 1) := by decide +kernel
theorem dX5_standingOn_13 : decode cX5_standingOn 13 = .ok (.aload_n 0, 1) := by decide +kernel
theorem dX5_standingOn_14 : decode cX5_standingOn 14 = .ok (.iload_n 1, 1) := by decide +kernel
theorem dX5_standingOn_15 : decode cX5_standingOn 15 = .ok (.bipush 18, 2) := by decide +kernel
theorem dX5_standingOn_17 : decode cX5_standingOn 17 = .ok (.iload_n 3, 1) := by decide +kernel
theorem dX5_standingOn_18 : decode cX5_standingOn 18 = .ok (.invokevirtual 80, 3) := by decide +kernel
theorem dX5_standingOn_21 : decode cX5_standingOn 21 = .ok (.iload_n 3, 1) := by decide +kernel
theorem dX5_standingOn_22 : decode cX5_standingOn 22 = .ok (.ishl, 1) := by decide +kernel
theorem dX5_standingOn_23 : decode cX5_standingOn 23 = .ok (.ior, 1) := by decide +kernel
theorem dX5_standingOn_24 : decode cX5_standingOn 24 = .ok (.istore_n 2, 1) := by decide +kernel
theorem dX5_standingOn_25 : decode cX5_standingOn 25 = .ok (.iinc 3 1, 3) := by decide +kernel
theorem dX5_standingOn_28 : decode cX5_standingOn 28 = .ok (.goto (-24), 3) := by decide +kernel
theorem dX5_standingOn_31 : decode cX5_standingOn 31 = .ok (.iload_n 2, 1) := by decide +kernel
theorem dX5_standingOn_32 : decode cX5_standingOn 32 = .ok (.ireturn, 1) := by decide +kernel
theorem dX5_house_0 : decode cX5_house 0 = .ok (.aload_n 0, 1) := by decide +kernel
theorem dX5_house_1 : decode cX5_house 1 = .ok (.iload_n 1, 1) := by decide +kernel
theorem dX5_house_2 : decode cX5_house 2 = .ok (.invokevirtual 91, 3) := by decide +kernel
theorem dX5_house_5 : decode cX5_house 5 = .ok (.ifCond .ne 5, 3) := by decide +kernel
theorem dX5_house_8 : decode cX5_house 8 = .ok (.iconst (-1), 1) := by decide +kernel
theorem dX5_house_9 : decode cX5_house 9 = .ok (.ireturn, 1) := by decide +kernel
theorem dX5_house_10 : decode cX5_house 10 = .ok (.iload_n 2, 1) := by decide +kernel
theorem dX5_house_11 : decode cX5_house 11 = .ok (.tableswitch 115 0 7 #[45, 54, 64, 71, 81, 91, 101, 108], 45) := by decide +kernel
theorem dX5_house_56 : decode cX5_house 56 = .ok (.aload_n 0, 1) := by decide +kernel
theorem dX5_house_57 : decode cX5_house 57 = .ok (.getfield 13, 3) := by decide +kernel
theorem dX5_house_60 : decode cX5_house 60 = .ok (.iconst 0, 1) := by decide +kernel
theorem dX5_house_61 : decode cX5_house 61 = .ok (.iload_n 1, 1) := by decide +kernel
theorem dX5_house_62 : decode cX5_house 62 = .ok (.iadd, 1) := by decide +kernel
theorem dX5_house_63 : decode cX5_house 63 = .ok (.iaload, 1) := by decide +kernel
theorem dX5_house_64 : decode cX5_house 64 = .ok (.ireturn, 1) := by decide +kernel
theorem dX5_house_65 : decode cX5_house 65 = .ok (.aload_n 0, 1) := by decide +kernel
theorem dX5_house_66 : decode cX5_house 66 = .ok (.getfield 13, 3) := by decide +kernel
theorem dX5_house_69 : decode cX5_house 69 = .ok (.bipush 6, 2) := by decide +kernel
theorem dX5_house_71 : decode cX5_house 71 = .ok (.iload_n 1, 1) := by decide +kernel
theorem dX5_house_72 : decode cX5_house 72 = .ok (.iadd, 1) := by decide +kernel
theorem dX5_house_73 : decode cX5_house 73 = .ok (.iaload, 1) := by decide +kernel
theorem dX5_house_74 : decode cX5_house 74 = .ok (.ireturn, 1) := by decide +kernel
theorem dX5_house_75 : decode cX5_house 75 = .ok (.aload_n 0, 1) := by decide +kernel
theorem dX5_house_76 : decode cX5_house 76 = .ok (.getfield 7, 3) := by decide +kernel
theorem dX5_house_79 : decode cX5_house 79 = .ok (.iload_n 1, 1) := by decide +kernel
theorem dX5_house_80 : decode cX5_house 80 = .ok (.iaload, 1) := by decide +kernel
theorem dX5_house_81 : decode cX5_house 81 = .ok (.ireturn, 1) := by decide +kernel
theorem dX5_house_82 : decode cX5_house 82 = .ok (.aload_n 0, 1) := by decide +kernel
theorem dX5_house_83 : decode cX5_house 83 = .ok (.getfield 13, 3) := by decide +kernel
theorem dX5_house_86 : decode cX5_house 86 = .ok (.bipush 12, 2) := by decide +kernel
theorem dX5_house_88 : decode cX5_house 88 = .ok (.iload_n 1, 1) := by decide +kernel
theorem dX5_house_89 : decode cX5_house 89 = .ok (.iadd, 1) := by decide +kernel
theorem dX5_house_90 : decode cX5_house 90 = .ok (.iaload, 1) := by decide +kernel
theorem dX5_house_91 : decode cX5_house 91 = .ok (.ireturn, 1) := by decide +kernel
theorem dX5_house_92 : decode cX5_house 92 = .ok (.aload_n 0, 1) := by decide +kernel
theorem dX5_house_93 : decode cX5_house 93 = .ok (.getfield 13, 3) := by decide +kernel
theorem dX5_house_96 : decode cX5_house 96 = .ok (.bipush 18, 2) := by decide +kernel
theorem dX5_house_98 : decode cX5_house 98 = .ok (.iload_n 1, 1) := by decide +kernel
theorem dX5_house_99 : decode cX5_house 99 = .ok (.iadd, 1) := by decide +kernel
theorem dX5_house_100 : decode cX5_house 100 = .ok (.iaload, 1) := by decide +kernel
theorem dX5_house_101 : decode cX5_house 101 = .ok (.ireturn, 1) := by decide +kernel
theorem dX5_house_102 : decode cX5_house 102 = .ok (.aload_n 0, 1) := by decide +kernel
theorem dX5_house_103 : decode cX5_house 103 = .ok (.getfield 13, 3) := by decide +kernel
theorem dX5_house_106 : decode cX5_house 106 = .ok (.bipush 24, 2) := by decide +kernel
theorem dX5_house_108 : decode cX5_house 108 = .ok (.iload_n 1, 1) := by decide +kernel
theorem dX5_house_109 : decode cX5_house 109 = .ok (.iadd, 1) := by decide +kernel
theorem dX5_house_110 : decode cX5_house 110 = .ok (.iaload, 1) := by decide +kernel
theorem dX5_house_111 : decode cX5_house 111 = .ok (.ireturn, 1) := by decide +kernel
theorem dX5_house_112 : decode cX5_house 112 = .ok (.aload_n 0, 1) := by decide +kernel
theorem dX5_house_113 : decode cX5_house 113 = .ok (.iconst 0, 1) := by decide +kernel
theorem dX5_house_114 : decode cX5_house 114 = .ok (.iload_n 1, 1) := by decide +kernel
theorem dX5_house_115 : decode cX5_house 115 = .ok (.invokevirtual 84, 3) := by decide +kernel
theorem dX5_house_118 : decode cX5_house 118 = .ok (.ireturn, 1) := by decide +kernel
theorem dX5_house_119 : decode cX5_house 119 = .ok (.aload_n 0, 1) := by decide +kernel
theorem dX5_house_120 : decode cX5_house 120 = .ok (.iconst 0, 1) := by decide +kernel
theorem dX5_house_121 : decode cX5_house 121 = .ok (.iload_n 1, 1) := by decide +kernel
theorem dX5_house_122 : decode cX5_house 122 = .ok (.invokevirtual 99, 3) := by decide +kernel
theorem dX5_house_125 : decode cX5_house 125 = .ok (.ireturn, 1) := by decide +kernel
theorem dX5_house_126 : decode cX5_house 126 = .ok (.bipush (-2), 2) := by decide +kernel
theorem dX5_house_128 : decode cX5_house 128 = .ok (.ireturn, 1) := by decide +kernel
theorem dX5_keepAct_0 : decode cX5_keepAct 0 = .ok (.iconst 0, 1) := by decide +kernel
theorem dX5_keepAct_1 : decode cX5_keepAct 1 = .ok (.istore_n 1, 1) := by decide +kernel
theorem dX5_keepAct_2 : decode cX5_keepAct 2 = .ok (.iload_n 1, 1) := by decide +kernel
theorem dX5_keepAct_3 : decode cX5_keepAct 3 = .ok (.bipush 31, 2) := by decide +kernel
theorem dX5_keepAct_5 : decode cX5_keepAct 5 = .ok (.if_icmp .ge 29, 3) := by decide +kernel
theorem dX5_keepAct_8 : decode cX5_keepAct 8 = .ok (.aload_n 0, 1) := by decide +kernel
theorem dX5_keepAct_9 : decode cX5_keepAct 9 = .ok (.getfield 28, 3) := by decide +kernel
theorem dX5_keepAct_12 : decode cX5_keepAct 12 = .ok (.bipush 31, 2) := by decide +kernel
theorem dX5_keepAct_14 : decode cX5_keepAct 14 = .ok (.aload_n 0, 1) := by decide +kernel
theorem dX5_keepAct_15 : decode cX5_keepAct 15 = .ok (.getfield 105, 3) := by decide +kernel
theorem dX5_keepAct_18 : decode cX5_keepAct 18 = .ok (.imul, 1) := by decide +kernel
theorem dX5_keepAct_19 : decode cX5_keepAct 19 = .ok (.iload_n 1, 1) := by decide +kernel
theorem dX5_keepAct_20 : decode cX5_keepAct 20 = .ok (.iadd, 1) := by decide +kernel
theorem dX5_keepAct_21 : decode cX5_keepAct 21 = .ok (.aload_n 0, 1) := by decide +kernel
theorem dX5_keepAct_22 : decode cX5_keepAct 22 = .ok (.getfield 13, 3) := by decide +kernel
theorem dX5_keepAct_25 : decode cX5_keepAct 25 = .ok (.iload_n 1, 1) := by decide +kernel
theorem dX5_keepAct_26 : decode cX5_keepAct 26 = .ok (.iaload, 1) := by decide +kernel
theorem dX5_keepAct_27 : decode cX5_keepAct 27 = .ok (.iastore, 1) := by decide +kernel
theorem dX5_keepAct_28 : decode cX5_keepAct 28 = .ok (.iinc 1 1, 3) := by decide +kernel
theorem dX5_keepAct_31 : decode cX5_keepAct 31 = .ok (.goto (-29), 3) := by decide +kernel
theorem dX5_keepAct_34 : decode cX5_keepAct 34 = .ok (.aload_n 0, 1) := by decide +kernel
theorem dX5_keepAct_35 : decode cX5_keepAct 35 = .ok (.aload_n 0, 1) := by decide +kernel
theorem dX5_keepAct_36 : decode cX5_keepAct 36 = .ok (.getfield 105, 3) := by decide +kernel
theorem dX5_keepAct_39 : decode cX5_keepAct 39 = .ok (.iconst 1, 1) := by decide +kernel
theorem dX5_keepAct_40 : decode cX5_keepAct 40 = .ok (.iadd, 1) := by decide +kernel
theorem dX5_keepAct_41 : decode cX5_keepAct 41 = .ok (.bipush 14, 2) := by decide +kernel
theorem dX5_keepAct_43 : decode cX5_keepAct 43 = .ok (.irem, 1) := by decide +kernel
theorem dX5_keepAct_44 : decode cX5_keepAct 44 = .ok (.putfield 105, 3) := by decide +kernel
theorem dX5_keepAct_47 : decode cX5_keepAct 47 = .ok (.aload_n 0, 1) := by decide +kernel
theorem dX5_keepAct_48 : decode cX5_keepAct 48 = .ok (.aload_n 0, 1) := by decide +kernel
theorem dX5_keepAct_49 : decode cX5_keepAct 49 = .ok (.getfield 77, 3) := by decide +kernel
theorem dX5_keepAct_52 : decode cX5_keepAct 52 = .ok (.bipush 14, 2) := by decide +kernel
theorem dX5_keepAct_54 : decode cX5_keepAct 54 = .ok (.if_icmp .ge 12, 3) := by decide +kernel
theorem dX5_keepAct_57 : decode cX5_keepAct 57 = .ok (.aload_n 0, 1) := by decide +kernel
theorem dX5_keepAct_58 : decode cX5_keepAct 58 = .ok (.getfield 77, 3) := by decide +kernel
theorem dX5_keepAct_61 : decode cX5_keepAct 61 = .ok (.iconst 1, 1) := by decide +kernel
theorem dX5_keepAct_62 : decode cX5_keepAct 62 = .ok (.iadd, 1) := by decide +kernel
theorem dX5_keepAct_63 : decode cX5_keepAct 63 = .ok (.goto 5, 3) := by decide +kernel
theorem dX5_keepAct_66 : decode cX5_keepAct 66 = .ok (.bipush 14, 2) := by decide +kernel
theorem dX5_keepAct_68 : decode cX5_keepAct 68 = .ok (.putfield 77, 3) := by decide +kernel
theorem dX5_keepAct_71 : decode cX5_keepAct 71 = .ok (.return_, 1) := by decide +kernel
theorem dX5_hour_0 : decode cX5_hour 0 = .ok (.aload_n 0, 1) := by decide +kernel
theorem dX5_hour_1 : decode cX5_hour 1 = .ok (.invokevirtual 108, 3) := by decide +kernel
theorem dX5_hour_4 : decode cX5_hour 4 = .ok (.aload_n 0, 1) := by decide +kernel
theorem dX5_hour_5 : decode cX5_hour 5 = .ok (.iconst 0, 1) := by decide +kernel
theorem dX5_hour_6 : decode cX5_hour 6 = .ok (.invokevirtual 111, 3) := by decide +kernel
theorem dX5_hour_9 : decode cX5_hour 9 = .ok (.invokestatic 114, 3) := by decide +kernel
theorem dX5_hour_12 : decode cX5_hour 12 = .ok (.ireturn, 1) := by decide +kernel
theorem dX5_canBring_0 : decode cX5_canBring 0 = .ok (.aload_n 0, 1) := by decide +kernel
theorem dX5_canBring_1 : decode cX5_canBring 1 = .ok (.iload_n 2, 1) := by decide +kernel
theorem dX5_canBring_2 : decode cX5_canBring 2 = .ok (.invokevirtual 91, 3) := by decide +kernel
theorem dX5_canBring_5 : decode cX5_canBring 5 = .ok (.ifCond .eq 34, 3) := by decide +kernel
theorem dX5_canBring_8 : decode cX5_canBring 8 = .ok (.iload_n 3, 1) := by decide +kernel
theorem dX5_canBring_9 : decode cX5_canBring 9 = .ok (.i2l, 1) := by decide +kernel
theorem dX5_canBring_10 : decode cX5_canBring 10 = .ok (.lconst 1, 1) := by decide +kernel
theorem dX5_canBring_11 : decode cX5_canBring 11 = .ok (.ldc2_w 117, 3) := by decide +kernel
theorem dX5_canBring_14 : decode cX5_canBring 14 = .ok (.invokestatic 49, 3) := by decide +kernel
theorem dX5_canBring_17 : decode cX5_canBring 17 = .ok (.ifCond .eq 22, 3) := by decide +kernel
theorem dX5_canBring_20 : decode cX5_canBring 20 = .ok (.aload_n 0, 1) := by decide +kernel
theorem dX5_canBring_21 : decode cX5_canBring 21 = .ok (.iload_n 1, 1) := by decide +kernel
theorem dX5_canBring_22 : decode cX5_canBring 22 = .ok (.bipush 6, 2) := by decide +kernel
theorem dX5_canBring_24 : decode cX5_canBring 24 = .ok (.iload_n 2, 1) := by decide +kernel
theorem dX5_canBring_25 : decode cX5_canBring 25 = .ok (.invokevirtual 80, 3) := by decide +kernel
theorem dX5_canBring_28 : decode cX5_canBring 28 = .ok (.iload_n 3, 1) := by decide +kernel
theorem dX5_canBring_29 : decode cX5_canBring 29 = .ok (.iadd, 1) := by decide +kernel
theorem dX5_canBring_30 : decode cX5_canBring 30 = .ok (.bipush 99, 2) := by decide +kernel
theorem dX5_canBring_32 : decode cX5_canBring 32 = .ok (.if_icmp .gt 7, 3) := by decide +kernel
theorem dX5_canBring_35 : decode cX5_canBring 35 = .ok (.iconst 1, 1) := by decide +kernel
theorem dX5_canBring_36 : decode cX5_canBring 36 = .ok (.goto 4, 3) := by decide +kernel
theorem dX5_canBring_39 : decode cX5_canBring 39 = .ok (.iconst 0, 1) := by decide +kernel
theorem dX5_canBring_40 : decode cX5_canBring 40 = .ok (.ireturn, 1) := by decide +kernel
theorem dX5_canTake_0 : decode cX5_canTake 0 = .ok (.aload_n 0, 1) := by decide +kernel
theorem dX5_canTake_1 : decode cX5_canTake 1 = .ok (.iload_n 2, 1) := by decide +kernel
theorem dX5_canTake_2 : decode cX5_canTake 2 = .ok (.invokevirtual 91, 3) := by decide +kernel
theorem dX5_canTake_5 : decode cX5_canTake 5 = .ok (.ifCond .eq 31, 3) := by decide +kernel
theorem dX5_canTake_8 : decode cX5_canTake 8 = .ok (.iload_n 3, 1) := by decide +kernel
theorem dX5_canTake_9 : decode cX5_canTake 9 = .ok (.i2l, 1) := by decide +kernel
theorem dX5_canTake_10 : decode cX5_canTake 10 = .ok (.lconst 1, 1) := by decide +kernel
theorem dX5_canTake_11 : decode cX5_canTake 11 = .ok (.ldc2_w 117, 3) := by decide +kernel
theorem dX5_canTake_14 : decode cX5_canTake 14 = .ok (.invokestatic 49, 3) := by decide +kernel
theorem dX5_canTake_17 : decode cX5_canTake 17 = .ok (.ifCond .eq 19, 3) := by decide +kernel
theorem dX5_canTake_20 : decode cX5_canTake 20 = .ok (.aload_n 0, 1) := by decide +kernel
theorem dX5_canTake_21 : decode cX5_canTake 21 = .ok (.iload_n 1, 1) := by decide +kernel
theorem dX5_canTake_22 : decode cX5_canTake 22 = .ok (.bipush 6, 2) := by decide +kernel
theorem dX5_canTake_24 : decode cX5_canTake 24 = .ok (.iload_n 2, 1) := by decide +kernel
theorem dX5_canTake_25 : decode cX5_canTake 25 = .ok (.invokevirtual 80, 3) := by decide +kernel
theorem dX5_canTake_28 : decode cX5_canTake 28 = .ok (.iload_n 3, 1) := by decide +kernel
theorem dX5_canTake_29 : decode cX5_canTake 29 = .ok (.if_icmp .lt 7, 3) := by decide +kernel
theorem dX5_canTake_32 : decode cX5_canTake 32 = .ok (.iconst 1, 1) := by decide +kernel
theorem dX5_canTake_33 : decode cX5_canTake 33 = .ok (.goto 4, 3) := by decide +kernel
theorem dX5_canTake_36 : decode cX5_canTake 36 = .ok (.iconst 0, 1) := by decide +kernel
theorem dX5_canTake_37 : decode cX5_canTake 37 = .ok (.ireturn, 1) := by decide +kernel
theorem dX5_bring_0 : decode cX5_bring 0 = .ok (.aload_n 0, 1) := by decide +kernel
theorem dX5_bring_1 : decode cX5_bring 1 = .ok (.iload_n 1, 1) := by decide +kernel
theorem dX5_bring_2 : decode cX5_bring 2 = .ok (.invokevirtual 91, 3) := by decide +kernel
theorem dX5_bring_5 : decode cX5_bring 5 = .ok (.ifCond .ne 5, 3) := by decide +kernel
theorem dX5_bring_8 : decode cX5_bring 8 = .ok (.iconst (-1), 1) := by decide +kernel
theorem dX5_bring_9 : decode cX5_bring 9 = .ok (.ireturn, 1) := by decide +kernel
theorem dX5_bring_10 : decode cX5_bring 10 = .ok (.iload_n 2, 1) := by decide +kernel
theorem dX5_bring_11 : decode cX5_bring 11 = .ok (.i2l, 1) := by decide +kernel
theorem dX5_bring_12 : decode cX5_bring 12 = .ok (.lconst 1, 1) := by decide +kernel
theorem dX5_bring_13 : decode cX5_bring 13 = .ok (.ldc2_w 117, 3) := by decide +kernel
theorem dX5_bring_16 : decode cX5_bring 16 = .ok (.invokestatic 49, 3) := by decide +kernel
theorem dX5_bring_19 : decode cX5_bring 19 = .ok (.ifCond .ne 6, 3) := by decide +kernel
theorem dX5_bring_22 : decode cX5_bring 22 = .ok (.bipush (-2), 2) := by decide +kernel
theorem dX5_bring_24 : decode cX5_bring 24 = .ok (.ireturn, 1) := by decide +kernel
theorem dX5_bring_25 : decode cX5_bring 25 = .ok (.aload_n 0, 1) := by decide +kernel
theorem dX5_bring_26 : decode cX5_bring 26 = .ok (.iconst 0, 1) := by decide +kernel
theorem dX5_bring_27 : decode cX5_bring 27 = .ok (.iload_n 1, 1) := by decide +kernel
theorem dX5_bring_28 : decode cX5_bring 28 = .ok (.iload_n 2, 1) := by decide +kernel
theorem dX5_bring_29 : decode cX5_bring 29 = .ok (.invokevirtual 119, 3) := by decide +kernel
theorem dX5_bring_32 : decode cX5_bring 32 = .ok (.ifCond .ne 6, 3) := by decide +kernel
theorem dX5_bring_35 : decode cX5_bring 35 = .ok (.bipush (-4), 2) := by decide +kernel
theorem dX5_bring_37 : decode cX5_bring 37 = .ok (.ireturn, 1) := by decide +kernel
theorem dX5_bring_38 : decode cX5_bring 38 = .ok (.aload_n 0, 1) := by decide +kernel
theorem dX5_bring_39 : decode cX5_bring 39 = .ok (.invokevirtual 108, 3) := by decide +kernel
theorem dX5_bring_42 : decode cX5_bring 42 = .ok (.aload_n 0, 1) := by decide +kernel
theorem dX5_bring_43 : decode cX5_bring 43 = .ok (.getfield 13, 3) := by decide +kernel
theorem dX5_bring_46 : decode cX5_bring 46 = .ok (.bipush 6, 2) := by decide +kernel
theorem dX5_bring_48 : decode cX5_bring 48 = .ok (.iload_n 1, 1) := by decide +kernel
theorem dX5_bring_49 : decode cX5_bring 49 = .ok (.iadd, 1) := by decide +kernel
theorem dX5_bring_50 : decode cX5_bring 50 = .ok (.dup2, 1) := by decide +kernel
theorem dX5_bring_51 : decode cX5_bring 51 = .ok (.iaload, 1) := by decide +kernel
theorem dX5_bring_52 : decode cX5_bring 52 = .ok (.iload_n 2, 1) := by decide +kernel
theorem dX5_bring_53 : decode cX5_bring 53 = .ok (.iadd, 1) := by decide +kernel
theorem dX5_bring_54 : decode cX5_bring 54 = .ok (.iastore, 1) := by decide +kernel
theorem dX5_bring_55 : decode cX5_bring 55 = .ok (.aload_n 0, 1) := by decide +kernel
theorem dX5_bring_56 : decode cX5_bring 56 = .ok (.getfield 13, 3) := by decide +kernel
theorem dX5_bring_59 : decode cX5_bring 59 = .ok (.bipush 6, 2) := by decide +kernel
theorem dX5_bring_61 : decode cX5_bring 61 = .ok (.iload_n 1, 1) := by decide +kernel
theorem dX5_bring_62 : decode cX5_bring 62 = .ok (.iadd, 1) := by decide +kernel
theorem dX5_bring_63 : decode cX5_bring 63 = .ok (.iaload, 1) := by decide +kernel
theorem dX5_bring_64 : decode cX5_bring 64 = .ok (.ireturn, 1) := by decide +kernel
theorem dX5_take_0 : decode cX5_take 0 = .ok (.aload_n 0, 1) := by decide +kernel
theorem dX5_take_1 : decode cX5_take 1 = .ok (.iload_n 1, 1) := by decide +kernel
theorem dX5_take_2 : decode cX5_take 2 = .ok (.invokevirtual 91, 3) := by decide +kernel
theorem dX5_take_5 : decode cX5_take 5 = .ok (.ifCond .ne 5, 3) := by decide +kernel
theorem dX5_take_8 : decode cX5_take 8 = .ok (.iconst (-1), 1) := by decide +kernel
theorem dX5_take_9 : decode cX5_take 9 = .ok (.ireturn, 1) := by decide +kernel
theorem dX5_take_10 : decode cX5_take 10 = .ok (.iload_n 2, 1) := by decide +kernel
theorem dX5_take_11 : decode cX5_take 11 = .ok (.i2l, 1) := by decide +kernel
theorem dX5_take_12 : decode cX5_take 12 = .ok (.lconst 1, 1) := by decide +kernel
theorem dX5_take_13 : decode cX5_take 13 = .ok (.ldc2_w 117, 3) := by decide +kernel
theorem dX5_take_16 : decode cX5_take 16 = .ok (.invokestatic 49, 3) := by decide +kernel
theorem dX5_take_19 : decode cX5_take 19 = .ok (.ifCond .ne 6, 3) := by decide +kernel
theorem dX5_take_22 : decode cX5_take 22 = .ok (.bipush (-2), 2) := by decide +kernel
theorem dX5_take_24 : decode cX5_take 24 = .ok (.ireturn, 1) := by decide +kernel
theorem dX5_take_25 : decode cX5_take 25 = .ok (.aload_n 0, 1) := by decide +kernel
theorem dX5_take_26 : decode cX5_take 26 = .ok (.iconst 0, 1) := by decide +kernel
theorem dX5_take_27 : decode cX5_take 27 = .ok (.iload_n 1, 1) := by decide +kernel
theorem dX5_take_28 : decode cX5_take 28 = .ok (.iload_n 2, 1) := by decide +kernel
theorem dX5_take_29 : decode cX5_take 29 = .ok (.invokevirtual 123, 3) := by decide +kernel
theorem dX5_take_32 : decode cX5_take 32 = .ok (.ifCond .ne 6, 3) := by decide +kernel
theorem dX5_take_35 : decode cX5_take 35 = .ok (.bipush (-3), 2) := by decide +kernel
theorem dX5_take_37 : decode cX5_take 37 = .ok (.ireturn, 1) := by decide +kernel
theorem dX5_take_38 : decode cX5_take 38 = .ok (.aload_n 0, 1) := by decide +kernel
theorem dX5_take_39 : decode cX5_take 39 = .ok (.invokevirtual 108, 3) := by decide +kernel
theorem dX5_take_42 : decode cX5_take 42 = .ok (.aload_n 0, 1) := by decide +kernel
theorem dX5_take_43 : decode cX5_take 43 = .ok (.getfield 13, 3) := by decide +kernel
theorem dX5_take_46 : decode cX5_take 46 = .ok (.bipush 6, 2) := by decide +kernel
theorem dX5_take_48 : decode cX5_take 48 = .ok (.iload_n 1, 1) := by decide +kernel
theorem dX5_take_49 : decode cX5_take 49 = .ok (.iadd, 1) := by decide +kernel
theorem dX5_take_50 : decode cX5_take 50 = .ok (.dup2, 1) := by decide +kernel
theorem dX5_take_51 : decode cX5_take 51 = .ok (.iaload, 1) := by decide +kernel
theorem dX5_take_52 : decode cX5_take 52 = .ok (.iload_n 2, 1) := by decide +kernel
theorem dX5_take_53 : decode cX5_take 53 = .ok (.isub, 1) := by decide +kernel
theorem dX5_take_54 : decode cX5_take 54 = .ok (.iastore, 1) := by decide +kernel
theorem dX5_take_55 : decode cX5_take 55 = .ok (.aload_n 0, 1) := by decide +kernel
theorem dX5_take_56 : decode cX5_take 56 = .ok (.getfield 13, 3) := by decide +kernel
theorem dX5_take_59 : decode cX5_take 59 = .ok (.bipush 6, 2) := by decide +kernel
theorem dX5_take_61 : decode cX5_take 61 = .ok (.iload_n 1, 1) := by decide +kernel
theorem dX5_take_62 : decode cX5_take 62 = .ok (.iadd, 1) := by decide +kernel
theorem dX5_take_63 : decode cX5_take 63 = .ok (.iaload, 1) := by decide +kernel
theorem dX5_take_64 : decode cX5_take 64 = .ok (.ireturn, 1) := by decide +kernel
theorem dX5_deed_0 : decode cX5_deed 0 = .ok (.aload_n 0, 1) := by decide +kernel
theorem dX5_deed_1 : decode cX5_deed 1 = .ok (.iload_n 1, 1) := by decide +kernel
theorem dX5_deed_2 : decode cX5_deed 2 = .ok (.invokevirtual 91, 3) := by decide +kernel
theorem dX5_deed_5 : decode cX5_deed 5 = .ok (.ifCond .ne 5, 3) := by decide +kernel
theorem dX5_deed_8 : decode cX5_deed 8 = .ok (.iconst (-1), 1) := by decide +kernel
theorem dX5_deed_9 : decode cX5_deed 9 = .ok (.ireturn, 1) := by decide +kernel
theorem dX5_deed_10 : decode cX5_deed 10 = .ok (.iload_n 2, 1) := by decide +kernel
theorem dX5_deed_11 : decode cX5_deed 11 = .ok (.i2l, 1) := by decide +kernel
theorem dX5_deed_12 : decode cX5_deed 12 = .ok (.lconst 0, 1) := by decide +kernel
theorem dX5_deed_13 : decode cX5_deed 13 = .ok (.ldc2_w 126, 3) := by decide +kernel
theorem dX5_deed_16 : decode cX5_deed 16 = .ok (.invokestatic 49, 3) := by decide +kernel
theorem dX5_deed_19 : decode cX5_deed 19 = .ok (.ifCond .ne 6, 3) := by decide +kernel
theorem dX5_deed_22 : decode cX5_deed 22 = .ok (.bipush (-2), 2) := by decide +kernel
theorem dX5_deed_24 : decode cX5_deed 24 = .ok (.ireturn, 1) := by decide +kernel
theorem dX5_deed_25 : decode cX5_deed 25 = .ok (.aload_n 0, 1) := by decide +kernel
theorem dX5_deed_26 : decode cX5_deed 26 = .ok (.getfield 13, 3) := by decide +kernel
theorem dX5_deed_29 : decode cX5_deed 29 = .ok (.bipush 12, 2) := by decide +kernel
theorem dX5_deed_31 : decode cX5_deed 31 = .ok (.iload_n 1, 1) := by decide +kernel
theorem dX5_deed_32 : decode cX5_deed 32 = .ok (.iadd, 1) := by decide +kernel
theorem dX5_deed_33 : decode cX5_deed 33 = .ok (.iaload, 1) := by decide +kernel
theorem dX5_deed_34 : decode cX5_deed 34 = .ok (.iload_n 2, 1) := by decide +kernel
theorem dX5_deed_35 : decode cX5_deed 35 = .ok (.if_icmp .ne 6, 3) := by decide +kernel
theorem dX5_deed_38 : decode cX5_deed 38 = .ok (.bipush (-3), 2) := by decide +kernel
theorem dX5_deed_40 : decode cX5_deed 40 = .ok (.ireturn, 1) := by decide +kernel
theorem dX5_deed_41 : decode cX5_deed 41 = .ok (.aload_n 0, 1) := by decide +kernel
theorem dX5_deed_42 : decode cX5_deed 42 = .ok (.invokevirtual 108, 3) := by decide +kernel
theorem dX5_deed_45 : decode cX5_deed 45 = .ok (.aload_n 0, 1) := by decide +kernel
theorem dX5_deed_46 : decode cX5_deed 46 = .ok (.getfield 13, 3) := by decide +kernel
theorem dX5_deed_49 : decode cX5_deed 49 = .ok (.bipush 12, 2) := by decide +kernel
theorem dX5_deed_51 : decode cX5_deed 51 = .ok (.iload_n 1, 1) := by decide +kernel
theorem dX5_deed_52 : decode cX5_deed 52 = .ok (.iadd, 1) := by decide +kernel
theorem dX5_deed_53 : decode cX5_deed 53 = .ok (.iaload, 1) := by decide +kernel
theorem dX5_deed_54 : decode cX5_deed 54 = .ok (.istore_n 3, 1) := by decide +kernel
theorem dX5_deed_55 : decode cX5_deed 55 = .ok (.aload_n 0, 1) := by decide +kernel
theorem dX5_deed_56 : decode cX5_deed 56 = .ok (.getfield 13, 3) := by decide +kernel
theorem dX5_deed_59 : decode cX5_deed 59 = .ok (.bipush 12, 2) := by decide +kernel
theorem dX5_deed_61 : decode cX5_deed 61 = .ok (.iload_n 1, 1) := by decide +kernel
theorem dX5_deed_62 : decode cX5_deed 62 = .ok (.iadd, 1) := by decide +kernel
theorem dX5_deed_63 : decode cX5_deed 63 = .ok (.iload_n 2, 1) := by decide +kernel
theorem dX5_deed_64 : decode cX5_deed 64 = .ok (.iastore, 1) := by decide +kernel
theorem dX5_deed_65 : decode cX5_deed 65 = .ok (.iload_n 3, 1) := by decide +kernel
theorem dX5_deed_66 : decode cX5_deed 66 = .ok (.ireturn, 1) := by decide +kernel
theorem dX5_buildOn_0 : decode cX5_buildOn 0 = .ok (.bipush 31, 2) := by decide +kernel
theorem dX5_buildOn_2 : decode cX5_buildOn 2 = .ok (.iload_n 1, 1) := by decide +kernel
theorem dX5_buildOn_3 : decode cX5_buildOn 3 = .ok (.imul, 1) := by decide +kernel
theorem dX5_buildOn_4 : decode cX5_buildOn 4 = .ok (.istore_n 3, 1) := by decide +kernel
theorem dX5_buildOn_5 : decode cX5_buildOn 5 = .ok (.aload_n 0, 1) := by decide +kernel
theorem dX5_buildOn_6 : decode cX5_buildOn 6 = .ok (.getfield 13, 3) := by decide +kernel
theorem dX5_buildOn_9 : decode cX5_buildOn 9 = .ok (.iload_n 3, 1) := by decide +kernel
theorem dX5_buildOn_10 : decode cX5_buildOn 10 = .ok (.iconst 0, 1) := by decide +kernel
theorem dX5_buildOn_11 : decode cX5_buildOn 11 = .ok (.iadd, 1) := by decide +kernel
theorem dX5_buildOn_12 : decode cX5_buildOn 12 = .ok (.iload_n 2, 1) := by decide +kernel
theorem dX5_buildOn_13 : decode cX5_buildOn 13 = .ok (.iadd, 1) := by decide +kernel
theorem dX5_buildOn_14 : decode cX5_buildOn 14 = .ok (.aload_n 0, 1) := by decide +kernel
theorem dX5_buildOn_15 : decode cX5_buildOn 15 = .ok (.getfield 13, 3) := by decide +kernel
theorem dX5_buildOn_18 : decode cX5_buildOn 18 = .ok (.iload_n 3, 1) := by decide +kernel
theorem dX5_buildOn_19 : decode cX5_buildOn 19 = .ok (.iconst 0, 1) := by decide +kernel
theorem dX5_buildOn_20 : decode cX5_buildOn 20 = .ok (.iadd, 1) := by decide +kernel
theorem dX5_buildOn_21 : decode cX5_buildOn 21 = .ok (.iload_n 2, 1) := by decide +kernel
theorem dX5_buildOn_22 : decode cX5_buildOn 22 = .ok (.iadd, 1) := by decide +kernel
theorem dX5_buildOn_23 : decode cX5_buildOn 23 = .ok (.iaload, 1) := by decide +kernel
theorem dX5_buildOn_24 : decode cX5_buildOn 24 = .ok (.iconst 4, 1) := by decide +kernel
theorem dX5_buildOn_25 : decode cX5_buildOn 25 = .ok (.if_icmp .ne 7, 3) := by decide +kernel
theorem dX5_buildOn_28 : decode cX5_buildOn 28 = .ok (.iconst 0, 1) := by decide +kernel
theorem dX5_buildOn_29 : decode cX5_buildOn 29 = .ok (.goto 13, 3) := by decide +kernel
theorem dX5_buildOn_32 : decode cX5_buildOn 32 = .ok (.aload_n 0, 1) := by decide +kernel
theorem dX5_buildOn_33 : decode cX5_buildOn 33 = .ok (.getfield 13, 3) := by decide +kernel
theorem dX5_buildOn_36 : decode cX5_buildOn 36 = .ok (.iload_n 3, 1) := by decide +kernel
theorem dX5_buildOn_37 : decode cX5_buildOn 37 = .ok (.iconst 0, 1) := by decide +kernel
theorem dX5_buildOn_38 : decode cX5_buildOn 38 = .ok (.iadd, 1) := by decide +kernel
theorem dX5_buildOn_39 : decode cX5_buildOn 39 = .ok (.iload_n 2, 1) := by decide +kernel
theorem dX5_buildOn_40 : decode cX5_buildOn 40 = .ok (.iadd, 1) := by decide +kernel
theorem dX5_buildOn_41 : decode cX5_buildOn 41 = .ok (.iaload, 1) := by decide +kernel
theorem dX5_buildOn_42 : decode cX5_buildOn 42 = .ok (.iastore, 1) := by decide +kernel
theorem dX5_buildOn_43 : decode cX5_buildOn 43 = .ok (.aload_n 0, 1) := by decide +kernel
theorem dX5_buildOn_44 : decode cX5_buildOn 44 = .ok (.getfield 13, 3) := by decide +kernel
theorem dX5_buildOn_47 : decode cX5_buildOn 47 = .ok (.iload_n 3, 1) := by decide +kernel
theorem dX5_buildOn_48 : decode cX5_buildOn 48 = .ok (.bipush 18, 2) := by decide +kernel
theorem dX5_buildOn_50 : decode cX5_buildOn 50 = .ok (.iadd, 1) := by decide +kernel
theorem dX5_buildOn_51 : decode cX5_buildOn 51 = .ok (.iload_n 2, 1) := by decide +kernel
theorem dX5_buildOn_52 : decode cX5_buildOn 52 = .ok (.iadd, 1) := by decide +kernel
theorem dX5_buildOn_53 : decode cX5_buildOn 53 = .ok (.iconst 1, 1) := by decide +kernel
theorem dX5_buildOn_54 : decode cX5_buildOn 54 = .ok (.iastore, 1) := by decide +kernel
theorem dX5_buildOn_55 : decode cX5_buildOn 55 = .ok (.aload_n 0, 1) := by decide +kernel
theorem dX5_buildOn_56 : decode cX5_buildOn 56 = .ok (.getfield 13, 3) := by decide +kernel
theorem dX5_buildOn_59 : decode cX5_buildOn 59 = .ok (.iload_n 3, 1) := by decide +kernel
theorem dX5_buildOn_60 : decode cX5_buildOn 60 = .ok (.bipush 24, 2) := by decide +kernel
theorem dX5_buildOn_62 : decode cX5_buildOn 62 = .ok (.iadd, 1) := by decide +kernel
theorem dX5_buildOn_63 : decode cX5_buildOn 63 = .ok (.iload_n 2, 1) := by decide +kernel
theorem dX5_buildOn_64 : decode cX5_buildOn 64 = .ok (.iadd, 1) := by decide +kernel
theorem dX5_buildOn_65 : decode cX5_buildOn 65 = .ok (.aload_n 0, 1) := by decide +kernel
theorem dX5_buildOn_66 : decode cX5_buildOn 66 = .ok (.getfield 13, 3) := by decide +kernel
theorem dX5_buildOn_69 : decode cX5_buildOn 69 = .ok (.iload_n 3, 1) := by decide +kernel
theorem dX5_buildOn_70 : decode cX5_buildOn 70 = .ok (.bipush 6, 2) := by decide +kernel
theorem dX5_buildOn_72 : decode cX5_buildOn 72 = .ok (.iadd, 1) := by decide +kernel
theorem dX5_buildOn_73 : decode cX5_buildOn 73 = .ok (.iload_n 2, 1) := by decide +kernel
theorem dX5_buildOn_74 : decode cX5_buildOn 74 = .ok (.iadd, 1) := by decide +kernel
theorem dX5_buildOn_75 : decode cX5_buildOn 75 = .ok (.iaload, 1) := by decide +kernel
theorem dX5_buildOn_76 : decode cX5_buildOn 76 = .ok (.iastore, 1) := by decide +kernel
theorem dX5_buildOn_77 : decode cX5_buildOn 77 = .ok (.return_, 1) := by decide +kernel
theorem dX5_build_0 : decode cX5_build 0 = .ok (.aload_n 0, 1) := by decide +kernel
theorem dX5_build_1 : decode cX5_build 1 = .ok (.iload_n 1, 1) := by decide +kernel
theorem dX5_build_2 : decode cX5_build 2 = .ok (.invokevirtual 91, 3) := by decide +kernel
theorem dX5_build_5 : decode cX5_build 5 = .ok (.ifCond .ne 5, 3) := by decide +kernel
theorem dX5_build_8 : decode cX5_build 8 = .ok (.iconst (-1), 1) := by decide +kernel
theorem dX5_build_9 : decode cX5_build 9 = .ok (.ireturn, 1) := by decide +kernel
theorem dX5_build_10 : decode cX5_build 10 = .ok (.aload_n 0, 1) := by decide +kernel
theorem dX5_build_11 : decode cX5_build 11 = .ok (.getfield 13, 3) := by decide +kernel
theorem dX5_build_14 : decode cX5_build 14 = .ok (.bipush 18, 2) := by decide +kernel
theorem dX5_build_16 : decode cX5_build 16 = .ok (.iload_n 1, 1) := by decide +kernel
theorem dX5_build_17 : decode cX5_build 17 = .ok (.iadd, 1) := by decide +kernel
theorem dX5_build_18 : decode cX5_build 18 = .ok (.iaload, 1) := by decide +kernel
theorem dX5_build_19 : decode cX5_build 19 = .ok (.iconst 1, 1) := by decide +kernel
theorem dX5_build_20 : decode cX5_build 20 = .ok (.if_icmp .ne 6, 3) := by decide +kernel
theorem dX5_build_23 : decode cX5_build 23 = .ok (.bipush (-3), 2) := by decide +kernel
theorem dX5_build_25 : decode cX5_build 25 = .ok (.ireturn, 1) := by decide +kernel
theorem dX5_build_26 : decode cX5_build 26 = .ok (.aload_n 0, 1) := by decide +kernel
theorem dX5_build_27 : decode cX5_build 27 = .ok (.invokevirtual 108, 3) := by decide +kernel
theorem dX5_build_30 : decode cX5_build 30 = .ok (.aload_n 0, 1) := by decide +kernel
theorem dX5_build_31 : decode cX5_build 31 = .ok (.iconst 0, 1) := by decide +kernel
theorem dX5_build_32 : decode cX5_build 32 = .ok (.iload_n 1, 1) := by decide +kernel
theorem dX5_build_33 : decode cX5_build 33 = .ok (.invokevirtual 128, 3) := by decide +kernel
theorem dX5_build_36 : decode cX5_build 36 = .ok (.aload_n 0, 1) := by decide +kernel
theorem dX5_build_37 : decode cX5_build 37 = .ok (.getfield 13, 3) := by decide +kernel
theorem dX5_build_40 : decode cX5_build 40 = .ok (.bipush 6, 2) := by decide +kernel
theorem dX5_build_42 : decode cX5_build 42 = .ok (.iload_n 1, 1) := by decide +kernel
theorem dX5_build_43 : decode cX5_build 43 = .ok (.iadd, 1) := by decide +kernel
theorem dX5_build_44 : decode cX5_build 44 = .ok (.iaload, 1) := by decide +kernel
theorem dX5_build_45 : decode cX5_build 45 = .ok (.ireturn, 1) := by decide +kernel
theorem dX5_undo_0 : decode cX5_undo 0 = .ok (.aload_n 0, 1) := by decide +kernel
theorem dX5_undo_1 : decode cX5_undo 1 = .ok (.getfield 77, 3) := by decide +kernel
theorem dX5_undo_4 : decode cX5_undo 4 = .ok (.ifCond .ne 6, 3) := by decide +kernel
theorem dX5_undo_7 : decode cX5_undo 7 = .ok (.bipush (-3), 2) := by decide +kernel
theorem dX5_undo_9 : decode cX5_undo 9 = .ok (.ireturn, 1) := by decide +kernel
theorem dX5_undo_10 : decode cX5_undo 10 = .ok (.aload_n 0, 1) := by decide +kernel
theorem dX5_undo_11 : decode cX5_undo 11 = .ok (.dup, 1) := by decide +kernel
theorem dX5_undo_12 : decode cX5_undo 12 = .ok (.getfield 77, 3) := by decide +kernel
theorem dX5_undo_15 : decode cX5_undo 15 = .ok (.iconst 1, 1) := by decide +kernel
theorem dX5_undo_16 : decode cX5_undo 16 = .ok (.isub, 1) := by decide +kernel
theorem dX5_undo_17 : decode cX5_undo 17 = .ok (.putfield 77, 3) := by decide +kernel
theorem dX5_undo_20 : decode cX5_undo 20 = .ok (.aload_n 0, 1) := by decide +kernel
theorem dX5_undo_21 : decode cX5_undo 21 = .ok (.aload_n 0, 1) := by decide +kernel
theorem dX5_undo_22 : decode cX5_undo 22 = .ok (.getfield 105, 3) := by decide +kernel
theorem dX5_undo_25 : decode cX5_undo 25 = .ok (.bipush 13, 2) := by decide +kernel
theorem dX5_undo_27 : decode cX5_undo 27 = .ok (.iadd, 1) := by decide +kernel
theorem dX5_undo_28 : decode cX5_undo 28 = .ok (.bipush 14, 2) := by decide +kernel
theorem dX5_undo_30 : decode cX5_undo 30 = .ok (.irem, 1) := by decide +kernel
theorem dX5_undo_31 : decode cX5_undo 31 = .ok (.putfield 105, 3) := by decide +kernel
theorem dX5_undo_34 : decode cX5_undo 34 = .ok (.iconst 0, 1) := by decide +kernel
theorem dX5_undo_35 : decode cX5_undo 35 = .ok (.istore_n 1, 1) := by decide +kernel
theorem dX5_undo_36 : decode cX5_undo 36 = .ok (.iload_n 1, 1) := by decide +kernel
theorem dX5_undo_37 : decode cX5_undo 37 = .ok (.bipush 31, 2) := by decide +kernel
theorem dX5_undo_39 : decode cX5_undo 39 = .ok (.if_icmp .ge 29, 3) := by decide +kernel
theorem dX5_undo_42 : decode cX5_undo 42 = .ok (.aload_n 0, 1) := by decide +kernel
theorem dX5_undo_43 : decode cX5_undo 43 = .ok (.getfield 13, 3) := by decide +kernel
theorem dX5_undo_46 : decode cX5_undo 46 = .ok (.iload_n 1, 1) := by decide +kernel
theorem dX5_undo_47 : decode cX5_undo 47 = .ok (.aload_n 0, 1) := by decide +kernel
theorem dX5_undo_48 : decode cX5_undo 48 = .ok (.getfield 28, 3) := by decide +kernel
theorem dX5_undo_51 : decode cX5_undo 51 = .ok (.bipush 31, 2) := by decide +kernel
theorem dX5_undo_53 : decode cX5_undo 53 = .ok (.aload_n 0, 1) := by decide +kernel
theorem dX5_undo_54 : decode cX5_undo 54 = .ok (.getfield 105, 3) := by decide +kernel
theorem dX5_undo_57 : decode cX5_undo 57 = .ok (.imul, 1) := by decide +kernel
theorem dX5_undo_58 : decode cX5_undo 58 = .ok (.iload_n 1, 1) := by decide +kernel
theorem dX5_undo_59 : decode cX5_undo 59 = .ok (.iadd, 1) := by decide +kernel
theorem dX5_undo_60 : decode cX5_undo 60 = .ok (.iaload, 1) := by decide +kernel
theorem dX5_undo_61 : decode cX5_undo 61 = .ok (.iastore, 1) := by decide +kernel
theorem dX5_undo_62 : decode cX5_undo 62 = .ok (.iinc 1 1, 3) := by decide +kernel
theorem dX5_undo_65 : decode cX5_undo 65 = .ok (.goto (-29), 3) := by decide +kernel
theorem dX5_undo_68 : decode cX5_undo 68 = .ok (.aload_n 0, 1) := by decide +kernel
theorem dX5_undo_69 : decode cX5_undo 69 = .ok (.getfield 77, 3) := by decide +kernel
theorem dX5_undo_72 : decode cX5_undo 72 = .ok (.ireturn, 1) := by decide +kernel
theorem dX5_layTrial_0 : decode cX5_layTrial 0 = .ok (.iconst 0, 1) := by decide +kernel
theorem dX5_layTrial_1 : decode cX5_layTrial 1 = .ok (.istore_n 1, 1) := by decide +kernel
theorem dX5_layTrial_2 : decode cX5_layTrial 2 = .ok (.iload_n 1, 1) := by decide +kernel
theorem dX5_layTrial_3 : decode cX5_layTrial 3 = .ok (.bipush 31, 2) := by decide +kernel
theorem dX5_layTrial_5 : decode cX5_layTrial 5 = .ok (.if_icmp .ge 24, 3) := by decide +kernel
theorem dX5_layTrial_8 : decode cX5_layTrial 8 = .ok (.aload_n 0, 1) := by decide +kernel
theorem dX5_layTrial_9 : decode cX5_layTrial 9 = .ok (.getfield 13, 3) := by decide +kernel
theorem dX5_layTrial_12 : decode cX5_layTrial 12 = .ok (.bipush 31, 2) := by decide +kernel
theorem dX5_layTrial_14 : decode cX5_layTrial 14 = .ok (.iload_n 1, 1) := by decide +kernel
theorem dX5_layTrial_15 : decode cX5_layTrial 15 = .ok (.iadd, 1) := by decide +kernel
theorem dX5_layTrial_16 : decode cX5_layTrial 16 = .ok (.aload_n 0, 1) := by decide +kernel
theorem dX5_layTrial_17 : decode cX5_layTrial 17 = .ok (.getfield 13, 3) := by decide +kernel
theorem dX5_layTrial_20 : decode cX5_layTrial 20 = .ok (.iload_n 1, 1) := by decide +kernel
theorem dX5_layTrial_21 : decode cX5_layTrial 21 = .ok (.iaload, 1) := by decide +kernel
theorem dX5_layTrial_22 : decode cX5_layTrial 22 = .ok (.iastore, 1) := by decide +kernel
theorem dX5_layTrial_23 : decode cX5_layTrial 23 = .ok (.iinc 1 1, 3) := by decide +kernel
theorem dX5_layTrial_26 : decode cX5_layTrial 26 = .ok (.goto (-24), 3) := by decide +kernel
theorem dX5_layTrial_29 : decode cX5_layTrial 29 = .ok (.return_, 1) := by decide +kernel
theorem dX5_goOn_0 : decode cX5_goOn 0 = .ok (.iconst 0, 1) := by decide +kernel
theorem dX5_goOn_1 : decode cX5_goOn 1 = .ok (.istore_n 2, 1) := by decide +kernel
theorem dX5_goOn_2 : decode cX5_goOn 2 = .ok (.iconst 0, 1) := by decide +kernel
theorem dX5_goOn_3 : decode cX5_goOn 3 = .ok (.istore_n 3, 1) := by decide +kernel
theorem dX5_goOn_4 : decode cX5_goOn 4 = .ok (.iload_n 3, 1) := by decide +kernel
theorem dX5_goOn_5 : decode cX5_goOn 5 = .ok (.iload_n 1, 1) := by decide +kernel
theorem dX5_goOn_6 : decode cX5_goOn 6 = .ok (.if_icmp .ge 17, 3) := by decide +kernel
theorem dX5_goOn_9 : decode cX5_goOn 9 = .ok (.iload_n 2, 1) := by decide +kernel
theorem dX5_goOn_10 : decode cX5_goOn 10 = .ok (.aload_n 0, 1) := by decide +kernel
theorem dX5_goOn_11 : decode cX5_goOn 11 = .ok (.iconst 1, 1) := by decide +kernel
theorem dX5_goOn_12 : decode cX5_goOn 12 = .ok (.invokevirtual 111, 3) := by decide +kernel
theorem dX5_goOn_15 : decode cX5_goOn 15 = .ok (.ior, 1) := by decide +kernel
theorem dX5_goOn_16 : decode cX5_goOn 16 = .ok (.istore_n 2, 1) := by decide +kernel
theorem dX5_goOn_17 : decode cX5_goOn 17 = .ok (.iinc 3 1, 3) := by decide +kernel
theorem dX5_goOn_20 : decode cX5_goOn 20 = .ok (.goto (-16), 3) := by decide +kernel
theorem dX5_goOn_23 : decode cX5_goOn 23 = .ok (.iload_n 2, 1) := by decide +kernel
theorem dX5_goOn_24 : decode cX5_goOn 24 = .ok (.ireturn, 1) := by decide +kernel
theorem dX5_later_0 : decode cX5_later 0 = .ok (.aload_n 0, 1) := by decide +kernel
theorem dX5_later_1 : decode cX5_later 1 = .ok (.iload_n 1, 1) := by decide +kernel
theorem dX5_later_2 : decode cX5_later 2 = .ok (.invokevirtual 91, 3) := by decide +kernel
theorem dX5_later_5 : decode cX5_later 5 = .ok (.ifCond .ne 5, 3) := by decide +kernel
theorem dX5_later_8 : decode cX5_later 8 = .ok (.iconst (-1), 1) := by decide +kernel
theorem dX5_later_9 : decode cX5_later 9 = .ok (.ireturn, 1) := by decide +kernel
theorem dX5_later_10 : decode cX5_later 10 = .ok (.iload_n 2, 1) := by decide +kernel
theorem dX5_later_11 : decode cX5_later 11 = .ok (.i2l, 1) := by decide +kernel
theorem dX5_later_12 : decode cX5_later 12 = .ok (.lconst 0, 1) := by decide +kernel
theorem dX5_later_13 : decode cX5_later 13 = .ok (.ldc2_w 132, 3) := by decide +kernel
theorem dX5_later_16 : decode cX5_later 16 = .ok (.invokestatic 49, 3) := by decide +kernel
theorem dX5_later_19 : decode cX5_later 19 = .ok (.ifCond .eq 13, 3) := by decide +kernel
theorem dX5_later_22 : decode cX5_later 22 = .ok (.iload_n 3, 1) := by decide +kernel
theorem dX5_later_23 : decode cX5_later 23 = .ok (.i2l, 1) := by decide +kernel
theorem dX5_later_24 : decode cX5_later 24 = .ok (.lconst 0, 1) := by decide +kernel
theorem dX5_later_25 : decode cX5_later 25 = .ok (.lconst 1, 1) := by decide +kernel
theorem dX5_later_26 : decode cX5_later 26 = .ok (.invokestatic 49, 3) := by decide +kernel
theorem dX5_later_29 : decode cX5_later 29 = .ok (.ifCond .ne 6, 3) := by decide +kernel
theorem dX5_later_32 : decode cX5_later 32 = .ok (.bipush (-2), 2) := by decide +kernel
theorem dX5_later_34 : decode cX5_later 34 = .ok (.ireturn, 1) := by decide +kernel
theorem dX5_later_35 : decode cX5_later 35 = .ok (.aload_n 0, 1) := by decide +kernel
theorem dX5_later_36 : decode cX5_later 36 = .ok (.invokevirtual 134, 3) := by decide +kernel
theorem dX5_later_39 : decode cX5_later 39 = .ok (.aload_n 0, 1) := by decide +kernel
theorem dX5_later_40 : decode cX5_later 40 = .ok (.iload_n 2, 1) := by decide +kernel
theorem dX5_later_41 : decode cX5_later 41 = .ok (.invokevirtual 137, 3) := by decide +kernel
theorem dX5_later_44 : decode cX5_later 44 = .ok (.pop, 1) := by decide +kernel
theorem dX5_later_45 : decode cX5_later 45 = .ok (.iload_n 3, 1) := by decide +kernel
theorem dX5_later_46 : decode cX5_later 46 = .ok (.ifCond .ne 14, 3) := by decide +kernel
theorem dX5_later_49 : decode cX5_later 49 = .ok (.aload_n 0, 1) := by decide +kernel
theorem dX5_later_50 : decode cX5_later 50 = .ok (.iconst 1, 1) := by decide +kernel
theorem dX5_later_51 : decode cX5_later 51 = .ok (.bipush 24, 2) := by decide +kernel
theorem dX5_later_53 : decode cX5_later 53 = .ok (.iload_n 1, 1) := by decide +kernel
theorem dX5_later_54 : decode cX5_later 54 = .ok (.invokevirtual 80, 3) := by decide +kernel
theorem dX5_later_57 : decode cX5_later 57 = .ok (.goto 9, 3) := by decide +kernel
theorem dX5_later_60 : decode cX5_later 60 = .ok (.aload_n 0, 1) := by decide +kernel
theorem dX5_later_61 : decode cX5_later 61 = .ok (.iconst 1, 1) := by decide +kernel
theorem dX5_later_62 : decode cX5_later 62 = .ok (.iload_n 1, 1) := by decide +kernel
theorem dX5_later_63 : decode cX5_later 63 = .ok (.invokevirtual 99, 3) := by decide +kernel
theorem dX5_later_66 : decode cX5_later 66 = .ok (.ireturn, 1) := by decide +kernel
theorem dX5_standing_0 : decode cX5_standing 0 = .ok (.iload_n 1, 1) := by decide +kernel
theorem dX5_standing_1 : decode cX5_standing 1 = .ok (.i2l, 1) := by decide +kernel
theorem dX5_standing_2 : decode cX5_standing 2 = .ok (.lconst 0, 1) := by decide +kernel
theorem dX5_standing_3 : decode cX5_standing 3 = .ok (.ldc2_w 132, 3) := by decide +kernel
theorem dX5_standing_6 : decode cX5_standing 6 = .ok (.invokestatic 49, 3) := by decide +kernel
theorem dX5_standing_9 : decode cX5_standing 9 = .ok (.ifCond .ne 6, 3) := by decide +kernel
theorem dX5_standing_12 : decode cX5_standing 12 = .ok (.bipush (-2), 2) := by decide +kernel
theorem dX5_standing_14 : decode cX5_standing 14 = .ok (.ireturn, 1) := by decide +kernel
theorem dX5_standing_15 : decode cX5_standing 15 = .ok (.aload_n 0, 1) := by decide +kernel
theorem dX5_standing_16 : decode cX5_standing 16 = .ok (.invokevirtual 134, 3) := by decide +kernel
theorem dX5_standing_19 : decode cX5_standing 19 = .ok (.aload_n 0, 1) := by decide +kernel
theorem dX5_standing_20 : decode cX5_standing 20 = .ok (.iload_n 1, 1) := by decide +kernel
theorem dX5_standing_21 : decode cX5_standing 21 = .ok (.invokevirtual 137, 3) := by decide +kernel
theorem dX5_standing_24 : decode cX5_standing 24 = .ok (.pop, 1) := by decide +kernel
theorem dX5_standing_25 : decode cX5_standing 25 = .ok (.aload_n 0, 1) := by decide +kernel
theorem dX5_standing_26 : decode cX5_standing 26 = .ok (.iconst 1, 1) := by decide +kernel
theorem dX5_standing_27 : decode cX5_standing 27 = .ok (.invokevirtual 140, 3) := by decide +kernel
theorem dX5_standing_30 : decode cX5_standing 30 = .ok (.ireturn, 1) := by decide +kernel
theorem dX5_falls_0 : decode cX5_falls 0 = .ok (.aload_n 0, 1) := by decide +kernel
theorem dX5_falls_1 : decode cX5_falls 1 = .ok (.iload_n 1, 1) := by decide +kernel
theorem dX5_falls_2 : decode cX5_falls 2 = .ok (.invokevirtual 91, 3) := by decide +kernel
theorem dX5_falls_5 : decode cX5_falls 5 = .ok (.ifCond .ne 5, 3) := by decide +kernel
theorem dX5_falls_8 : decode cX5_falls 8 = .ok (.iconst (-1), 1) := by decide +kernel
theorem dX5_falls_9 : decode cX5_falls 9 = .ok (.ireturn, 1) := by decide +kernel
theorem dX5_falls_10 : decode cX5_falls 10 = .ok (.aload_n 0, 1) := by decide +kernel
theorem dX5_falls_11 : decode cX5_falls 11 = .ok (.getfield 13, 3) := by decide +kernel
theorem dX5_falls_14 : decode cX5_falls 14 = .ok (.bipush 18, 2) := by decide +kernel
theorem dX5_falls_16 : decode cX5_falls 16 = .ok (.iload_n 1, 1) := by decide +kernel
theorem dX5_falls_17 : decode cX5_falls 17 = .ok (.iadd, 1) := by decide +kernel
theorem dX5_falls_18 : decode cX5_falls 18 = .ok (.iaload, 1) := by decide +kernel
theorem dX5_falls_19 : decode cX5_falls 19 = .ok (.ifCond .ne 6, 3) := by decide +kernel
theorem dX5_falls_22 : decode cX5_falls 22 = .ok (.bipush (-3), 2) := by decide +kernel
theorem dX5_falls_24 : decode cX5_falls 24 = .ok (.ireturn, 1) := by decide +kernel
theorem dX5_falls_25 : decode cX5_falls 25 = .ok (.aload_n 0, 1) := by decide +kernel
theorem dX5_falls_26 : decode cX5_falls 26 = .ok (.invokevirtual 134, 3) := by decide +kernel
theorem dX5_falls_29 : decode cX5_falls 29 = .ok (.iconst 1, 1) := by decide +kernel
theorem dX5_falls_30 : decode cX5_falls 30 = .ok (.istore_n 2, 1) := by decide +kernel
theorem dX5_falls_31 : decode cX5_falls 31 = .ok (.iload_n 2, 1) := by decide +kernel
theorem dX5_falls_32 : decode cX5_falls 32 = .ok (.bipush 30, 2) := by decide +kernel
theorem dX5_falls_34 : decode cX5_falls 34 = .ok (.if_icmp .gt 23, 3) := by decide +kernel
theorem dX5_falls_37 : decode cX5_falls 37 = .ok (.aload_n 0, 1) := by decide +kernel
theorem dX5_falls_38 : decode cX5_falls 38 = .ok (.iconst 1, 1) := by decide +kernel
theorem dX5_falls_39 : decode cX5_falls 39 = .ok (.invokevirtual 137, 3) := by decide +kernel
theorem dX5_falls_42 : decode cX5_falls 42 = .ok (.iload_n 1, 1) := by decide +kernel
theorem dX5_falls_43 : decode cX5_falls 43 = .ok (.invokestatic 102, 3) := by decide +kernel
theorem dX5_falls_46 : decode cX5_falls 46 = .ok (.ifCond .eq 5, 3) := by decide +kernel
theorem dX5_falls_49 : decode cX5_falls 49 = .ok (.iload_n 2, 1) := by decide +kernel
theorem dX5_falls_50 : decode cX5_falls 50 = .ok (.ireturn, 1) := by decide +kernel
theorem dX5_falls_51 : decode cX5_falls 51 = .ok (.iinc 2 1, 3) := by decide +kernel
theorem dX5_falls_54 : decode cX5_falls 54 = .ok (.goto (-23), 3) := by decide +kernel
theorem dX5_falls_57 : decode cX5_falls 57 = .ok (.bipush (-9), 2) := by decide +kernel
theorem dX5_falls_59 : decode cX5_falls 59 = .ok (.ireturn, 1) := by decide +kernel
theorem dX5_rings_0 : decode cX5_rings 0 = .ok (.iconst 0, 1) := by decide +kernel
theorem dX5_rings_1 : decode cX5_rings 1 = .ok (.istore_n 1, 1) := by decide +kernel
theorem dX5_rings_2 : decode cX5_rings 2 = .ok (.iconst 0, 1) := by decide +kernel
theorem dX5_rings_3 : decode cX5_rings 3 = .ok (.istore_n 2, 1) := by decide +kernel
theorem dX5_rings_4 : decode cX5_rings 4 = .ok (.iload_n 2, 1) := by decide +kernel
theorem dX5_rings_5 : decode cX5_rings 5 = .ok (.aload_n 0, 1) := by decide +kernel
theorem dX5_rings_6 : decode cX5_rings 6 = .ok (.getfield 74, 3) := by decide +kernel
theorem dX5_rings_9 : decode cX5_rings 9 = .ok (.if_icmp .ge 44, 3) := by decide +kernel
theorem dX5_rings_12 : decode cX5_rings 12 = .ok (.aload_n 0, 1) := by decide +kernel
theorem dX5_rings_13 : decode cX5_rings 13 = .ok (.iconst 0, 1) := by decide +kernel
theorem dX5_rings_14 : decode cX5_rings 14 = .ok (.iload_n 2, 1) := by decide +kernel
theorem dX5_rings_15 : decode cX5_rings 15 = .ok (.invokevirtual 88, 3) := by decide +kernel
theorem dX5_rings_18 : decode cX5_rings 18 = .ok (.istore_n 3, 1) := by decide +kernel
theorem dX5_rings_19 : decode cX5_rings 19 = .ok (.iload_n 1, 1) := by decide +kernel
theorem dX5_rings_20 : decode cX5_rings 20 = .ok (.aload_n 0, 1) := by decide +kernel
theorem dX5_rings_21 : decode cX5_rings 21 = .ok (.iload_n 3, 1) := by decide +kernel
theorem dX5_rings_22 : decode cX5_rings 22 = .ok (.invokevirtual 91, 3) := by decide +kernel
theorem dX5_rings_25 : decode cX5_rings 25 = .ok (.ifCond .eq 19, 3) := by decide +kernel
theorem dX5_rings_28 : decode cX5_rings 28 = .ok (.aload_n 0, 1) := by decide +kernel
theorem dX5_rings_29 : decode cX5_rings 29 = .ok (.iconst 0, 1) := by decide +kernel
theorem dX5_rings_30 : decode cX5_rings 30 = .ok (.iload_n 3, 1) := by decide +kernel
theorem dX5_rings_31 : decode cX5_rings 31 = .ok (.invokevirtual 88, 3) := by decide +kernel
theorem dX5_rings_34 : decode cX5_rings 34 = .ok (.iload_n 2, 1) := by decide +kernel
theorem dX5_rings_35 : decode cX5_rings 35 = .ok (.if_icmp .ne 9, 3) := by decide +kernel
theorem dX5_rings_38 : decode cX5_rings 38 = .ok (.iconst 1, 1) := by decide +kernel
theorem dX5_rings_39 : decode cX5_rings 39 = .ok (.iload_n 2, 1) := by decide +kernel
theorem dX5_rings_40 : decode cX5_rings 40 = .ok (.ishl, 1) := by decide +kernel
theorem dX5_rings_41 : decode cX5_rings 41 = .ok (.goto 4, 3) := by decide +kernel
theorem dX5_rings_44 : decode cX5_rings 44 = .ok (.iconst 0, 1) := by decide +kernel
theorem dX5_rings_45 : decode cX5_rings 45 = .ok (.ior, 1) := by decide +kernel
theorem dX5_rings_46 : decode cX5_rings 46 = .ok (.istore_n 1, 1) := by decide +kernel
theorem dX5_rings_47 : decode cX5_rings 47 = .ok (.iinc 2 1, 3) := by decide +kernel
theorem dX5_rings_50 : decode cX5_rings 50 = .ok (.goto (-46), 3) := by decide +kernel
theorem dX5_rings_53 : decode cX5_rings 53 = .ok (.iload_n 1, 1) := by decide +kernel
theorem dX5_rings_54 : decode cX5_rings 54 = .ok (.ireturn, 1) := by decide +kernel
theorem dX5_tenTo_0 : decode cX5_tenTo 0 = .ok (.lconst 1, 1) := by decide +kernel
theorem dX5_tenTo_1 : decode cX5_tenTo 1 = .ok (.lstore_n 1, 1) := by decide +kernel
theorem dX5_tenTo_2 : decode cX5_tenTo 2 = .ok (.iconst 0, 1) := by decide +kernel
theorem dX5_tenTo_3 : decode cX5_tenTo 3 = .ok (.istore_n 3, 1) := by decide +kernel
theorem dX5_tenTo_4 : decode cX5_tenTo 4 = .ok (.iload_n 3, 1) := by decide +kernel
theorem dX5_tenTo_5 : decode cX5_tenTo 5 = .ok (.iload_n 0, 1) := by decide +kernel
theorem dX5_tenTo_6 : decode cX5_tenTo 6 = .ok (.if_icmp .ge 15, 3) := by decide +kernel
theorem dX5_tenTo_9 : decode cX5_tenTo 9 = .ok (.lload_n 1, 1) := by decide +kernel
theorem dX5_tenTo_10 : decode cX5_tenTo 10 = .ok (.ldc2_w 143, 3) := by decide +kernel
theorem dX5_tenTo_13 : decode cX5_tenTo 13 = .ok (.lmul, 1) := by decide +kernel
theorem dX5_tenTo_14 : decode cX5_tenTo 14 = .ok (.lstore_n 1, 1) := by decide +kernel
theorem dX5_tenTo_15 : decode cX5_tenTo 15 = .ok (.iinc 3 1, 3) := by decide +kernel
theorem dX5_tenTo_18 : decode cX5_tenTo 18 = .ok (.goto (-14), 3) := by decide +kernel
theorem dX5_tenTo_21 : decode cX5_tenTo 21 = .ok (.lload_n 1, 1) := by decide +kernel
theorem dX5_tenTo_22 : decode cX5_tenTo 22 = .ok (.lreturn, 1) := by decide +kernel
theorem dX5_areMoves_0 : decode cX5_areMoves 0 = .ok (.iconst 1, 1) := by decide +kernel
theorem dX5_areMoves_1 : decode cX5_areMoves 1 = .ok (.istore 4, 2) := by decide +kernel
theorem dX5_areMoves_3 : decode cX5_areMoves 3 = .ok (.iconst 0, 1) := by decide +kernel
theorem dX5_areMoves_4 : decode cX5_areMoves 4 = .ok (.istore 5, 2) := by decide +kernel
theorem dX5_areMoves_6 : decode cX5_areMoves 6 = .ok (.iload 5, 2) := by decide +kernel
theorem dX5_areMoves_8 : decode cX5_areMoves 8 = .ok (.iload_n 1, 1) := by decide +kernel
theorem dX5_areMoves_9 : decode cX5_areMoves 9 = .ok (.if_icmp .ge 69, 3) := by decide +kernel
theorem dX5_areMoves_12 : decode cX5_areMoves 12 = .ok (.lload_n 2, 1) := by decide +kernel
theorem dX5_areMoves_13 : decode cX5_areMoves 13 = .ok (.iconst 3, 1) := by decide +kernel
theorem dX5_areMoves_14 : decode cX5_areMoves 14 = .ok (.iload 5, 2) := by decide +kernel
theorem dX5_areMoves_16 : decode cX5_areMoves 16 = .ok (.imul, 1) := by decide +kernel
theorem dX5_areMoves_17 : decode cX5_areMoves 17 = .ok (.invokestatic 145, 3) := by decide +kernel
theorem dX5_areMoves_20 : decode cX5_areMoves 20 = .ok (.ldiv, 1) := by decide +kernel
theorem dX5_areMoves_21 : decode cX5_areMoves 21 = .ok (.ldc2_w 149, 3) := by decide +kernel
theorem dX5_areMoves_24 : decode cX5_areMoves 24 = .ok (.lrem, 1) := by decide +kernel
theorem dX5_areMoves_25 : decode cX5_areMoves 25 = .ok (.l2i, 1) := by decide +kernel
theorem dX5_areMoves_26 : decode cX5_areMoves 26 = .ok (.istore 6, 2) := by decide +kernel
theorem dX5_areMoves_28 : decode cX5_areMoves 28 = .ok (.iload 4, 2) := by decide +kernel
theorem dX5_areMoves_30 : decode cX5_areMoves 30 = .ok (.ifCond .eq 39, 3) := by decide +kernel
theorem dX5_areMoves_33 : decode cX5_areMoves 33 = .ok (.aload_n 0, 1) := by decide +kernel
theorem dX5_areMoves_34 : decode cX5_areMoves 34 = .ok (.iload 6, 2) := by decide +kernel
theorem dX5_areMoves_36 : decode cX5_areMoves 36 = .ok (.bipush 100, 2) := by decide +kernel
theorem dX5_areMoves_38 : decode cX5_areMoves 38 = .ok (.idiv, 1) := by decide +kernel
theorem dX5_areMoves_39 : decode cX5_areMoves 39 = .ok (.invokevirtual 91, 3) := by decide +kernel
theorem dX5_areMoves_42 : decode cX5_areMoves 42 = .ok (.ifCond .eq 27, 3) := by decide +kernel
theorem dX5_areMoves_45 : decode cX5_areMoves 45 = .ok (.iload 6, 2) := by decide +kernel
theorem dX5_areMoves_47 : decode cX5_areMoves 47 = .ok (.bipush 10, 2) := by decide +kernel
theorem dX5_areMoves_49 : decode cX5_areMoves 49 = .ok (.idiv, 1) := by decide +kernel
theorem dX5_areMoves_50 : decode cX5_areMoves 50 = .ok (.bipush 10, 2) := by decide +kernel
theorem dX5_areMoves_52 : decode cX5_areMoves 52 = .ok (.irem, 1) := by decide +kernel
theorem dX5_areMoves_53 : decode cX5_areMoves 53 = .ok (.iconst 2, 1) := by decide +kernel
theorem dX5_areMoves_54 : decode cX5_areMoves 54 = .ok (.if_icmp .ge 15, 3) := by decide +kernel
theorem dX5_areMoves_57 : decode cX5_areMoves 57 = .ok (.iload 6, 2) := by decide +kernel
theorem dX5_areMoves_59 : decode cX5_areMoves 59 = .ok (.bipush 10, 2) := by decide +kernel
theorem dX5_areMoves_61 : decode cX5_areMoves 61 = .ok (.irem, 1) := by decide +kernel
theorem dX5_areMoves_62 : decode cX5_areMoves 62 = .ok (.ifCond .le 7, 3) := by decide +kernel
theorem dX5_areMoves_65 : decode cX5_areMoves 65 = .ok (.iconst 1, 1) := by decide +kernel
theorem dX5_areMoves_66 : decode cX5_areMoves 66 = .ok (.goto 4, 3) := by decide +kernel
theorem dX5_areMoves_69 : decode cX5_areMoves 69 = .ok (.iconst 0, 1) := by decide +kernel
theorem dX5_areMoves_70 : decode cX5_areMoves 70 = .ok (.istore 4, 2) := by decide +kernel
theorem dX5_areMoves_72 : decode cX5_areMoves 72 = .ok (.iinc 5 1, 3) := by decide +kernel
theorem dX5_areMoves_75 : decode cX5_areMoves 75 = .ok (.goto (-69), 3) := by decide +kernel
theorem dX5_areMoves_78 : decode cX5_areMoves 78 = .ok (.iload 4, 2) := by decide +kernel
theorem dX5_areMoves_80 : decode cX5_areMoves 80 = .ok (.ireturn, 1) := by decide +kernel
theorem dX5_canMove_0 : decode cX5_canMove 0 = .ok (.aload_n 0, 1) := by decide +kernel
theorem dX5_canMove_1 : decode cX5_canMove 1 = .ok (.invokevirtual 134, 3) := by decide +kernel
theorem dX5_canMove_4 : decode cX5_canMove 4 = .ok (.iconst 1, 1) := by decide +kernel
theorem dX5_canMove_5 : decode cX5_canMove 5 = .ok (.istore 5, 2) := by decide +kernel
theorem dX5_canMove_7 : decode cX5_canMove 7 = .ok (.iload_n 1, 1) := by decide +kernel
theorem dX5_canMove_8 : decode cX5_canMove 8 = .ok (.iconst 1, 1) := by decide +kernel
theorem dX5_canMove_9 : decode cX5_canMove 9 = .ok (.isub, 1) := by decide +kernel
theorem dX5_canMove_10 : decode cX5_canMove 10 = .ok (.istore 6, 2) := by decide +kernel
theorem dX5_canMove_12 : decode cX5_canMove 12 = .ok (.iload 6, 2) := by decide +kernel
theorem dX5_canMove_14 : decode cX5_canMove 14 = .ok (.ifCond .lt 163, 3) := by decide +kernel
theorem dX5_canMove_17 : decode cX5_canMove 17 = .ok (.iload 5, 2) := by decide +kernel
theorem dX5_canMove_19 : decode cX5_canMove 19 = .ok (.ifCond .eq 158, 3) := by decide +kernel
theorem dX5_canMove_22 : decode cX5_canMove 22 = .ok (.iload 4, 2) := by decide +kernel
theorem dX5_canMove_24 : decode cX5_canMove 24 = .ok (.i2l, 1) := by decide +kernel
theorem dX5_canMove_25 : decode cX5_canMove 25 = .ok (.iload 6, 2) := by decide +kernel
theorem dX5_canMove_27 : decode cX5_canMove 27 = .ok (.invokestatic 145, 3) := by decide +kernel
theorem dX5_canMove_30 : decode cX5_canMove 30 = .ok (.ldiv, 1) := by decide +kernel
theorem dX5_canMove_31 : decode cX5_canMove 31 = .ok (.ldc2_w 143, 3) := by decide +kernel
theorem dX5_canMove_34 : decode cX5_canMove 34 = .ok (.lrem, 1) := by decide +kernel
theorem dX5_canMove_35 : decode cX5_canMove 35 = .ok (.l2i, 1) := by decide +kernel
theorem dX5_canMove_36 : decode cX5_canMove 36 = .ok (.istore 7, 2) := by decide +kernel
theorem dX5_canMove_38 : decode cX5_canMove 38 = .ok (.lload_n 2, 1) := by decide +kernel
theorem dX5_canMove_39 : decode cX5_canMove 39 = .ok (.iconst 3, 1) := by decide +kernel
theorem dX5_canMove_40 : decode cX5_canMove 40 = .ok (.iload_n 1, 1) := by decide +kernel
theorem dX5_canMove_41 : decode cX5_canMove 41 = .ok (.iload 7, 2) := by decide +kernel
theorem dX5_canMove_43 : decode cX5_canMove 43 = .ok (.isub, 1) := by decide +kernel
theorem dX5_canMove_44 : decode cX5_canMove 44 = .ok (.imul, 1) := by decide +kernel
theorem dX5_canMove_45 : decode cX5_canMove 45 = .ok (.invokestatic 145, 3) := by decide +kernel
theorem dX5_canMove_48 : decode cX5_canMove 48 = .ok (.ldiv, 1) := by decide +kernel
theorem dX5_canMove_49 : decode cX5_canMove 49 = .ok (.ldc2_w 149, 3) := by decide +kernel
theorem dX5_canMove_52 : decode cX5_canMove 52 = .ok (.lrem, 1) := by decide +kernel
theorem dX5_canMove_53 : decode cX5_canMove 53 = .ok (.l2i, 1) := by decide +kernel
theorem dX5_canMove_54 : decode cX5_canMove 54 = .ok (.istore 8, 2) := by decide +kernel
theorem dX5_canMove_56 : decode cX5_canMove 56 = .ok (.iload 8, 2) := by decide +kernel
theorem dX5_canMove_58 : decode cX5_canMove 58 = .ok (.bipush 100, 2) := by decide +kernel
theorem dX5_canMove_60 : decode cX5_canMove 60 = .ok (.idiv, 1) := by decide +kernel
theorem dX5_canMove_61 : decode cX5_canMove 61 = .ok (.istore 9, 2) := by decide +kernel
theorem dX5_canMove_63 : decode cX5_canMove 63 = .ok (.iload 8, 2) := by decide +kernel
theorem dX5_canMove_65 : decode cX5_canMove 65 = .ok (.bipush 10, 2) := by decide +kernel
theorem dX5_canMove_67 : decode cX5_canMove 67 = .ok (.irem, 1) := by decide +kernel
theorem dX5_canMove_68 : decode cX5_canMove 68 = .ok (.istore 10, 2) := by decide +kernel
theorem dX5_canMove_70 : decode cX5_canMove 70 = .ok (.iload 8, 2) := by decide +kernel
theorem dX5_canMove_72 : decode cX5_canMove 72 = .ok (.bipush 10, 2) := by decide +kernel
theorem dX5_canMove_74 : decode cX5_canMove 74 = .ok (.idiv, 1) := by decide +kernel
theorem dX5_canMove_75 : decode cX5_canMove 75 = .ok (.bipush 10, 2) := by decide +kernel
theorem dX5_canMove_77 : decode cX5_canMove 77 = .ok (.irem, 1) := by decide +kernel
theorem dX5_canMove_78 : decode cX5_canMove 78 = .ok (.ifCond .ne 7, 3) := by decide +kernel
theorem dX5_canMove_81 : decode cX5_canMove 81 = .ok (.iconst 1, 1) := by decide +kernel
theorem dX5_canMove_82 : decode cX5_canMove 82 = .ok (.goto 4, 3) := by decide +kernel
theorem dX5_canMove_85 : decode cX5_canMove 85 = .ok (.iconst 0, 1) := by decide +kernel
theorem dX5_canMove_86 : decode cX5_canMove 86 = .ok (.istore 11, 2) := by decide +kernel
theorem dX5_canMove_88 : decode cX5_canMove 88 = .ok (.iload 11, 2) := by decide +kernel
theorem dX5_canMove_90 : decode cX5_canMove 90 = .ok (.ifCond .eq 15, 3) := by decide +kernel
theorem dX5_canMove_93 : decode cX5_canMove 93 = .ok (.aload_n 0, 1) := by decide +kernel
theorem dX5_canMove_94 : decode cX5_canMove 94 = .ok (.iconst 1, 1) := by decide +kernel
theorem dX5_canMove_95 : decode cX5_canMove 95 = .ok (.iload 9, 2) := by decide +kernel
theorem dX5_canMove_97 : decode cX5_canMove 97 = .ok (.iload 10, 2) := by decide +kernel
theorem dX5_canMove_99 : decode cX5_canMove 99 = .ok (.invokevirtual 119, 3) := by decide +kernel
theorem dX5_canMove_102 : decode cX5_canMove 102 = .ok (.goto 12, 3) := by decide +kernel
theorem dX5_canMove_105 : decode cX5_canMove 105 = .ok (.aload_n 0, 1) := by decide +kernel
theorem dX5_canMove_106 : decode cX5_canMove 106 = .ok (.iconst 1, 1) := by decide +kernel
theorem dX5_canMove_107 : decode cX5_canMove 107 = .ok (.iload 9, 2) := by decide +kernel
theorem dX5_canMove_109 : decode cX5_canMove 109 = .ok (.iload 10, 2) := by decide +kernel
theorem dX5_canMove_111 : decode cX5_canMove 111 = .ok (.invokevirtual 123, 3) := by decide +kernel
theorem dX5_canMove_114 : decode cX5_canMove 114 = .ok (.istore 5, 2) := by decide +kernel
theorem dX5_canMove_116 : decode cX5_canMove 116 = .ok (.aload_n 0, 1) := by decide +kernel
theorem dX5_canMove_117 : decode cX5_canMove 117 = .ok (.getfield 13, 3) := by decide +kernel
theorem dX5_canMove_120 : decode cX5_canMove 120 = .ok (.bipush 37, 2) := by decide +kernel
theorem dX5_canMove_122 : decode cX5_canMove 122 = .ok (.iload 9, 2) := by decide +kernel
theorem dX5_canMove_124 : decode cX5_canMove 124 = .ok (.iadd, 1) := by decide +kernel
theorem dX5_canMove_125 : decode cX5_canMove 125 = .ok (.dup2, 1) := by decide +kernel
theorem dX5_canMove_126 : decode cX5_canMove 126 = .ok (.iaload, 1) := by decide +kernel
theorem dX5_canMove_127 : decode cX5_canMove 127 = .ok (.iload 5, 2) := by decide +kernel
theorem dX5_canMove_129 : decode cX5_canMove 129 = .ok (.ifCond .ne 7, 3) := by decide +kernel
theorem dX5_canMove_132 : decode cX5_canMove 132 = .ok (.iconst 0, 1) := by decide +kernel
theorem dX5_canMove_133 : decode cX5_canMove 133 = .ok (.goto 16, 3) := by decide +kernel
theorem dX5_canMove_136 : decode cX5_canMove 136 = .ok (.iload 11, 2) := by decide +kernel
theorem dX5_canMove_138 : decode cX5_canMove 138 = .ok (.ifCond .eq 8, 3) := by decide +kernel
theorem dX5_canMove_141 : decode cX5_canMove 141 = .ok (.iload 10, 2) := by decide +kernel
theorem dX5_canMove_143 : decode cX5_canMove 143 = .ok (.goto 6, 3) := by decide +kernel
theorem dX5_canMove_146 : decode cX5_canMove 146 = .ok (.iload 10, 2) := by decide +kernel
theorem dX5_canMove_148 : decode cX5_canMove 148 = .ok (.ineg, 1) := by decide +kernel
theorem dX5_canMove_149 : decode cX5_canMove 149 = .ok (.iadd, 1) := by decide +kernel
theorem dX5_canMove_150 : decode cX5_canMove 150 = .ok (.iastore, 1) := by decide +kernel
theorem dX5_canMove_151 : decode cX5_canMove 151 = .ok (.iload 5, 2) := by decide +kernel
theorem dX5_canMove_153 : decode cX5_canMove 153 = .ok (.ifCond .eq 15, 3) := by decide +kernel
theorem dX5_canMove_156 : decode cX5_canMove 156 = .ok (.aload_n 0, 1) := by decide +kernel
theorem dX5_canMove_157 : decode cX5_canMove 157 = .ok (.iconst 1, 1) := by decide +kernel
theorem dX5_canMove_158 : decode cX5_canMove 158 = .ok (.invokevirtual 137, 3) := by decide +kernel
theorem dX5_canMove_161 : decode cX5_canMove 161 = .ok (.ifCond .ne 7, 3) := by decide +kernel
theorem dX5_canMove_164 : decode cX5_canMove 164 = .ok (.iconst 1, 1) := by decide +kernel
theorem dX5_canMove_165 : decode cX5_canMove 165 = .ok (.goto 4, 3) := by decide +kernel
theorem dX5_canMove_168 : decode cX5_canMove 168 = .ok (.iconst 0, 1) := by decide +kernel
theorem dX5_canMove_169 : decode cX5_canMove 169 = .ok (.istore 5, 2) := by decide +kernel
theorem dX5_canMove_171 : decode cX5_canMove 171 = .ok (.iinc 6 (-1), 3) := by decide +kernel
theorem dX5_canMove_174 : decode cX5_canMove 174 = .ok (.goto (-162), 3) := by decide +kernel
theorem dX5_canMove_177 : decode cX5_canMove 177 = .ok (.iload 5, 2) := by decide +kernel
