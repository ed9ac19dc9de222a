theorem dX5_canMove_179 : decode cX5_canMove 179 = .ok (.ireturn, 1) := by decide +kernel
theorem dX5_isOrder_0 : decode cX5_isOrder 0 = .ok (.iconst 0, 1) := by decide +kernel
theorem dX5_isOrder_1 : decode cX5_isOrder 1 = .ok (.istore_n 2, 1) := by decide +kernel
theorem dX5_isOrder_2 : decode cX5_isOrder 2 = .ok (.iload_n 1, 1) := by decide +kernel
theorem dX5_isOrder_3 : decode cX5_isOrder 3 = .ok (.istore_n 3, 1) := by decide +kernel
theorem dX5_isOrder_4 : decode cX5_isOrder 4 = .ok (.iconst 0, 1) := by decide +kernel
theorem dX5_isOrder_5 : decode cX5_isOrder 5 = .ok (.istore 4, 2) := by decide +kernel
theorem dX5_isOrder_7 : decode cX5_isOrder 7 = .ok (.iload 4, 2) := by decide +kernel
theorem dX5_isOrder_9 : decode cX5_isOrder 9 = .ok (.iload_n 0, 1) := by decide +kernel
theorem dX5_isOrder_10 : decode cX5_isOrder 10 = .ok (.if_icmp .ge 23, 3) := by decide +kernel
theorem dX5_isOrder_13 : decode cX5_isOrder 13 = .ok (.iload_n 2, 1) := by decide +kernel
theorem dX5_isOrder_14 : decode cX5_isOrder 14 = .ok (.iconst 1, 1) := by decide +kernel
theorem dX5_isOrder_15 : decode cX5_isOrder 15 = .ok (.iload_n 3, 1) := by decide +kernel
theorem dX5_isOrder_16 : decode cX5_isOrder 16 = .ok (.bipush 10, 2) := by decide +kernel
theorem dX5_isOrder_18 : decode cX5_isOrder 18 = .ok (.irem, 1) := by decide +kernel
theorem dX5_isOrder_19 : decode cX5_isOrder 19 = .ok (.ishl, 1) := by decide +kernel
theorem dX5_isOrder_20 : decode cX5_isOrder 20 = .ok (.ior, 1) := by decide +kernel
theorem dX5_isOrder_21 : decode cX5_isOrder 21 = .ok (.istore_n 2, 1) := by decide +kernel
theorem dX5_isOrder_22 : decode cX5_isOrder 22 = .ok (.iload_n 3, 1) := by decide +kernel
theorem dX5_isOrder_23 : decode cX5_isOrder 23 = .ok (.bipush 10, 2) := by decide +kernel
theorem dX5_isOrder_25 : decode cX5_isOrder 25 = .ok (.idiv, 1) := by decide +kernel
theorem dX5_isOrder_26 : decode cX5_isOrder 26 = .ok (.istore_n 3, 1) := by decide +kernel
theorem dX5_isOrder_27 : decode cX5_isOrder 27 = .ok (.iinc 4 1, 3) := by decide +kernel
theorem dX5_isOrder_30 : decode cX5_isOrder 30 = .ok (.goto (-23), 3) := by decide +kernel
theorem dX5_isOrder_33 : decode cX5_isOrder 33 = .ok (.iload_n 3, 1) := by decide +kernel
theorem dX5_isOrder_34 : decode cX5_isOrder 34 = .ok (.ifCond .ne 18, 3) := by decide +kernel
theorem dX5_isOrder_37 : decode cX5_isOrder 37 = .ok (.iload_n 2, 1) := by decide +kernel
theorem dX5_isOrder_38 : decode cX5_isOrder 38 = .ok (.iconst 1, 1) := by decide +kernel
theorem dX5_isOrder_39 : decode cX5_isOrder 39 = .ok (.iload_n 0, 1) := by decide +kernel
theorem dX5_isOrder_40 : decode cX5_isOrder 40 = .ok (.iconst 1, 1) := by decide +kernel
theorem dX5_isOrder_41 : decode cX5_isOrder 41 = .ok (.iadd, 1) := by decide +kernel
theorem dX5_isOrder_42 : decode cX5_isOrder 42 = .ok (.ishl, 1) := by decide +kernel
theorem dX5_isOrder_43 : decode cX5_isOrder 43 = .ok (.iconst 2, 1) := by decide +kernel
theorem dX5_isOrder_44 : decode cX5_isOrder 44 = .ok (.isub, 1) := by decide +kernel
theorem dX5_isOrder_45 : decode cX5_isOrder 45 = .ok (.if_icmp .ne 7, 3) := by decide +kernel
theorem dX5_isOrder_48 : decode cX5_isOrder 48 = .ok (.iconst 1, 1) := by decide +kernel
theorem dX5_isOrder_49 : decode cX5_isOrder 49 = .ok (.goto 4, 3) := by decide +kernel
theorem dX5_isOrder_52 : decode cX5_isOrder 52 = .ok (.iconst 0, 1) := by decide +kernel
theorem dX5_isOrder_53 : decode cX5_isOrder 53 = .ok (.ireturn, 1) := by decide +kernel
theorem dX5_orders_0 : decode cX5_orders 0 = .ok (.iload_n 1, 1) := by decide +kernel
theorem dX5_orders_1 : decode cX5_orders 1 = .ok (.i2l, 1) := by decide +kernel
theorem dX5_orders_2 : decode cX5_orders 2 = .ok (.lconst 1, 1) := by decide +kernel
theorem dX5_orders_3 : decode cX5_orders 3 = .ok (.ldc2_w 151, 3) := by decide +kernel
theorem dX5_orders_6 : decode cX5_orders 6 = .ok (.invokestatic 49, 3) := by decide +kernel
theorem dX5_orders_9 : decode cX5_orders 9 = .ok (.ifCond .eq 39, 3) := by decide +kernel
theorem dX5_orders_12 : decode cX5_orders 12 = .ok (.lload_n 2, 1) := by decide +kernel
theorem dX5_orders_13 : decode cX5_orders 13 = .ok (.lconst 0, 1) := by decide +kernel
theorem dX5_orders_14 : decode cX5_orders 14 = .ok (.iconst 3, 1) := by decide +kernel
theorem dX5_orders_15 : decode cX5_orders 15 = .ok (.iload_n 1, 1) := by decide +kernel
theorem dX5_orders_16 : decode cX5_orders 16 = .ok (.imul, 1) := by decide +kernel
theorem dX5_orders_17 : decode cX5_orders 17 = .ok (.invokestatic 145, 3) := by decide +kernel
theorem dX5_orders_20 : decode cX5_orders 20 = .ok (.lconst 1, 1) := by decide +kernel
theorem dX5_orders_21 : decode cX5_orders 21 = .ok (.lsub, 1) := by decide +kernel
theorem dX5_orders_22 : decode cX5_orders 22 = .ok (.invokestatic 49, 3) := by decide +kernel
theorem dX5_orders_25 : decode cX5_orders 25 = .ok (.ifCond .eq 23, 3) := by decide +kernel
theorem dX5_orders_28 : decode cX5_orders 28 = .ok (.aload_n 0, 1) := by decide +kernel
theorem dX5_orders_29 : decode cX5_orders 29 = .ok (.iload_n 1, 1) := by decide +kernel
theorem dX5_orders_30 : decode cX5_orders 30 = .ok (.lload_n 2, 1) := by decide +kernel
theorem dX5_orders_31 : decode cX5_orders 31 = .ok (.invokevirtual 153, 3) := by decide +kernel
theorem dX5_orders_34 : decode cX5_orders 34 = .ok (.ifCond .eq 14, 3) := by decide +kernel
theorem dX5_orders_37 : decode cX5_orders 37 = .ok (.iload 4, 2) := by decide +kernel
theorem dX5_orders_39 : decode cX5_orders 39 = .ok (.i2l, 1) := by decide +kernel
theorem dX5_orders_40 : decode cX5_orders 40 = .ok (.lconst 0, 1) := by decide +kernel
theorem dX5_orders_41 : decode cX5_orders 41 = .ok (.lconst 1, 1) := by decide +kernel
theorem dX5_orders_42 : decode cX5_orders 42 = .ok (.invokestatic 49, 3) := by decide +kernel
theorem dX5_orders_45 : decode cX5_orders 45 = .ok (.ifCond .ne 6, 3) := by decide +kernel
theorem dX5_orders_48 : decode cX5_orders 48 = .ok (.bipush (-2), 2) := by decide +kernel
theorem dX5_orders_50 : decode cX5_orders 50 = .ok (.ireturn, 1) := by decide +kernel
theorem dX5_orders_51 : decode cX5_orders 51 = .ok (.iconst 0, 1) := by decide +kernel
theorem dX5_orders_52 : decode cX5_orders 52 = .ok (.istore 5, 2) := by decide +kernel
theorem dX5_orders_54 : decode cX5_orders 54 = .ok (.bipush (-9), 2) := by decide +kernel
theorem dX5_orders_56 : decode cX5_orders 56 = .ok (.istore 6, 2) := by decide +kernel
theorem dX5_orders_58 : decode cX5_orders 58 = .ok (.iconst 1, 1) := by decide +kernel
theorem dX5_orders_59 : decode cX5_orders 59 = .ok (.istore 7, 2) := by decide +kernel
theorem dX5_orders_61 : decode cX5_orders 61 = .ok (.iload 7, 2) := by decide +kernel
theorem dX5_orders_63 : decode cX5_orders 63 = .ok (.sipush 5000, 3) := by decide +kernel
theorem dX5_orders_66 : decode cX5_orders 66 = .ok (.if_icmp .ge 46, 3) := by decide +kernel
theorem dX5_orders_69 : decode cX5_orders 69 = .ok (.iload_n 1, 1) := by decide +kernel
theorem dX5_orders_70 : decode cX5_orders 70 = .ok (.iload 7, 2) := by decide +kernel
theorem dX5_orders_72 : decode cX5_orders 72 = .ok (.invokestatic 157, 3) := by decide +kernel
theorem dX5_orders_75 : decode cX5_orders 75 = .ok (.ifCond .eq 31, 3) := by decide +kernel
theorem dX5_orders_78 : decode cX5_orders 78 = .ok (.aload_n 0, 1) := by decide +kernel
theorem dX5_orders_79 : decode cX5_orders 79 = .ok (.iload_n 1, 1) := by decide +kernel
theorem dX5_orders_80 : decode cX5_orders 80 = .ok (.lload_n 2, 1) := by decide +kernel
theorem dX5_orders_81 : decode cX5_orders 81 = .ok (.iload 7, 2) := by decide +kernel
theorem dX5_orders_83 : decode cX5_orders 83 = .ok (.invokevirtual 160, 3) := by decide +kernel
theorem dX5_orders_86 : decode cX5_orders 86 = .ok (.ifCond .eq 20, 3) := by decide +kernel
theorem dX5_orders_89 : decode cX5_orders 89 = .ok (.iload 5, 2) := by decide +kernel
theorem dX5_orders_91 : decode cX5_orders 91 = .ok (.ifCond .ne 8, 3) := by decide +kernel
theorem dX5_orders_94 : decode cX5_orders 94 = .ok (.iload 7, 2) := by decide +kernel
theorem dX5_orders_96 : decode cX5_orders 96 = .ok (.goto 5, 3) := by decide +kernel
theorem dX5_orders_99 : decode cX5_orders 99 = .ok (.iload 6, 2) := by decide +kernel
theorem dX5_orders_101 : decode cX5_orders 101 = .ok (.istore 6, 2) := by decide +kernel
theorem dX5_orders_103 : decode cX5_orders 103 = .ok (.iinc 5 1, 3) := by decide +kernel
theorem dX5_orders_106 : decode cX5_orders 106 = .ok (.iinc 7 1, 3) := by decide +kernel
theorem dX5_orders_109 : decode cX5_orders 109 = .ok (.goto (-48), 3) := by decide +kernel
theorem dX5_orders_112 : decode cX5_orders 112 = .ok (.iload 4, 2) := by decide +kernel
theorem dX5_orders_114 : decode cX5_orders 114 = .ok (.ifCond .ne 8, 3) := by decide +kernel
theorem dX5_orders_117 : decode cX5_orders 117 = .ok (.iload 5, 2) := by decide +kernel
theorem dX5_orders_119 : decode cX5_orders 119 = .ok (.goto 5, 3) := by decide +kernel
theorem dX5_orders_122 : decode cX5_orders 122 = .ok (.iload 6, 2) := by decide +kernel
theorem dX5_orders_124 : decode cX5_orders 124 = .ok (.ireturn, 1) := by decide +kernel
theorem dX5_piano_0 : decode cX5_piano 0 = .ok (.iload_n 1, 1) := by decide +kernel
theorem dX5_piano_1 : decode cX5_piano 1 = .ok (.i2l, 1) := by decide +kernel
theorem dX5_piano_2 : decode cX5_piano 2 = .ok (.lconst 1, 1) := by decide +kernel
theorem dX5_piano_3 : decode cX5_piano 3 = .ok (.ldc2_w 117, 3) := by decide +kernel
theorem dX5_piano_6 : decode cX5_piano 6 = .ok (.invokestatic 49, 3) := by decide +kernel
theorem dX5_piano_9 : decode cX5_piano 9 = .ok (.ifCond .ne 6, 3) := by decide +kernel
theorem dX5_piano_12 : decode cX5_piano 12 = .ok (.bipush (-2), 2) := by decide +kernel
theorem dX5_piano_14 : decode cX5_piano 14 = .ok (.ireturn, 1) := by decide +kernel
theorem dX5_piano_15 : decode cX5_piano 15 = .ok (.iconst 0, 1) := by decide +kernel
theorem dX5_piano_16 : decode cX5_piano 16 = .ok (.istore_n 2, 1) := by decide +kernel
theorem dX5_piano_17 : decode cX5_piano 17 = .ok (.iconst 0, 1) := by decide +kernel
theorem dX5_piano_18 : decode cX5_piano 18 = .ok (.istore_n 3, 1) := by decide +kernel
theorem dX5_piano_19 : decode cX5_piano 19 = .ok (.iload_n 3, 1) := by decide +kernel
theorem dX5_piano_20 : decode cX5_piano 20 = .ok (.aload_n 0, 1) := by decide +kernel
theorem dX5_piano_21 : decode cX5_piano 21 = .ok (.getfield 74, 3) := by decide +kernel
theorem dX5_piano_24 : decode cX5_piano 24 = .ok (.if_icmp .ge 89, 3) := by decide +kernel
theorem dX5_piano_27 : decode cX5_piano 27 = .ok (.aload_n 0, 1) := by decide +kernel
theorem dX5_piano_28 : decode cX5_piano 28 = .ok (.invokevirtual 134, 3) := by decide +kernel
theorem dX5_piano_31 : decode cX5_piano 31 = .ok (.aload_n 0, 1) := by decide +kernel
theorem dX5_piano_32 : decode cX5_piano 32 = .ok (.getfield 13, 3) := by decide +kernel
theorem dX5_piano_35 : decode cX5_piano 35 = .ok (.bipush 18, 2) := by decide +kernel
theorem dX5_piano_37 : decode cX5_piano 37 = .ok (.iload_n 3, 1) := by decide +kernel
theorem dX5_piano_38 : decode cX5_piano 38 = .ok (.iadd, 1) := by decide +kernel
theorem dX5_piano_39 : decode cX5_piano 39 = .ok (.iaload, 1) := by decide +kernel
theorem dX5_piano_40 : decode cX5_piano 40 = .ok (.iconst 1, 1) := by decide +kernel
theorem dX5_piano_41 : decode cX5_piano 41 = .ok (.if_icmp .ne 17, 3) := by decide +kernel
theorem dX5_piano_44 : decode cX5_piano 44 = .ok (.aload_n 0, 1) := by decide +kernel
theorem dX5_piano_45 : decode cX5_piano 45 = .ok (.iconst 0, 1) := by decide +kernel
theorem dX5_piano_46 : decode cX5_piano 46 = .ok (.iload_n 3, 1) := by decide +kernel
theorem dX5_piano_47 : decode cX5_piano 47 = .ok (.iload_n 1, 1) := by decide +kernel
theorem dX5_piano_48 : decode cX5_piano 48 = .ok (.invokevirtual 119, 3) := by decide +kernel
theorem dX5_piano_51 : decode cX5_piano 51 = .ok (.ifCond .eq 7, 3) := by decide +kernel
theorem dX5_piano_54 : decode cX5_piano 54 = .ok (.iconst 1, 1) := by decide +kernel
theorem dX5_piano_55 : decode cX5_piano 55 = .ok (.goto 4, 3) := by decide +kernel
theorem dX5_piano_58 : decode cX5_piano 58 = .ok (.iconst 0, 1) := by decide +kernel
theorem dX5_piano_59 : decode cX5_piano 59 = .ok (.istore 4, 2) := by decide +kernel
theorem dX5_piano_61 : decode cX5_piano 61 = .ok (.aload_n 0, 1) := by decide +kernel
theorem dX5_piano_62 : decode cX5_piano 62 = .ok (.getfield 13, 3) := by decide +kernel
theorem dX5_piano_65 : decode cX5_piano 65 = .ok (.bipush 37, 2) := by decide +kernel
theorem dX5_piano_67 : decode cX5_piano 67 = .ok (.iload_n 3, 1) := by decide +kernel
theorem dX5_piano_68 : decode cX5_piano 68 = .ok (.iadd, 1) := by decide +kernel
theorem dX5_piano_69 : decode cX5_piano 69 = .ok (.dup2, 1) := by decide +kernel
theorem dX5_piano_70 : decode cX5_piano 70 = .ok (.iaload, 1) := by decide +kernel
theorem dX5_piano_71 : decode cX5_piano 71 = .ok (.iload 4, 2) := by decide +kernel
theorem dX5_piano_73 : decode cX5_piano 73 = .ok (.ifCond .eq 7, 3) := by decide +kernel
theorem dX5_piano_76 : decode cX5_piano 76 = .ok (.iload_n 1, 1) := by decide +kernel
theorem dX5_piano_77 : decode cX5_piano 77 = .ok (.goto 4, 3) := by decide +kernel
theorem dX5_piano_80 : decode cX5_piano 80 = .ok (.iconst 0, 1) := by decide +kernel
theorem dX5_piano_81 : decode cX5_piano 81 = .ok (.iadd, 1) := by decide +kernel
theorem dX5_piano_82 : decode cX5_piano 82 = .ok (.iastore, 1) := by decide +kernel
theorem dX5_piano_83 : decode cX5_piano 83 = .ok (.iload_n 2, 1) := by decide +kernel
theorem dX5_piano_84 : decode cX5_piano 84 = .ok (.iload 4, 2) := by decide +kernel
theorem dX5_piano_86 : decode cX5_piano 86 = .ok (.ifCond .eq 18, 3) := by decide +kernel
theorem dX5_piano_89 : decode cX5_piano 89 = .ok (.aload_n 0, 1) := by decide +kernel
theorem dX5_piano_90 : decode cX5_piano 90 = .ok (.bipush 6, 2) := by decide +kernel
theorem dX5_piano_92 : decode cX5_piano 92 = .ok (.invokevirtual 137, 3) := by decide +kernel
theorem dX5_piano_95 : decode cX5_piano 95 = .ok (.ifCond .ne 9, 3) := by decide +kernel
theorem dX5_piano_98 : decode cX5_piano 98 = .ok (.iconst 1, 1) := by decide +kernel
theorem dX5_piano_99 : decode cX5_piano 99 = .ok (.iload_n 3, 1) := by decide +kernel
theorem dX5_piano_100 : decode cX5_piano 100 = .ok (.ishl, 1) := by decide +kernel
theorem dX5_piano_101 : decode cX5_piano 101 = .ok (.goto 4, 3) := by decide +kernel
theorem dX5_piano_104 : decode cX5_piano 104 = .ok (.iconst 0, 1) := by decide +kernel
theorem dX5_piano_105 : decode cX5_piano 105 = .ok (.ior, 1) := by decide +kernel
theorem dX5_piano_106 : decode cX5_piano 106 = .ok (.istore_n 2, 1) := by decide +kernel
theorem dX5_piano_107 : decode cX5_piano 107 = .ok (.iinc 3 1, 3) := by decide +kernel
theorem dX5_piano_110 : decode cX5_piano 110 = .ok (.goto (-91), 3) := by decide +kernel
theorem dX5_piano_113 : decode cX5_piano 113 = .ok (.iload_n 2, 1) := by decide +kernel
theorem dX5_piano_114 : decode cX5_piano 114 = .ok (.ireturn, 1) := by decide +kernel
theorem dX5_isSafe_0 : decode cX5_isSafe 0 = .ok (.aload_n 0, 1) := by decide +kernel
theorem dX5_isSafe_1 : decode cX5_isSafe 1 = .ok (.invokevirtual 134, 3) := by decide +kernel
theorem dX5_isSafe_4 : decode cX5_isSafe 4 = .ok (.aload_n 0, 1) := by decide +kernel
theorem dX5_isSafe_5 : decode cX5_isSafe 5 = .ok (.getfield 13, 3) := by decide +kernel
theorem dX5_isSafe_8 : decode cX5_isSafe 8 = .ok (.bipush 37, 2) := by decide +kernel
theorem dX5_isSafe_10 : decode cX5_isSafe 10 = .ok (.iload_n 1, 1) := by decide +kernel
theorem dX5_isSafe_11 : decode cX5_isSafe 11 = .ok (.iadd, 1) := by decide +kernel
theorem dX5_isSafe_12 : decode cX5_isSafe 12 = .ok (.dup2, 1) := by decide +kernel
theorem dX5_isSafe_13 : decode cX5_isSafe 13 = .ok (.iaload, 1) := by decide +kernel
theorem dX5_isSafe_14 : decode cX5_isSafe 14 = .ok (.iload_n 3, 1) := by decide +kernel
theorem dX5_isSafe_15 : decode cX5_isSafe 15 = .ok (.isub, 1) := by decide +kernel
theorem dX5_isSafe_16 : decode cX5_isSafe 16 = .ok (.iastore, 1) := by decide +kernel
theorem dX5_isSafe_17 : decode cX5_isSafe 17 = .ok (.aload_n 0, 1) := by decide +kernel
theorem dX5_isSafe_18 : decode cX5_isSafe 18 = .ok (.getfield 13, 3) := by decide +kernel
theorem dX5_isSafe_21 : decode cX5_isSafe 21 = .ok (.bipush 37, 2) := by decide +kernel
theorem dX5_isSafe_23 : decode cX5_isSafe 23 = .ok (.iload_n 2, 1) := by decide +kernel
theorem dX5_isSafe_24 : decode cX5_isSafe 24 = .ok (.iadd, 1) := by decide +kernel
theorem dX5_isSafe_25 : decode cX5_isSafe 25 = .ok (.dup2, 1) := by decide +kernel
theorem dX5_isSafe_26 : decode cX5_isSafe 26 = .ok (.iaload, 1) := by decide +kernel
theorem dX5_isSafe_27 : decode cX5_isSafe 27 = .ok (.iload 4, 2) := by decide +kernel
theorem dX5_isSafe_29 : decode cX5_isSafe 29 = .ok (.isub, 1) := by decide +kernel
theorem dX5_isSafe_30 : decode cX5_isSafe 30 = .ok (.iastore, 1) := by decide +kernel
theorem dX5_isSafe_31 : decode cX5_isSafe 31 = .ok (.aload_n 0, 1) := by decide +kernel
theorem dX5_isSafe_32 : decode cX5_isSafe 32 = .ok (.getfield 13, 3) := by decide +kernel
theorem dX5_isSafe_35 : decode cX5_isSafe 35 = .ok (.bipush 37, 2) := by decide +kernel
theorem dX5_isSafe_37 : decode cX5_isSafe 37 = .ok (.iload_n 1, 1) := by decide +kernel
theorem dX5_isSafe_38 : decode cX5_isSafe 38 = .ok (.iadd, 1) := by decide +kernel
theorem dX5_isSafe_39 : decode cX5_isSafe 39 = .ok (.iaload, 1) := by decide +kernel
theorem dX5_isSafe_40 : decode cX5_isSafe 40 = .ok (.ifCond .lt 28, 3) := by decide +kernel
theorem dX5_isSafe_43 : decode cX5_isSafe 43 = .ok (.aload_n 0, 1) := by decide +kernel
theorem dX5_isSafe_44 : decode cX5_isSafe 44 = .ok (.getfield 13, 3) := by decide +kernel
theorem dX5_isSafe_47 : decode cX5_isSafe 47 = .ok (.bipush 37, 2) := by decide +kernel
theorem dX5_isSafe_49 : decode cX5_isSafe 49 = .ok (.iload_n 2, 1) := by decide +kernel
theorem dX5_isSafe_50 : decode cX5_isSafe 50 = .ok (.iadd, 1) := by decide +kernel
theorem dX5_isSafe_51 : decode cX5_isSafe 51 = .ok (.iaload, 1) := by decide +kernel
theorem dX5_isSafe_52 : decode cX5_isSafe 52 = .ok (.ifCond .lt 16, 3) := by decide +kernel
theorem dX5_isSafe_55 : decode cX5_isSafe 55 = .ok (.aload_n 0, 1) := by decide +kernel
theorem dX5_isSafe_56 : decode cX5_isSafe 56 = .ok (.bipush 6, 2) := by decide +kernel
theorem dX5_isSafe_58 : decode cX5_isSafe 58 = .ok (.invokevirtual 137, 3) := by decide +kernel
theorem dX5_isSafe_61 : decode cX5_isSafe 61 = .ok (.ifCond .ne 7, 3) := by decide +kernel
theorem dX5_isSafe_64 : decode cX5_isSafe 64 = .ok (.iconst 1, 1) := by decide +kernel
theorem dX5_isSafe_65 : decode cX5_isSafe 65 = .ok (.goto 4, 3) := by decide +kernel
theorem dX5_isSafe_68 : decode cX5_isSafe 68 = .ok (.iconst 0, 1) := by decide +kernel
theorem dX5_isSafe_69 : decode cX5_isSafe 69 = .ok (.ireturn, 1) := by decide +kernel
theorem dX5_sacks_0 : decode cX5_sacks 0 = .ok (.iload_n 1, 1) := by decide +kernel
theorem dX5_sacks_1 : decode cX5_sacks 1 = .ok (.i2l, 1) := by decide +kernel
theorem dX5_sacks_2 : decode cX5_sacks 2 = .ok (.lconst 0, 1) := by decide +kernel
theorem dX5_sacks_3 : decode cX5_sacks 3 = .ok (.lconst 1, 1) := by decide +kernel
theorem dX5_sacks_4 : decode cX5_sacks 4 = .ok (.invokestatic 49, 3) := by decide +kernel
theorem dX5_sacks_7 : decode cX5_sacks 7 = .ok (.ifCond .ne 6, 3) := by decide +kernel
theorem dX5_sacks_10 : decode cX5_sacks 10 = .ok (.bipush (-2), 2) := by decide +kernel
theorem dX5_sacks_12 : decode cX5_sacks 12 = .ok (.ireturn, 1) := by decide +kernel
theorem dX5_sacks_13 : decode cX5_sacks 13 = .ok (.aload_n 0, 1) := by decide +kernel
theorem dX5_sacks_14 : decode cX5_sacks 14 = .ok (.invokevirtual 134, 3) := by decide +kernel
theorem dX5_sacks_17 : decode cX5_sacks 17 = .ok (.aload_n 0, 1) := by decide +kernel
theorem dX5_sacks_18 : decode cX5_sacks 18 = .ok (.bipush 6, 2) := by decide +kernel
theorem dX5_sacks_20 : decode cX5_sacks 20 = .ok (.invokevirtual 137, 3) := by decide +kernel
theorem dX5_sacks_23 : decode cX5_sacks 23 = .ok (.ifCond .ne 5, 3) := by decide +kernel
theorem dX5_sacks_26 : decode cX5_sacks 26 = .ok (.iconst 0, 1) := by decide +kernel
theorem dX5_sacks_27 : decode cX5_sacks 27 = .ok (.ireturn, 1) := by decide +kernel
theorem dX5_sacks_28 : decode cX5_sacks 28 = .ok (.iconst 1, 1) := by decide +kernel
theorem dX5_sacks_29 : decode cX5_sacks 29 = .ok (.istore_n 2, 1) := by decide +kernel
theorem dX5_sacks_30 : decode cX5_sacks 30 = .ok (.iload_n 2, 1) := by decide +kernel
theorem dX5_sacks_31 : decode cX5_sacks 31 = .ok (.bipush 18, 2) := by decide +kernel
theorem dX5_sacks_33 : decode cX5_sacks 33 = .ok (.if_icmp .gt 151, 3) := by decide +kernel
theorem dX5_sacks_36 : decode cX5_sacks 36 = .ok (.iconst 0, 1) := by decide +kernel
theorem dX5_sacks_37 : decode cX5_sacks 37 = .ok (.istore_n 3, 1) := by decide +kernel
theorem dX5_sacks_38 : decode cX5_sacks 38 = .ok (.iload_n 3, 1) := by decide +kernel
theorem dX5_sacks_39 : decode cX5_sacks 39 = .ok (.bipush 36, 2) := by decide +kernel
theorem dX5_sacks_41 : decode cX5_sacks 41 = .ok (.if_icmp .ge 137, 3) := by decide +kernel
theorem dX5_sacks_44 : decode cX5_sacks 44 = .ok (.iload_n 3, 1) := by decide +kernel
theorem dX5_sacks_45 : decode cX5_sacks 45 = .ok (.bipush 6, 2) := by decide +kernel
theorem dX5_sacks_47 : decode cX5_sacks 47 = .ok (.idiv, 1) := by decide +kernel
theorem dX5_sacks_48 : decode cX5_sacks 48 = .ok (.istore 4, 2) := by decide +kernel
theorem dX5_sacks_50 : decode cX5_sacks 50 = .ok (.iload_n 3, 1) := by decide +kernel
theorem dX5_sacks_51 : decode cX5_sacks 51 = .ok (.bipush 6, 2) := by decide +kernel
theorem dX5_sacks_53 : decode cX5_sacks 53 = .ok (.irem, 1) := by decide +kernel
theorem dX5_sacks_54 : decode cX5_sacks 54 = .ok (.istore 5, 2) := by decide +kernel
theorem dX5_sacks_56 : decode cX5_sacks 56 = .ok (.iconst 1, 1) := by decide +kernel
theorem dX5_sacks_57 : decode cX5_sacks 57 = .ok (.istore 6, 2) := by decide +kernel
theorem dX5_sacks_59 : decode cX5_sacks 59 = .ok (.iload 6, 2) := by decide +kernel
theorem dX5_sacks_61 : decode cX5_sacks 61 = .ok (.bipush 9, 2) := by decide +kernel
theorem dX5_sacks_63 : decode cX5_sacks 63 = .ok (.if_icmp .gt 109, 3) := by decide +kernel
theorem dX5_sacks_66 : decode cX5_sacks 66 = .ok (.aload_n 0, 1) := by decide +kernel
theorem dX5_sacks_67 : decode cX5_sacks 67 = .ok (.iload 4, 2) := by decide +kernel
theorem dX5_sacks_69 : decode cX5_sacks 69 = .ok (.invokevirtual 91, 3) := by decide +kernel
theorem dX5_sacks_72 : decode cX5_sacks 72 = .ok (.ifCond .eq 100, 3) := by decide +kernel
theorem dX5_sacks_75 : decode cX5_sacks 75 = .ok (.aload_n 0, 1) := by decide +kernel
theorem dX5_sacks_76 : decode cX5_sacks 76 = .ok (.iload 5, 2) := by decide +kernel
theorem dX5_sacks_78 : decode cX5_sacks 78 = .ok (.invokevirtual 91, 3) := by decide +kernel
theorem dX5_sacks_81 : decode cX5_sacks 81 = .ok (.ifCond .eq 91, 3) := by decide +kernel
theorem dX5_sacks_84 : decode cX5_sacks 84 = .ok (.iload 4, 2) := by decide +kernel
theorem dX5_sacks_86 : decode cX5_sacks 86 = .ok (.iload 5, 2) := by decide +kernel
theorem dX5_sacks_88 : decode cX5_sacks 88 = .ok (.if_icmp .gt 84, 3) := by decide +kernel
theorem dX5_sacks_91 : decode cX5_sacks 91 = .ok (.iload_n 2, 1) := by decide +kernel
theorem dX5_sacks_92 : decode cX5_sacks 92 = .ok (.iload 6, 2) := by decide +kernel
theorem dX5_sacks_94 : decode cX5_sacks 94 = .ok (.isub, 1) := by decide +kernel
theorem dX5_sacks_95 : decode cX5_sacks 95 = .ok (.istore 7, 2) := by decide +kernel
theorem dX5_sacks_97 : decode cX5_sacks 97 = .ok (.iload 4, 2) := by decide +kernel
theorem dX5_sacks_99 : decode cX5_sacks 99 = .ok (.iload 5, 2) := by decide +kernel
theorem dX5_sacks_101 : decode cX5_sacks 101 = .ok (.if_icmp .ne 16, 3) := by decide +kernel
theorem dX5_sacks_104 : decode cX5_sacks 104 = .ok (.iload 7, 2) := by decide +kernel
theorem dX5_sacks_106 : decode cX5_sacks 106 = .ok (.ifCond .ne 7, 3) := by decide +kernel
theorem dX5_sacks_109 : decode cX5_sacks 109 = .ok (.iconst 1, 1) := by decide +kernel
theorem dX5_sacks_110 : decode cX5_sacks 110 = .ok (.goto 17, 3) := by decide +kernel
theorem dX5_sacks_113 : decode cX5_sacks 113 = .ok (.iconst 0, 1) := by decide +kernel
theorem dX5_sacks_114 : decode cX5_sacks 114 = .ok (.goto 13, 3) := by decide +kernel
theorem dX5_sacks_117 : decode cX5_sacks 117 = .ok (.iload 7, 2) := by decide +kernel
theorem dX5_sacks_119 : decode cX5_sacks 119 = .ok (.i2l, 1) := by decide +kernel
theorem dX5_sacks_120 : decode cX5_sacks 120 = .ok (.lconst 1, 1) := by decide +kernel
theorem dX5_sacks_121 : decode cX5_sacks 121 = .ok (.ldc2_w 117, 3) := by decide +kernel
theorem dX5_sacks_124 : decode cX5_sacks 124 = .ok (.invokestatic 49, 3) := by decide +kernel
theorem dX5_sacks_127 : decode cX5_sacks 127 = .ok (.istore 8, 2) := by decide +kernel
theorem dX5_sacks_129 : decode cX5_sacks 129 = .ok (.iload 8, 2) := by decide +kernel
theorem dX5_sacks_131 : decode cX5_sacks 131 = .ok (.ifCond .eq 35, 3) := by decide +kernel
theorem dX5_sacks_134 : decode cX5_sacks 134 = .ok (.aload_n 0, 1) := by decide +kernel
theorem dX5_sacks_135 : decode cX5_sacks 135 = .ok (.iload 4, 2) := by decide +kernel
theorem dX5_sacks_137 : decode cX5_sacks 137 = .ok (.iload 5, 2) := by decide +kernel
theorem dX5_sacks_139 : decode cX5_sacks 139 = .ok (.iload 6, 2) := by decide +kernel
theorem dX5_sacks_141 : decode cX5_sacks 141 = .ok (.iload 7, 2) := by decide +kernel
theorem dX5_sacks_143 : decode cX5_sacks 143 = .ok (.invokevirtual 164, 3) := by decide +kernel
theorem dX5_sacks_146 : decode cX5_sacks 146 = .ok (.ifCond .eq 20, 3) := by decide +kernel
theorem dX5_sacks_149 : decode cX5_sacks 149 = .ok (.iload_n 1, 1) := by decide +kernel
theorem dX5_sacks_150 : decode cX5_sacks 150 = .ok (.ifCond .ne 7, 3) := by decide +kernel
theorem dX5_sacks_153 : decode cX5_sacks 153 = .ok (.iload_n 2, 1) := by decide +kernel
theorem dX5_sacks_154 : decode cX5_sacks 154 = .ok (.goto 11, 3) := by decide +kernel
theorem dX5_sacks_157 : decode cX5_sacks 157 = .ok (.bipush 10, 2) := by decide +kernel
theorem dX5_sacks_159 : decode cX5_sacks 159 = .ok (.iload 4, 2) := by decide +kernel
theorem dX5_sacks_161 : decode cX5_sacks 161 = .ok (.imul, 1) := by decide +kernel
theorem dX5_sacks_162 : decode cX5_sacks 162 = .ok (.iload 5, 2) := by decide +kernel
theorem dX5_sacks_164 : decode cX5_sacks 164 = .ok (.iadd, 1) := by decide +kernel
theorem dX5_sacks_165 : decode cX5_sacks 165 = .ok (.ireturn, 1) := by decide +kernel
theorem dX5_sacks_166 : decode cX5_sacks 166 = .ok (.iinc 6 1, 3) := by decide +kernel
theorem dX5_sacks_169 : decode cX5_sacks 169 = .ok (.goto (-110), 3) := by decide +kernel
theorem dX5_sacks_172 : decode cX5_sacks 172 = .ok (.iinc 3 1, 3) := by decide +kernel
theorem dX5_sacks_175 : decode cX5_sacks 175 = .ok (.goto (-137), 3) := by decide +kernel
theorem dX5_sacks_178 : decode cX5_sacks 178 = .ok (.iinc 2 1, 3) := by decide +kernel
theorem dX5_sacks_181 : decode cX5_sacks 181 = .ok (.goto (-151), 3) := by decide +kernel
theorem dX5_sacks_184 : decode cX5_sacks 184 = .ok (.bipush (-9), 2) := by decide +kernel
theorem dX5_sacks_186 : decode cX5_sacks 186 = .ok (.ireturn, 1) := by decide +kernel
theorem dX5_tryThing_0 : decode cX5_tryThing 0 = .ok (.iload_n 3, 1) := by decide +kernel
theorem dX5_tryThing_1 : decode cX5_tryThing 1 = .ok (.bipush 10, 2) := by decide +kernel
theorem dX5_tryThing_3 : decode cX5_tryThing 3 = .ok (.idiv, 1) := by decide +kernel
theorem dX5_tryThing_4 : decode cX5_tryThing 4 = .ok (.istore 4, 2) := by decide +kernel
theorem dX5_tryThing_6 : decode cX5_tryThing 6 = .ok (.iload_n 3, 1) := by decide +kernel
theorem dX5_tryThing_7 : decode cX5_tryThing 7 = .ok (.bipush 10, 2) := by decide +kernel
theorem dX5_tryThing_9 : decode cX5_tryThing 9 = .ok (.irem, 1) := by decide +kernel
theorem dX5_tryThing_10 : decode cX5_tryThing 10 = .ok (.istore 5, 2) := by decide +kernel
theorem dX5_tryThing_12 : decode cX5_tryThing 12 = .ok (.iload_n 1, 1) := by decide +kernel
theorem dX5_tryThing_13 : decode cX5_tryThing 13 = .ok (.tableswitch 391 0 6 #[43, 72, 131, 190, 263, 328, 365], 43) := by decide +kernel
theorem dX5_tryThing_56 : decode cX5_tryThing 56 = .ok (.iload_n 2, 1) := by decide +kernel
theorem dX5_tryThing_57 : decode cX5_tryThing 57 = .ok (.ifCond .ne 11, 3) := by decide +kernel
theorem dX5_tryThing_60 : decode cX5_tryThing 60 = .ok (.iload_n 3, 1) := by decide +kernel
theorem dX5_tryThing_61 : decode cX5_tryThing 61 = .ok (.ifCond .ne 7, 3) := by decide +kernel
theorem dX5_tryThing_64 : decode cX5_tryThing 64 = .ok (.iconst 1, 1) := by decide +kernel
theorem dX5_tryThing_65 : decode cX5_tryThing 65 = .ok (.goto 4, 3) := by decide +kernel
theorem dX5_tryThing_68 : decode cX5_tryThing 68 = .ok (.iconst 0, 1) := by decide +kernel
theorem dX5_tryThing_69 : decode cX5_tryThing 69 = .ok (.istore 6, 2) := by decide +kernel
theorem dX5_tryThing_71 : decode cX5_tryThing 71 = .ok (.iload 6, 2) := by decide +kernel
theorem dX5_tryThing_73 : decode cX5_tryThing 73 = .ok (.ifCond .eq 9, 3) := by decide +kernel
theorem dX5_tryThing_76 : decode cX5_tryThing 76 = .ok (.aload_n 0, 1) := by decide +kernel
theorem dX5_tryThing_77 : decode cX5_tryThing 77 = .ok (.iconst 1, 1) := by decide +kernel
theorem dX5_tryThing_78 : decode cX5_tryThing 78 = .ok (.invokevirtual 137, 3) := by decide +kernel
theorem dX5_tryThing_81 : decode cX5_tryThing 81 = .ok (.pop, 1) := by decide +kernel
theorem dX5_tryThing_82 : decode cX5_tryThing 82 = .ok (.iload 6, 2) := by decide +kernel
theorem dX5_tryThing_84 : decode cX5_tryThing 84 = .ok (.ireturn, 1) := by decide +kernel
theorem dX5_tryThing_85 : decode cX5_tryThing 85 = .ok (.iload_n 2, 1) := by decide +kernel
theorem dX5_tryThing_86 : decode cX5_tryThing 86 = .ok (.ifCond .ne 19, 3) := by decide +kernel
theorem dX5_tryThing_89 : decode cX5_tryThing 89 = .ok (.aload_n 0, 1) := by decide +kernel
theorem dX5_tryThing_90 : decode cX5_tryThing 90 = .ok (.iconst 1, 1) := by decide +kernel
theorem dX5_tryThing_91 : decode cX5_tryThing 91 = .ok (.iload 4, 2) := by decide +kernel
theorem dX5_tryThing_93 : decode cX5_tryThing 93 = .ok (.iload 5, 2) := by decide +kernel
theorem dX5_tryThing_95 : decode cX5_tryThing 95 = .ok (.invokevirtual 119, 3) := by decide +kernel
theorem dX5_tryThing_98 : decode cX5_tryThing 98 = .ok (.ifCond .eq 7, 3) := by decide +kernel
theorem dX5_tryThing_101 : decode cX5_tryThing 101 = .ok (.iconst 1, 1) := by decide +kernel
theorem dX5_tryThing_102 : decode cX5_tryThing 102 = .ok (.goto 4, 3) := by decide +kernel
theorem dX5_tryThing_105 : decode cX5_tryThing 105 = .ok (.iconst 0, 1) := by decide +kernel
theorem dX5_tryThing_106 : decode cX5_tryThing 106 = .ok (.istore 7, 2) := by decide +kernel
theorem dX5_tryThing_108 : decode cX5_tryThing 108 = .ok (.aload_n 0, 1) := by decide +kernel
theorem dX5_tryThing_109 : decode cX5_tryThing 109 = .ok (.getfield 13, 3) := by decide +kernel
theorem dX5_tryThing_112 : decode cX5_tryThing 112 = .ok (.bipush 37, 2) := by decide +kernel
theorem dX5_tryThing_114 : decode cX5_tryThing 114 = .ok (.iload 7, 2) := by decide +kernel
theorem dX5_tryThing_116 : decode cX5_tryThing 116 = .ok (.ifCond .eq 8, 3) := by decide +kernel
theorem dX5_tryThing_119 : decode cX5_tryThing 119 = .ok (.iload 4, 2) := by decide +kernel
theorem dX5_tryThing_121 : decode cX5_tryThing 121 = .ok (.goto 4, 3) := by decide +kernel
theorem dX5_tryThing_124 : decode cX5_tryThing 124 = .ok (.iconst 0, 1) := by decide +kernel
theorem dX5_tryThing_125 : decode cX5_tryThing 125 = .ok (.iadd, 1) := by decide +kernel
theorem dX5_tryThing_126 : decode cX5_tryThing 126 = .ok (.dup2, 1) := by decide +kernel
theorem dX5_tryThing_127 : decode cX5_tryThing 127 = .ok (.iaload, 1) := by decide +kernel
theorem dX5_tryThing_128 : decode cX5_tryThing 128 = .ok (.iload 7, 2) := by decide +kernel
theorem dX5_tryThing_130 : decode cX5_tryThing 130 = .ok (.ifCond .eq 8, 3) := by decide +kernel
theorem dX5_tryThing_133 : decode cX5_tryThing 133 = .ok (.iload 5, 2) := by decide +kernel
theorem dX5_tryThing_135 : decode cX5_tryThing 135 = .ok (.goto 4, 3) := by decide +kernel
theorem dX5_tryThing_138 : decode cX5_tryThing 138 = .ok (.iconst 0, 1) := by decide +kernel
theorem dX5_tryThing_139 : decode cX5_tryThing 139 = .ok (.iadd, 1) := by decide +kernel
theorem dX5_tryThing_140 : decode cX5_tryThing 140 = .ok (.iastore, 1) := by decide +kernel
theorem dX5_tryThing_141 : decode cX5_tryThing 141 = .ok (.iload 7, 2) := by decide +kernel
theorem dX5_tryThing_143 : decode cX5_tryThing 143 = .ok (.ireturn, 1) := by decide +kernel
theorem dX5_tryThing_144 : decode cX5_tryThing 144 = .ok (.iload_n 2, 1) := by decide +kernel
theorem dX5_tryThing_145 : decode cX5_tryThing 145 = .ok (.ifCond .ne 19, 3) := by decide +kernel
theorem dX5_tryThing_148 : decode cX5_tryThing 148 = .ok (.aload_n 0, 1) := by decide +kernel
theorem dX5_tryThing_149 : decode cX5_tryThing 149 = .ok (.iconst 1, 1) := by decide +kernel
theorem dX5_tryThing_150 : decode cX5_tryThing 150 = .ok (.iload 4, 2) := by decide +kernel
theorem dX5_tryThing_152 : decode cX5_tryThing 152 = .ok (.iload 5, 2) := by decide +kernel
theorem dX5_tryThing_154 : decode cX5_tryThing 154 = .ok (.invokevirtual 123, 3) := by decide +kernel
theorem dX5_tryThing_157 : decode cX5_tryThing 157 = .ok (.ifCond .eq 7, 3) := by decide +kernel
theorem dX5_tryThing_160 : decode cX5_tryThing 160 = .ok (.iconst 1, 1) := by decide +kernel
theorem dX5_tryThing_161 : decode cX5_tryThing 161 = .ok (.goto 4, 3) := by decide +kernel
theorem dX5_tryThing_164 : decode cX5_tryThing 164 = .ok (.iconst 0, 1) := by decide +kernel
theorem dX5_tryThing_165 : decode cX5_tryThing 165 = .ok (.istore 8, 2) := by decide +kernel
theorem dX5_tryThing_167 : decode cX5_tryThing 167 = .ok (.aload_n 0, 1) := by decide +kernel
theorem dX5_tryThing_168 : decode cX5_tryThing 168 = .ok (.getfield 13, 3) := by decide +kernel
theorem dX5_tryThing_171 : decode cX5_tryThing 171 = .ok (.bipush 37, 2) := by decide +kernel
theorem dX5_tryThing_173 : decode cX5_tryThing 173 = .ok (.iload 8, 2) := by decide +kernel
theorem dX5_tryThing_175 : decode cX5_tryThing 175 = .ok (.ifCond .eq 8, 3) := by decide +kernel
theorem dX5_tryThing_178 : decode cX5_tryThing 178 = .ok (.iload 4, 2) := by decide +kernel
theorem dX5_tryThing_180 : decode cX5_tryThing 180 = .ok (.goto 4, 3) := by decide +kernel
theorem dX5_tryThing_183 : decode cX5_tryThing 183 = .ok (.iconst 0, 1) := by decide +kernel
theorem dX5_tryThing_184 : decode cX5_tryThing 184 = .ok (.iadd, 1) := by decide +kernel
theorem dX5_tryThing_185 : decode cX5_tryThing 185 = .ok (.dup2, 1) := by decide +kernel
theorem dX5_tryThing_186 : decode cX5_tryThing 186 = .ok (.iaload, 1) := by decide +kernel
theorem dX5_tryThing_187 : decode cX5_tryThing 187 = .ok (.iload 8, 2) := by decide +kernel
theorem dX5_tryThing_189 : decode cX5_tryThing 189 = .ok (.ifCond .eq 8, 3) := by decide +kernel
theorem dX5_tryThing_192 : decode cX5_tryThing 192 = .ok (.iload 5, 2) := by decide +kernel
theorem dX5_tryThing_194 : decode cX5_tryThing 194 = .ok (.goto 4, 3) := by decide +kernel
theorem dX5_tryThing_197 : decode cX5_tryThing 197 = .ok (.iconst 0, 1) := by decide +kernel
theorem dX5_tryThing_198 : decode cX5_tryThing 198 = .ok (.isub, 1) := by decide +kernel
theorem dX5_tryThing_199 : decode cX5_tryThing 199 = .ok (.iastore, 1) := by decide +kernel
theorem dX5_tryThing_200 : decode cX5_tryThing 200 = .ok (.iload 8, 2) := by decide +kernel
theorem dX5_tryThing_202 : decode cX5_tryThing 202 = .ok (.ireturn, 1) := by decide +kernel
theorem dX5_tryThing_203 : decode cX5_tryThing 203 = .ok (.iload_n 2, 1) := by decide +kernel
theorem dX5_tryThing_204 : decode cX5_tryThing 204 = .ok (.ifCond .ne 49, 3) := by decide +kernel
theorem dX5_tryThing_207 : decode cX5_tryThing 207 = .ok (.aload_n 0, 1) := by decide +kernel
theorem dX5_tryThing_208 : decode cX5_tryThing 208 = .ok (.iload 4, 2) := by decide +kernel
theorem dX5_tryThing_210 : decode cX5_tryThing 210 = .ok (.invokevirtual 91, 3) := by decide +kernel
theorem dX5_tryThing_213 : decode cX5_tryThing 213 = .ok (.ifCond .eq 40, 3) := by decide +kernel
theorem dX5_tryThing_216 : decode cX5_tryThing 216 = .ok (.iload 5, 2) := by decide +kernel
theorem dX5_tryThing_218 : decode cX5_tryThing 218 = .ok (.iconst 3, 1) := by decide +kernel
theorem dX5_tryThing_219 : decode cX5_tryThing 219 = .ok (.if_icmp .ge 34, 3) := by decide +kernel
theorem dX5_tryThing_222 : decode cX5_tryThing 222 = .ok (.aload_n 0, 1) := by decide +kernel
theorem dX5_tryThing_223 : decode cX5_tryThing 223 = .ok (.iconst 1, 1) := by decide +kernel
theorem dX5_tryThing_224 : decode cX5_tryThing 224 = .ok (.bipush 12, 2) := by decide +kernel
theorem dX5_tryThing_226 : decode cX5_tryThing 226 = .ok (.aload_n 0, 1) := by decide +kernel
theorem dX5_tryThing_227 : decode cX5_tryThing 227 = .ok (.iload 4, 2) := by decide +kernel
theorem dX5_tryThing_229 : decode cX5_tryThing 229 = .ok (.invokevirtual 91, 3) := by decide +kernel
theorem dX5_tryThing_232 : decode cX5_tryThing 232 = .ok (.ifCond .eq 8, 3) := by decide +kernel
theorem dX5_tryThing_235 : decode cX5_tryThing 235 = .ok (.iload 4, 2) := by decide +kernel
theorem dX5_tryThing_237 : decode cX5_tryThing 237 = .ok (.goto 4, 3) := by decide +kernel
theorem dX5_tryThing_240 : decode cX5_tryThing 240 = .ok (.iconst 0, 1) := by decide +kernel
theorem dX5_tryThing_241 : decode cX5_tryThing 241 = .ok (.invokevirtual 80, 3) := by decide +kernel
theorem dX5_tryThing_244 : decode cX5_tryThing 244 = .ok (.iload 5, 2) := by decide +kernel
theorem dX5_tryThing_246 : decode cX5_tryThing 246 = .ok (.if_icmp .eq 7, 3) := by decide +kernel
theorem dX5_tryThing_249 : decode cX5_tryThing 249 = .ok (.iconst 1, 1) := by decide +kernel
theorem dX5_tryThing_250 : decode cX5_tryThing 250 = .ok (.goto 4, 3) := by decide +kernel
theorem dX5_tryThing_253 : decode cX5_tryThing 253 = .ok (.iconst 0, 1) := by decide +kernel
theorem dX5_tryThing_254 : decode cX5_tryThing 254 = .ok (.istore 9, 2) := by decide +kernel
theorem dX5_tryThing_256 : decode cX5_tryThing 256 = .ok (.iload 9, 2) := by decide +kernel
theorem dX5_tryThing_258 : decode cX5_tryThing 258 = .ok (.ifCond .eq 15, 3) := by decide +kernel
theorem dX5_tryThing_261 : decode cX5_tryThing 261 = .ok (.aload_n 0, 1) := by decide +kernel
theorem dX5_tryThing_262 : decode cX5_tryThing 262 = .ok (.getfield 13, 3) := by decide +kernel
theorem dX5_tryThing_265 : decode cX5_tryThing 265 = .ok (.bipush 43, 2) := by decide +kernel
theorem dX5_tryThing_267 : decode cX5_tryThing 267 = .ok (.iload 4, 2) := by decide +kernel
theorem dX5_tryThing_269 : decode cX5_tryThing 269 = .ok (.iadd, 1) := by decide +kernel
theorem dX5_tryThing_270 : decode cX5_tryThing 270 = .ok (.iload 5, 2) := by decide +kernel
theorem dX5_tryThing_272 : decode cX5_tryThing 272 = .ok (.iastore, 1) := by decide +kernel
theorem dX5_tryThing_273 : decode cX5_tryThing 273 = .ok (.iload 9, 2) := by decide +kernel
theorem dX5_tryThing_275 : decode cX5_tryThing 275 = .ok (.ireturn, 1) := by decide +kernel
theorem dX5_tryThing_276 : decode cX5_tryThing 276 = .ok (.iload_n 2, 1) := by decide +kernel
theorem dX5_tryThing_277 : decode cX5_tryThing 277 = .ok (.ifCond .ne 46, 3) := by decide +kernel
theorem dX5_tryThing_280 : decode cX5_tryThing 280 = .ok (.iload 4, 2) := by decide +kernel
theorem dX5_tryThing_282 : decode cX5_tryThing 282 = .ok (.ifCond .ne 41, 3) := by decide +kernel
theorem dX5_tryThing_285 : decode cX5_tryThing 285 = .ok (.aload_n 0, 1) := by decide +kernel
theorem dX5_tryThing_286 : decode cX5_tryThing 286 = .ok (.iload 5, 2) := by decide +kernel
theorem dX5_tryThing_288 : decode cX5_tryThing 288 = .ok (.invokevirtual 91, 3) := by decide +kernel
theorem dX5_tryThing_291 : decode cX5_tryThing 291 = .ok (.ifCond .eq 32, 3) := by decide +kernel
theorem dX5_tryThing_294 : decode cX5_tryThing 294 = .ok (.aload_n 0, 1) := by decide +kernel
theorem dX5_tryThing_295 : decode cX5_tryThing 295 = .ok (.iconst 1, 1) := by decide +kernel
theorem dX5_tryThing_296 : decode cX5_tryThing 296 = .ok (.bipush 18, 2) := by decide +kernel
theorem dX5_tryThing_298 : decode cX5_tryThing 298 = .ok (.aload_n 0, 1) := by decide +kernel
theorem dX5_tryThing_299 : decode cX5_tryThing 299 = .ok (.iload 5, 2) := by decide +kernel
theorem dX5_tryThing_301 : decode cX5_tryThing 301 = .ok (.invokevirtual 91, 3) := by decide +kernel
theorem dX5_tryThing_304 : decode cX5_tryThing 304 = .ok (.ifCond .eq 8, 3) := by decide +kernel
theorem dX5_tryThing_307 : decode cX5_tryThing 307 = .ok (.iload 5, 2) := by decide +kernel
theorem dX5_tryThing_309 : decode cX5_tryThing 309 = .ok (.goto 4, 3) := by decide +kernel
theorem dX5_tryThing_312 : decode cX5_tryThing 312 = .ok (.iconst 0, 1) := by decide +kernel
theorem dX5_tryThing_313 : decode cX5_tryThing 313 = .ok (.invokevirtual 80, 3) := by decide +kernel
theorem dX5_tryThing_316 : decode cX5_tryThing 316 = .ok (.ifCond .ne 7, 3) := by decide +kernel
theorem dX5_tryThing_319 : decode cX5_tryThing 319 = .ok (.iconst 1, 1) := by decide +kernel
theorem dX5_tryThing_320 : decode cX5_tryThing 320 = .ok (.goto 4, 3) := by decide +kernel
theorem dX5_tryThing_323 : decode cX5_tryThing 323 = .ok (.iconst 0, 1) := by decide +kernel
theorem dX5_tryThing_324 : decode cX5_tryThing 324 = .ok (.istore 10, 2) := by decide +kernel
theorem dX5_tryThing_326 : decode cX5_tryThing 326 = .ok (.iload 10, 2) := by decide +kernel
theorem dX5_tryThing_328 : decode cX5_tryThing 328 = .ok (.ifCond .eq 10, 3) := by decide +kernel
theorem dX5_tryThing_331 : decode cX5_tryThing 331 = .ok (.aload_n 0, 1) := by decide +kernel
theorem dX5_tryThing_332 : decode cX5_tryThing 332 = .ok (.iconst 1, 1) := by decide +kernel
theorem dX5_tryThing_333 : decode cX5_tryThing 333 = .ok (.iload 5, 2) := by decide +kernel
theorem dX5_tryThing_335 : decode cX5_tryThing 335 = .ok (.invokevirtual 128, 3) := by decide +kernel
theorem dX5_tryThing_338 : decode cX5_tryThing 338 = .ok (.iload 10, 2) := by decide +kernel
theorem dX5_tryThing_340 : decode cX5_tryThing 340 = .ok (.ireturn, 1) := by decide +kernel
theorem dX5_tryThing_341 : decode cX5_tryThing 341 = .ok (.iload_n 2, 1) := by decide +kernel
theorem dX5_tryThing_342 : decode cX5_tryThing 342 = .ok (.ifCond .ne 34, 3) := by decide +kernel
theorem dX5_tryThing_345 : decode cX5_tryThing 345 = .ok (.iload 4, 2) := by decide +kernel
theorem dX5_tryThing_347 : decode cX5_tryThing 347 = .ok (.ifCond .ne 29, 3) := by decide +kernel
theorem dX5_tryThing_350 : decode cX5_tryThing 350 = .ok (.aload_n 0, 1) := by decide +kernel
theorem dX5_tryThing_351 : decode cX5_tryThing 351 = .ok (.iload 5, 2) := by decide +kernel
theorem dX5_tryThing_353 : decode cX5_tryThing 353 = .ok (.invokevirtual 91, 3) := by decide +kernel
theorem dX5_tryThing_356 : decode cX5_tryThing 356 = .ok (.ifCond .eq 20, 3) := by decide +kernel
theorem dX5_tryThing_359 : decode cX5_tryThing 359 = .ok (.aload_n 0, 1) := by decide +kernel
theorem dX5_tryThing_360 : decode cX5_tryThing 360 = .ok (.iconst 1, 1) := by decide +kernel
theorem dX5_tryThing_361 : decode cX5_tryThing 361 = .ok (.bipush 18, 2) := by decide +kernel
theorem dX5_tryThing_363 : decode cX5_tryThing 363 = .ok (.iload 5, 2) := by decide +kernel
theorem dX5_tryThing_365 : decode cX5_tryThing 365 = .ok (.invokevirtual 80, 3) := by decide +kernel
theorem dX5_tryThing_368 : decode cX5_tryThing 368 = .ok (.iconst 1, 1) := by decide +kernel
theorem dX5_tryThing_369 : decode cX5_tryThing 369 = .ok (.if_icmp .ne 7, 3) := by decide +kernel
theorem dX5_tryThing_372 : decode cX5_tryThing 372 = .ok (.iconst 1, 1) := by decide +kernel
theorem dX5_tryThing_373 : decode cX5_tryThing 373 = .ok (.goto 4, 3) := by decide +kernel
theorem dX5_tryThing_376 : decode cX5_tryThing 376 = .ok (.iconst 0, 1) := by decide +kernel
theorem dX5_tryThing_377 : decode cX5_tryThing 377 = .ok (.ireturn, 1) := by decide +kernel
theorem dX5_tryThing_378 : decode cX5_tryThing 378 = .ok (.aload_n 0, 1) := by decide +kernel
theorem dX5_tryThing_379 : decode cX5_tryThing 379 = .ok (.iload_n 2, 1) := by decide +kernel
theorem dX5_tryThing_380 : decode cX5_tryThing 380 = .ok (.invokevirtual 91, 3) := by decide +kernel
theorem dX5_tryThing_383 : decode cX5_tryThing 383 = .ok (.ifCond .eq 19, 3) := by decide +kernel
theorem dX5_tryThing_386 : decode cX5_tryThing 386 = .ok (.aload_n 0, 1) := by decide +kernel
theorem dX5_tryThing_387 : decode cX5_tryThing 387 = .ok (.iconst 1, 1) := by decide +kernel
theorem dX5_tryThing_388 : decode cX5_tryThing 388 = .ok (.bipush 24, 2) := by decide +kernel
theorem dX5_tryThing_390 : decode cX5_tryThing 390 = .ok (.iload_n 2, 1) := by decide +kernel
theorem dX5_tryThing_391 : decode cX5_tryThing 391 = .ok (.invokevirtual 80, 3) := by decide +kernel
theorem dX5_tryThing_394 : decode cX5_tryThing 394 = .ok (.iload_n 3, 1) := by decide +kernel
theorem dX5_tryThing_395 : decode cX5_tryThing 395 = .ok (.if_icmp .lt 7, 3) := by decide +kernel
theorem dX5_tryThing_398 : decode cX5_tryThing 398 = .ok (.iconst 1, 1) := by decide +kernel
theorem dX5_tryThing_399 : decode cX5_tryThing 399 = .ok (.goto 4, 3) := by decide +kernel
theorem dX5_tryThing_402 : decode cX5_tryThing 402 = .ok (.iconst 0, 1) := by decide +kernel
theorem dX5_tryThing_403 : decode cX5_tryThing 403 = .ok (.ireturn, 1) := by decide +kernel
theorem dX5_tryThing_404 : decode cX5_tryThing 404 = .ok (.iconst 0, 1) := by decide +kernel
theorem dX5_tryThing_405 : decode cX5_tryThing 405 = .ok (.ireturn, 1) := by decide +kernel
theorem dX5_judge_0 : decode cX5_judge 0 = .ok (.iload_n 1, 1) := by decide +kernel
theorem dX5_judge_1 : decode cX5_judge 1 = .ok (.i2l, 1) := by decide +kernel
theorem dX5_judge_2 : decode cX5_judge 2 = .ok (.lconst 1, 1) := by decide +kernel
theorem dX5_judge_3 : decode cX5_judge 3 = .ok (.ldc2_w 151, 3) := by decide +kernel
theorem dX5_judge_6 : decode cX5_judge 6 = .ok (.invokestatic 49, 3) := by decide +kernel
theorem dX5_judge_9 : decode cX5_judge 9 = .ok (.ifCond .eq 19, 3) := by decide +kernel
theorem dX5_judge_12 : decode cX5_judge 12 = .ok (.lload_n 2, 1) := by decide +kernel
theorem dX5_judge_13 : decode cX5_judge 13 = .ok (.lconst 0, 1) := by decide +kernel
theorem dX5_judge_14 : decode cX5_judge 14 = .ok (.iconst 4, 1) := by decide +kernel
theorem dX5_judge_15 : decode cX5_judge 15 = .ok (.iload_n 1, 1) := by decide +kernel
theorem dX5_judge_16 : decode cX5_judge 16 = .ok (.imul, 1) := by decide +kernel
theorem dX5_judge_17 : decode cX5_judge 17 = .ok (.invokestatic 145, 3) := by decide +kernel
theorem dX5_judge_20 : decode cX5_judge 20 = .ok (.lconst 1, 1) := by decide +kernel
theorem dX5_judge_21 : decode cX5_judge 21 = .ok (.lsub, 1) := by decide +kernel
theorem dX5_judge_22 : decode cX5_judge 22 = .ok (.invokestatic 49, 3) := by decide +kernel
theorem dX5_judge_25 : decode cX5_judge 25 = .ok (.ifCond .ne 6, 3) := by decide +kernel
theorem dX5_judge_28 : decode cX5_judge 28 = .ok (.bipush (-2), 2) := by decide +kernel
theorem dX5_judge_30 : decode cX5_judge 30 = .ok (.ireturn, 1) := by decide +kernel
theorem dX5_judge_31 : decode cX5_judge 31 = .ok (.aload_n 0, 1) := by decide +kernel
theorem dX5_judge_32 : decode cX5_judge 32 = .ok (.invokevirtual 134, 3) := by decide +kernel
theorem dX5_judge_35 : decode cX5_judge 35 = .ok (.iconst 0, 1) := by decide +kernel
theorem dX5_judge_36 : decode cX5_judge 36 = .ok (.istore 4, 2) := by decide +kernel
theorem dX5_judge_38 : decode cX5_judge 38 = .ok (.iload 4, 2) := by decide +kernel
theorem dX5_judge_40 : decode cX5_judge 40 = .ok (.iload_n 1, 1) := by decide +kernel
theorem dX5_judge_41 : decode cX5_judge 41 = .ok (.if_icmp .ge 58, 3) := by decide +kernel
theorem dX5_judge_44 : decode cX5_judge 44 = .ok (.lload_n 2, 1) := by decide +kernel
theorem dX5_judge_45 : decode cX5_judge 45 = .ok (.iconst 4, 1) := by decide +kernel
theorem dX5_judge_46 : decode cX5_judge 46 = .ok (.iload_n 1, 1) := by decide +kernel
theorem dX5_judge_47 : decode cX5_judge 47 = .ok (.iconst 1, 1) := by decide +kernel
theorem dX5_judge_48 : decode cX5_judge 48 = .ok (.isub, 1) := by decide +kernel
theorem dX5_judge_49 : decode cX5_judge 49 = .ok (.iload 4, 2) := by decide +kernel
theorem dX5_judge_51 : decode cX5_judge 51 = .ok (.isub, 1) := by decide +kernel
theorem dX5_judge_52 : decode cX5_judge 52 = .ok (.imul, 1) := by decide +kernel
theorem dX5_judge_53 : decode cX5_judge 53 = .ok (.invokestatic 145, 3) := by decide +kernel
theorem dX5_judge_56 : decode cX5_judge 56 = .ok (.ldiv, 1) := by decide +kernel
theorem dX5_judge_57 : decode cX5_judge 57 = .ok (.ldc2_w 168, 3) := by decide +kernel
theorem dX5_judge_60 : decode cX5_judge 60 = .ok (.lrem, 1) := by decide +kernel
theorem dX5_judge_61 : decode cX5_judge 61 = .ok (.l2i, 1) := by decide +kernel
theorem dX5_judge_62 : decode cX5_judge 62 = .ok (.istore 5, 2) := by decide +kernel
theorem dX5_judge_64 : decode cX5_judge 64 = .ok (.aload_n 0, 1) := by decide +kernel
theorem dX5_judge_65 : decode cX5_judge 65 = .ok (.iload 5, 2) := by decide +kernel
theorem dX5_judge_67 : decode cX5_judge 67 = .ok (.sipush 1000, 3) := by decide +kernel
theorem dX5_judge_70 : decode cX5_judge 70 = .ok (.idiv, 1) := by decide +kernel
theorem dX5_judge_71 : decode cX5_judge 71 = .ok (.iload 5, 2) := by decide +kernel
theorem dX5_judge_73 : decode cX5_judge 73 = .ok (.bipush 100, 2) := by decide +kernel
theorem dX5_judge_75 : decode cX5_judge 75 = .ok (.idiv, 1) := by decide +kernel
theorem dX5_judge_76 : decode cX5_judge 76 = .ok (.bipush 10, 2) := by decide +kernel
theorem dX5_judge_78 : decode cX5_judge 78 = .ok (.irem, 1) := by decide +kernel
theorem dX5_judge_79 : decode cX5_judge 79 = .ok (.iload 5, 2) := by decide +kernel
theorem dX5_judge_81 : decode cX5_judge 81 = .ok (.bipush 100, 2) := by decide +kernel
theorem dX5_judge_83 : decode cX5_judge 83 = .ok (.irem, 1) := by decide +kernel
theorem dX5_judge_84 : decode cX5_judge 84 = .ok (.invokevirtual 170, 3) := by decide +kernel
theorem dX5_judge_87 : decode cX5_judge 87 = .ok (.ifCond .ne 6, 3) := by decide +kernel
theorem dX5_judge_90 : decode cX5_judge 90 = .ok (.iload 4, 2) := by decide +kernel
theorem dX5_judge_92 : decode cX5_judge 92 = .ok (.ireturn, 1) := by decide +kernel
theorem dX5_judge_93 : decode cX5_judge 93 = .ok (.iinc 4 1, 3) := by decide +kernel
theorem dX5_judge_96 : decode cX5_judge 96 = .ok (.goto (-58), 3) := by decide +kernel
theorem dX5_judge_99 : decode cX5_judge 99 = .ok (.bipush (-9), 2) := by decide +kernel
theorem dX5_judge_101 : decode cX5_judge 101 = .ok (.ireturn, 1) := by decide +kernel
theorem dX5_see_0 : decode cX5_see 0 = .ok (.iload_n 1, 1) := by decide +kernel
theorem dX5_see_1 : decode cX5_see 1 = .ok (.i2l, 1) := by decide +kernel
theorem dX5_see_2 : decode cX5_see 2 = .ok (.lconst 1, 1) := by decide +kernel
theorem dX5_see_3 : decode cX5_see 3 = .ok (.ldc2_w 117, 3) := by decide +kernel
theorem dX5_see_6 : decode cX5_see 6 = .ok (.invokestatic 49, 3) := by decide +kernel
theorem dX5_see_9 : decode cX5_see 9 = .ok (.ifCond .eq 25, 3) := by decide +kernel
theorem dX5_see_12 : decode cX5_see 12 = .ok (.iload_n 2, 1) := by decide +kernel
theorem dX5_see_13 : decode cX5_see 13 = .ok (.i2l, 1) := by decide +kernel
theorem dX5_see_14 : decode cX5_see 14 = .ok (.lconst 0, 1) := by decide +kernel
theorem dX5_see_15 : decode cX5_see 15 = .ok (.ldc2_w 173, 3) := by decide +kernel
theorem dX5_see_18 : decode cX5_see 18 = .ok (.invokestatic 49, 3) := by decide +kernel
theorem dX5_see_21 : decode cX5_see 21 = .ok (.ifCond .eq 13, 3) := by decide +kernel
theorem dX5_see_24 : decode cX5_see 24 = .ok (.iload_n 3, 1) := by decide +kernel
theorem dX5_see_25 : decode cX5_see 25 = .ok (.i2l, 1) := by decide +kernel
theorem dX5_see_26 : decode cX5_see 26 = .ok (.lconst 0, 1) := by decide +kernel
theorem dX5_see_27 : decode cX5_see 27 = .ok (.lconst 1, 1) := by decide +kernel
theorem dX5_see_28 : decode cX5_see 28 = .ok (.invokestatic 49, 3) := by decide +kernel
theorem dX5_see_31 : decode cX5_see 31 = .ok (.ifCond .ne 6, 3) := by decide +kernel
theorem dX5_see_34 : decode cX5_see 34 = .ok (.bipush (-2), 2) := by decide +kernel
theorem dX5_see_36 : decode cX5_see 36 = .ok (.ireturn, 1) := by decide +kernel
theorem dX5_see_37 : decode cX5_see 37 = .ok (.aload_n 0, 1) := by decide +kernel
theorem dX5_see_38 : decode cX5_see 38 = .ok (.getfield 175, 3) := by decide +kernel
theorem dX5_see_41 : decode cX5_see 41 = .ok (.bipush 6, 2) := by decide +kernel
theorem dX5_see_43 : decode cX5_see 43 = .ok (.if_icmp .ne 6, 3) := by decide +kernel
theorem dX5_see_46 : decode cX5_see 46 = .ok (.bipush (-4), 2) := by decide +kernel
theorem dX5_see_48 : decode cX5_see 48 = .ok (.ireturn, 1) := by decide +kernel
theorem dX5_see_49 : decode cX5_see 49 = .ok (.aload_n 0, 1) := by decide +kernel
theorem dX5_see_50 : decode cX5_see 50 = .ok (.getfield 31, 3) := by decide +kernel
theorem dX5_see_53 : decode cX5_see 53 = .ok (.aload_n 0, 1) := by decide +kernel
theorem dX5_see_54 : decode cX5_see 54 = .ok (.getfield 175, 3) := by decide +kernel
theorem dX5_see_57 : decode cX5_see 57 = .ok (.iload_n 1, 1) := by decide +kernel
theorem dX5_see_58 : decode cX5_see 58 = .ok (.iastore, 1) := by decide +kernel
theorem dX5_see_59 : decode cX5_see 59 = .ok (.aload_n 0, 1) := by decide +kernel
theorem dX5_see_60 : decode cX5_see 60 = .ok (.getfield 34, 3) := by decide +kernel
theorem dX5_see_63 : decode cX5_see 63 = .ok (.aload_n 0, 1) := by decide +kernel
theorem dX5_see_64 : decode cX5_see 64 = .ok (.getfield 175, 3) := by decide +kernel
theorem dX5_see_67 : decode cX5_see 67 = .ok (.iload_n 2, 1) := by decide +kernel
theorem dX5_see_68 : decode cX5_see 68 = .ok (.iastore, 1) := by decide +kernel
theorem dX5_see_69 : decode cX5_see 69 = .ok (.aload_n 0, 1) := by decide +kernel
theorem dX5_see_70 : decode cX5_see 70 = .ok (.getfield 37, 3) := by decide +kernel
theorem dX5_see_73 : decode cX5_see 73 = .ok (.aload_n 0, 1) := by decide +kernel
theorem dX5_see_74 : decode cX5_see 74 = .ok (.getfield 175, 3) := by decide +kernel
theorem dX5_see_77 : decode cX5_see 77 = .ok (.iload_n 3, 1) := by decide +kernel
theorem dX5_see_78 : decode cX5_see 78 = .ok (.iastore, 1) := by decide +kernel
theorem dX5_see_79 : decode cX5_see 79 = .ok (.aload_n 0, 1) := by decide +kernel
theorem dX5_see_80 : decode cX5_see 80 = .ok (.dup, 1) := by decide +kernel
theorem dX5_see_81 : decode cX5_see 81 = .ok (.getfield 175, 3) := by decide +kernel
theorem dX5_see_84 : decode cX5_see 84 = .ok (.iconst 1, 1) := by decide +kernel
theorem dX5_see_85 : decode cX5_see 85 = .ok (.iadd, 1) := by decide +kernel
theorem dX5_see_86 : decode cX5_see 86 = .ok (.putfield 175, 3) := by decide +kernel
theorem dX5_see_89 : decode cX5_see 89 = .ok (.aload_n 0, 1) := by decide +kernel
theorem dX5_see_90 : decode cX5_see 90 = .ok (.getfield 175, 3) := by decide +kernel
theorem dX5_see_93 : decode cX5_see 93 = .ok (.ireturn, 1) := by decide +kernel
theorem dX5_unsee_0 : decode cX5_unsee 0 = .ok (.aload_n 0, 1) := by decide +kernel
theorem dX5_unsee_1 : decode cX5_unsee 1 = .ok (.getfield 175, 3) := by decide +kernel
theorem dX5_unsee_4 : decode cX5_unsee 4 = .ok (.istore_n 1, 1) := by decide +kernel
theorem dX5_unsee_5 : decode cX5_unsee 5 = .ok (.aload_n 0, 1) := by decide +kernel
theorem dX5_unsee_6 : decode cX5_unsee 6 = .ok (.iconst 0, 1) := by decide +kernel
theorem dX5_unsee_7 : decode cX5_unsee 7 = .ok (.putfield 175, 3) := by decide +kernel
theorem dX5_unsee_10 : decode cX5_unsee 10 = .ok (.iload_n 1, 1) := by decide +kernel
theorem dX5_unsee_11 : decode cX5_unsee 11 = .ok (.ireturn, 1) := by decide +kernel
theorem dX5_mayBe_0 : decode cX5_mayBe 0 = .ok (.aload_n 0, 1) := by decide +kernel
theorem dX5_mayBe_1 : decode cX5_mayBe 1 = .ok (.iconst 0, 1) := by decide +kernel
theorem dX5_mayBe_2 : decode cX5_mayBe 2 = .ok (.iload_n 1, 1) := by decide +kernel
theorem dX5_mayBe_3 : decode cX5_mayBe 3 = .ok (.iload_n 2, 1) := by decide +kernel
theorem dX5_mayBe_4 : decode cX5_mayBe 4 = .ok (.invokevirtual 119, 3) := by decide +kernel
theorem dX5_mayBe_7 : decode cX5_mayBe 7 = .ok (.ifCond .ne 5, 3) := by decide +kernel
theorem dX5_mayBe_10 : decode cX5_mayBe 10 = .ok (.iconst 0, 1) := by decide +kernel
theorem dX5_mayBe_11 : decode cX5_mayBe 11 = .ok (.ireturn, 1) := by decide +kernel
theorem dX5_mayBe_12 : decode cX5_mayBe 12 = .ok (.aload_n 0, 1) := by decide +kernel
theorem dX5_mayBe_13 : decode cX5_mayBe 13 = .ok (.invokevirtual 134, 3) := by decide +kernel
theorem dX5_mayBe_16 : decode cX5_mayBe 16 = .ok (.aload_n 0, 1) := by decide +kernel
theorem dX5_mayBe_17 : decode cX5_mayBe 17 = .ok (.getfield 13, 3) := by decide +kernel
theorem dX5_mayBe_20 : decode cX5_mayBe 20 = .ok (.bipush 37, 2) := by decide +kernel
theorem dX5_mayBe_22 : decode cX5_mayBe 22 = .ok (.iload_n 1, 1) := by decide +kernel
theorem dX5_mayBe_23 : decode cX5_mayBe 23 = .ok (.iadd, 1) := by decide +kernel
theorem dX5_mayBe_24 : decode cX5_mayBe 24 = .ok (.dup2, 1) := by decide +kernel
theorem dX5_mayBe_25 : decode cX5_mayBe 25 = .ok (.iaload, 1) := by decide +kernel
theorem dX5_mayBe_26 : decode cX5_mayBe 26 = .ok (.iload_n 2, 1) := by decide +kernel
theorem dX5_mayBe_27 : decode cX5_mayBe 27 = .ok (.iadd, 1) := by decide +kernel
theorem dX5_mayBe_28 : decode cX5_mayBe 28 = .ok (.iastore, 1) := by decide +kernel
theorem dX5_mayBe_29 : decode cX5_mayBe 29 = .ok (.iconst 1, 1) := by decide +kernel
theorem dX5_mayBe_30 : decode cX5_mayBe 30 = .ok (.istore_n 3, 1) := by decide +kernel
theorem dX5_mayBe_31 : decode cX5_mayBe 31 = .ok (.iconst 1, 1) := by decide +kernel
theorem dX5_mayBe_32 : decode cX5_mayBe 32 = .ok (.istore 4, 2) := by decide +kernel
theorem dX5_mayBe_34 : decode cX5_mayBe 34 = .ok (.iload 4, 2) := by decide +kernel
theorem dX5_mayBe_36 : decode cX5_mayBe 36 = .ok (.bipush 9, 2) := by decide +kernel
theorem dX5_mayBe_38 : decode cX5_mayBe 38 = .ok (.if_icmp .gt 93, 3) := by decide +kernel
theorem dX5_mayBe_41 : decode cX5_mayBe 41 = .ok (.aload_n 0, 1) := by decide +kernel
theorem dX5_mayBe_42 : decode cX5_mayBe 42 = .ok (.iconst 1, 1) := by decide +kernel
theorem dX5_mayBe_43 : decode cX5_mayBe 43 = .ok (.invokevirtual 137, 3) := by decide +kernel
theorem dX5_mayBe_46 : decode cX5_mayBe 46 = .ok (.pop, 1) := by decide +kernel
theorem dX5_mayBe_47 : decode cX5_mayBe 47 = .ok (.aload_n 0, 1) := by decide +kernel
theorem dX5_mayBe_48 : decode cX5_mayBe 48 = .ok (.iconst 1, 1) := by decide +kernel
theorem dX5_mayBe_49 : decode cX5_mayBe 49 = .ok (.invokevirtual 140, 3) := by decide +kernel
theorem dX5_mayBe_52 : decode cX5_mayBe 52 = .ok (.istore 5, 2) := by decide +kernel
theorem dX5_mayBe_54 : decode cX5_mayBe 54 = .ok (.iconst 0, 1) := by decide +kernel
theorem dX5_mayBe_55 : decode cX5_mayBe 55 = .ok (.istore 6, 2) := by decide +kernel
theorem dX5_mayBe_57 : decode cX5_mayBe 57 = .ok (.iload 6, 2) := by decide +kernel
theorem dX5_mayBe_59 : decode cX5_mayBe 59 = .ok (.aload_n 0, 1) := by decide +kernel
theorem dX5_mayBe_60 : decode cX5_mayBe 60 = .ok (.getfield 175, 3) := by decide +kernel
theorem dX5_mayBe_63 : decode cX5_mayBe 63 = .ok (.if_icmp .ge 62, 3) := by decide +kernel
theorem dX5_mayBe_66 : decode cX5_mayBe 66 = .ok (.iload_n 3, 1) := by decide +kernel
theorem dX5_mayBe_67 : decode cX5_mayBe 67 = .ok (.ifCond .eq 50, 3) := by decide +kernel
theorem dX5_mayBe_70 : decode cX5_mayBe 70 = .ok (.aload_n 0, 1) := by decide +kernel
theorem dX5_mayBe_71 : decode cX5_mayBe 71 = .ok (.getfield 31, 3) := by decide +kernel
theorem dX5_mayBe_74 : decode cX5_mayBe 74 = .ok (.iload 6, 2) := by decide +kernel
theorem dX5_mayBe_76 : decode cX5_mayBe 76 = .ok (.iaload, 1) := by decide +kernel
theorem dX5_mayBe_77 : decode cX5_mayBe 77 = .ok (.iload 4, 2) := by decide +kernel
theorem dX5_mayBe_79 : decode cX5_mayBe 79 = .ok (.if_icmp .ne 34, 3) := by decide +kernel
theorem dX5_mayBe_82 : decode cX5_mayBe 82 = .ok (.iload 5, 2) := by decide +kernel
theorem dX5_mayBe_84 : decode cX5_mayBe 84 = .ok (.aload_n 0, 1) := by decide +kernel
theorem dX5_mayBe_85 : decode cX5_mayBe 85 = .ok (.getfield 34, 3) := by decide +kernel
theorem dX5_mayBe_88 : decode cX5_mayBe 88 = .ok (.iload 6, 2) := by decide +kernel
theorem dX5_mayBe_90 : decode cX5_mayBe 90 = .ok (.iaload, 1) := by decide +kernel
theorem dX5_mayBe_91 : decode cX5_mayBe 91 = .ok (.invokestatic 102, 3) := by decide +kernel
theorem dX5_mayBe_94 : decode cX5_mayBe 94 = .ok (.aload_n 0, 1) := by decide +kernel
theorem dX5_mayBe_95 : decode cX5_mayBe 95 = .ok (.getfield 37, 3) := by decide +kernel
theorem dX5_mayBe_98 : decode cX5_mayBe 98 = .ok (.iload 6, 2) := by decide +kernel
theorem dX5_mayBe_100 : decode cX5_mayBe 100 = .ok (.iaload, 1) := by decide +kernel
theorem dX5_mayBe_101 : decode cX5_mayBe 101 = .ok (.iconst 1, 1) := by decide +kernel
theorem dX5_mayBe_102 : decode cX5_mayBe 102 = .ok (.if_icmp .ne 7, 3) := by decide +kernel
theorem dX5_mayBe_105 : decode cX5_mayBe 105 = .ok (.iconst 1, 1) := by decide +kernel
theorem dX5_mayBe_106 : decode cX5_mayBe 106 = .ok (.goto 4, 3) := by decide +kernel
theorem dX5_mayBe_109 : decode cX5_mayBe 109 = .ok (.iconst 0, 1) := by decide +kernel
theorem dX5_mayBe_110 : decode cX5_mayBe 110 = .ok (.if_icmp .ne 7, 3) := by decide +kernel
theorem dX5_mayBe_113 : decode cX5_mayBe 113 = .ok (.iconst 1, 1) := by decide +kernel
theorem dX5_mayBe_114 : decode cX5_mayBe 114 = .ok (.goto 4, 3) := by decide +kernel
theorem dX5_mayBe_117 : decode cX5_mayBe 117 = .ok (.iconst 0, 1) := by decide +kernel
theorem dX5_mayBe_118 : decode cX5_mayBe 118 = .ok (.istore_n 3, 1) := by decide +kernel
theorem dX5_mayBe_119 : decode cX5_mayBe 119 = .ok (.iinc 6 1, 3) := by decide +kernel
theorem dX5_mayBe_122 : decode cX5_mayBe 122 = .ok (.goto (-65), 3) := by decide +kernel
theorem dX5_mayBe_125 : decode cX5_mayBe 125 = .ok (.iinc 4 1, 3) := by decide +kernel
theorem dX5_mayBe_128 : decode cX5_mayBe 128 = .ok (.goto (-94), 3) := by decide +kernel
theorem dX5_mayBe_131 : decode cX5_mayBe 131 = .ok (.iload_n 3, 1) := by decide +kernel
theorem dX5_mayBe_132 : decode cX5_mayBe 132 = .ok (.ireturn, 1) := by decide +kernel
theorem dX5_night_0 : decode cX5_night 0 = .ok (.iload_n 1, 1) := by decide +kernel
theorem dX5_night_1 : decode cX5_night 1 = .ok (.i2l, 1) := by decide +kernel
theorem dX5_night_2 : decode cX5_night 2 = .ok (.lconst 0, 1) := by decide +kernel
theorem dX5_night_3 : decode cX5_night 3 = .ok (.lconst 1, 1) := by decide +kernel
theorem dX5_night_4 : decode cX5_night 4 = .ok (.invokestatic 49, 3) := by decide +kernel
theorem dX5_night_7 : decode cX5_night 7 = .ok (.ifCond .ne 6, 3) := by decide +kernel
theorem dX5_night_10 : decode cX5_night 10 = .ok (.bipush (-2), 2) := by decide +kernel
theorem dX5_night_12 : decode cX5_night 12 = .ok (.ireturn, 1) := by decide +kernel
theorem dX5_night_13 : decode cX5_night 13 = .ok (.iconst 0, 1) := by decide +kernel
theorem dX5_night_14 : decode cX5_night 14 = .ok (.istore_n 2, 1) := by decide +kernel
theorem dX5_night_15 : decode cX5_night 15 = .ok (.bipush (-9), 2) := by decide +kernel
theorem dX5_night_17 : decode cX5_night 17 = .ok (.istore_n 3, 1) := by decide +kernel
theorem dX5_night_18 : decode cX5_night 18 = .ok (.iconst 0, 1) := by decide +kernel
theorem dX5_night_19 : decode cX5_night 19 = .ok (.istore 4, 2) := by decide +kernel
theorem dX5_night_21 : decode cX5_night 21 = .ok (.iload 4, 2) := by decide +kernel
theorem dX5_night_23 : decode cX5_night 23 = .ok (.aload_n 0, 1) := by decide +kernel
theorem dX5_night_24 : decode cX5_night 24 = .ok (.getfield 74, 3) := by decide +kernel
theorem dX5_night_27 : decode cX5_night 27 = .ok (.if_icmp .ge 56, 3) := by decide +kernel
theorem dX5_night_30 : decode cX5_night 30 = .ok (.iconst 1, 1) := by decide +kernel
theorem dX5_night_31 : decode cX5_night 31 = .ok (.istore 5, 2) := by decide +kernel
theorem dX5_night_33 : decode cX5_night 33 = .ok (.iload 5, 2) := by decide +kernel
theorem dX5_night_35 : decode cX5_night 35 = .ok (.bipush 9, 2) := by decide +kernel
theorem dX5_night_37 : decode cX5_night 37 = .ok (.if_icmp .gt 40, 3) := by decide +kernel
theorem dX5_night_40 : decode cX5_night 40 = .ok (.aload_n 0, 1) := by decide +kernel
theorem dX5_night_41 : decode cX5_night 41 = .ok (.iload 4, 2) := by decide +kernel
theorem dX5_night_43 : decode cX5_night 43 = .ok (.iload 5, 2) := by decide +kernel
theorem dX5_night_45 : decode cX5_night 45 = .ok (.invokevirtual 178, 3) := by decide +kernel
theorem dX5_night_48 : decode cX5_night 48 = .ok (.ifCond .eq 23, 3) := by decide +kernel
theorem dX5_night_51 : decode cX5_night 51 = .ok (.iload_n 2, 1) := by decide +kernel
theorem dX5_night_52 : decode cX5_night 52 = .ok (.ifCond .ne 14, 3) := by decide +kernel
theorem dX5_night_55 : decode cX5_night 55 = .ok (.bipush 10, 2) := by decide +kernel
theorem dX5_night_57 : decode cX5_night 57 = .ok (.iload 4, 2) := by decide +kernel
theorem dX5_night_59 : decode cX5_night 59 = .ok (.imul, 1) := by decide +kernel
theorem dX5_night_60 : decode cX5_night 60 = .ok (.iload 5, 2) := by decide +kernel
theorem dX5_night_62 : decode cX5_night 62 = .ok (.iadd, 1) := by decide +kernel
theorem dX5_night_63 : decode cX5_night 63 = .ok (.goto 4, 3) := by decide +kernel
theorem dX5_night_66 : decode cX5_night 66 = .ok (.iload_n 3, 1) := by decide +kernel
theorem dX5_night_67 : decode cX5_night 67 = .ok (.istore_n 3, 1) := by decide +kernel
theorem dX5_night_68 : decode cX5_night 68 = .ok (.iinc 2 1, 3) := by decide +kernel
theorem dX5_night_71 : decode cX5_night 71 = .ok (.iinc 5 1, 3) := by decide +kernel
theorem dX5_night_74 : decode cX5_night 74 = .ok (.goto (-41), 3) := by decide +kernel
theorem dX5_night_77 : decode cX5_night 77 = .ok (.iinc 4 1, 3) := by decide +kernel
theorem dX5_night_80 : decode cX5_night 80 = .ok (.goto (-59), 3) := by decide +kernel
theorem dX5_night_83 : decode cX5_night 83 = .ok (.iload_n 1, 1) := by decide +kernel
theorem dX5_night_84 : decode cX5_night 84 = .ok (.ifCond .ne 7, 3) := by decide +kernel
theorem dX5_night_87 : decode cX5_night 87 = .ok (.iload_n 2, 1) := by decide +kernel
theorem dX5_night_88 : decode cX5_night 88 = .ok (.goto 4, 3) := by decide +kernel
theorem dX5_night_91 : decode cX5_night 91 = .ok (.iload_n 3, 1) := by decide +kernel
theorem dX5_night_92 : decode cX5_night 92 = .ok (.ireturn, 1) := by decide +kernel
theorem dX5_factorial_0 : decode cX5_factorial 0 = .ok (.iconst 1, 1) := by decide +kernel
theorem dX5_factorial_1 : decode cX5_factorial 1 = .ok (.istore_n 1, 1) := by decide +kernel
theorem dX5_factorial_2 : decode cX5_factorial 2 = .ok (.iconst 2, 1) := by decide +kernel
theorem dX5_factorial_3 : decode cX5_factorial 3 = .ok (.istore_n 2, 1) := by decide +kernel
theorem dX5_factorial_4 : decode cX5_factorial 4 = .ok (.iload_n 2, 1) := by decide +kernel
theorem dX5_factorial_5 : decode cX5_factorial 5 = .ok (.iload_n 0, 1) := by decide +kernel
theorem dX5_factorial_6 : decode cX5_factorial 6 = .ok (.if_icmp .gt 13, 3) := by decide +kernel
theorem dX5_factorial_9 : decode cX5_factorial 9 = .ok (.iload_n 1, 1) := by decide +kernel
theorem dX5_factorial_10 : decode cX5_factorial 10 = .ok (.iload_n 2, 1) := by decide +kernel
theorem dX5_factorial_11 : decode cX5_factorial 11 = .ok (.imul, 1) := by decide +kernel
theorem dX5_factorial_12 : decode cX5_factorial 12 = .ok (.istore_n 1, 1) := by decide +kernel
theorem dX5_factorial_13 : decode cX5_factorial 13 = .ok (.iinc 2 1, 3) := by decide +kernel
theorem dX5_factorial_16 : decode cX5_factorial 16 = .ok (.goto (-12), 3) := by decide +kernel
theorem dX5_factorial_19 : decode cX5_factorial 19 = .ok (.iload_n 1, 1) := by decide +kernel
theorem dX5_factorial_20 : decode cX5_factorial 20 = .ok (.ireturn, 1) := by decide +kernel
theorem dX5_common_0 : decode cX5_common 0 = .ok (.iload_n 0, 1) := by decide +kernel
theorem dX5_common_1 : decode cX5_common 1 = .ok (.ifCond .ge 8, 3) := by decide +kernel
theorem dX5_common_4 : decode cX5_common 4 = .ok (.iload_n 0, 1) := by decide +kernel
theorem dX5_common_5 : decode cX5_common 5 = .ok (.ineg, 1) := by decide +kernel
theorem dX5_common_6 : decode cX5_common 6 = .ok (.goto 4, 3) := by decide +kernel
theorem dX5_common_9 : decode cX5_common 9 = .ok (.iload_n 0, 1) := by decide +kernel
theorem dX5_common_10 : decode cX5_common 10 = .ok (.istore_n 2, 1) := by decide +kernel
theorem dX5_common_11 : decode cX5_common 11 = .ok (.iload_n 1, 1) := by decide +kernel
theorem dX5_common_12 : decode cX5_common 12 = .ok (.istore_n 3, 1) := by decide +kernel
theorem dX5_common_13 : decode cX5_common 13 = .ok (.iload_n 3, 1) := by decide +kernel
theorem dX5_common_14 : decode cX5_common 14 = .ok (.ifCond .eq 16, 3) := by decide +kernel
theorem dX5_common_17 : decode cX5_common 17 = .ok (.iload_n 2, 1) := by decide +kernel
theorem dX5_common_18 : decode cX5_common 18 = .ok (.iload_n 3, 1) := by decide +kernel
theorem dX5_common_19 : decode cX5_common 19 = .ok (.irem, 1) := by decide +kernel
theorem dX5_common_20 : decode cX5_common 20 = .ok (.istore 4, 2) := by decide +kernel
theorem dX5_common_22 : decode cX5_common 22 = .ok (.iload_n 3, 1) := by decide +kernel
theorem dX5_common_23 : decode cX5_common 23 = .ok (.istore_n 2, 1) := by decide +kernel
theorem dX5_common_24 : decode cX5_common 24 = .ok (.iload 4, 2) := by decide +kernel
theorem dX5_common_26 : decode cX5_common 26 = .ok (.istore_n 3, 1) := by decide +kernel
theorem dX5_common_27 : decode cX5_common 27 = .ok (.goto (-14), 3) := by decide +kernel
theorem dX5_common_30 : decode cX5_common 30 = .ok (.iload_n 2, 1) := by decide +kernel
theorem dX5_common_31 : decode cX5_common 31 = .ok (.ireturn, 1) := by decide +kernel
theorem dX5_standWith_0 : decode cX5_standWith 0 = .ok (.aload_n 0, 1) := by decide +kernel
theorem dX5_standWith_1 : decode cX5_standWith 1 = .ok (.invokevirtual 134, 3) := by decide +kernel
theorem dX5_standWith_4 : decode cX5_standWith 4 = .ok (.iconst 0, 1) := by decide +kernel
theorem dX5_standWith_5 : decode cX5_standWith 5 = .ok (.istore_n 2, 1) := by decide +kernel
theorem dX5_standWith_6 : decode cX5_standWith 6 = .ok (.iload_n 2, 1) := by decide +kernel
theorem dX5_standWith_7 : decode cX5_standWith 7 = .ok (.aload_n 0, 1) := by decide +kernel
theorem dX5_standWith_8 : decode cX5_standWith 8 = .ok (.getfield 74, 3) := by decide +kernel
theorem dX5_standWith_11 : decode cX5_standWith 11 = .ok (.if_icmp .ge 39, 3) := by decide +kernel
theorem dX5_standWith_14 : decode cX5_standWith 14 = .ok (.aload_n 0, 1) := by decide +kernel
theorem dX5_standWith_15 : decode cX5_standWith 15 = .ok (.getfield 13, 3) := by decide +kernel
theorem dX5_standWith_18 : decode cX5_standWith 18 = .ok (.bipush 37, 2) := by decide +kernel
theorem dX5_standWith_20 : decode cX5_standWith 20 = .ok (.iload_n 2, 1) := by decide +kernel
theorem dX5_standWith_21 : decode cX5_standWith 21 = .ok (.iadd, 1) := by decide +kernel
theorem dX5_standWith_22 : decode cX5_standWith 22 = .ok (.iload_n 1, 1) := by decide +kernel
theorem dX5_standWith_23 : decode cX5_standWith 23 = .ok (.iload_n 2, 1) := by decide +kernel
theorem dX5_standWith_24 : decode cX5_standWith 24 = .ok (.invokestatic 102, 3) := by decide +kernel
theorem dX5_standWith_27 : decode cX5_standWith 27 = .ok (.ifCond .eq 15, 3) := by decide +kernel
theorem dX5_standWith_30 : decode cX5_standWith 30 = .ok (.aload_n 0, 1) := by decide +kernel
theorem dX5_standWith_31 : decode cX5_standWith 31 = .ok (.getfield 13, 3) := by decide +kernel
theorem dX5_standWith_34 : decode cX5_standWith 34 = .ok (.bipush 6, 2) := by decide +kernel
theorem dX5_standWith_36 : decode cX5_standWith 36 = .ok (.iload_n 2, 1) := by decide +kernel
theorem dX5_standWith_37 : decode cX5_standWith 37 = .ok (.iadd, 1) := by decide +kernel
theorem dX5_standWith_38 : decode cX5_standWith 38 = .ok (.iaload, 1) := by decide +kernel
theorem dX5_standWith_39 : decode cX5_standWith 39 = .ok (.goto 4, 3) := by decide +kernel
theorem dX5_standWith_42 : decode cX5_standWith 42 = .ok (.iconst 0, 1) := by decide +kernel
theorem dX5_standWith_43 : decode cX5_standWith 43 = .ok (.iastore, 1) := by decide +kernel
theorem dX5_standWith_44 : decode cX5_standWith 44 = .ok (.iinc 2 1, 3) := by decide +kernel
theorem dX5_standWith_47 : decode cX5_standWith 47 = .ok (.goto (-41), 3) := by decide +kernel
theorem dX5_standWith_50 : decode cX5_standWith 50 = .ok (.aload_n 0, 1) := by decide +kernel
theorem dX5_standWith_51 : decode cX5_standWith 51 = .ok (.bipush 6, 2) := by decide +kernel
theorem dX5_standWith_53 : decode cX5_standWith 53 = .ok (.invokevirtual 137, 3) := by decide +kernel
theorem dX5_standWith_56 : decode cX5_standWith 56 = .ok (.pop, 1) := by decide +kernel
theorem dX5_standWith_57 : decode cX5_standWith 57 = .ok (.aload_n 0, 1) := by decide +kernel
theorem dX5_standWith_58 : decode cX5_standWith 58 = .ok (.iconst 1, 1) := by decide +kernel
theorem dX5_standWith_59 : decode cX5_standWith 59 = .ok (.invokevirtual 140, 3) := by decide +kernel
theorem dX5_standWith_62 : decode cX5_standWith 62 = .ok (.invokestatic 114, 3) := by decide +kernel
theorem dX5_standWith_65 : decode cX5_standWith 65 = .ok (.ireturn, 1) := by decide +kernel
theorem dX5_share_0 : decode cX5_share 0 = .ok (.aload_n 0, 1) := by decide +kernel
theorem dX5_share_1 : decode cX5_share 1 = .ok (.iload_n 1, 1) := by decide +kernel
theorem dX5_share_2 : decode cX5_share 2 = .ok (.invokevirtual 91, 3) := by decide +kernel
theorem dX5_share_5 : decode cX5_share 5 = .ok (.ifCond .ne 5, 3) := by decide +kernel
theorem dX5_share_8 : decode cX5_share 8 = .ok (.iconst (-1), 1) := by decide +kernel
theorem dX5_share_9 : decode cX5_share 9 = .ok (.ireturn, 1) := by decide +kernel
theorem dX5_share_10 : decode cX5_share 10 = .ok (.iconst 0, 1) := by decide +kernel
theorem dX5_share_11 : decode cX5_share 11 = .ok (.istore_n 3, 1) := by decide +kernel
theorem dX5_share_12 : decode cX5_share 12 = .ok (.iconst 0, 1) := by decide +kernel
theorem dX5_share_13 : decode cX5_share 13 = .ok (.istore 4, 2) := by decide +kernel
theorem dX5_share_15 : decode cX5_share 15 = .ok (.iload 4, 2) := by decide +kernel
theorem dX5_share_17 : decode cX5_share 17 = .ok (.iconst 1, 1) := by decide +kernel
theorem dX5_share_18 : decode cX5_share 18 = .ok (.aload_n 0, 1) := by decide +kernel
theorem dX5_share_19 : decode cX5_share 19 = .ok (.getfield 74, 3) := by decide +kernel
theorem dX5_share_22 : decode cX5_share 22 = .ok (.ishl, 1) := by decide +kernel
theorem dX5_share_23 : decode cX5_share 23 = .ok (.if_icmp .ge 67, 3) := by decide +kernel
theorem dX5_share_26 : decode cX5_share 26 = .ok (.iload 4, 2) := by decide +kernel
theorem dX5_share_28 : decode cX5_share 28 = .ok (.iload_n 1, 1) := by decide +kernel
theorem dX5_share_29 : decode cX5_share 29 = .ok (.invokestatic 102, 3) := by decide +kernel
theorem dX5_share_32 : decode cX5_share 32 = .ok (.ifCond .ne 52, 3) := by decide +kernel
theorem dX5_share_35 : decode cX5_share 35 = .ok (.iload 4, 2) := by decide +kernel
theorem dX5_share_37 : decode cX5_share 37 = .ok (.invokestatic 114, 3) := by decide +kernel
theorem dX5_share_40 : decode cX5_share 40 = .ok (.invokestatic 181, 3) := by decide +kernel
theorem dX5_share_43 : decode cX5_share 43 = .ok (.aload_n 0, 1) := by decide +kernel
theorem dX5_share_44 : decode cX5_share 44 = .ok (.getfield 74, 3) := by decide +kernel
theorem dX5_share_47 : decode cX5_share 47 = .ok (.iconst 1, 1) := by decide +kernel
theorem dX5_share_48 : decode cX5_share 48 = .ok (.isub, 1) := by decide +kernel
theorem dX5_share_49 : decode cX5_share 49 = .ok (.iload 4, 2) := by decide +kernel
theorem dX5_share_51 : decode cX5_share 51 = .ok (.invokestatic 114, 3) := by decide +kernel
theorem dX5_share_54 : decode cX5_share 54 = .ok (.isub, 1) := by decide +kernel
theorem dX5_share_55 : decode cX5_share 55 = .ok (.invokestatic 181, 3) := by decide +kernel
theorem dX5_share_58 : decode cX5_share 58 = .ok (.imul, 1) := by decide +kernel
theorem dX5_share_59 : decode cX5_share 59 = .ok (.istore 5, 2) := by decide +kernel
theorem dX5_share_61 : decode cX5_share 61 = .ok (.iload_n 3, 1) := by decide +kernel
theorem dX5_share_62 : decode cX5_share 62 = .ok (.iload 5, 2) := by decide +kernel
theorem dX5_share_64 : decode cX5_share 64 = .ok (.aload_n 0, 1) := by decide +kernel
theorem dX5_share_65 : decode cX5_share 65 = .ok (.iload 4, 2) := by decide +kernel
theorem dX5_share_67 : decode cX5_share 67 = .ok (.invokevirtual 184, 3) := by decide +kernel
theorem dX5_share_70 : decode cX5_share 70 = .ok (.aload_n 0, 1) := by decide +kernel
theorem dX5_share_71 : decode cX5_share 71 = .ok (.iload 4, 2) := by decide +kernel
theorem dX5_share_73 : decode cX5_share 73 = .ok (.iconst 1, 1) := by decide +kernel
theorem dX5_share_74 : decode cX5_share 74 = .ok (.iload_n 1, 1) := by decide +kernel
theorem dX5_share_75 : decode cX5_share 75 = .ok (.ishl, 1) := by decide +kernel
theorem dX5_share_76 : decode cX5_share 76 = .ok (.ior, 1) := by decide +kernel
theorem dX5_share_77 : decode cX5_share 77 = .ok (.invokevirtual 184, 3) := by decide +kernel
theorem dX5_share_80 : decode cX5_share 80 = .ok (.isub, 1) := by decide +kernel
theorem dX5_share_81 : decode cX5_share 81 = .ok (.imul, 1) := by decide +kernel
theorem dX5_share_82 : decode cX5_share 82 = .ok (.iadd, 1) := by decide +kernel
theorem dX5_share_83 : decode cX5_share 83 = .ok (.istore_n 3, 1) := by decide +kernel
theorem dX5_share_84 : decode cX5_share 84 = .ok (.iinc 4 1, 3) := by decide +kernel
theorem dX5_share_87 : decode cX5_share 87 = .ok (.goto (-72), 3) := by decide +kernel
theorem dX5_share_90 : decode cX5_share 90 = .ok (.iload_n 3, 1) := by decide +kernel
theorem dX5_share_91 : decode cX5_share 91 = .ok (.aload_n 0, 1) := by decide +kernel
theorem dX5_share_92 : decode cX5_share 92 = .ok (.getfield 74, 3) := by decide +kernel
theorem dX5_share_95 : decode cX5_share 95 = .ok (.invokestatic 181, 3) := by decide +kernel
theorem dX5_share_98 : decode cX5_share 98 = .ok (.invokestatic 187, 3) := by decide +kernel
theorem dX5_share_101 : decode cX5_share 101 = .ok (.istore 4, 2) := by decide +kernel
theorem dX5_share_103 : decode cX5_share 103 = .ok (.iload_n 2, 1) := by decide +kernel
theorem dX5_share_104 : decode cX5_share 104 = .ok (.ifCond .eq 10, 3) := by decide +kernel
theorem dX5_share_107 : decode cX5_share 107 = .ok (.iload_n 3, 1) := by decide +kernel
theorem dX5_share_108 : decode cX5_share 108 = .ok (.iload 4, 2) := by decide +kernel
theorem dX5_share_110 : decode cX5_share 110 = .ok (.idiv, 1) := by decide +kernel
theorem dX5_share_111 : decode cX5_share 111 = .ok (.goto 13, 3) := by decide +kernel
theorem dX5_share_114 : decode cX5_share 114 = .ok (.aload_n 0, 1) := by decide +kernel
theorem dX5_share_115 : decode cX5_share 115 = .ok (.getfield 74, 3) := by decide +kernel
theorem dX5_share_118 : decode cX5_share 118 = .ok (.invokestatic 181, 3) := by decide +kernel
theorem dX5_share_121 : decode cX5_share 121 = .ok (.iload 4, 2) := by decide +kernel
theorem dX5_share_123 : decode cX5_share 123 = .ok (.idiv, 1) := by decide +kernel
theorem dX5_share_124 : decode cX5_share 124 = .ok (.ireturn, 1) := by decide +kernel
theorem dX5_gain_0 : decode cX5_gain 0 = .ok (.aload_n 0, 1) := by decide +kernel
theorem dX5_gain_1 : decode cX5_gain 1 = .ok (.invokevirtual 134, 3) := by decide +kernel
theorem dX5_gain_4 : decode cX5_gain 4 = .ok (.aload_n 0, 1) := by decide +kernel
theorem dX5_gain_5 : decode cX5_gain 5 = .ok (.getfield 13, 3) := by decide +kernel
theorem dX5_gain_8 : decode cX5_gain 8 = .ok (.bipush 37, 2) := by decide +kernel
theorem dX5_gain_10 : decode cX5_gain 10 = .ok (.iload_n 1, 1) := by decide +kernel
theorem dX5_gain_11 : decode cX5_gain 11 = .ok (.iadd, 1) := by decide +kernel
theorem dX5_gain_12 : decode cX5_gain 12 = .ok (.dup2, 1) := by decide +kernel
theorem dX5_gain_13 : decode cX5_gain 13 = .ok (.iaload, 1) := by decide +kernel
theorem dX5_gain_14 : decode cX5_gain 14 = .ok (.iload_n 3, 1) := by decide +kernel
theorem dX5_gain_15 : decode cX5_gain 15 = .ok (.iconst 1, 1) := by decide +kernel
theorem dX5_gain_16 : decode cX5_gain 16 = .ok (.if_icmp .ne 17, 3) := by decide +kernel
theorem dX5_gain_19 : decode cX5_gain 19 = .ok (.aload_n 0, 1) := by decide +kernel
theorem dX5_gain_20 : decode cX5_gain 20 = .ok (.iconst 0, 1) := by decide +kernel
theorem dX5_gain_21 : decode cX5_gain 21 = .ok (.iload_n 1, 1) := by decide +kernel
theorem dX5_gain_22 : decode cX5_gain 22 = .ok (.iconst 3, 1) := by decide +kernel
theorem dX5_gain_23 : decode cX5_gain 23 = .ok (.invokevirtual 119, 3) := by decide +kernel
theorem dX5_gain_26 : decode cX5_gain 26 = .ok (.ifCond .eq 7, 3) := by decide +kernel
theorem dX5_gain_29 : decode cX5_gain 29 = .ok (.iconst 3, 1) := by decide +kernel
theorem dX5_gain_30 : decode cX5_gain 30 = .ok (.goto 4, 3) := by decide +kernel
theorem dX5_gain_33 : decode cX5_gain 33 = .ok (.iconst 0, 1) := by decide +kernel
theorem dX5_gain_34 : decode cX5_gain 34 = .ok (.iadd, 1) := by decide +kernel
theorem dX5_gain_35 : decode cX5_gain 35 = .ok (.iastore, 1) := by decide +kernel
theorem dX5_gain_36 : decode cX5_gain 36 = .ok (.aload_n 0, 1) := by decide +kernel
theorem dX5_gain_37 : decode cX5_gain 37 = .ok (.getfield 13, 3) := by decide +kernel
theorem dX5_gain_40 : decode cX5_gain 40 = .ok (.bipush 37, 2) := by decide +kernel
theorem dX5_gain_42 : decode cX5_gain 42 = .ok (.iload_n 2, 1) := by decide +kernel
theorem dX5_gain_43 : decode cX5_gain 43 = .ok (.iadd, 1) := by decide +kernel
theorem dX5_gain_44 : decode cX5_gain 44 = .ok (.dup2, 1) := by decide +kernel
theorem dX5_gain_45 : decode cX5_gain 45 = .ok (.iaload, 1) := by decide +kernel
theorem dX5_gain_46 : decode cX5_gain 46 = .ok (.iload 4, 2) := by decide +kernel
theorem dX5_gain_48 : decode cX5_gain 48 = .ok (.iconst 1, 1) := by decide +kernel
theorem dX5_gain_49 : decode cX5_gain 49 = .ok (.if_icmp .ne 17, 3) := by decide +kernel
theorem dX5_gain_52 : decode cX5_gain 52 = .ok (.aload_n 0, 1) := by decide +kernel
theorem dX5_gain_53 : decode cX5_gain 53 = .ok (.iconst 0, 1) := by decide +kernel
theorem dX5_gain_54 : decode cX5_gain 54 = .ok (.iload_n 2, 1) := by decide +kernel
theorem dX5_gain_55 : decode cX5_gain 55 = .ok (.iconst 3, 1) := by decide +kernel
theorem dX5_gain_56 : decode cX5_gain 56 = .ok (.invokevirtual 119, 3) := by decide +kernel
theorem dX5_gain_59 : decode cX5_gain 59 = .ok (.ifCond .eq 7, 3) := by decide +kernel
theorem dX5_gain_62 : decode cX5_gain 62 = .ok (.iconst 3, 1) := by decide +kernel
theorem dX5_gain_63 : decode cX5_gain 63 = .ok (.goto 4, 3) := by decide +kernel
theorem dX5_gain_66 : decode cX5_gain 66 = .ok (.iconst 0, 1) := by decide +kernel
theorem dX5_gain_67 : decode cX5_gain 67 = .ok (.iadd, 1) := by decide +kernel
theorem dX5_gain_68 : decode cX5_gain 68 = .ok (.iastore, 1) := by decide +kernel
theorem dX5_gain_69 : decode cX5_gain 69 = .ok (.aload_n 0, 1) := by decide +kernel
theorem dX5_gain_70 : decode cX5_gain 70 = .ok (.iconst 4, 1) := by decide +kernel
theorem dX5_gain_71 : decode cX5_gain 71 = .ok (.invokevirtual 137, 3) := by decide +kernel
theorem dX5_gain_74 : decode cX5_gain 74 = .ok (.pop, 1) := by decide +kernel
theorem dX5_gain_75 : decode cX5_gain 75 = .ok (.aload_n 0, 1) := by decide +kernel
theorem dX5_gain_76 : decode cX5_gain 76 = .ok (.iconst 1, 1) := by decide +kernel
theorem dX5_gain_77 : decode cX5_gain 77 = .ok (.iload_n 1, 1) := by decide +kernel
theorem dX5_gain_78 : decode cX5_gain 78 = .ok (.invokevirtual 99, 3) := by decide +kernel
theorem dX5_gain_81 : decode cX5_gain 81 = .ok (.iconst 5, 1) := by decide +kernel
theorem dX5_gain_82 : decode cX5_gain 82 = .ok (.aload_n 0, 1) := by decide +kernel
theorem dX5_gain_83 : decode cX5_gain 83 = .ok (.iconst 1, 1) := by decide +kernel
theorem dX5_gain_84 : decode cX5_gain 84 = .ok (.bipush 18, 2) := by decide +kernel
theorem dX5_gain_86 : decode cX5_gain 86 = .ok (.iload_n 1, 1) := by decide +kernel
theorem dX5_gain_87 : decode cX5_gain 87 = .ok (.invokevirtual 80, 3) := by decide +kernel
theorem dX5_gain_90 : decode cX5_gain 90 = .ok (.imul, 1) := by decide +kernel
theorem dX5_gain_91 : decode cX5_gain 91 = .ok (.iadd, 1) := by decide +kernel
theorem dX5_gain_92 : decode cX5_gain 92 = .ok (.iconst 2, 1) := by decide +kernel
theorem dX5_gain_93 : decode cX5_gain 93 = .ok (.iload_n 3, 1) := by decide +kernel
theorem dX5_gain_94 : decode cX5_gain 94 = .ok (.imul, 1) := by decide +kernel
theorem dX5_gain_95 : decode cX5_gain 95 = .ok (.isub, 1) := by decide +kernel
theorem dX5_gain_96 : decode cX5_gain 96 = .ok (.ireturn, 1) := by decide +kernel
theorem dX5_isRest_0 : decode cX5_isRest 0 = .ok (.aload_n 0, 1) := by decide +kernel
theorem dX5_isRest_1 : decode cX5_isRest 1 = .ok (.iload_n 1, 1) := by decide +kernel
theorem dX5_isRest_2 : decode cX5_isRest 2 = .ok (.iload_n 2, 1) := by decide +kernel
theorem dX5_isRest_3 : decode cX5_isRest 3 = .ok (.iconst 1, 1) := by decide +kernel
theorem dX5_isRest_4 : decode cX5_isRest 4 = .ok (.iload_n 3, 1) := by decide +kernel
theorem dX5_isRest_5 : decode cX5_isRest 5 = .ok (.isub, 1) := by decide +kernel
theorem dX5_isRest_6 : decode cX5_isRest 6 = .ok (.iload 4, 2) := by decide +kernel
theorem dX5_isRest_8 : decode cX5_isRest 8 = .ok (.invokevirtual 190, 3) := by decide +kernel
theorem dX5_isRest_11 : decode cX5_isRest 11 = .ok (.aload_n 0, 1) := by decide +kernel
theorem dX5_isRest_12 : decode cX5_isRest 12 = .ok (.iload_n 1, 1) := by decide +kernel
theorem dX5_isRest_13 : decode cX5_isRest 13 = .ok (.iload_n 2, 1) := by decide +kernel
theorem dX5_isRest_14 : decode cX5_isRest 14 = .ok (.iload_n 3, 1) := by decide +kernel
theorem dX5_isRest_15 : decode cX5_isRest 15 = .ok (.iload 4, 2) := by decide +kernel
theorem dX5_isRest_17 : decode cX5_isRest 17 = .ok (.invokevirtual 190, 3) := by decide +kernel
theorem dX5_isRest_20 : decode cX5_isRest 20 = .ok (.if_icmp .gt 30, 3) := by decide +kernel
theorem dX5_isRest_23 : decode cX5_isRest 23 = .ok (.aload_n 0, 1) := by decide +kernel
theorem dX5_isRest_24 : decode cX5_isRest 24 = .ok (.iload_n 2, 1) := by decide +kernel
theorem dX5_isRest_25 : decode cX5_isRest 25 = .ok (.iload_n 1, 1) := by decide +kernel
theorem dX5_isRest_26 : decode cX5_isRest 26 = .ok (.iconst 1, 1) := by decide +kernel
theorem dX5_isRest_27 : decode cX5_isRest 27 = .ok (.iload 4, 2) := by decide +kernel
theorem dX5_isRest_29 : decode cX5_isRest 29 = .ok (.isub, 1) := by decide +kernel
theorem dX5_isRest_30 : decode cX5_isRest 30 = .ok (.iload_n 3, 1) := by decide +kernel
theorem dX5_isRest_31 : decode cX5_isRest 31 = .ok (.invokevirtual 190, 3) := by decide +kernel
theorem dX5_isRest_34 : decode cX5_isRest 34 = .ok (.aload_n 0, 1) := by decide +kernel
theorem dX5_isRest_35 : decode cX5_isRest 35 = .ok (.iload_n 2, 1) := by decide +kernel
theorem dX5_isRest_36 : decode cX5_isRest 36 = .ok (.iload_n 1, 1) := by decide +kernel
theorem dX5_isRest_37 : decode cX5_isRest 37 = .ok (.iload 4, 2) := by decide +kernel
theorem dX5_isRest_39 : decode cX5_isRest 39 = .ok (.iload_n 3, 1) := by decide +kernel
theorem dX5_isRest_40 : decode cX5_isRest 40 = .ok (.invokevirtual 190, 3) := by decide +kernel
theorem dX5_isRest_43 : decode cX5_isRest 43 = .ok (.if_icmp .gt 7, 3) := by decide +kernel
theorem dX5_isRest_46 : decode cX5_isRest 46 = .ok (.iconst 1, 1) := by decide +kernel
theorem dX5_isRest_47 : decode cX5_isRest 47 = .ok (.goto 4, 3) := by decide +kernel
theorem dX5_isRest_50 : decode cX5_isRest 50 = .ok (.iconst 0, 1) := by decide +kernel
theorem dX5_isRest_51 : decode cX5_isRest 51 = .ok (.ireturn, 1) := by decide +kernel
theorem dX5_rests_0 : decode cX5_rests 0 = .ok (.aload_n 0, 1) := by decide +kernel
theorem dX5_rests_1 : decode cX5_rests 1 = .ok (.iload_n 1, 1) := by decide +kernel
theorem dX5_rests_2 : decode cX5_rests 2 = .ok (.invokevirtual 91, 3) := by decide +kernel
theorem dX5_rests_5 : decode cX5_rests 5 = .ok (.ifCond .eq 11, 3) := by decide +kernel
theorem dX5_rests_8 : decode cX5_rests 8 = .ok (.aload_n 0, 1) := by decide +kernel
theorem dX5_rests_9 : decode cX5_rests 9 = .ok (.iload_n 2, 1) := by decide +kernel
theorem dX5_rests_10 : decode cX5_rests 10 = .ok (.invokevirtual 91, 3) := by decide +kernel
theorem dX5_rests_13 : decode cX5_rests 13 = .ok (.ifCond .ne 5, 3) := by decide +kernel
theorem dX5_rests_16 : decode cX5_rests 16 = .ok (.iconst (-1), 1) := by decide +kernel
theorem dX5_rests_17 : decode cX5_rests 17 = .ok (.ireturn, 1) := by decide +kernel
theorem dX5_rests_18 : decode cX5_rests 18 = .ok (.iload_n 1, 1) := by decide +kernel
theorem dX5_rests_19 : decode cX5_rests 19 = .ok (.iload_n 2, 1) := by decide +kernel
theorem dX5_rests_20 : decode cX5_rests 20 = .ok (.if_icmp .eq 13, 3) := by decide +kernel
theorem dX5_rests_23 : decode cX5_rests 23 = .ok (.iload_n 3, 1) := by decide +kernel
theorem dX5_rests_24 : decode cX5_rests 24 = .ok (.i2l, 1) := by decide +kernel
theorem dX5_rests_25 : decode cX5_rests 25 = .ok (.lconst 0, 1) := by decide +kernel
theorem dX5_rests_26 : decode cX5_rests 26 = .ok (.lconst 1, 1) := by decide +kernel
theorem dX5_rests_27 : decode cX5_rests 27 = .ok (.invokestatic 49, 3) := by decide +kernel
theorem dX5_rests_30 : decode cX5_rests 30 = .ok (.ifCond .ne 6, 3) := by decide +kernel
theorem dX5_rests_33 : decode cX5_rests 33 = .ok (.bipush (-2), 2) := by decide +kernel
theorem dX5_rests_35 : decode cX5_rests 35 = .ok (.ireturn, 1) := by decide +kernel
theorem dX5_rests_36 : decode cX5_rests 36 = .ok (.iconst 0, 1) := by decide +kernel
theorem dX5_rests_37 : decode cX5_rests 37 = .ok (.istore 4, 2) := by decide +kernel
theorem dX5_rests_39 : decode cX5_rests 39 = .ok (.bipush (-9), 2) := by decide +kernel
theorem dX5_rests_41 : decode cX5_rests 41 = .ok (.istore 5, 2) := by decide +kernel
theorem dX5_rests_43 : decode cX5_rests 43 = .ok (.iconst 0, 1) := by decide +kernel
theorem dX5_rests_44 : decode cX5_rests 44 = .ok (.istore 6, 2) := by decide +kernel
theorem dX5_rests_46 : decode cX5_rests 46 = .ok (.iload 6, 2) := by decide +kernel
theorem dX5_rests_48 : decode cX5_rests 48 = .ok (.iconst 4, 1) := by decide +kernel
theorem dX5_rests_49 : decode cX5_rests 49 = .ok (.if_icmp .ge 53, 3) := by decide +kernel
theorem dX5_rests_52 : decode cX5_rests 52 = .ok (.aload_n 0, 1) := by decide +kernel
theorem dX5_rests_53 : decode cX5_rests 53 = .ok (.iload_n 1, 1) := by decide +kernel
theorem dX5_rests_54 : decode cX5_rests 54 = .ok (.iload_n 2, 1) := by decide +kernel
theorem dX5_rests_55 : decode cX5_rests 55 = .ok (.iload 6, 2) := by decide +kernel
theorem dX5_rests_57 : decode cX5_rests 57 = .ok (.iconst 2, 1) := by decide +kernel
theorem dX5_rests_58 : decode cX5_rests 58 = .ok (.idiv, 1) := by decide +kernel
theorem dX5_rests_59 : decode cX5_rests 59 = .ok (.iload 6, 2) := by decide +kernel
theorem dX5_rests_61 : decode cX5_rests 61 = .ok (.iconst 2, 1) := by decide +kernel
theorem dX5_rests_62 : decode cX5_rests 62 = .ok (.irem, 1) := by decide +kernel
theorem dX5_rests_63 : decode cX5_rests 63 = .ok (.invokevirtual 194, 3) := by decide +kernel
theorem dX5_rests_66 : decode cX5_rests 66 = .ok (.ifCond .eq 30, 3) := by decide +kernel
theorem dX5_rests_69 : decode cX5_rests 69 = .ok (.iload 4, 2) := by decide +kernel
theorem dX5_rests_71 : decode cX5_rests 71 = .ok (.ifCond .ne 18, 3) := by decide +kernel
theorem dX5_rests_74 : decode cX5_rests 74 = .ok (.bipush 10, 2) := by decide +kernel
theorem dX5_rests_76 : decode cX5_rests 76 = .ok (.iload 6, 2) := by decide +kernel
theorem dX5_rests_78 : decode cX5_rests 78 = .ok (.iconst 2, 1) := by decide +kernel
theorem dX5_rests_79 : decode cX5_rests 79 = .ok (.idiv, 1) := by decide +kernel
theorem dX5_rests_80 : decode cX5_rests 80 = .ok (.imul, 1) := by decide +kernel
theorem dX5_rests_81 : decode cX5_rests 81 = .ok (.iload 6, 2) := by decide +kernel
theorem dX5_rests_83 : decode cX5_rests 83 = .ok (.iconst 2, 1) := by decide +kernel
theorem dX5_rests_84 : decode cX5_rests 84 = .ok (.irem, 1) := by decide +kernel
theorem dX5_rests_85 : decode cX5_rests 85 = .ok (.iadd, 1) := by decide +kernel
theorem dX5_rests_86 : decode cX5_rests 86 = .ok (.goto 5, 3) := by decide +kernel
theorem dX5_rests_89 : decode cX5_rests 89 = .ok (.iload 5, 2) := by decide +kernel
theorem dX5_rests_91 : decode cX5_rests 91 = .ok (.istore 5, 2) := by decide +kernel
theorem dX5_rests_93 : decode cX5_rests 93 = .ok (.iinc 4 1, 3) := by decide +kernel
theorem dX5_rests_96 : decode cX5_rests 96 = .ok (.iinc 6 1, 3) := by decide +kernel
theorem dX5_rests_99 : decode cX5_rests 99 = .ok (.goto (-53), 3) := by decide +kernel
theorem dX5_rests_102 : decode cX5_rests 102 = .ok (.iload_n 3, 1) := by decide +kernel
theorem dX5_rests_103 : decode cX5_rests 103 = .ok (.ifCond .ne 8, 3) := by decide +kernel
theorem dX5_rests_106 : decode cX5_rests 106 = .ok (.iload 4, 2) := by decide +kernel
theorem dX5_rests_108 : decode cX5_rests 108 = .ok (.goto 5, 3) := by decide +kernel
theorem dX5_rests_111 : decode cX5_rests 111 = .ok (.iload 5, 2) := by decide +kernel
theorem dX5_rests_113 : decode cX5_rests 113 = .ok (.ireturn, 1) := by decide +kernel
theorem dX5_fails_0 : decode cX5_fails 0 = .ok (.iload_n 1, 1) := by decide +kernel
theorem dX5_fails_1 : decode cX5_fails 1 = .ok (.i2l, 1) := by decide +kernel
theorem dX5_fails_2 : decode cX5_fails 2 = .ok (.lconst 0, 1) := by decide +kernel
theorem dX5_fails_3 : decode cX5_fails 3 = .ok (.ldc2_w 197, 3) := by decide +kernel
theorem dX5_fails_6 : decode cX5_fails 6 = .ok (.invokestatic 49, 3) := by decide +kernel
theorem dX5_fails_9 : decode cX5_fails 9 = .ok (.ifCond .eq 15, 3) := by decide +kernel
theorem dX5_fails_12 : decode cX5_fails 12 = .ok (.iload_n 2, 1) := by decide +kernel
theorem dX5_fails_13 : decode cX5_fails 13 = .ok (.i2l, 1) := by decide +kernel
theorem dX5_fails_14 : decode cX5_fails 14 = .ok (.lconst 0, 1) := by decide +kernel
theorem dX5_fails_15 : decode cX5_fails 15 = .ok (.ldc2_w 143, 3) := by decide +kernel
theorem dX5_fails_18 : decode cX5_fails 18 = .ok (.invokestatic 49, 3) := by decide +kernel
theorem dX5_fails_21 : decode cX5_fails 21 = .ok (.ifCond .ne 6, 3) := by decide +kernel
theorem dX5_fails_24 : decode cX5_fails 24 = .ok (.bipush (-2), 2) := by decide +kernel
theorem dX5_fails_26 : decode cX5_fails 26 = .ok (.ireturn, 1) := by decide +kernel
theorem dX5_fails_27 : decode cX5_fails 27 = .ok (.iconst 0, 1) := by decide +kernel
theorem dX5_fails_28 : decode cX5_fails 28 = .ok (.istore 4, 2) := by decide +kernel
theorem dX5_fails_30 : decode cX5_fails 30 = .ok (.iconst 0, 1) := by decide +kernel
theorem dX5_fails_31 : decode cX5_fails 31 = .ok (.istore 5, 2) := by decide +kernel
theorem dX5_fails_33 : decode cX5_fails 33 = .ok (.iconst 0, 1) := by decide +kernel
theorem dX5_fails_34 : decode cX5_fails 34 = .ok (.istore 6, 2) := by decide +kernel
theorem dX5_fails_36 : decode cX5_fails 36 = .ok (.iload 6, 2) := by decide +kernel
theorem dX5_fails_38 : decode cX5_fails 38 = .ok (.iconst 1, 1) := by decide +kernel
theorem dX5_fails_39 : decode cX5_fails 39 = .ok (.aload_n 0, 1) := by decide +kernel
theorem dX5_fails_40 : decode cX5_fails 40 = .ok (.getfield 74, 3) := by decide +kernel
theorem dX5_fails_43 : decode cX5_fails 43 = .ok (.ishl, 1) := by decide +kernel
theorem dX5_fails_44 : decode cX5_fails 44 = .ok (.if_icmp .ge 152, 3) := by decide +kernel
theorem dX5_fails_47 : decode cX5_fails 47 = .ok (.aload_n 0, 1) := by decide +kernel
theorem dX5_fails_48 : decode cX5_fails 48 = .ok (.invokevirtual 134, 3) := by decide +kernel
theorem dX5_fails_51 : decode cX5_fails 51 = .ok (.iconst 1, 1) := by decide +kernel
theorem dX5_fails_52 : decode cX5_fails 52 = .ok (.istore 7, 2) := by decide +kernel
theorem dX5_fails_54 : decode cX5_fails 54 = .ok (.iconst 0, 1) := by decide +kernel
theorem dX5_fails_55 : decode cX5_fails 55 = .ok (.istore 8, 2) := by decide +kernel
theorem dX5_fails_57 : decode cX5_fails 57 = .ok (.iload 8, 2) := by decide +kernel
theorem dX5_fails_59 : decode cX5_fails 59 = .ok (.aload_n 0, 1) := by decide +kernel
theorem dX5_fails_60 : decode cX5_fails 60 = .ok (.getfield 74, 3) := by decide +kernel
theorem dX5_fails_63 : decode cX5_fails 63 = .ok (.if_icmp .ge 91, 3) := by decide +kernel
theorem dX5_fails_66 : decode cX5_fails 66 = .ok (.iload 6, 2) := by decide +kernel
theorem dX5_fails_68 : decode cX5_fails 68 = .ok (.iload 8, 2) := by decide +kernel
theorem dX5_fails_70 : decode cX5_fails 70 = .ok (.invokestatic 102, 3) := by decide +kernel
theorem dX5_fails_73 : decode cX5_fails 73 = .ok (.istore 9, 2) := by decide +kernel
theorem dX5_fails_75 : decode cX5_fails 75 = .ok (.iload 7, 2) := by decide +kernel
theorem dX5_fails_77 : decode cX5_fails 77 = .ok (.aload_n 0, 1) := by decide +kernel
theorem dX5_fails_78 : decode cX5_fails 78 = .ok (.getfield 13, 3) := by decide +kernel
theorem dX5_fails_81 : decode cX5_fails 81 = .ok (.bipush 18, 2) := by decide +kernel
theorem dX5_fails_83 : decode cX5_fails 83 = .ok (.iload 8, 2) := by decide +kernel
theorem dX5_fails_85 : decode cX5_fails 85 = .ok (.iadd, 1) := by decide +kernel
theorem dX5_fails_86 : decode cX5_fails 86 = .ok (.iaload, 1) := by decide +kernel
theorem dX5_fails_87 : decode cX5_fails 87 = .ok (.ifCond .ne 16, 3) := by decide +kernel
theorem dX5_fails_90 : decode cX5_fails 90 = .ok (.iload 9, 2) := by decide +kernel
theorem dX5_fails_92 : decode cX5_fails 92 = .ok (.ifCond .eq 7, 3) := by decide +kernel
theorem dX5_fails_95 : decode cX5_fails 95 = .ok (.iconst 0, 1) := by decide +kernel
theorem dX5_fails_96 : decode cX5_fails 96 = .ok (.goto 20, 3) := by decide +kernel
theorem dX5_fails_99 : decode cX5_fails 99 = .ok (.iconst 1, 1) := by decide +kernel
theorem dX5_fails_100 : decode cX5_fails 100 = .ok (.goto 16, 3) := by decide +kernel
theorem dX5_fails_103 : decode cX5_fails 103 = .ok (.iload 9, 2) := by decide +kernel
theorem dX5_fails_105 : decode cX5_fails 105 = .ok (.ifCond .eq 7, 3) := by decide +kernel
theorem dX5_fails_108 : decode cX5_fails 108 = .ok (.iload_n 2, 1) := by decide +kernel
theorem dX5_fails_109 : decode cX5_fails 109 = .ok (.goto 7, 3) := by decide +kernel
theorem dX5_fails_112 : decode cX5_fails 112 = .ok (.bipush 10, 2) := by decide +kernel
theorem dX5_fails_114 : decode cX5_fails 114 = .ok (.iload_n 2, 1) := by decide +kernel
theorem dX5_fails_115 : decode cX5_fails 115 = .ok (.isub, 1) := by decide +kernel
theorem dX5_fails_116 : decode cX5_fails 116 = .ok (.imul, 1) := by decide +kernel
theorem dX5_fails_117 : decode cX5_fails 117 = .ok (.istore 7, 2) := by decide +kernel
theorem dX5_fails_119 : decode cX5_fails 119 = .ok (.aload_n 0, 1) := by decide +kernel
theorem dX5_fails_120 : decode cX5_fails 120 = .ok (.getfield 13, 3) := by decide +kernel
theorem dX5_fails_123 : decode cX5_fails 123 = .ok (.bipush 43, 2) := by decide +kernel
theorem dX5_fails_125 : decode cX5_fails 125 = .ok (.iload 8, 2) := by decide +kernel
theorem dX5_fails_127 : decode cX5_fails 127 = .ok (.iadd, 1) := by decide +kernel
theorem dX5_fails_128 : decode cX5_fails 128 = .ok (.iload 9, 2) := by decide +kernel
theorem dX5_fails_130 : decode cX5_fails 130 = .ok (.ifCond .eq 7, 3) := by decide +kernel
theorem dX5_fails_133 : decode cX5_fails 133 = .ok (.iconst 3, 1) := by decide +kernel
theorem dX5_fails_134 : decode cX5_fails 134 = .ok (.goto 13, 3) := by decide +kernel
theorem dX5_fails_137 : decode cX5_fails 137 = .ok (.aload_n 0, 1) := by decide +kernel
theorem dX5_fails_138 : decode cX5_fails 138 = .ok (.getfield 13, 3) := by decide +kernel
theorem dX5_fails_141 : decode cX5_fails 141 = .ok (.bipush 12, 2) := by decide +kernel
theorem dX5_fails_143 : decode cX5_fails 143 = .ok (.iload 8, 2) := by decide +kernel
theorem dX5_fails_145 : decode cX5_fails 145 = .ok (.iadd, 1) := by decide +kernel
theorem dX5_fails_146 : decode cX5_fails 146 = .ok (.iaload, 1) := by decide +kernel
theorem dX5_fails_147 : decode cX5_fails 147 = .ok (.iastore, 1) := by decide +kernel
theorem dX5_fails_148 : decode cX5_fails 148 = .ok (.iinc 8 1, 3) := by decide +kernel
theorem dX5_fails_151 : decode cX5_fails 151 = .ok (.goto (-94), 3) := by decide +kernel
theorem dX5_fails_154 : decode cX5_fails 154 = .ok (.aload_n 0, 1) := by decide +kernel
theorem dX5_fails_155 : decode cX5_fails 155 = .ok (.iconst 3, 1) := by decide +kernel
theorem dX5_fails_156 : decode cX5_fails 156 = .ok (.invokevirtual 137, 3) := by decide +kernel
theorem dX5_fails_159 : decode cX5_fails 159 = .ok (.pop, 1) := by decide +kernel
theorem dX5_fails_160 : decode cX5_fails 160 = .ok (.iload 5, 2) := by decide +kernel
theorem dX5_fails_162 : decode cX5_fails 162 = .ok (.iload 7, 2) := by decide +kernel
theorem dX5_fails_164 : decode cX5_fails 164 = .ok (.iadd, 1) := by decide +kernel
theorem dX5_fails_165 : decode cX5_fails 165 = .ok (.istore 5, 2) := by decide +kernel
theorem dX5_fails_167 : decode cX5_fails 167 = .ok (.iload 4, 2) := by decide +kernel
theorem dX5_fails_169 : decode cX5_fails 169 = .ok (.aload_n 0, 1) := by decide +kernel
theorem dX5_fails_170 : decode cX5_fails 170 = .ok (.iconst 1, 1) := by decide +kernel
theorem dX5_fails_171 : decode cX5_fails 171 = .ok (.invokevirtual 140, 3) := by decide +kernel
theorem dX5_fails_174 : decode cX5_fails 174 = .ok (.invokestatic 114, 3) := by decide +kernel
theorem dX5_fails_177 : decode cX5_fails 177 = .ok (.iload_n 1, 1) := by decide +kernel
theorem dX5_fails_178 : decode cX5_fails 178 = .ok (.if_icmp .lt 8, 3) := by decide +kernel
theorem dX5_fails_181 : decode cX5_fails 181 = .ok (.iload 7, 2) := by decide +kernel
theorem dX5_fails_183 : decode cX5_fails 183 = .ok (.goto 4, 3) := by decide +kernel
theorem dX5_fails_186 : decode cX5_fails 186 = .ok (.iconst 0, 1) := by decide +kernel
theorem dX5_fails_187 : decode cX5_fails 187 = .ok (.iadd, 1) := by decide +kernel
theorem dX5_fails_188 : decode cX5_fails 188 = .ok (.istore 4, 2) := by decide +kernel
theorem dX5_fails_190 : decode cX5_fails 190 = .ok (.iinc 6 1, 3) := by decide +kernel
theorem dX5_fails_193 : decode cX5_fails 193 = .ok (.goto (-157), 3) := by decide +kernel
theorem dX5_fails_196 : decode cX5_fails 196 = .ok (.iload 4, 2) := by decide +kernel
theorem dX5_fails_198 : decode cX5_fails 198 = .ok (.iload 5, 2) := by decide +kernel
theorem dX5_fails_200 : decode cX5_fails 200 = .ok (.invokestatic 187, 3) := by decide +kernel
theorem dX5_fails_203 : decode cX5_fails 203 = .ok (.istore 6, 2) := by decide +kernel
theorem dX5_fails_205 : decode cX5_fails 205 = .ok (.iload_n 3, 1) := by decide +kernel
theorem dX5_fails_206 : decode cX5_fails 206 = .ok (.ifCond .eq 11, 3) := by decide +kernel
theorem dX5_fails_209 : decode cX5_fails 209 = .ok (.iload 4, 2) := by decide +kernel
theorem dX5_fails_211 : decode cX5_fails 211 = .ok (.iload 6, 2) := by decide +kernel
theorem dX5_fails_213 : decode cX5_fails 213 = .ok (.idiv, 1) := by decide +kernel
theorem dX5_fails_214 : decode cX5_fails 214 = .ok (.goto 8, 3) := by decide +kernel
theorem dX5_fails_217 : decode cX5_fails 217 = .ok (.iload 5, 2) := by decide +kernel
theorem dX5_fails_219 : decode cX5_fails 219 = .ok (.iload 6, 2) := by decide +kernel
theorem dX5_fails_221 : decode cX5_fails 221 = .ok (.idiv, 1) := by decide +kernel
theorem dX5_fails_222 : decode cX5_fails 222 = .ok (.ireturn, 1) := by decide +kernel
theorem dX5_seed_0 : decode cX5_seed 0 = .ok (.aload_n 0, 1) := by decide +kernel
theorem dX5_seed_1 : decode cX5_seed 1 = .ok (.getfield 199, 3) := by decide +kernel
theorem dX5_seed_4 : decode cX5_seed 4 = .ok (.lstore_n 3, 1) := by decide +kernel
theorem dX5_seed_5 : decode cX5_seed 5 = .ok (.aload_n 0, 1) := by decide +kernel
theorem dX5_seed_6 : decode cX5_seed 6 = .ok (.lload_n 1, 1) := by decide +kernel
theorem dX5_seed_7 : decode cX5_seed 7 = .ok (.putfield 199, 3) := by decide +kernel
theorem dX5_seed_10 : decode cX5_seed 10 = .ok (.lload_n 3, 1) := by decide +kernel
theorem dX5_seed_11 : decode cX5_seed 11 = .ok (.lreturn, 1) := by decide +kernel
theorem dX5_years_0 : decode cX5_years 0 = .ok (.iload_n 1, 1) := by decide +kernel
theorem dX5_years_1 : decode cX5_years 1 = .ok (.i2l, 1) := by decide +kernel
theorem dX5_years_2 : decode cX5_years 2 = .ok (.lconst 1, 1) := by decide +kernel
theorem dX5_years_3 : decode cX5_years 3 = .ok (.ldc2_w 132, 3) := by decide +kernel
theorem dX5_years_6 : decode cX5_years 6 = .ok (.invokestatic 49, 3) := by decide +kernel
theorem dX5_years_9 : decode cX5_years 9 = .ok (.ifCond .ne 6, 3) := by decide +kernel
theorem dX5_years_12 : decode cX5_years 12 = .ok (.bipush (-2), 2) := by decide +kernel
theorem dX5_years_14 : decode cX5_years 14 = .ok (.ireturn, 1) := by decide +kernel
theorem dX5_years_15 : decode cX5_years 15 = .ok (.aload_n 0, 1) := by decide +kernel
theorem dX5_years_16 : decode cX5_years 16 = .ok (.invokevirtual 134, 3) := by decide +kernel
theorem dX5_years_19 : decode cX5_years 19 = .ok (.iconst 0, 1) := by decide +kernel
theorem dX5_years_20 : decode cX5_years 20 = .ok (.istore_n 2, 1) := by decide +kernel
theorem dX5_years_21 : decode cX5_years 21 = .ok (.iconst 0, 1) := by decide +kernel
theorem dX5_years_22 : decode cX5_years 22 = .ok (.istore_n 3, 1) := by decide +kernel
theorem dX5_years_23 : decode cX5_years 23 = .ok (.iload_n 3, 1) := by decide +kernel
theorem dX5_years_24 : decode cX5_years 24 = .ok (.iload_n 1, 1) := by decide +kernel
theorem dX5_years_25 : decode cX5_years 25 = .ok (.if_icmp .ge 146, 3) := by decide +kernel
theorem dX5_years_28 : decode cX5_years 28 = .ok (.aload_n 0, 1) := by decide +kernel
theorem dX5_years_29 : decode cX5_years 29 = .ok (.aload_n 0, 1) := by decide +kernel
theorem dX5_years_30 : decode cX5_years 30 = .ok (.getfield 199, 3) := by decide +kernel
theorem dX5_years_33 : decode cX5_years 33 = .ok (.ldc2_w 203, 3) := by decide +kernel
theorem dX5_years_36 : decode cX5_years 36 = .ok (.lmul, 1) := by decide +kernel
theorem dX5_years_37 : decode cX5_years 37 = .ok (.ldc2_w 205, 3) := by decide +kernel
theorem dX5_years_40 : decode cX5_years 40 = .ok (.ladd, 1) := by decide +kernel
theorem dX5_years_41 : decode cX5_years 41 = .ok (.putfield 199, 3) := by decide +kernel
theorem dX5_years_44 : decode cX5_years 44 = .ok (.aload_n 0, 1) := by decide +kernel
theorem dX5_years_45 : decode cX5_years 45 = .ok (.getfield 199, 3) := by decide +kernel
theorem dX5_years_48 : decode cX5_years 48 = .ok (.bipush 33, 2) := by decide +kernel
theorem dX5_years_50 : decode cX5_years 50 = .ok (.lushr, 1) := by decide +kernel
theorem dX5_years_51 : decode cX5_years 51 = .ok (.ldc2_w 207, 3) := by decide +kernel
theorem dX5_years_54 : decode cX5_years 54 = .ok (.lrem, 1) := by decide +kernel
theorem dX5_years_55 : decode cX5_years 55 = .ok (.l2i, 1) := by decide +kernel
theorem dX5_years_56 : decode cX5_years 56 = .ok (.istore 4, 2) := by decide +kernel
theorem dX5_years_58 : decode cX5_years 58 = .ok (.iload 4, 2) := by decide +kernel
theorem dX5_years_60 : decode cX5_years 60 = .ok (.bipush 35, 2) := by decide +kernel
theorem dX5_years_62 : decode cX5_years 62 = .ok (.if_icmp .le 12, 3) := by decide +kernel
theorem dX5_years_65 : decode cX5_years 65 = .ok (.aload_n 0, 1) := by decide +kernel
theorem dX5_years_66 : decode cX5_years 66 = .ok (.iconst 1, 1) := by decide +kernel
theorem dX5_years_67 : decode cX5_years 67 = .ok (.invokevirtual 137, 3) := by decide +kernel
theorem dX5_years_70 : decode cX5_years 70 = .ok (.pop, 1) := by decide +kernel
theorem dX5_years_71 : decode cX5_years 71 = .ok (.goto 83, 3) := by decide +kernel
theorem dX5_years_74 : decode cX5_years 74 = .ok (.iload 4, 2) := by decide +kernel
theorem dX5_years_76 : decode cX5_years 76 = .ok (.bipush 17, 2) := by decide +kernel
theorem dX5_years_78 : decode cX5_years 78 = .ok (.if_icmp .le 28, 3) := by decide +kernel
theorem dX5_years_81 : decode cX5_years 81 = .ok (.aload_n 0, 1) := by decide +kernel
theorem dX5_years_82 : decode cX5_years 82 = .ok (.iconst 3, 1) := by decide +kernel
theorem dX5_years_83 : decode cX5_years 83 = .ok (.iconst 0, 1) := by decide +kernel
theorem dX5_years_84 : decode cX5_years 84 = .ok (.bipush 10, 2) := by decide +kernel
theorem dX5_years_86 : decode cX5_years 86 = .ok (.iload 4, 2) := by decide +kernel
theorem dX5_years_88 : decode cX5_years 88 = .ok (.bipush 18, 2) := by decide +kernel
theorem dX5_years_90 : decode cX5_years 90 = .ok (.isub, 1) := by decide +kernel
theorem dX5_years_91 : decode cX5_years 91 = .ok (.iconst 3, 1) := by decide +kernel
theorem dX5_years_92 : decode cX5_years 92 = .ok (.idiv, 1) := by decide +kernel
theorem dX5_years_93 : decode cX5_years 93 = .ok (.imul, 1) := by decide +kernel
theorem dX5_years_94 : decode cX5_years 94 = .ok (.iload 4, 2) := by decide +kernel
theorem dX5_years_96 : decode cX5_years 96 = .ok (.iconst 3, 1) := by decide +kernel
theorem dX5_years_97 : decode cX5_years 97 = .ok (.irem, 1) := by decide +kernel
theorem dX5_years_98 : decode cX5_years 98 = .ok (.iadd, 1) := by decide +kernel
theorem dX5_years_99 : decode cX5_years 99 = .ok (.invokevirtual 170, 3) := by decide +kernel
theorem dX5_years_102 : decode cX5_years 102 = .ok (.pop, 1) := by decide +kernel
theorem dX5_years_103 : decode cX5_years 103 = .ok (.goto 51, 3) := by decide +kernel
theorem dX5_years_106 : decode cX5_years 106 = .ok (.iload 4, 2) := by decide +kernel
theorem dX5_years_108 : decode cX5_years 108 = .ok (.bipush 11, 2) := by decide +kernel
theorem dX5_years_110 : decode cX5_years 110 = .ok (.if_icmp .le 23, 3) := by decide +kernel
theorem dX5_years_113 : decode cX5_years 113 = .ok (.aload_n 0, 1) := by decide +kernel
theorem dX5_years_114 : decode cX5_years 114 = .ok (.iconst 2, 1) := by decide +kernel
theorem dX5_years_115 : decode cX5_years 115 = .ok (.iconst 0, 1) := by decide +kernel
theorem dX5_years_116 : decode cX5_years 116 = .ok (.bipush 10, 2) := by decide +kernel
theorem dX5_years_118 : decode cX5_years 118 = .ok (.iload 4, 2) := by decide +kernel
theorem dX5_years_120 : decode cX5_years 120 = .ok (.bipush 12, 2) := by decide +kernel
theorem dX5_years_122 : decode cX5_years 122 = .ok (.isub, 1) := by decide +kernel
theorem dX5_years_123 : decode cX5_years 123 = .ok (.imul, 1) := by decide +kernel
theorem dX5_years_124 : decode cX5_years 124 = .ok (.iconst 1, 1) := by decide +kernel
theorem dX5_years_125 : decode cX5_years 125 = .ok (.iadd, 1) := by decide +kernel
theorem dX5_years_126 : decode cX5_years 126 = .ok (.invokevirtual 170, 3) := by decide +kernel
theorem dX5_years_129 : decode cX5_years 129 = .ok (.pop, 1) := by decide +kernel
theorem dX5_years_130 : decode cX5_years 130 = .ok (.goto 24, 3) := by decide +kernel
theorem dX5_years_133 : decode cX5_years 133 = .ok (.aload_n 0, 1) := by decide +kernel
theorem dX5_years_134 : decode cX5_years 134 = .ok (.iconst 1, 1) := by decide +kernel
theorem dX5_years_135 : decode cX5_years 135 = .ok (.iconst 0, 1) := by decide +kernel
theorem dX5_years_136 : decode cX5_years 136 = .ok (.bipush 10, 2) := by decide +kernel
theorem dX5_years_138 : decode cX5_years 138 = .ok (.iload 4, 2) := by decide +kernel
theorem dX5_years_140 : decode cX5_years 140 = .ok (.iconst 2, 1) := by decide +kernel
theorem dX5_years_141 : decode cX5_years 141 = .ok (.idiv, 1) := by decide +kernel
theorem dX5_years_142 : decode cX5_years 142 = .ok (.imul, 1) := by decide +kernel
theorem dX5_years_143 : decode cX5_years 143 = .ok (.iconst 1, 1) := by decide +kernel
theorem dX5_years_144 : decode cX5_years 144 = .ok (.iadd, 1) := by decide +kernel
theorem dX5_years_145 : decode cX5_years 145 = .ok (.iload 4, 2) := by decide +kernel
theorem dX5_years_147 : decode cX5_years 147 = .ok (.iconst 2, 1) := by decide +kernel
theorem dX5_years_148 : decode cX5_years 148 = .ok (.irem, 1) := by decide +kernel
theorem dX5_years_149 : decode cX5_years 149 = .ok (.iadd, 1) := by decide +kernel
theorem dX5_years_150 : decode cX5_years 150 = .ok (.invokevirtual 170, 3) := by decide +kernel
theorem dX5_years_153 : decode cX5_years 153 = .ok (.pop, 1) := by decide +kernel
theorem dX5_years_154 : decode cX5_years 154 = .ok (.iload_n 2, 1) := by decide +kernel
theorem dX5_years_155 : decode cX5_years 155 = .ok (.aload_n 0, 1) := by decide +kernel
theorem dX5_years_156 : decode cX5_years 156 = .ok (.iconst 1, 1) := by decide +kernel
theorem dX5_years_157 : decode cX5_years 157 = .ok (.invokevirtual 140, 3) := by decide +kernel
theorem dX5_years_160 : decode cX5_years 160 = .ok (.invokestatic 114, 3) := by decide +kernel
theorem dX5_years_163 : decode cX5_years 163 = .ok (.iadd, 1) := by decide +kernel
theorem dX5_years_164 : decode cX5_years 164 = .ok (.istore_n 2, 1) := by decide +kernel
theorem dX5_years_165 : decode cX5_years 165 = .ok (.iinc 3 1, 3) := by decide +kernel
theorem dX5_years_168 : decode cX5_years 168 = .ok (.goto (-145), 3) := by decide +kernel
theorem dX5_years_171 : decode cX5_years 171 = .ok (.iload_n 2, 1) := by decide +kernel
theorem dX5_years_172 : decode cX5_years 172 = .ok (.ireturn, 1) := by decide +kernel
theorem dX5_keep_0 : decode cX5_keep 0 = .ok (.iload_n 1, 1) := by decide +kernel
theorem dX5_keep_1 : decode cX5_keep 1 = .ok (.i2l, 1) := by decide +kernel
theorem dX5_keep_2 : decode cX5_keep 2 = .ok (.lconst 0, 1) := by decide +kernel
theorem dX5_keep_3 : decode cX5_keep 3 = .ok (.lconst 1, 1) := by decide +kernel
theorem dX5_keep_4 : decode cX5_keep 4 = .ok (.invokestatic 49, 3) := by decide +kernel
theorem dX5_keep_7 : decode cX5_keep 7 = .ok (.ifCond .ne 5, 3) := by decide +kernel
theorem dX5_keep_10 : decode cX5_keep 10 = .ok (.iconst (-1), 1) := by decide +kernel
theorem dX5_keep_11 : decode cX5_keep 11 = .ok (.ireturn, 1) := by decide +kernel
theorem dX5_keep_12 : decode cX5_keep 12 = .ok (.aload_n 0, 1) := by decide +kernel
theorem dX5_keep_13 : decode cX5_keep 13 = .ok (.getfield 40, 3) := by decide +kernel
theorem dX5_keep_16 : decode cX5_keep 16 = .ok (.iload_n 1, 1) := by decide +kernel
theorem dX5_keep_17 : decode cX5_keep 17 = .ok (.iconst 1, 1) := by decide +kernel
theorem dX5_keep_18 : decode cX5_keep 18 = .ok (.bastore, 1) := by decide +kernel
theorem dX5_keep_19 : decode cX5_keep 19 = .ok (.iconst 0, 1) := by decide +kernel
theorem dX5_keep_20 : decode cX5_keep 20 = .ok (.istore_n 2, 1) := by decide +kernel
theorem dX5_keep_21 : decode cX5_keep 21 = .ok (.iload_n 2, 1) := by decide +kernel
theorem dX5_keep_22 : decode cX5_keep 22 = .ok (.bipush 31, 2) := by decide +kernel
theorem dX5_keep_24 : decode cX5_keep 24 = .ok (.if_icmp .ge 26, 3) := by decide +kernel
theorem dX5_keep_27 : decode cX5_keep 27 = .ok (.aload_n 0, 1) := by decide +kernel
theorem dX5_keep_28 : decode cX5_keep 28 = .ok (.getfield 44, 3) := by decide +kernel
theorem dX5_keep_31 : decode cX5_keep 31 = .ok (.bipush 31, 2) := by decide +kernel
theorem dX5_keep_33 : decode cX5_keep 33 = .ok (.iload_n 1, 1) := by decide +kernel
theorem dX5_keep_34 : decode cX5_keep 34 = .ok (.imul, 1) := by decide +kernel
theorem dX5_keep_35 : decode cX5_keep 35 = .ok (.iload_n 2, 1) := by decide +kernel
theorem dX5_keep_36 : decode cX5_keep 36 = .ok (.iadd, 1) := by decide +kernel
theorem dX5_keep_37 : decode cX5_keep 37 = .ok (.aload_n 0, 1) := by decide +kernel
theorem dX5_keep_38 : decode cX5_keep 38 = .ok (.getfield 13, 3) := by decide +kernel
theorem dX5_keep_41 : decode cX5_keep 41 = .ok (.iload_n 2, 1) := by decide +kernel
theorem dX5_keep_42 : decode cX5_keep 42 = .ok (.iaload, 1) := by decide +kernel
theorem dX5_keep_43 : decode cX5_keep 43 = .ok (.iastore, 1) := by decide +kernel
theorem dX5_keep_44 : decode cX5_keep 44 = .ok (.iinc 2 1, 3) := by decide +kernel
theorem dX5_keep_47 : decode cX5_keep 47 = .ok (.goto (-26), 3) := by decide +kernel
theorem dX5_keep_50 : decode cX5_keep 50 = .ok (.aload_n 0, 1) := by decide +kernel
theorem dX5_keep_51 : decode cX5_keep 51 = .ok (.getfield 13, 3) := by decide +kernel
theorem dX5_keep_54 : decode cX5_keep 54 = .ok (.bipush 30, 2) := by decide +kernel
theorem dX5_keep_56 : decode cX5_keep 56 = .ok (.iaload, 1) := by decide +kernel
theorem dX5_keep_57 : decode cX5_keep 57 = .ok (.ireturn, 1) := by decide +kernel
theorem dX5_again_0 : decode cX5_again 0 = .ok (.iload_n 1, 1) := by decide +kernel
theorem dX5_again_1 : decode cX5_again 1 = .ok (.i2l, 1) := by decide +kernel
theorem dX5_again_2 : decode cX5_again 2 = .ok (.lconst 0, 1) := by decide +kernel
theorem dX5_again_3 : decode cX5_again 3 = .ok (.lconst 1, 1) := by decide +kernel
theorem dX5_again_4 : decode cX5_again 4 = .ok (.invokestatic 49, 3) := by decide +kernel
theorem dX5_again_7 : decode cX5_again 7 = .ok (.ifCond .ne 5, 3) := by decide +kernel
theorem dX5_again_10 : decode cX5_again 10 = .ok (.iconst (-1), 1) := by decide +kernel
theorem dX5_again_11 : decode cX5_again 11 = .ok (.ireturn, 1) := by decide +kernel
theorem dX5_again_12 : decode cX5_again 12 = .ok (.aload_n 0, 1) := by decide +kernel
theorem dX5_again_13 : decode cX5_again 13 = .ok (.getfield 40, 3) := by decide +kernel
theorem dX5_again_16 : decode cX5_again 16 = .ok (.iload_n 1, 1) := by decide +kernel
theorem dX5_again_17 : decode cX5_again 17 = .ok (.baload, 1) := by decide +kernel
theorem dX5_again_18 : decode cX5_again 18 = .ok (.ifCond .ne 6, 3) := by decide +kernel
theorem dX5_again_21 : decode cX5_again 21 = .ok (.bipush (-3), 2) := by decide +kernel
theorem dX5_again_23 : decode cX5_again 23 = .ok (.ireturn, 1) := by decide +kernel
theorem dX5_again_24 : decode cX5_again 24 = .ok (.iconst 0, 1) := by decide +kernel
theorem dX5_again_25 : decode cX5_again 25 = .ok (.istore_n 2, 1) := by decide +kernel
theorem dX5_again_26 : decode cX5_again 26 = .ok (.iload_n 2, 1) := by decide +kernel
theorem dX5_again_27 : decode cX5_again 27 = .ok (.bipush 31, 2) := by decide +kernel
theorem dX5_again_29 : decode cX5_again 29 = .ok (.if_icmp .ge 26, 3) := by decide +kernel
theorem dX5_again_32 : decode cX5_again 32 = .ok (.aload_n 0, 1) := by decide +kernel
theorem dX5_again_33 : decode cX5_again 33 = .ok (.getfield 13, 3) := by decide +kernel
theorem dX5_again_36 : decode cX5_again 36 = .ok (.iload_n 2, 1) := by decide +kernel
theorem dX5_again_37 : decode cX5_again 37 = .ok (.aload_n 0, 1) := by decide +kernel
theorem dX5_again_38 : decode cX5_again 38 = .ok (.getfield 44, 3) := by decide +kernel
theorem dX5_again_41 : decode cX5_again 41 = .ok (.bipush 31, 2) := by decide +kernel
theorem dX5_again_43 : decode cX5_again 43 = .ok (.iload_n 1, 1) := by decide +kernel
theorem dX5_again_44 : decode cX5_again 44 = .ok (.imul, 1) := by decide +kernel
theorem dX5_again_45 : decode cX5_again 45 = .ok (.iload_n 2, 1) := by decide +kernel
theorem dX5_again_46 : decode cX5_again 46 = .ok (.iadd, 1) := by decide +kernel
theorem dX5_again_47 : decode cX5_again 47 = .ok (.iaload, 1) := by decide +kernel
theorem dX5_again_48 : decode cX5_again 48 = .ok (.iastore, 1) := by decide +kernel
theorem dX5_again_49 : decode cX5_again 49 = .ok (.iinc 2 1, 3) := by decide +kernel
theorem dX5_again_52 : decode cX5_again 52 = .ok (.goto (-26), 3) := by decide +kernel
theorem dX5_again_55 : decode cX5_again 55 = .ok (.aload_n 0, 1) := by decide +kernel
theorem dX5_again_56 : decode cX5_again 56 = .ok (.iconst 0, 1) := by decide +kernel
theorem dX5_again_57 : decode cX5_again 57 = .ok (.putfield 77, 3) := by decide +kernel
theorem dX5_again_60 : decode cX5_again 60 = .ok (.aload_n 0, 1) := by decide +kernel
theorem dX5_again_61 : decode cX5_again 61 = .ok (.getfield 13, 3) := by decide +kernel
theorem dX5_again_64 : decode cX5_again 64 = .ok (.bipush 30, 2) := by decide +kernel
theorem dX5_again_66 : decode cX5_again 66 = .ok (.iaload, 1) := by decide +kernel
theorem dX5_again_67 : decode cX5_again 67 = .ok (.ireturn, 1) := by decide +kernel
theorem dX5_together_0 : decode cX5_together 0 = .ok (.iconst 0, 1) := by decide +kernel
theorem dX5_together_1 : decode cX5_together 1 = .ok (.istore_n 2, 1) := by decide +kernel
theorem dX5_together_2 : decode cX5_together 2 = .ok (.iconst 0, 1) := by decide +kernel
theorem dX5_together_3 : decode cX5_together 3 = .ok (.istore_n 3, 1) := by decide +kernel
theorem dX5_together_4 : decode cX5_together 4 = .ok (.iload_n 3, 1) := by decide +kernel
theorem dX5_together_5 : decode cX5_together 5 = .ok (.aload_n 0, 1) := by decide +kernel
theorem dX5_together_6 : decode cX5_together 6 = .ok (.getfield 74, 3) := by decide +kernel
theorem dX5_together_9 : decode cX5_together 9 = .ok (.if_icmp .ge 66, 3) := by decide +kernel
theorem dX5_together_12 : decode cX5_together 12 = .ok (.iload_n 2, 1) := by decide +kernel
theorem dX5_together_13 : decode cX5_together 13 = .ok (.iload_n 1, 1) := by decide +kernel
theorem dX5_together_14 : decode cX5_together 14 = .ok (.iconst 4, 1) := by decide +kernel
theorem dX5_together_15 : decode cX5_together 15 = .ok (.if_icmp .ne 15, 3) := by decide +kernel
theorem dX5_together_18 : decode cX5_together 18 = .ok (.aload_n 0, 1) := by decide +kernel
theorem dX5_together_19 : decode cX5_together 19 = .ok (.getfield 13, 3) := by decide +kernel
theorem dX5_together_22 : decode cX5_together 22 = .ok (.bipush 6, 2) := by decide +kernel
theorem dX5_together_24 : decode cX5_together 24 = .ok (.iload_n 3, 1) := by decide +kernel
theorem dX5_together_25 : decode cX5_together 25 = .ok (.iadd, 1) := by decide +kernel
theorem dX5_together_26 : decode cX5_together 26 = .ok (.iaload, 1) := by decide +kernel
theorem dX5_together_27 : decode cX5_together 27 = .ok (.goto 40, 3) := by decide +kernel
theorem dX5_together_30 : decode cX5_together 30 = .ok (.iload_n 1, 1) := by decide +kernel
theorem dX5_together_31 : decode cX5_together 31 = .ok (.iconst 5, 1) := by decide +kernel
theorem dX5_together_32 : decode cX5_together 32 = .ok (.if_icmp .ne 12, 3) := by decide +kernel
theorem dX5_together_35 : decode cX5_together 35 = .ok (.aload_n 0, 1) := by decide +kernel
theorem dX5_together_36 : decode cX5_together 36 = .ok (.iconst 0, 1) := by decide +kernel
theorem dX5_together_37 : decode cX5_together 37 = .ok (.iload_n 3, 1) := by decide +kernel
theorem dX5_together_38 : decode cX5_together 38 = .ok (.invokevirtual 99, 3) := by decide +kernel
theorem dX5_together_41 : decode cX5_together 41 = .ok (.goto 26, 3) := by decide +kernel
theorem dX5_together_44 : decode cX5_together 44 = .ok (.aload_n 0, 1) := by decide +kernel
theorem dX5_together_45 : decode cX5_together 45 = .ok (.getfield 13, 3) := by decide +kernel
theorem dX5_together_48 : decode cX5_together 48 = .ok (.bipush 12, 2) := by decide +kernel
theorem dX5_together_50 : decode cX5_together 50 = .ok (.iload_n 3, 1) := by decide +kernel
theorem dX5_together_51 : decode cX5_together 51 = .ok (.iadd, 1) := by decide +kernel
theorem dX5_together_52 : decode cX5_together 52 = .ok (.iaload, 1) := by decide +kernel
theorem dX5_together_53 : decode cX5_together 53 = .ok (.iconst 2, 1) := by decide +kernel
theorem dX5_together_54 : decode cX5_together 54 = .ok (.if_icmp .ne 12, 3) := by decide +kernel
theorem dX5_together_57 : decode cX5_together 57 = .ok (.aload_n 0, 1) := by decide +kernel
theorem dX5_together_58 : decode cX5_together 58 = .ok (.iconst 0, 1) := by decide +kernel
theorem dX5_together_59 : decode cX5_together 59 = .ok (.iload_n 3, 1) := by decide +kernel
theorem dX5_together_60 : decode cX5_together 60 = .ok (.invokevirtual 84, 3) := by decide +kernel
theorem dX5_together_63 : decode cX5_together 63 = .ok (.goto 4, 3) := by decide +kernel
theorem dX5_together_66 : decode cX5_together 66 = .ok (.iconst 0, 1) := by decide +kernel
theorem dX5_together_67 : decode cX5_together 67 = .ok (.iadd, 1) := by decide +kernel
theorem dX5_together_68 : decode cX5_together 68 = .ok (.istore_n 2, 1) := by decide +kernel
theorem dX5_together_69 : decode cX5_together 69 = .ok (.iinc 3 1, 3) := by decide +kernel
theorem dX5_together_72 : decode cX5_together 72 = .ok (.goto (-68), 3) := by decide +kernel
theorem dX5_together_75 : decode cX5_together 75 = .ok (.iload_n 2, 1) := by decide +kernel
theorem dX5_together_76 : decode cX5_together 76 = .ok (.ireturn, 1) := by decide +kernel
theorem dX5_count_0 : decode cX5_count 0 = .ok (.iload_n 1, 1) := by decide +kernel
theorem dX5_count_1 : decode cX5_count 1 = .ok (.tableswitch 91 0 8 #[51, 56, 61, 67, 75, 75, 75, 81, 86], 51) := by decide +kernel
theorem dX5_count_52 : decode cX5_count 52 = .ok (.aload_n 0, 1) := by decide +kernel
theorem dX5_count_53 : decode cX5_count 53 = .ok (.getfield 53, 3) := by decide +kernel
theorem dX5_count_56 : decode cX5_count 56 = .ok (.ireturn, 1) := by decide +kernel
theorem dX5_count_57 : decode cX5_count 57 = .ok (.aload_n 0, 1) := by decide +kernel
theorem dX5_count_58 : decode cX5_count 58 = .ok (.getfield 74, 3) := by decide +kernel
theorem dX5_count_61 : decode cX5_count 61 = .ok (.ireturn, 1) := by decide +kernel
theorem dX5_count_62 : decode cX5_count 62 = .ok (.aload_n 0, 1) := by decide +kernel
theorem dX5_count_63 : decode cX5_count 63 = .ok (.iconst 0, 1) := by decide +kernel
theorem dX5_count_64 : decode cX5_count 64 = .ok (.invokevirtual 140, 3) := by decide +kernel
theorem dX5_count_67 : decode cX5_count 67 = .ok (.ireturn, 1) := by decide +kernel
theorem dX5_count_68 : decode cX5_count 68 = .ok (.aload_n 0, 1) := by decide +kernel
theorem dX5_count_69 : decode cX5_count 69 = .ok (.getfield 13, 3) := by decide +kernel
theorem dX5_count_72 : decode cX5_count 72 = .ok (.bipush 30, 2) := by decide +kernel
theorem dX5_count_74 : decode cX5_count 74 = .ok (.iaload, 1) := by decide +kernel
theorem dX5_count_75 : decode cX5_count 75 = .ok (.ireturn, 1) := by decide +kernel
theorem dX5_count_76 : decode cX5_count 76 = .ok (.aload_n 0, 1) := by decide +kernel
theorem dX5_count_77 : decode cX5_count 77 = .ok (.iload_n 1, 1) := by decide +kernel
theorem dX5_count_78 : decode cX5_count 78 = .ok (.invokevirtual 209, 3) := by decide +kernel
theorem dX5_count_81 : decode cX5_count 81 = .ok (.ireturn, 1) := by decide +kernel
theorem dX5_count_82 : decode cX5_count 82 = .ok (.aload_n 0, 1) := by decide +kernel
theorem dX5_count_83 : decode cX5_count 83 = .ok (.getfield 77, 3) := by decide +kernel
theorem dX5_count_86 : decode cX5_count 86 = .ok (.ireturn, 1) := by decide +kernel
theorem dX5_count_87 : decode cX5_count 87 = .ok (.aload_n 0, 1) := by decide +kernel
theorem dX5_count_88 : decode cX5_count 88 = .ok (.getfield 175, 3) := by decide +kernel
theorem dX5_count_91 : decode cX5_count 91 = .ok (.ireturn, 1) := by decide +kernel
theorem dX5_count_92 : decode cX5_count 92 = .ok (.bipush (-2), 2) := by decide +kernel
theorem dX5_count_94 : decode cX5_count 94 = .ok (.ireturn, 1) := by decide +kernel
