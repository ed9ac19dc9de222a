theorem dX4_canBe_220 : decode cX4_canBe 220 = .ok (.ifCond .ne 24, 3) := by decide +kernel
theorem dX4_canBe_223 : decode cX4_canBe 223 = .ok (.iload 6, 2) := by decide +kernel
theorem dX4_canBe_225 : decode cX4_canBe 225 = .ok (.ifCond .ne 19, 3) := by decide +kernel
theorem dX4_canBe_228 : decode cX4_canBe 228 = .ok (.aload_n 0, 1) := by decide +kernel
theorem dX4_canBe_229 : decode cX4_canBe 229 = .ok (.getfield 23, 3) := by decide +kernel
theorem dX4_canBe_232 : decode cX4_canBe 232 = .ok (.iload 7, 2) := by decide +kernel
theorem dX4_canBe_234 : decode cX4_canBe 234 = .ok (.invokevirtual 87, 3) := by decide +kernel
theorem dX4_canBe_237 : decode cX4_canBe 237 = .ok (.ifCond .eq 7, 3) := by decide +kernel
theorem dX4_canBe_240 : decode cX4_canBe 240 = .ok (.iconst 1, 1) := by decide +kernel
theorem dX4_canBe_241 : decode cX4_canBe 241 = .ok (.goto 4, 3) := by decide +kernel
theorem dX4_canBe_244 : decode cX4_canBe 244 = .ok (.iconst 0, 1) := by decide +kernel
theorem dX4_canBe_245 : decode cX4_canBe 245 = .ok (.ireturn, 1) := by decide +kernel
theorem dX4_canBe_246 : decode cX4_canBe 246 = .ok (.aload_n 0, 1) := by decide +kernel
theorem dX4_canBe_247 : decode cX4_canBe 247 = .ok (.getfield 23, 3) := by decide +kernel
theorem dX4_canBe_250 : decode cX4_canBe 250 = .ok (.iload 5, 2) := by decide +kernel
theorem dX4_canBe_252 : decode cX4_canBe 252 = .ok (.invokevirtual 71, 3) := by decide +kernel
theorem dX4_canBe_255 : decode cX4_canBe 255 = .ok (.ifCond .eq 27, 3) := by decide +kernel
theorem dX4_canBe_258 : decode cX4_canBe 258 = .ok (.aload_n 0, 1) := by decide +kernel
theorem dX4_canBe_259 : decode cX4_canBe 259 = .ok (.getfield 23, 3) := by decide +kernel
theorem dX4_canBe_262 : decode cX4_canBe 262 = .ok (.iload 5, 2) := by decide +kernel
theorem dX4_canBe_264 : decode cX4_canBe 264 = .ok (.invokevirtual 90, 3) := by decide +kernel
theorem dX4_canBe_267 : decode cX4_canBe 267 = .ok (.bipush 10, 2) := by decide +kernel
theorem dX4_canBe_269 : decode cX4_canBe 269 = .ok (.iload 6, 2) := by decide +kernel
theorem dX4_canBe_271 : decode cX4_canBe 271 = .ok (.imul, 1) := by decide +kernel
theorem dX4_canBe_272 : decode cX4_canBe 272 = .ok (.iload 7, 2) := by decide +kernel
theorem dX4_canBe_274 : decode cX4_canBe 274 = .ok (.iadd, 1) := by decide +kernel
theorem dX4_canBe_275 : decode cX4_canBe 275 = .ok (.if_icmp .lt 7, 3) := by decide +kernel
theorem dX4_canBe_278 : decode cX4_canBe 278 = .ok (.iconst 1, 1) := by decide +kernel
theorem dX4_canBe_279 : decode cX4_canBe 279 = .ok (.goto 4, 3) := by decide +kernel
theorem dX4_canBe_282 : decode cX4_canBe 282 = .ok (.iconst 0, 1) := by decide +kernel
theorem dX4_canBe_283 : decode cX4_canBe 283 = .ok (.ireturn, 1) := by decide +kernel
theorem dX4_canBe_284 : decode cX4_canBe 284 = .ok (.iconst 0, 1) := by decide +kernel
theorem dX4_canBe_285 : decode cX4_canBe 285 = .ok (.ireturn, 1) := by decide +kernel
theorem dX4_see_0 : decode cX4_see 0 = .ok (.iload_n 1, 1) := by decide +kernel
theorem dX4_see_1 : decode cX4_see 1 = .ok (.iconst 1, 1) := by decide +kernel
theorem dX4_see_2 : decode cX4_see 2 = .ok (.if_icmp .lt 26, 3) := by decide +kernel
theorem dX4_see_5 : decode cX4_see 5 = .ok (.iload_n 1, 1) := by decide +kernel
theorem dX4_see_6 : decode cX4_see 6 = .ok (.bipush 9, 2) := by decide +kernel
theorem dX4_see_8 : decode cX4_see 8 = .ok (.if_icmp .gt 20, 3) := by decide +kernel
theorem dX4_see_11 : decode cX4_see 11 = .ok (.iload_n 2, 1) := by decide +kernel
theorem dX4_see_12 : decode cX4_see 12 = .ok (.ifCond .lt 16, 3) := by decide +kernel
theorem dX4_see_15 : decode cX4_see 15 = .ok (.iload_n 2, 1) := by decide +kernel
theorem dX4_see_16 : decode cX4_see 16 = .ok (.bipush 6, 2) := by decide +kernel
theorem dX4_see_18 : decode cX4_see 18 = .ok (.if_icmp .ge 10, 3) := by decide +kernel
theorem dX4_see_21 : decode cX4_see 21 = .ok (.iload_n 3, 1) := by decide +kernel
theorem dX4_see_22 : decode cX4_see 22 = .ok (.invokestatic 135, 3) := by decide +kernel
theorem dX4_see_25 : decode cX4_see 25 = .ok (.ifCond .ne 6, 3) := by decide +kernel
theorem dX4_see_28 : decode cX4_see 28 = .ok (.bipush (-2), 2) := by decide +kernel
theorem dX4_see_30 : decode cX4_see 30 = .ok (.ireturn, 1) := by decide +kernel
theorem dX4_see_31 : decode cX4_see 31 = .ok (.aload_n 0, 1) := by decide +kernel
theorem dX4_see_32 : decode cX4_see 32 = .ok (.getfield 36, 3) := by decide +kernel
theorem dX4_see_35 : decode cX4_see 35 = .ok (.iload_n 1, 1) := by decide +kernel
theorem dX4_see_36 : decode cX4_see 36 = .ok (.iload_n 2, 1) := by decide +kernel
theorem dX4_see_37 : decode cX4_see 37 = .ok (.iload_n 3, 1) := by decide +kernel
theorem dX4_see_38 : decode cX4_see 38 = .ok (.invokevirtual 206, 3) := by decide +kernel
theorem dX4_see_41 : decode cX4_see 41 = .ok (.ifCond .eq 13, 3) := by decide +kernel
theorem dX4_see_44 : decode cX4_see 44 = .ok (.aload_n 0, 1) := by decide +kernel
theorem dX4_see_45 : decode cX4_see 45 = .ok (.getfield 36, 3) := by decide +kernel
theorem dX4_see_48 : decode cX4_see 48 = .ok (.invokevirtual 210, 3) := by decide +kernel
theorem dX4_see_51 : decode cX4_see 51 = .ok (.goto 5, 3) := by decide +kernel
theorem dX4_see_54 : decode cX4_see 54 = .ok (.bipush (-4), 2) := by decide +kernel
theorem dX4_see_56 : decode cX4_see 56 = .ok (.ireturn, 1) := by decide +kernel
theorem dX4_unsee_0 : decode cX4_unsee 0 = .ok (.aload_n 0, 1) := by decide +kernel
theorem dX4_unsee_1 : decode cX4_unsee 1 = .ok (.getfield 36, 3) := by decide +kernel
theorem dX4_unsee_4 : decode cX4_unsee 4 = .ok (.invokevirtual 211, 3) := by decide +kernel
theorem dX4_unsee_7 : decode cX4_unsee 7 = .ok (.ireturn, 1) := by decide +kernel
theorem dX4_night_0 : decode cX4_night 0 = .ok (.iload_n 1, 1) := by decide +kernel
theorem dX4_night_1 : decode cX4_night 1 = .ok (.invokestatic 135, 3) := by decide +kernel
theorem dX4_night_4 : decode cX4_night 4 = .ok (.ifCond .ne 6, 3) := by decide +kernel
theorem dX4_night_7 : decode cX4_night 7 = .ok (.bipush (-2), 2) := by decide +kernel
theorem dX4_night_9 : decode cX4_night 9 = .ok (.ireturn, 1) := by decide +kernel
theorem dX4_night_10 : decode cX4_night 10 = .ok (.iconst 0, 1) := by decide +kernel
theorem dX4_night_11 : decode cX4_night 11 = .ok (.istore_n 2, 1) := by decide +kernel
theorem dX4_night_12 : decode cX4_night 12 = .ok (.bipush (-9), 2) := by decide +kernel
theorem dX4_night_14 : decode cX4_night 14 = .ok (.istore_n 3, 1) := by decide +kernel
theorem dX4_night_15 : decode cX4_night 15 = .ok (.iconst 0, 1) := by decide +kernel
theorem dX4_night_16 : decode cX4_night 16 = .ok (.istore 4, 2) := by decide +kernel
theorem dX4_night_18 : decode cX4_night 18 = .ok (.iload 4, 2) := by decide +kernel
theorem dX4_night_20 : decode cX4_night 20 = .ok (.aload_n 0, 1) := by decide +kernel
theorem dX4_night_21 : decode cX4_night 21 = .ok (.getfield 19, 3) := by decide +kernel
theorem dX4_night_24 : decode cX4_night 24 = .ok (.invokevirtual 68, 3) := by decide +kernel
theorem dX4_night_27 : decode cX4_night 27 = .ok (.if_icmp .ge 58, 3) := by decide +kernel
theorem dX4_night_30 : decode cX4_night 30 = .ok (.iconst 1, 1) := by decide +kernel
theorem dX4_night_31 : decode cX4_night 31 = .ok (.istore 5, 2) := by decide +kernel
theorem dX4_night_33 : decode cX4_night 33 = .ok (.iload 5, 2) := by decide +kernel
theorem dX4_night_35 : decode cX4_night 35 = .ok (.bipush 9, 2) := by decide +kernel
theorem dX4_night_37 : decode cX4_night 37 = .ok (.if_icmp .gt 42, 3) := by decide +kernel
theorem dX4_night_40 : decode cX4_night 40 = .ok (.aload_n 0, 1) := by decide +kernel
theorem dX4_night_41 : decode cX4_night 41 = .ok (.iload 4, 2) := by decide +kernel
theorem dX4_night_43 : decode cX4_night 43 = .ok (.iload 5, 2) := by decide +kernel
theorem dX4_night_45 : decode cX4_night 45 = .ok (.invokevirtual 212, 3) := by decide +kernel
theorem dX4_night_48 : decode cX4_night 48 = .ok (.ifCond .eq 25, 3) := by decide +kernel
theorem dX4_night_51 : decode cX4_night 51 = .ok (.iinc 2 1, 3) := by decide +kernel
theorem dX4_night_54 : decode cX4_night 54 = .ok (.iload_n 3, 1) := by decide +kernel
theorem dX4_night_55 : decode cX4_night 55 = .ok (.bipush (-9), 2) := by decide +kernel
theorem dX4_night_57 : decode cX4_night 57 = .ok (.if_icmp .ne 14, 3) := by decide +kernel
theorem dX4_night_60 : decode cX4_night 60 = .ok (.bipush 10, 2) := by decide +kernel
theorem dX4_night_62 : decode cX4_night 62 = .ok (.iload 4, 2) := by decide +kernel
theorem dX4_night_64 : decode cX4_night 64 = .ok (.imul, 1) := by decide +kernel
theorem dX4_night_65 : decode cX4_night 65 = .ok (.iload 5, 2) := by decide +kernel
theorem dX4_night_67 : decode cX4_night 67 = .ok (.iadd, 1) := by decide +kernel
theorem dX4_night_68 : decode cX4_night 68 = .ok (.goto 4, 3) := by decide +kernel
theorem dX4_night_71 : decode cX4_night 71 = .ok (.iload_n 3, 1) := by decide +kernel
theorem dX4_night_72 : decode cX4_night 72 = .ok (.istore_n 3, 1) := by decide +kernel
theorem dX4_night_73 : decode cX4_night 73 = .ok (.iinc 5 1, 3) := by decide +kernel
theorem dX4_night_76 : decode cX4_night 76 = .ok (.goto (-43), 3) := by decide +kernel
theorem dX4_night_79 : decode cX4_night 79 = .ok (.iinc 4 1, 3) := by decide +kernel
theorem dX4_night_82 : decode cX4_night 82 = .ok (.goto (-64), 3) := by decide +kernel
theorem dX4_night_85 : decode cX4_night 85 = .ok (.iload_n 1, 1) := by decide +kernel
theorem dX4_night_86 : decode cX4_night 86 = .ok (.ifCond .ne 7, 3) := by decide +kernel
theorem dX4_night_89 : decode cX4_night 89 = .ok (.iload_n 2, 1) := by decide +kernel
theorem dX4_night_90 : decode cX4_night 90 = .ok (.goto 4, 3) := by decide +kernel
theorem dX4_night_93 : decode cX4_night 93 = .ok (.iload_n 3, 1) := by decide +kernel
theorem dX4_night_94 : decode cX4_night 94 = .ok (.ireturn, 1) := by decide +kernel
theorem dX4_explainsSeen_0 : decode cX4_explainsSeen 0 = .ok (.aload_n 0, 1) := by decide +kernel
theorem dX4_explainsSeen_1 : decode cX4_explainsSeen 1 = .ok (.getfield 23, 3) := by decide +kernel
theorem dX4_explainsSeen_4 : decode cX4_explainsSeen 4 = .ok (.aload_n 0, 1) := by decide +kernel
theorem dX4_explainsSeen_5 : decode cX4_explainsSeen 5 = .ok (.getfield 19, 3) := by decide +kernel
theorem dX4_explainsSeen_8 : decode cX4_explainsSeen 8 = .ok (.invokevirtual 138, 3) := by decide +kernel
theorem dX4_explainsSeen_11 : decode cX4_explainsSeen 11 = .ok (.aload_n 0, 1) := by decide +kernel
theorem dX4_explainsSeen_12 : decode cX4_explainsSeen 12 = .ok (.getfield 23, 3) := by decide +kernel
theorem dX4_explainsSeen_15 : decode cX4_explainsSeen 15 = .ok (.iload_n 1, 1) := by decide +kernel
theorem dX4_explainsSeen_16 : decode cX4_explainsSeen 16 = .ok (.iload_n 2, 1) := by decide +kernel
theorem dX4_explainsSeen_17 : decode cX4_explainsSeen 17 = .ok (.invokevirtual 113, 3) := by decide +kernel
theorem dX4_explainsSeen_20 : decode cX4_explainsSeen 20 = .ok (.ifCond .ne 5, 3) := by decide +kernel
theorem dX4_explainsSeen_23 : decode cX4_explainsSeen 23 = .ok (.iconst 0, 1) := by decide +kernel
theorem dX4_explainsSeen_24 : decode cX4_explainsSeen 24 = .ok (.ireturn, 1) := by decide +kernel
theorem dX4_explainsSeen_25 : decode cX4_explainsSeen 25 = .ok (.iconst 1, 1) := by decide +kernel
theorem dX4_explainsSeen_26 : decode cX4_explainsSeen 26 = .ok (.istore_n 3, 1) := by decide +kernel
theorem dX4_explainsSeen_27 : decode cX4_explainsSeen 27 = .ok (.iload_n 3, 1) := by decide +kernel
theorem dX4_explainsSeen_28 : decode cX4_explainsSeen 28 = .ok (.bipush 9, 2) := by decide +kernel
theorem dX4_explainsSeen_30 : decode cX4_explainsSeen 30 = .ok (.if_icmp .gt 34, 3) := by decide +kernel
theorem dX4_explainsSeen_33 : decode cX4_explainsSeen 33 = .ok (.aload_n 0, 1) := by decide +kernel
theorem dX4_explainsSeen_34 : decode cX4_explainsSeen 34 = .ok (.getfield 23, 3) := by decide +kernel
theorem dX4_explainsSeen_37 : decode cX4_explainsSeen 37 = .ok (.invokevirtual 103, 3) := by decide +kernel
theorem dX4_explainsSeen_40 : decode cX4_explainsSeen 40 = .ok (.pop, 1) := by decide +kernel
theorem dX4_explainsSeen_41 : decode cX4_explainsSeen 41 = .ok (.aload_n 0, 1) := by decide +kernel
theorem dX4_explainsSeen_42 : decode cX4_explainsSeen 42 = .ok (.getfield 36, 3) := by decide +kernel
theorem dX4_explainsSeen_45 : decode cX4_explainsSeen 45 = .ok (.iload_n 3, 1) := by decide +kernel
theorem dX4_explainsSeen_46 : decode cX4_explainsSeen 46 = .ok (.aload_n 0, 1) := by decide +kernel
theorem dX4_explainsSeen_47 : decode cX4_explainsSeen 47 = .ok (.getfield 23, 3) := by decide +kernel
theorem dX4_explainsSeen_50 : decode cX4_explainsSeen 50 = .ok (.invokevirtual 215, 3) := by decide +kernel
theorem dX4_explainsSeen_53 : decode cX4_explainsSeen 53 = .ok (.ifCond .ne 5, 3) := by decide +kernel
theorem dX4_explainsSeen_56 : decode cX4_explainsSeen 56 = .ok (.iconst 0, 1) := by decide +kernel
theorem dX4_explainsSeen_57 : decode cX4_explainsSeen 57 = .ok (.ireturn, 1) := by decide +kernel
theorem dX4_explainsSeen_58 : decode cX4_explainsSeen 58 = .ok (.iinc 3 1, 3) := by decide +kernel
theorem dX4_explainsSeen_61 : decode cX4_explainsSeen 61 = .ok (.goto (-34), 3) := by decide +kernel
theorem dX4_explainsSeen_64 : decode cX4_explainsSeen 64 = .ok (.iconst 1, 1) := by decide +kernel
theorem dX4_explainsSeen_65 : decode cX4_explainsSeen 65 = .ok (.ireturn, 1) := by decide +kernel
theorem dX4_share_0 : decode cX4_share 0 = .ok (.aload_n 0, 1) := by decide +kernel
theorem dX4_share_1 : decode cX4_share 1 = .ok (.getfield 19, 3) := by decide +kernel
theorem dX4_share_4 : decode cX4_share 4 = .ok (.iload_n 1, 1) := by decide +kernel
theorem dX4_share_5 : decode cX4_share 5 = .ok (.invokevirtual 71, 3) := by decide +kernel
theorem dX4_share_8 : decode cX4_share 8 = .ok (.ifCond .ne 5, 3) := by decide +kernel
theorem dX4_share_11 : decode cX4_share 11 = .ok (.iconst (-1), 1) := by decide +kernel
theorem dX4_share_12 : decode cX4_share 12 = .ok (.ireturn, 1) := by decide +kernel
theorem dX4_share_13 : decode cX4_share 13 = .ok (.aload_n 0, 1) := by decide +kernel
theorem dX4_share_14 : decode cX4_share 14 = .ok (.getfield 19, 3) := by decide +kernel
theorem dX4_share_17 : decode cX4_share 17 = .ok (.invokevirtual 68, 3) := by decide +kernel
theorem dX4_share_20 : decode cX4_share 20 = .ok (.iconst 1, 1) := by decide +kernel
theorem dX4_share_21 : decode cX4_share 21 = .ok (.isub, 1) := by decide +kernel
theorem dX4_share_22 : decode cX4_share 22 = .ok (.istore_n 3, 1) := by decide +kernel
theorem dX4_share_23 : decode cX4_share 23 = .ok (.iconst 0, 1) := by decide +kernel
theorem dX4_share_24 : decode cX4_share 24 = .ok (.istore 4, 2) := by decide +kernel
theorem dX4_share_26 : decode cX4_share 26 = .ok (.iconst 0, 1) := by decide +kernel
theorem dX4_share_27 : decode cX4_share 27 = .ok (.istore 5, 2) := by decide +kernel
theorem dX4_share_29 : decode cX4_share 29 = .ok (.iload 5, 2) := by decide +kernel
theorem dX4_share_31 : decode cX4_share 31 = .ok (.iconst 1, 1) := by decide +kernel
theorem dX4_share_32 : decode cX4_share 32 = .ok (.aload_n 0, 1) := by decide +kernel
theorem dX4_share_33 : decode cX4_share 33 = .ok (.getfield 19, 3) := by decide +kernel
theorem dX4_share_36 : decode cX4_share 36 = .ok (.invokevirtual 68, 3) := by decide +kernel
theorem dX4_share_39 : decode cX4_share 39 = .ok (.ishl, 1) := by decide +kernel
theorem dX4_share_40 : decode cX4_share 40 = .ok (.if_icmp .ge 65, 3) := by decide +kernel
theorem dX4_share_43 : decode cX4_share 43 = .ok (.iload 5, 2) := by decide +kernel
theorem dX4_share_45 : decode cX4_share 45 = .ok (.iload_n 1, 1) := by decide +kernel
theorem dX4_share_46 : decode cX4_share 46 = .ok (.ishr, 1) := by decide +kernel
theorem dX4_share_47 : decode cX4_share 47 = .ok (.iconst 1, 1) := by decide +kernel
theorem dX4_share_48 : decode cX4_share 48 = .ok (.iand, 1) := by decide +kernel
theorem dX4_share_49 : decode cX4_share 49 = .ok (.ifCond .ne 50, 3) := by decide +kernel
theorem dX4_share_52 : decode cX4_share 52 = .ok (.iload 5, 2) := by decide +kernel
theorem dX4_share_54 : decode cX4_share 54 = .ok (.invokestatic 219, 3) := by decide +kernel
theorem dX4_share_57 : decode cX4_share 57 = .ok (.istore 6, 2) := by decide +kernel
theorem dX4_share_59 : decode cX4_share 59 = .ok (.aload_n 0, 1) := by decide +kernel
theorem dX4_share_60 : decode cX4_share 60 = .ok (.iload 5, 2) := by decide +kernel
theorem dX4_share_62 : decode cX4_share 62 = .ok (.invokevirtual 224, 3) := by decide +kernel
theorem dX4_share_65 : decode cX4_share 65 = .ok (.aload_n 0, 1) := by decide +kernel
theorem dX4_share_66 : decode cX4_share 66 = .ok (.iload 5, 2) := by decide +kernel
theorem dX4_share_68 : decode cX4_share 68 = .ok (.iconst 1, 1) := by decide +kernel
theorem dX4_share_69 : decode cX4_share 69 = .ok (.iload_n 1, 1) := by decide +kernel
theorem dX4_share_70 : decode cX4_share 70 = .ok (.ishl, 1) := by decide +kernel
theorem dX4_share_71 : decode cX4_share 71 = .ok (.ior, 1) := by decide +kernel
theorem dX4_share_72 : decode cX4_share 72 = .ok (.invokevirtual 224, 3) := by decide +kernel
theorem dX4_share_75 : decode cX4_share 75 = .ok (.isub, 1) := by decide +kernel
theorem dX4_share_76 : decode cX4_share 76 = .ok (.istore 7, 2) := by decide +kernel
theorem dX4_share_78 : decode cX4_share 78 = .ok (.iload 4, 2) := by decide +kernel
theorem dX4_share_80 : decode cX4_share 80 = .ok (.iload 7, 2) := by decide +kernel
theorem dX4_share_82 : decode cX4_share 82 = .ok (.iload 6, 2) := by decide +kernel
theorem dX4_share_84 : decode cX4_share 84 = .ok (.invokestatic 227, 3) := by decide +kernel
theorem dX4_share_87 : decode cX4_share 87 = .ok (.imul, 1) := by decide +kernel
theorem dX4_share_88 : decode cX4_share 88 = .ok (.iload_n 3, 1) := by decide +kernel
theorem dX4_share_89 : decode cX4_share 89 = .ok (.iload 6, 2) := by decide +kernel
theorem dX4_share_91 : decode cX4_share 91 = .ok (.isub, 1) := by decide +kernel
theorem dX4_share_92 : decode cX4_share 92 = .ok (.invokestatic 227, 3) := by decide +kernel
theorem dX4_share_95 : decode cX4_share 95 = .ok (.imul, 1) := by decide +kernel
theorem dX4_share_96 : decode cX4_share 96 = .ok (.iadd, 1) := by decide +kernel
theorem dX4_share_97 : decode cX4_share 97 = .ok (.istore 4, 2) := by decide +kernel
theorem dX4_share_99 : decode cX4_share 99 = .ok (.iinc 5 1, 3) := by decide +kernel
theorem dX4_share_102 : decode cX4_share 102 = .ok (.goto (-73), 3) := by decide +kernel
theorem dX4_share_105 : decode cX4_share 105 = .ok (.iload 4, 2) := by decide +kernel
theorem dX4_share_107 : decode cX4_share 107 = .ok (.aload_n 0, 1) := by decide +kernel
theorem dX4_share_108 : decode cX4_share 108 = .ok (.getfield 19, 3) := by decide +kernel
theorem dX4_share_111 : decode cX4_share 111 = .ok (.invokevirtual 68, 3) := by decide +kernel
theorem dX4_share_114 : decode cX4_share 114 = .ok (.invokestatic 227, 3) := by decide +kernel
theorem dX4_share_117 : decode cX4_share 117 = .ok (.iload_n 2, 1) := by decide +kernel
theorem dX4_share_118 : decode cX4_share 118 = .ok (.invokestatic 230, 3) := by decide +kernel
theorem dX4_share_121 : decode cX4_share 121 = .ok (.ireturn, 1) := by decide +kernel
theorem dX4_standingWithStonesOf_0 : decode cX4_standingWithStonesOf 0 = .ok (.aload_n 0, 1) := by decide +kernel
theorem dX4_standingWithStonesOf_1 : decode cX4_standingWithStonesOf 1 = .ok (.getfield 23, 3) := by decide +kernel
theorem dX4_standingWithStonesOf_4 : decode cX4_standingWithStonesOf 4 = .ok (.aload_n 0, 1) := by decide +kernel
theorem dX4_standingWithStonesOf_5 : decode cX4_standingWithStonesOf 5 = .ok (.getfield 19, 3) := by decide +kernel
theorem dX4_standingWithStonesOf_8 : decode cX4_standingWithStonesOf 8 = .ok (.invokevirtual 138, 3) := by decide +kernel
theorem dX4_standingWithStonesOf_11 : decode cX4_standingWithStonesOf 11 = .ok (.aload_n 0, 1) := by decide +kernel
theorem dX4_standingWithStonesOf_12 : decode cX4_standingWithStonesOf 12 = .ok (.getfield 23, 3) := by decide +kernel
theorem dX4_standingWithStonesOf_15 : decode cX4_standingWithStonesOf 15 = .ok (.iload_n 1, 1) := by decide +kernel
theorem dX4_standingWithStonesOf_16 : decode cX4_standingWithStonesOf 16 = .ok (.invokevirtual 234, 3) := by decide +kernel
theorem dX4_standingWithStonesOf_19 : decode cX4_standingWithStonesOf 19 = .ok (.aload_n 0, 1) := by decide +kernel
theorem dX4_standingWithStonesOf_20 : decode cX4_standingWithStonesOf 20 = .ok (.getfield 23, 3) := by decide +kernel
theorem dX4_standingWithStonesOf_23 : decode cX4_standingWithStonesOf 23 = .ok (.bipush 6, 2) := by decide +kernel
theorem dX4_standingWithStonesOf_25 : decode cX4_standingWithStonesOf 25 = .ok (.invokevirtual 141, 3) := by decide +kernel
theorem dX4_standingWithStonesOf_28 : decode cX4_standingWithStonesOf 28 = .ok (.aload_n 0, 1) := by decide +kernel
theorem dX4_standingWithStonesOf_29 : decode cX4_standingWithStonesOf 29 = .ok (.getfield 23, 3) := by decide +kernel
theorem dX4_standingWithStonesOf_32 : decode cX4_standingWithStonesOf 32 = .ok (.invokevirtual 145, 3) := by decide +kernel
theorem dX4_standingWithStonesOf_35 : decode cX4_standingWithStonesOf 35 = .ok (.invokestatic 219, 3) := by decide +kernel
theorem dX4_standingWithStonesOf_38 : decode cX4_standingWithStonesOf 38 = .ok (.ireturn, 1) := by decide +kernel
theorem dX4_rests_0 : decode cX4_rests 0 = .ok (.aload_n 0, 1) := by decide +kernel
theorem dX4_rests_1 : decode cX4_rests 1 = .ok (.getfield 19, 3) := by decide +kernel
theorem dX4_rests_4 : decode cX4_rests 4 = .ok (.iload_n 1, 1) := by decide +kernel
theorem dX4_rests_5 : decode cX4_rests 5 = .ok (.invokevirtual 71, 3) := by decide +kernel
theorem dX4_rests_8 : decode cX4_rests 8 = .ok (.ifCond .eq 14, 3) := by decide +kernel
theorem dX4_rests_11 : decode cX4_rests 11 = .ok (.aload_n 0, 1) := by decide +kernel
theorem dX4_rests_12 : decode cX4_rests 12 = .ok (.getfield 19, 3) := by decide +kernel
theorem dX4_rests_15 : decode cX4_rests 15 = .ok (.iload_n 2, 1) := by decide +kernel
theorem dX4_rests_16 : decode cX4_rests 16 = .ok (.invokevirtual 71, 3) := by decide +kernel
theorem dX4_rests_19 : decode cX4_rests 19 = .ok (.ifCond .ne 5, 3) := by decide +kernel
theorem dX4_rests_22 : decode cX4_rests 22 = .ok (.iconst (-1), 1) := by decide +kernel
theorem dX4_rests_23 : decode cX4_rests 23 = .ok (.ireturn, 1) := by decide +kernel
theorem dX4_rests_24 : decode cX4_rests 24 = .ok (.iload_n 1, 1) := by decide +kernel
theorem dX4_rests_25 : decode cX4_rests 25 = .ok (.iload_n 2, 1) := by decide +kernel
theorem dX4_rests_26 : decode cX4_rests 26 = .ok (.if_icmp .eq 10, 3) := by decide +kernel
theorem dX4_rests_29 : decode cX4_rests 29 = .ok (.iload_n 3, 1) := by decide +kernel
theorem dX4_rests_30 : decode cX4_rests 30 = .ok (.invokestatic 135, 3) := by decide +kernel
theorem dX4_rests_33 : decode cX4_rests 33 = .ok (.ifCond .ne 6, 3) := by decide +kernel
theorem dX4_rests_36 : decode cX4_rests 36 = .ok (.bipush (-2), 2) := by decide +kernel
theorem dX4_rests_38 : decode cX4_rests 38 = .ok (.ireturn, 1) := by decide +kernel
theorem dX4_rests_39 : decode cX4_rests 39 = .ok (.iconst 0, 1) := by decide +kernel
theorem dX4_rests_40 : decode cX4_rests 40 = .ok (.istore 4, 2) := by decide +kernel
theorem dX4_rests_42 : decode cX4_rests 42 = .ok (.bipush (-9), 2) := by decide +kernel
theorem dX4_rests_44 : decode cX4_rests 44 = .ok (.istore 5, 2) := by decide +kernel
theorem dX4_rests_46 : decode cX4_rests 46 = .ok (.iconst 0, 1) := by decide +kernel
theorem dX4_rests_47 : decode cX4_rests 47 = .ok (.istore 6, 2) := by decide +kernel
theorem dX4_rests_49 : decode cX4_rests 49 = .ok (.iload 6, 2) := by decide +kernel
theorem dX4_rests_51 : decode cX4_rests 51 = .ok (.iconst 1, 1) := by decide +kernel
theorem dX4_rests_52 : decode cX4_rests 52 = .ok (.if_icmp .gt 75, 3) := by decide +kernel
theorem dX4_rests_55 : decode cX4_rests 55 = .ok (.iconst 0, 1) := by decide +kernel
theorem dX4_rests_56 : decode cX4_rests 56 = .ok (.istore 7, 2) := by decide +kernel
theorem dX4_rests_58 : decode cX4_rests 58 = .ok (.iload 7, 2) := by decide +kernel
theorem dX4_rests_60 : decode cX4_rests 60 = .ok (.iconst 1, 1) := by decide +kernel
theorem dX4_rests_61 : decode cX4_rests 61 = .ok (.if_icmp .gt 60, 3) := by decide +kernel
theorem dX4_rests_64 : decode cX4_rests 64 = .ok (.aload_n 0, 1) := by decide +kernel
theorem dX4_rests_65 : decode cX4_rests 65 = .ok (.iload_n 1, 1) := by decide +kernel
theorem dX4_rests_66 : decode cX4_rests 66 = .ok (.iload 6, 2) := by decide +kernel
theorem dX4_rests_68 : decode cX4_rests 68 = .ok (.iload_n 2, 1) := by decide +kernel
theorem dX4_rests_69 : decode cX4_rests 69 = .ok (.iload 7, 2) := by decide +kernel
theorem dX4_rests_71 : decode cX4_rests 71 = .ok (.invokevirtual 237, 3) := by decide +kernel
theorem dX4_rests_74 : decode cX4_rests 74 = .ok (.ifCond .eq 41, 3) := by decide +kernel
theorem dX4_rests_77 : decode cX4_rests 77 = .ok (.aload_n 0, 1) := by decide +kernel
theorem dX4_rests_78 : decode cX4_rests 78 = .ok (.iload_n 2, 1) := by decide +kernel
theorem dX4_rests_79 : decode cX4_rests 79 = .ok (.iload 7, 2) := by decide +kernel
theorem dX4_rests_81 : decode cX4_rests 81 = .ok (.iload_n 1, 1) := by decide +kernel
theorem dX4_rests_82 : decode cX4_rests 82 = .ok (.iload 6, 2) := by decide +kernel
theorem dX4_rests_84 : decode cX4_rests 84 = .ok (.invokevirtual 237, 3) := by decide +kernel
theorem dX4_rests_87 : decode cX4_rests 87 = .ok (.ifCond .eq 28, 3) := by decide +kernel
theorem dX4_rests_90 : decode cX4_rests 90 = .ok (.iinc 4 1, 3) := by decide +kernel
theorem dX4_rests_93 : decode cX4_rests 93 = .ok (.iload 5, 2) := by decide +kernel
theorem dX4_rests_95 : decode cX4_rests 95 = .ok (.bipush (-9), 2) := by decide +kernel
theorem dX4_rests_97 : decode cX4_rests 97 = .ok (.if_icmp .ne 14, 3) := by decide +kernel
theorem dX4_rests_100 : decode cX4_rests 100 = .ok (.bipush 10, 2) := by decide +kernel
theorem dX4_rests_102 : decode cX4_rests 102 = .ok (.iload 6, 2) := by decide +kernel
theorem dX4_rests_104 : decode cX4_rests 104 = .ok (.imul, 1) := by decide +kernel
theorem dX4_rests_105 : decode cX4_rests 105 = .ok (.iload 7, 2) := by decide +kernel
theorem dX4_rests_107 : decode cX4_rests 107 = .ok (.iadd, 1) := by decide +kernel
theorem dX4_rests_108 : decode cX4_rests 108 = .ok (.goto 5, 3) := by decide +kernel
theorem dX4_rests_111 : decode cX4_rests 111 = .ok (.iload 5, 2) := by decide +kernel
theorem dX4_rests_113 : decode cX4_rests 113 = .ok (.istore 5, 2) := by decide +kernel
theorem dX4_rests_115 : decode cX4_rests 115 = .ok (.iinc 7 1, 3) := by decide +kernel
theorem dX4_rests_118 : decode cX4_rests 118 = .ok (.goto (-60), 3) := by decide +kernel
theorem dX4_rests_121 : decode cX4_rests 121 = .ok (.iinc 6 1, 3) := by decide +kernel
theorem dX4_rests_124 : decode cX4_rests 124 = .ok (.goto (-75), 3) := by decide +kernel
theorem dX4_rests_127 : decode cX4_rests 127 = .ok (.iload_n 3, 1) := by decide +kernel
theorem dX4_rests_128 : decode cX4_rests 128 = .ok (.ifCond .ne 8, 3) := by decide +kernel
theorem dX4_rests_131 : decode cX4_rests 131 = .ok (.iload 4, 2) := by decide +kernel
theorem dX4_rests_133 : decode cX4_rests 133 = .ok (.goto 5, 3) := by decide +kernel
theorem dX4_rests_136 : decode cX4_rests 136 = .ok (.iload 5, 2) := by decide +kernel
theorem dX4_rests_138 : decode cX4_rests 138 = .ok (.ireturn, 1) := by decide +kernel
theorem dX4_prefers_0 : decode cX4_prefers 0 = .ok (.aload_n 0, 1) := by decide +kernel
theorem dX4_prefers_1 : decode cX4_prefers 1 = .ok (.iload_n 1, 1) := by decide +kernel
theorem dX4_prefers_2 : decode cX4_prefers 2 = .ok (.iload_n 2, 1) := by decide +kernel
theorem dX4_prefers_3 : decode cX4_prefers 3 = .ok (.iload_n 3, 1) := by decide +kernel
theorem dX4_prefers_4 : decode cX4_prefers 4 = .ok (.iload 4, 2) := by decide +kernel
theorem dX4_prefers_6 : decode cX4_prefers 6 = .ok (.invokevirtual 240, 3) := by decide +kernel
theorem dX4_prefers_9 : decode cX4_prefers 9 = .ok (.aload_n 0, 1) := by decide +kernel
theorem dX4_prefers_10 : decode cX4_prefers 10 = .ok (.iload_n 1, 1) := by decide +kernel
theorem dX4_prefers_11 : decode cX4_prefers 11 = .ok (.iconst 1, 1) := by decide +kernel
theorem dX4_prefers_12 : decode cX4_prefers 12 = .ok (.iload_n 2, 1) := by decide +kernel
theorem dX4_prefers_13 : decode cX4_prefers 13 = .ok (.isub, 1) := by decide +kernel
theorem dX4_prefers_14 : decode cX4_prefers 14 = .ok (.iload_n 3, 1) := by decide +kernel
theorem dX4_prefers_15 : decode cX4_prefers 15 = .ok (.iload 4, 2) := by decide +kernel
theorem dX4_prefers_17 : decode cX4_prefers 17 = .ok (.invokevirtual 240, 3) := by decide +kernel
theorem dX4_prefers_20 : decode cX4_prefers 20 = .ok (.if_icmp .lt 7, 3) := by decide +kernel
theorem dX4_prefers_23 : decode cX4_prefers 23 = .ok (.iconst 1, 1) := by decide +kernel
theorem dX4_prefers_24 : decode cX4_prefers 24 = .ok (.goto 4, 3) := by decide +kernel
theorem dX4_prefers_27 : decode cX4_prefers 27 = .ok (.iconst 0, 1) := by decide +kernel
theorem dX4_prefers_28 : decode cX4_prefers 28 = .ok (.ireturn, 1) := by decide +kernel
theorem dX4_gain_0 : decode cX4_gain 0 = .ok (.aload_n 0, 1) := by decide +kernel
theorem dX4_gain_1 : decode cX4_gain 1 = .ok (.getfield 23, 3) := by decide +kernel
theorem dX4_gain_4 : decode cX4_gain 4 = .ok (.aload_n 0, 1) := by decide +kernel
theorem dX4_gain_5 : decode cX4_gain 5 = .ok (.getfield 19, 3) := by decide +kernel
theorem dX4_gain_8 : decode cX4_gain 8 = .ok (.invokevirtual 138, 3) := by decide +kernel
theorem dX4_gain_11 : decode cX4_gain 11 = .ok (.iload_n 2, 1) := by decide +kernel
theorem dX4_gain_12 : decode cX4_gain 12 = .ok (.iconst 1, 1) := by decide +kernel
theorem dX4_gain_13 : decode cX4_gain 13 = .ok (.if_icmp .ne 13, 3) := by decide +kernel
theorem dX4_gain_16 : decode cX4_gain 16 = .ok (.aload_n 0, 1) := by decide +kernel
theorem dX4_gain_17 : decode cX4_gain 17 = .ok (.getfield 23, 3) := by decide +kernel
theorem dX4_gain_20 : decode cX4_gain 20 = .ok (.iload_n 1, 1) := by decide +kernel
theorem dX4_gain_21 : decode cX4_gain 21 = .ok (.iconst 3, 1) := by decide +kernel
theorem dX4_gain_22 : decode cX4_gain 22 = .ok (.invokevirtual 113, 3) := by decide +kernel
theorem dX4_gain_25 : decode cX4_gain 25 = .ok (.pop, 1) := by decide +kernel
theorem dX4_gain_26 : decode cX4_gain 26 = .ok (.iload 4, 2) := by decide +kernel
theorem dX4_gain_28 : decode cX4_gain 28 = .ok (.iconst 1, 1) := by decide +kernel
theorem dX4_gain_29 : decode cX4_gain 29 = .ok (.if_icmp .ne 13, 3) := by decide +kernel
theorem dX4_gain_32 : decode cX4_gain 32 = .ok (.aload_n 0, 1) := by decide +kernel
theorem dX4_gain_33 : decode cX4_gain 33 = .ok (.getfield 23, 3) := by decide +kernel
theorem dX4_gain_36 : decode cX4_gain 36 = .ok (.iload_n 3, 1) := by decide +kernel
theorem dX4_gain_37 : decode cX4_gain 37 = .ok (.iconst 3, 1) := by decide +kernel
theorem dX4_gain_38 : decode cX4_gain 38 = .ok (.invokevirtual 113, 3) := by decide +kernel
theorem dX4_gain_41 : decode cX4_gain 41 = .ok (.pop, 1) := by decide +kernel
theorem dX4_gain_42 : decode cX4_gain 42 = .ok (.aload_n 0, 1) := by decide +kernel
theorem dX4_gain_43 : decode cX4_gain 43 = .ok (.getfield 23, 3) := by decide +kernel
theorem dX4_gain_46 : decode cX4_gain 46 = .ok (.iconst 4, 1) := by decide +kernel
theorem dX4_gain_47 : decode cX4_gain 47 = .ok (.invokevirtual 141, 3) := by decide +kernel
theorem dX4_gain_50 : decode cX4_gain 50 = .ok (.aload_n 0, 1) := by decide +kernel
theorem dX4_gain_51 : decode cX4_gain 51 = .ok (.getfield 23, 3) := by decide +kernel
theorem dX4_gain_54 : decode cX4_gain 54 = .ok (.iload_n 1, 1) := by decide +kernel
theorem dX4_gain_55 : decode cX4_gain 55 = .ok (.invokevirtual 96, 3) := by decide +kernel
theorem dX4_gain_58 : decode cX4_gain 58 = .ok (.aload_n 0, 1) := by decide +kernel
theorem dX4_gain_59 : decode cX4_gain 59 = .ok (.getfield 23, 3) := by decide +kernel
theorem dX4_gain_62 : decode cX4_gain 62 = .ok (.iload_n 1, 1) := by decide +kernel
theorem dX4_gain_63 : decode cX4_gain 63 = .ok (.invokevirtual 87, 3) := by decide +kernel
theorem dX4_gain_66 : decode cX4_gain 66 = .ok (.ifCond .eq 7, 3) := by decide +kernel
theorem dX4_gain_69 : decode cX4_gain 69 = .ok (.iconst 5, 1) := by decide +kernel
theorem dX4_gain_70 : decode cX4_gain 70 = .ok (.goto 4, 3) := by decide +kernel
theorem dX4_gain_73 : decode cX4_gain 73 = .ok (.iconst 0, 1) := by decide +kernel
theorem dX4_gain_74 : decode cX4_gain 74 = .ok (.iadd, 1) := by decide +kernel
theorem dX4_gain_75 : decode cX4_gain 75 = .ok (.iconst 2, 1) := by decide +kernel
theorem dX4_gain_76 : decode cX4_gain 76 = .ok (.iload_n 2, 1) := by decide +kernel
theorem dX4_gain_77 : decode cX4_gain 77 = .ok (.imul, 1) := by decide +kernel
theorem dX4_gain_78 : decode cX4_gain 78 = .ok (.isub, 1) := by decide +kernel
theorem dX4_gain_79 : decode cX4_gain 79 = .ok (.ireturn, 1) := by decide +kernel
theorem dX4_fails_0 : decode cX4_fails 0 = .ok (.iload_n 1, 1) := by decide +kernel
theorem dX4_fails_1 : decode cX4_fails 1 = .ok (.ifCond .lt 19, 3) := by decide +kernel
theorem dX4_fails_4 : decode cX4_fails 4 = .ok (.iload_n 1, 1) := by decide +kernel
theorem dX4_fails_5 : decode cX4_fails 5 = .ok (.bipush 6, 2) := by decide +kernel
theorem dX4_fails_7 : decode cX4_fails 7 = .ok (.if_icmp .gt 13, 3) := by decide +kernel
theorem dX4_fails_10 : decode cX4_fails 10 = .ok (.iload_n 2, 1) := by decide +kernel
theorem dX4_fails_11 : decode cX4_fails 11 = .ok (.ifCond .lt 9, 3) := by decide +kernel
theorem dX4_fails_14 : decode cX4_fails 14 = .ok (.iload_n 2, 1) := by decide +kernel
theorem dX4_fails_15 : decode cX4_fails 15 = .ok (.bipush 10, 2) := by decide +kernel
theorem dX4_fails_17 : decode cX4_fails 17 = .ok (.if_icmp .le 6, 3) := by decide +kernel
theorem dX4_fails_20 : decode cX4_fails 20 = .ok (.bipush (-2), 2) := by decide +kernel
theorem dX4_fails_22 : decode cX4_fails 22 = .ok (.ireturn, 1) := by decide +kernel
theorem dX4_fails_23 : decode cX4_fails 23 = .ok (.aload_n 0, 1) := by decide +kernel
theorem dX4_fails_24 : decode cX4_fails 24 = .ok (.getfield 19, 3) := by decide +kernel
theorem dX4_fails_27 : decode cX4_fails 27 = .ok (.invokevirtual 145, 3) := by decide +kernel
theorem dX4_fails_30 : decode cX4_fails 30 = .ok (.invokestatic 219, 3) := by decide +kernel
theorem dX4_fails_33 : decode cX4_fails 33 = .ok (.istore 4, 2) := by decide +kernel
theorem dX4_fails_35 : decode cX4_fails 35 = .ok (.iconst 0, 1) := by decide +kernel
theorem dX4_fails_36 : decode cX4_fails 36 = .ok (.istore 5, 2) := by decide +kernel
theorem dX4_fails_38 : decode cX4_fails 38 = .ok (.iconst 0, 1) := by decide +kernel
theorem dX4_fails_39 : decode cX4_fails 39 = .ok (.istore 6, 2) := by decide +kernel
theorem dX4_fails_41 : decode cX4_fails 41 = .ok (.iload 6, 2) := by decide +kernel
theorem dX4_fails_43 : decode cX4_fails 43 = .ok (.iconst 1, 1) := by decide +kernel
theorem dX4_fails_44 : decode cX4_fails 44 = .ok (.aload_n 0, 1) := by decide +kernel
theorem dX4_fails_45 : decode cX4_fails 45 = .ok (.getfield 19, 3) := by decide +kernel
theorem dX4_fails_48 : decode cX4_fails 48 = .ok (.invokevirtual 68, 3) := by decide +kernel
theorem dX4_fails_51 : decode cX4_fails 51 = .ok (.ishl, 1) := by decide +kernel
theorem dX4_fails_52 : decode cX4_fails 52 = .ok (.if_icmp .ge 77, 3) := by decide +kernel
theorem dX4_fails_55 : decode cX4_fails 55 = .ok (.iload 6, 2) := by decide +kernel
theorem dX4_fails_57 : decode cX4_fails 57 = .ok (.aload_n 0, 1) := by decide +kernel
theorem dX4_fails_58 : decode cX4_fails 58 = .ok (.getfield 19, 3) := by decide +kernel
theorem dX4_fails_61 : decode cX4_fails 61 = .ok (.invokevirtual 145, 3) := by decide +kernel
theorem dX4_fails_64 : decode cX4_fails 64 = .ok (.iconst (-1), 1) := by decide +kernel
theorem dX4_fails_65 : decode cX4_fails 65 = .ok (.ixor, 1) := by decide +kernel
theorem dX4_fails_66 : decode cX4_fails 66 = .ok (.iand, 1) := by decide +kernel
theorem dX4_fails_67 : decode cX4_fails 67 = .ok (.ifCond .ne 7, 3) := by decide +kernel
theorem dX4_fails_70 : decode cX4_fails 70 = .ok (.iconst 1, 1) := by decide +kernel
theorem dX4_fails_71 : decode cX4_fails 71 = .ok (.goto 4, 3) := by decide +kernel
theorem dX4_fails_74 : decode cX4_fails 74 = .ok (.iconst 0, 1) := by decide +kernel
theorem dX4_fails_75 : decode cX4_fails 75 = .ok (.istore 7, 2) := by decide +kernel
theorem dX4_fails_77 : decode cX4_fails 77 = .ok (.iload 7, 2) := by decide +kernel
theorem dX4_fails_79 : decode cX4_fails 79 = .ok (.ifCond .eq 44, 3) := by decide +kernel
theorem dX4_fails_82 : decode cX4_fails 82 = .ok (.aload_n 0, 1) := by decide +kernel
theorem dX4_fails_83 : decode cX4_fails 83 = .ok (.iload 6, 2) := by decide +kernel
theorem dX4_fails_85 : decode cX4_fails 85 = .ok (.invokevirtual 244, 3) := by decide +kernel
theorem dX4_fails_88 : decode cX4_fails 88 = .ok (.iload_n 1, 1) := by decide +kernel
theorem dX4_fails_89 : decode cX4_fails 89 = .ok (.if_icmp .lt 34, 3) := by decide +kernel
theorem dX4_fails_92 : decode cX4_fails 92 = .ok (.iload 6, 2) := by decide +kernel
theorem dX4_fails_94 : decode cX4_fails 94 = .ok (.invokestatic 219, 3) := by decide +kernel
theorem dX4_fails_97 : decode cX4_fails 97 = .ok (.istore 8, 2) := by decide +kernel
theorem dX4_fails_99 : decode cX4_fails 99 = .ok (.iload 5, 2) := by decide +kernel
theorem dX4_fails_101 : decode cX4_fails 101 = .ok (.iload_n 2, 1) := by decide +kernel
theorem dX4_fails_102 : decode cX4_fails 102 = .ok (.iload 8, 2) := by decide +kernel
theorem dX4_fails_104 : decode cX4_fails 104 = .ok (.invokestatic 247, 3) := by decide +kernel
theorem dX4_fails_107 : decode cX4_fails 107 = .ok (.bipush 10, 2) := by decide +kernel
theorem dX4_fails_109 : decode cX4_fails 109 = .ok (.iload_n 2, 1) := by decide +kernel
theorem dX4_fails_110 : decode cX4_fails 110 = .ok (.isub, 1) := by decide +kernel
theorem dX4_fails_111 : decode cX4_fails 111 = .ok (.iload 4, 2) := by decide +kernel
theorem dX4_fails_113 : decode cX4_fails 113 = .ok (.iload 8, 2) := by decide +kernel
theorem dX4_fails_115 : decode cX4_fails 115 = .ok (.isub, 1) := by decide +kernel
theorem dX4_fails_116 : decode cX4_fails 116 = .ok (.invokestatic 247, 3) := by decide +kernel
theorem dX4_fails_119 : decode cX4_fails 119 = .ok (.imul, 1) := by decide +kernel
theorem dX4_fails_120 : decode cX4_fails 120 = .ok (.iadd, 1) := by decide +kernel
theorem dX4_fails_121 : decode cX4_fails 121 = .ok (.istore 5, 2) := by decide +kernel
theorem dX4_fails_123 : decode cX4_fails 123 = .ok (.iinc 6 1, 3) := by decide +kernel
theorem dX4_fails_126 : decode cX4_fails 126 = .ok (.goto (-85), 3) := by decide +kernel
theorem dX4_fails_129 : decode cX4_fails 129 = .ok (.iload 5, 2) := by decide +kernel
theorem dX4_fails_131 : decode cX4_fails 131 = .ok (.bipush 10, 2) := by decide +kernel
theorem dX4_fails_133 : decode cX4_fails 133 = .ok (.iload 4, 2) := by decide +kernel
theorem dX4_fails_135 : decode cX4_fails 135 = .ok (.invokestatic 247, 3) := by decide +kernel
theorem dX4_fails_138 : decode cX4_fails 138 = .ok (.iload_n 3, 1) := by decide +kernel
theorem dX4_fails_139 : decode cX4_fails 139 = .ok (.invokestatic 230, 3) := by decide +kernel
theorem dX4_fails_142 : decode cX4_fails 142 = .ok (.ireturn, 1) := by decide +kernel
theorem dX4_standingWithFailed_0 : decode cX4_standingWithFailed 0 = .ok (.aload_n 0, 1) := by decide +kernel
theorem dX4_standingWithFailed_1 : decode cX4_standingWithFailed 1 = .ok (.getfield 23, 3) := by decide +kernel
theorem dX4_standingWithFailed_4 : decode cX4_standingWithFailed 4 = .ok (.aload_n 0, 1) := by decide +kernel
theorem dX4_standingWithFailed_5 : decode cX4_standingWithFailed 5 = .ok (.getfield 19, 3) := by decide +kernel
theorem dX4_standingWithFailed_8 : decode cX4_standingWithFailed 8 = .ok (.invokevirtual 138, 3) := by decide +kernel
theorem dX4_standingWithFailed_11 : decode cX4_standingWithFailed 11 = .ok (.aload_n 0, 1) := by decide +kernel
theorem dX4_standingWithFailed_12 : decode cX4_standingWithFailed 12 = .ok (.getfield 23, 3) := by decide +kernel
theorem dX4_standingWithFailed_15 : decode cX4_standingWithFailed 15 = .ok (.iload_n 1, 1) := by decide +kernel
theorem dX4_standingWithFailed_16 : decode cX4_standingWithFailed 16 = .ok (.invokevirtual 250, 3) := by decide +kernel
theorem dX4_standingWithFailed_19 : decode cX4_standingWithFailed 19 = .ok (.aload_n 0, 1) := by decide +kernel
theorem dX4_standingWithFailed_20 : decode cX4_standingWithFailed 20 = .ok (.getfield 23, 3) := by decide +kernel
theorem dX4_standingWithFailed_23 : decode cX4_standingWithFailed 23 = .ok (.iconst 3, 1) := by decide +kernel
theorem dX4_standingWithFailed_24 : decode cX4_standingWithFailed 24 = .ok (.invokevirtual 141, 3) := by decide +kernel
theorem dX4_standingWithFailed_27 : decode cX4_standingWithFailed 27 = .ok (.aload_n 0, 1) := by decide +kernel
theorem dX4_standingWithFailed_28 : decode cX4_standingWithFailed 28 = .ok (.getfield 23, 3) := by decide +kernel
theorem dX4_standingWithFailed_31 : decode cX4_standingWithFailed 31 = .ok (.invokevirtual 145, 3) := by decide +kernel
theorem dX4_standingWithFailed_34 : decode cX4_standingWithFailed 34 = .ok (.invokestatic 219, 3) := by decide +kernel
theorem dX4_standingWithFailed_37 : decode cX4_standingWithFailed 37 = .ok (.ireturn, 1) := by decide +kernel
theorem dX4_seed_0 : decode cX4_seed 0 = .ok (.aload_n 0, 1) := by decide +kernel
theorem dX4_seed_1 : decode cX4_seed 1 = .ok (.getfield 253, 3) := by decide +kernel
theorem dX4_seed_4 : decode cX4_seed 4 = .ok (.lstore_n 3, 1) := by decide +kernel
theorem dX4_seed_5 : decode cX4_seed 5 = .ok (.aload_n 0, 1) := by decide +kernel
theorem dX4_seed_6 : decode cX4_seed 6 = .ok (.lload_n 1, 1) := by decide +kernel
theorem dX4_seed_7 : decode cX4_seed 7 = .ok (.putfield 253, 3) := by decide +kernel
theorem dX4_seed_10 : decode cX4_seed 10 = .ok (.lload_n 3, 1) := by decide +kernel
theorem dX4_seed_11 : decode cX4_seed 11 = .ok (.lreturn, 1) := by decide +kernel
theorem dX4_years_0 : decode cX4_years 0 = .ok (.iload_n 1, 1) := by decide +kernel
theorem dX4_years_1 : decode cX4_years 1 = .ok (.iconst 1, 1) := by decide +kernel
theorem dX4_years_2 : decode cX4_years 2 = .ok (.if_icmp .lt 9, 3) := by decide +kernel
theorem dX4_years_5 : decode cX4_years 5 = .ok (.iload_n 1, 1) := by decide +kernel
theorem dX4_years_6 : decode cX4_years 6 = .ok (.bipush 30, 2) := by decide +kernel
theorem dX4_years_8 : decode cX4_years 8 = .ok (.if_icmp .le 6, 3) := by decide +kernel
theorem dX4_years_11 : decode cX4_years 11 = .ok (.bipush (-2), 2) := by decide +kernel
theorem dX4_years_13 : decode cX4_years 13 = .ok (.ireturn, 1) := by decide +kernel
theorem dX4_years_14 : decode cX4_years 14 = .ok (.aload_n 0, 1) := by decide +kernel
theorem dX4_years_15 : decode cX4_years 15 = .ok (.getfield 23, 3) := by decide +kernel
theorem dX4_years_18 : decode cX4_years 18 = .ok (.aload_n 0, 1) := by decide +kernel
theorem dX4_years_19 : decode cX4_years 19 = .ok (.getfield 19, 3) := by decide +kernel
theorem dX4_years_22 : decode cX4_years 22 = .ok (.invokevirtual 138, 3) := by decide +kernel
theorem dX4_years_25 : decode cX4_years 25 = .ok (.iconst 0, 1) := by decide +kernel
theorem dX4_years_26 : decode cX4_years 26 = .ok (.istore_n 2, 1) := by decide +kernel
theorem dX4_years_27 : decode cX4_years 27 = .ok (.iconst 0, 1) := by decide +kernel
theorem dX4_years_28 : decode cX4_years 28 = .ok (.istore_n 3, 1) := by decide +kernel
theorem dX4_years_29 : decode cX4_years 29 = .ok (.iload_n 3, 1) := by decide +kernel
theorem dX4_years_30 : decode cX4_years 30 = .ok (.iload_n 1, 1) := by decide +kernel
theorem dX4_years_31 : decode cX4_years 31 = .ok (.if_icmp .ge 54, 3) := by decide +kernel
theorem dX4_years_34 : decode cX4_years 34 = .ok (.aload_n 0, 1) := by decide +kernel
theorem dX4_years_35 : decode cX4_years 35 = .ok (.aload_n 0, 1) := by decide +kernel
theorem dX4_years_36 : decode cX4_years 36 = .ok (.getfield 253, 3) := by decide +kernel
theorem dX4_years_39 : decode cX4_years 39 = .ok (.ldc2_w 257, 3) := by decide +kernel
theorem dX4_years_42 : decode cX4_years 42 = .ok (.lmul, 1) := by decide +kernel
theorem dX4_years_43 : decode cX4_years 43 = .ok (.ldc2_w 259, 3) := by decide +kernel
theorem dX4_years_46 : decode cX4_years 46 = .ok (.ladd, 1) := by decide +kernel
theorem dX4_years_47 : decode cX4_years 47 = .ok (.putfield 253, 3) := by decide +kernel
theorem dX4_years_50 : decode cX4_years 50 = .ok (.aload_n 0, 1) := by decide +kernel
theorem dX4_years_51 : decode cX4_years 51 = .ok (.aload_n 0, 1) := by decide +kernel
theorem dX4_years_52 : decode cX4_years 52 = .ok (.getfield 253, 3) := by decide +kernel
theorem dX4_years_55 : decode cX4_years 55 = .ok (.bipush 33, 2) := by decide +kernel
theorem dX4_years_57 : decode cX4_years 57 = .ok (.lushr, 1) := by decide +kernel
theorem dX4_years_58 : decode cX4_years 58 = .ok (.ldc2_w 261, 3) := by decide +kernel
theorem dX4_years_61 : decode cX4_years 61 = .ok (.lrem, 1) := by decide +kernel
theorem dX4_years_62 : decode cX4_years 62 = .ok (.l2i, 1) := by decide +kernel
theorem dX4_years_63 : decode cX4_years 63 = .ok (.invokevirtual 263, 3) := by decide +kernel
theorem dX4_years_66 : decode cX4_years 66 = .ok (.iload_n 2, 1) := by decide +kernel
theorem dX4_years_67 : decode cX4_years 67 = .ok (.aload_n 0, 1) := by decide +kernel
theorem dX4_years_68 : decode cX4_years 68 = .ok (.getfield 23, 3) := by decide +kernel
theorem dX4_years_71 : decode cX4_years 71 = .ok (.invokevirtual 145, 3) := by decide +kernel
theorem dX4_years_74 : decode cX4_years 74 = .ok (.invokestatic 219, 3) := by decide +kernel
theorem dX4_years_77 : decode cX4_years 77 = .ok (.iadd, 1) := by decide +kernel
theorem dX4_years_78 : decode cX4_years 78 = .ok (.istore_n 2, 1) := by decide +kernel
theorem dX4_years_79 : decode cX4_years 79 = .ok (.iinc 3 1, 3) := by decide +kernel
theorem dX4_years_82 : decode cX4_years 82 = .ok (.goto (-53), 3) := by decide +kernel
theorem dX4_years_85 : decode cX4_years 85 = .ok (.iload_n 2, 1) := by decide +kernel
theorem dX4_years_86 : decode cX4_years 86 = .ok (.ireturn, 1) := by decide +kernel
theorem dX4_playYear_0 : decode cX4_playYear 0 = .ok (.iload_n 1, 1) := by decide +kernel
theorem dX4_playYear_1 : decode cX4_playYear 1 = .ok (.bipush 12, 2) := by decide +kernel
theorem dX4_playYear_3 : decode cX4_playYear 3 = .ok (.if_icmp .ge 22, 3) := by decide +kernel
theorem dX4_playYear_6 : decode cX4_playYear 6 = .ok (.aload_n 0, 1) := by decide +kernel
theorem dX4_playYear_7 : decode cX4_playYear 7 = .ok (.getfield 23, 3) := by decide +kernel
theorem dX4_playYear_10 : decode cX4_playYear 10 = .ok (.iload_n 1, 1) := by decide +kernel
theorem dX4_playYear_11 : decode cX4_playYear 11 = .ok (.iconst 2, 1) := by decide +kernel
theorem dX4_playYear_12 : decode cX4_playYear 12 = .ok (.idiv, 1) := by decide +kernel
theorem dX4_playYear_13 : decode cX4_playYear 13 = .ok (.iconst 1, 1) := by decide +kernel
theorem dX4_playYear_14 : decode cX4_playYear 14 = .ok (.iload_n 1, 1) := by decide +kernel
theorem dX4_playYear_15 : decode cX4_playYear 15 = .ok (.iconst 2, 1) := by decide +kernel
theorem dX4_playYear_16 : decode cX4_playYear 16 = .ok (.irem, 1) := by decide +kernel
theorem dX4_playYear_17 : decode cX4_playYear 17 = .ok (.iadd, 1) := by decide +kernel
theorem dX4_playYear_18 : decode cX4_playYear 18 = .ok (.invokevirtual 113, 3) := by decide +kernel
theorem dX4_playYear_21 : decode cX4_playYear 21 = .ok (.pop, 1) := by decide +kernel
theorem dX4_playYear_22 : decode cX4_playYear 22 = .ok (.goto 62, 3) := by decide +kernel
theorem dX4_playYear_25 : decode cX4_playYear 25 = .ok (.iload_n 1, 1) := by decide +kernel
theorem dX4_playYear_26 : decode cX4_playYear 26 = .ok (.bipush 18, 2) := by decide +kernel
theorem dX4_playYear_28 : decode cX4_playYear 28 = .ok (.if_icmp .ge 19, 3) := by decide +kernel
theorem dX4_playYear_31 : decode cX4_playYear 31 = .ok (.aload_n 0, 1) := by decide +kernel
theorem dX4_playYear_32 : decode cX4_playYear 32 = .ok (.getfield 23, 3) := by decide +kernel
theorem dX4_playYear_35 : decode cX4_playYear 35 = .ok (.iload_n 1, 1) := by decide +kernel
theorem dX4_playYear_36 : decode cX4_playYear 36 = .ok (.bipush 12, 2) := by decide +kernel
theorem dX4_playYear_38 : decode cX4_playYear 38 = .ok (.isub, 1) := by decide +kernel
theorem dX4_playYear_39 : decode cX4_playYear 39 = .ok (.iconst 1, 1) := by decide +kernel
theorem dX4_playYear_40 : decode cX4_playYear 40 = .ok (.invokevirtual 119, 3) := by decide +kernel
theorem dX4_playYear_43 : decode cX4_playYear 43 = .ok (.pop, 1) := by decide +kernel
theorem dX4_playYear_44 : decode cX4_playYear 44 = .ok (.goto 40, 3) := by decide +kernel
theorem dX4_playYear_47 : decode cX4_playYear 47 = .ok (.iload_n 1, 1) := by decide +kernel
theorem dX4_playYear_48 : decode cX4_playYear 48 = .ok (.bipush 36, 2) := by decide +kernel
theorem dX4_playYear_50 : decode cX4_playYear 50 = .ok (.if_icmp .ge 26, 3) := by decide +kernel
theorem dX4_playYear_53 : decode cX4_playYear 53 = .ok (.aload_n 0, 1) := by decide +kernel
theorem dX4_playYear_54 : decode cX4_playYear 54 = .ok (.getfield 23, 3) := by decide +kernel
theorem dX4_playYear_57 : decode cX4_playYear 57 = .ok (.iload_n 1, 1) := by decide +kernel
theorem dX4_playYear_58 : decode cX4_playYear 58 = .ok (.bipush 18, 2) := by decide +kernel
theorem dX4_playYear_60 : decode cX4_playYear 60 = .ok (.isub, 1) := by decide +kernel
theorem dX4_playYear_61 : decode cX4_playYear 61 = .ok (.iconst 3, 1) := by decide +kernel
theorem dX4_playYear_62 : decode cX4_playYear 62 = .ok (.idiv, 1) := by decide +kernel
theorem dX4_playYear_63 : decode cX4_playYear 63 = .ok (.iload_n 1, 1) := by decide +kernel
theorem dX4_playYear_64 : decode cX4_playYear 64 = .ok (.bipush 18, 2) := by decide +kernel
theorem dX4_playYear_66 : decode cX4_playYear 66 = .ok (.isub, 1) := by decide +kernel
theorem dX4_playYear_67 : decode cX4_playYear 67 = .ok (.iconst 3, 1) := by decide +kernel
theorem dX4_playYear_68 : decode cX4_playYear 68 = .ok (.irem, 1) := by decide +kernel
theorem dX4_playYear_69 : decode cX4_playYear 69 = .ok (.invokevirtual 125, 3) := by decide +kernel
theorem dX4_playYear_72 : decode cX4_playYear 72 = .ok (.pop, 1) := by decide +kernel
theorem dX4_playYear_73 : decode cX4_playYear 73 = .ok (.goto 11, 3) := by decide +kernel
theorem dX4_playYear_76 : decode cX4_playYear 76 = .ok (.aload_n 0, 1) := by decide +kernel
theorem dX4_playYear_77 : decode cX4_playYear 77 = .ok (.getfield 23, 3) := by decide +kernel
theorem dX4_playYear_80 : decode cX4_playYear 80 = .ok (.invokevirtual 103, 3) := by decide +kernel
theorem dX4_playYear_83 : decode cX4_playYear 83 = .ok (.pop, 1) := by decide +kernel
theorem dX4_playYear_84 : decode cX4_playYear 84 = .ok (.return_, 1) := by decide +kernel
theorem dX4_keep_0 : decode cX4_keep 0 = .ok (.iload_n 1, 1) := by decide +kernel
theorem dX4_keep_1 : decode cX4_keep 1 = .ok (.ifCond .lt 8, 3) := by decide +kernel
theorem dX4_keep_4 : decode cX4_keep 4 = .ok (.iload_n 1, 1) := by decide +kernel
theorem dX4_keep_5 : decode cX4_keep 5 = .ok (.iconst 2, 1) := by decide +kernel
theorem dX4_keep_6 : decode cX4_keep 6 = .ok (.if_icmp .lt 5, 3) := by decide +kernel
theorem dX4_keep_9 : decode cX4_keep 9 = .ok (.iconst (-1), 1) := by decide +kernel
theorem dX4_keep_10 : decode cX4_keep 10 = .ok (.ireturn, 1) := by decide +kernel
theorem dX4_keep_11 : decode cX4_keep 11 = .ok (.aload_n 0, 1) := by decide +kernel
theorem dX4_keep_12 : decode cX4_keep 12 = .ok (.getfield 40, 3) := by decide +kernel
theorem dX4_keep_15 : decode cX4_keep 15 = .ok (.iload_n 1, 1) := by decide +kernel
theorem dX4_keep_16 : decode cX4_keep 16 = .ok (.aaload, 1) := by decide +kernel
theorem dX4_keep_17 : decode cX4_keep 17 = .ok (.aload_n 0, 1) := by decide +kernel
theorem dX4_keep_18 : decode cX4_keep 18 = .ok (.getfield 19, 3) := by decide +kernel
theorem dX4_keep_21 : decode cX4_keep 21 = .ok (.invokevirtual 138, 3) := by decide +kernel
theorem dX4_keep_24 : decode cX4_keep 24 = .ok (.aload_n 0, 1) := by decide +kernel
theorem dX4_keep_25 : decode cX4_keep 25 = .ok (.dup, 1) := by decide +kernel
theorem dX4_keep_26 : decode cX4_keep 26 = .ok (.getfield 64, 3) := by decide +kernel
theorem dX4_keep_29 : decode cX4_keep 29 = .ok (.iconst 1, 1) := by decide +kernel
theorem dX4_keep_30 : decode cX4_keep 30 = .ok (.iload_n 1, 1) := by decide +kernel
theorem dX4_keep_31 : decode cX4_keep 31 = .ok (.ishl, 1) := by decide +kernel
theorem dX4_keep_32 : decode cX4_keep 32 = .ok (.ior, 1) := by decide +kernel
theorem dX4_keep_33 : decode cX4_keep 33 = .ok (.putfield 64, 3) := by decide +kernel
theorem dX4_keep_36 : decode cX4_keep 36 = .ok (.aload_n 0, 1) := by decide +kernel
theorem dX4_keep_37 : decode cX4_keep 37 = .ok (.getfield 19, 3) := by decide +kernel
theorem dX4_keep_40 : decode cX4_keep 40 = .ok (.invokevirtual 266, 3) := by decide +kernel
theorem dX4_keep_43 : decode cX4_keep 43 = .ok (.ireturn, 1) := by decide +kernel
theorem dX4_again_0 : decode cX4_again 0 = .ok (.iload_n 1, 1) := by decide +kernel
theorem dX4_again_1 : decode cX4_again 1 = .ok (.ifCond .lt 8, 3) := by decide +kernel
theorem dX4_again_4 : decode cX4_again 4 = .ok (.iload_n 1, 1) := by decide +kernel
theorem dX4_again_5 : decode cX4_again 5 = .ok (.iconst 2, 1) := by decide +kernel
theorem dX4_again_6 : decode cX4_again 6 = .ok (.if_icmp .lt 5, 3) := by decide +kernel
theorem dX4_again_9 : decode cX4_again 9 = .ok (.iconst (-1), 1) := by decide +kernel
theorem dX4_again_10 : decode cX4_again 10 = .ok (.ireturn, 1) := by decide +kernel
theorem dX4_again_11 : decode cX4_again 11 = .ok (.aload_n 0, 1) := by decide +kernel
theorem dX4_again_12 : decode cX4_again 12 = .ok (.getfield 64, 3) := by decide +kernel
theorem dX4_again_15 : decode cX4_again 15 = .ok (.iload_n 1, 1) := by decide +kernel
theorem dX4_again_16 : decode cX4_again 16 = .ok (.ishr, 1) := by decide +kernel
theorem dX4_again_17 : decode cX4_again 17 = .ok (.iconst 1, 1) := by decide +kernel
theorem dX4_again_18 : decode cX4_again 18 = .ok (.iand, 1) := by decide +kernel
theorem dX4_again_19 : decode cX4_again 19 = .ok (.ifCond .ne 6, 3) := by decide +kernel
theorem dX4_again_22 : decode cX4_again 22 = .ok (.bipush (-3), 2) := by decide +kernel
theorem dX4_again_24 : decode cX4_again 24 = .ok (.ireturn, 1) := by decide +kernel
theorem dX4_again_25 : decode cX4_again 25 = .ok (.aload_n 0, 1) := by decide +kernel
theorem dX4_again_26 : decode cX4_again 26 = .ok (.getfield 19, 3) := by decide +kernel
theorem dX4_again_29 : decode cX4_again 29 = .ok (.aload_n 0, 1) := by decide +kernel
theorem dX4_again_30 : decode cX4_again 30 = .ok (.getfield 40, 3) := by decide +kernel
theorem dX4_again_33 : decode cX4_again 33 = .ok (.iload_n 1, 1) := by decide +kernel
theorem dX4_again_34 : decode cX4_again 34 = .ok (.aaload, 1) := by decide +kernel
theorem dX4_again_35 : decode cX4_again 35 = .ok (.invokevirtual 138, 3) := by decide +kernel
theorem dX4_again_38 : decode cX4_again 38 = .ok (.aload_n 0, 1) := by decide +kernel
theorem dX4_again_39 : decode cX4_again 39 = .ok (.getfield 29, 3) := by decide +kernel
theorem dX4_again_42 : decode cX4_again 42 = .ok (.invokevirtual 62, 3) := by decide +kernel
theorem dX4_again_45 : decode cX4_again 45 = .ok (.aload_n 0, 1) := by decide +kernel
theorem dX4_again_46 : decode cX4_again 46 = .ok (.getfield 19, 3) := by decide +kernel
theorem dX4_again_49 : decode cX4_again 49 = .ok (.invokevirtual 266, 3) := by decide +kernel
theorem dX4_again_52 : decode cX4_again 52 = .ok (.ireturn, 1) := by decide +kernel
theorem dX4_count_0 : decode cX4_count 0 = .ok (.iload_n 1, 1) := by decide +kernel
theorem dX4_count_1 : decode cX4_count 1 = .ok (.tableswitch 123 0 8 #[51, 59, 67, 75, 83, 91, 99, 107, 115], 51) := by decide +kernel
theorem dX4_count_52 : decode cX4_count 52 = .ok (.aload_n 0, 1) := by decide +kernel
theorem dX4_count_53 : decode cX4_count 53 = .ok (.getfield 12, 3) := by decide +kernel
theorem dX4_count_56 : decode cX4_count 56 = .ok (.invokevirtual 48, 3) := by decide +kernel
theorem dX4_count_59 : decode cX4_count 59 = .ok (.ireturn, 1) := by decide +kernel
theorem dX4_count_60 : decode cX4_count 60 = .ok (.aload_n 0, 1) := by decide +kernel
theorem dX4_count_61 : decode cX4_count 61 = .ok (.getfield 19, 3) := by decide +kernel
theorem dX4_count_64 : decode cX4_count 64 = .ok (.invokevirtual 68, 3) := by decide +kernel
theorem dX4_count_67 : decode cX4_count 67 = .ok (.ireturn, 1) := by decide +kernel
theorem dX4_count_68 : decode cX4_count 68 = .ok (.aload_n 0, 1) := by decide +kernel
theorem dX4_count_69 : decode cX4_count 69 = .ok (.getfield 19, 3) := by decide +kernel
theorem dX4_count_72 : decode cX4_count 72 = .ok (.invokevirtual 145, 3) := by decide +kernel
theorem dX4_count_75 : decode cX4_count 75 = .ok (.ireturn, 1) := by decide +kernel
theorem dX4_count_76 : decode cX4_count 76 = .ok (.aload_n 0, 1) := by decide +kernel
theorem dX4_count_77 : decode cX4_count 77 = .ok (.getfield 19, 3) := by decide +kernel
theorem dX4_count_80 : decode cX4_count 80 = .ok (.invokevirtual 266, 3) := by decide +kernel
theorem dX4_count_83 : decode cX4_count 83 = .ok (.ireturn, 1) := by decide +kernel
theorem dX4_count_84 : decode cX4_count 84 = .ok (.aload_n 0, 1) := by decide +kernel
theorem dX4_count_85 : decode cX4_count 85 = .ok (.getfield 19, 3) := by decide +kernel
theorem dX4_count_88 : decode cX4_count 88 = .ok (.invokevirtual 269, 3) := by decide +kernel
theorem dX4_count_91 : decode cX4_count 91 = .ok (.ireturn, 1) := by decide +kernel
theorem dX4_count_92 : decode cX4_count 92 = .ok (.aload_n 0, 1) := by decide +kernel
theorem dX4_count_93 : decode cX4_count 93 = .ok (.getfield 19, 3) := by decide +kernel
theorem dX4_count_96 : decode cX4_count 96 = .ok (.invokevirtual 272, 3) := by decide +kernel
theorem dX4_count_99 : decode cX4_count 99 = .ok (.ireturn, 1) := by decide +kernel
theorem dX4_count_100 : decode cX4_count 100 = .ok (.aload_n 0, 1) := by decide +kernel
theorem dX4_count_101 : decode cX4_count 101 = .ok (.getfield 19, 3) := by decide +kernel
theorem dX4_count_104 : decode cX4_count 104 = .ok (.invokevirtual 275, 3) := by decide +kernel
theorem dX4_count_107 : decode cX4_count 107 = .ok (.ireturn, 1) := by decide +kernel
theorem dX4_count_108 : decode cX4_count 108 = .ok (.aload_n 0, 1) := by decide +kernel
theorem dX4_count_109 : decode cX4_count 109 = .ok (.getfield 29, 3) := by decide +kernel
theorem dX4_count_112 : decode cX4_count 112 = .ok (.invokevirtual 131, 3) := by decide +kernel
theorem dX4_count_115 : decode cX4_count 115 = .ok (.ireturn, 1) := by decide +kernel
theorem dX4_count_116 : decode cX4_count 116 = .ok (.aload_n 0, 1) := by decide +kernel
theorem dX4_count_117 : decode cX4_count 117 = .ok (.getfield 36, 3) := by decide +kernel
theorem dX4_count_120 : decode cX4_count 120 = .ok (.invokevirtual 210, 3) := by decide +kernel
theorem dX4_count_123 : decode cX4_count 123 = .ok (.ireturn, 1) := by decide +kernel
theorem dX4_count_124 : decode cX4_count 124 = .ok (.bipush (-2), 2) := by decide +kernel
theorem dX4_count_126 : decode cX4_count 126 = .ok (.ireturn, 1) := by decide +kernel
theorem dX4_isHalf_0 : decode cX4_isHalf 0 = .ok (.iload_n 0, 1) := by decide +kernel
theorem dX4_isHalf_1 : decode cX4_isHalf 1 = .ok (.ifCond .eq 8, 3) := by decide +kernel
theorem dX4_isHalf_4 : decode cX4_isHalf 4 = .ok (.iload_n 0, 1) := by decide +kernel
theorem dX4_isHalf_5 : decode cX4_isHalf 5 = .ok (.iconst 1, 1) := by decide +kernel
theorem dX4_isHalf_6 : decode cX4_isHalf 6 = .ok (.if_icmp .ne 7, 3) := by decide +kernel
theorem dX4_isHalf_9 : decode cX4_isHalf 9 = .ok (.iconst 1, 1) := by decide +kernel
theorem dX4_isHalf_10 : decode cX4_isHalf 10 = .ok (.goto 4, 3) := by decide +kernel
theorem dX4_isHalf_13 : decode cX4_isHalf 13 = .ok (.iconst 0, 1) := by decide +kernel
theorem dX4_isHalf_14 : decode cX4_isHalf 14 = .ok (.ireturn, 1) := by decide +kernel
theorem dX4_isCarried_0 : decode cX4_isCarried 0 = .ok (.iload_n 0, 1) := by decide +kernel
theorem dX4_isCarried_1 : decode cX4_isCarried 1 = .ok (.iconst 1, 1) := by decide +kernel
theorem dX4_isCarried_2 : decode cX4_isCarried 2 = .ok (.if_icmp .lt 13, 3) := by decide +kernel
theorem dX4_isCarried_5 : decode cX4_isCarried 5 = .ok (.iload_n 0, 1) := by decide +kernel
theorem dX4_isCarried_6 : decode cX4_isCarried 6 = .ok (.bipush 9, 2) := by decide +kernel
theorem dX4_isCarried_8 : decode cX4_isCarried 8 = .ok (.if_icmp .gt 7, 3) := by decide +kernel
theorem dX4_isCarried_11 : decode cX4_isCarried 11 = .ok (.iconst 1, 1) := by decide +kernel
theorem dX4_isCarried_12 : decode cX4_isCarried 12 = .ok (.goto 4, 3) := by decide +kernel
theorem dX4_isCarried_15 : decode cX4_isCarried 15 = .ok (.iconst 0, 1) := by decide +kernel
theorem dX4_isCarried_16 : decode cX4_isCarried 16 = .ok (.ireturn, 1) := by decide +kernel
theorem dX4_hasFigures_0 : decode cX4_hasFigures 0 = .ok (.lload_n 0, 1) := by decide +kernel
theorem dX4_hasFigures_1 : decode cX4_hasFigures 1 = .ok (.lstore_n 3, 1) := by decide +kernel
theorem dX4_hasFigures_2 : decode cX4_hasFigures 2 = .ok (.iconst 0, 1) := by decide +kernel
theorem dX4_hasFigures_3 : decode cX4_hasFigures 3 = .ok (.istore 5, 2) := by decide +kernel
theorem dX4_hasFigures_5 : decode cX4_hasFigures 5 = .ok (.iload 5, 2) := by decide +kernel
theorem dX4_hasFigures_7 : decode cX4_hasFigures 7 = .ok (.iload_n 2, 1) := by decide +kernel
theorem dX4_hasFigures_8 : decode cX4_hasFigures 8 = .ok (.if_icmp .ge 15, 3) := by decide +kernel
theorem dX4_hasFigures_11 : decode cX4_hasFigures 11 = .ok (.lload_n 3, 1) := by decide +kernel
theorem dX4_hasFigures_12 : decode cX4_hasFigures 12 = .ok (.ldc2_w 278, 3) := by decide +kernel
theorem dX4_hasFigures_15 : decode cX4_hasFigures 15 = .ok (.ldiv, 1) := by decide +kernel
theorem dX4_hasFigures_16 : decode cX4_hasFigures 16 = .ok (.lstore_n 3, 1) := by decide +kernel
theorem dX4_hasFigures_17 : decode cX4_hasFigures 17 = .ok (.iinc 5 1, 3) := by decide +kernel
theorem dX4_hasFigures_20 : decode cX4_hasFigures 20 = .ok (.goto (-15), 3) := by decide +kernel
theorem dX4_hasFigures_23 : decode cX4_hasFigures 23 = .ok (.lload_n 0, 1) := by decide +kernel
theorem dX4_hasFigures_24 : decode cX4_hasFigures 24 = .ok (.lconst 0, 1) := by decide +kernel
theorem dX4_hasFigures_25 : decode cX4_hasFigures 25 = .ok (.lcmp, 1) := by decide +kernel
theorem dX4_hasFigures_26 : decode cX4_hasFigures 26 = .ok (.ifCond .lt 13, 3) := by decide +kernel
theorem dX4_hasFigures_29 : decode cX4_hasFigures 29 = .ok (.lload_n 3, 1) := by decide +kernel
theorem dX4_hasFigures_30 : decode cX4_hasFigures 30 = .ok (.lconst 0, 1) := by decide +kernel
theorem dX4_hasFigures_31 : decode cX4_hasFigures 31 = .ok (.lcmp, 1) := by decide +kernel
theorem dX4_hasFigures_32 : decode cX4_hasFigures 32 = .ok (.ifCond .ne 7, 3) := by decide +kernel
theorem dX4_hasFigures_35 : decode cX4_hasFigures 35 = .ok (.iconst 1, 1) := by decide +kernel
theorem dX4_hasFigures_36 : decode cX4_hasFigures 36 = .ok (.goto 4, 3) := by decide +kernel
theorem dX4_hasFigures_39 : decode cX4_hasFigures 39 = .ok (.iconst 0, 1) := by decide +kernel
theorem dX4_hasFigures_40 : decode cX4_hasFigures 40 = .ok (.ireturn, 1) := by decide +kernel
theorem dX4_figure_0 : decode cX4_figure 0 = .ok (.lload_n 0, 1) := by decide +kernel
theorem dX4_figure_1 : decode cX4_figure 1 = .ok (.lstore 4, 2) := by decide +kernel
theorem dX4_figure_3 : decode cX4_figure 3 = .ok (.iload_n 2, 1) := by decide +kernel
theorem dX4_figure_4 : decode cX4_figure 4 = .ok (.iconst 1, 1) := by decide +kernel
theorem dX4_figure_5 : decode cX4_figure 5 = .ok (.isub, 1) := by decide +kernel
theorem dX4_figure_6 : decode cX4_figure 6 = .ok (.istore 6, 2) := by decide +kernel
theorem dX4_figure_8 : decode cX4_figure 8 = .ok (.iload 6, 2) := by decide +kernel
theorem dX4_figure_10 : decode cX4_figure 10 = .ok (.iload_n 3, 1) := by decide +kernel
theorem dX4_figure_11 : decode cX4_figure 11 = .ok (.if_icmp .le 17, 3) := by decide +kernel
theorem dX4_figure_14 : decode cX4_figure 14 = .ok (.lload 4, 2) := by decide +kernel
theorem dX4_figure_16 : decode cX4_figure 16 = .ok (.ldc2_w 278, 3) := by decide +kernel
theorem dX4_figure_19 : decode cX4_figure 19 = .ok (.ldiv, 1) := by decide +kernel
theorem dX4_figure_20 : decode cX4_figure 20 = .ok (.lstore 4, 2) := by decide +kernel
theorem dX4_figure_22 : decode cX4_figure 22 = .ok (.iinc 6 (-1), 3) := by decide +kernel
theorem dX4_figure_25 : decode cX4_figure 25 = .ok (.goto (-17), 3) := by decide +kernel
theorem dX4_figure_28 : decode cX4_figure 28 = .ok (.lload 4, 2) := by decide +kernel
theorem dX4_figure_30 : decode cX4_figure 30 = .ok (.ldc2_w 278, 3) := by decide +kernel
theorem dX4_figure_33 : decode cX4_figure 33 = .ok (.lrem, 1) := by decide +kernel
theorem dX4_figure_34 : decode cX4_figure 34 = .ok (.l2i, 1) := by decide +kernel
theorem dX4_figure_35 : decode cX4_figure 35 = .ok (.ireturn, 1) := by decide +kernel
theorem dX4_power_0 : decode cX4_power 0 = .ok (.iconst 1, 1) := by decide +kernel
theorem dX4_power_1 : decode cX4_power 1 = .ok (.istore_n 2, 1) := by decide +kernel
theorem dX4_power_2 : decode cX4_power 2 = .ok (.iconst 0, 1) := by decide +kernel
theorem dX4_power_3 : decode cX4_power 3 = .ok (.istore_n 3, 1) := by decide +kernel
theorem dX4_power_4 : decode cX4_power 4 = .ok (.iload_n 3, 1) := by decide +kernel
theorem dX4_power_5 : decode cX4_power 5 = .ok (.iload_n 1, 1) := by decide +kernel
theorem dX4_power_6 : decode cX4_power 6 = .ok (.if_icmp .ge 13, 3) := by decide +kernel
theorem dX4_power_9 : decode cX4_power 9 = .ok (.iload_n 2, 1) := by decide +kernel
theorem dX4_power_10 : decode cX4_power 10 = .ok (.iload_n 0, 1) := by decide +kernel
theorem dX4_power_11 : decode cX4_power 11 = .ok (.imul, 1) := by decide +kernel
theorem dX4_power_12 : decode cX4_power 12 = .ok (.istore_n 2, 1) := by decide +kernel
theorem dX4_power_13 : decode cX4_power 13 = .ok (.iinc 3 1, 3) := by decide +kernel
theorem dX4_power_16 : decode cX4_power 16 = .ok (.goto (-12), 3) := by decide +kernel
theorem dX4_power_19 : decode cX4_power 19 = .ok (.iload_n 2, 1) := by decide +kernel
theorem dX4_power_20 : decode cX4_power 20 = .ok (.ireturn, 1) := by decide +kernel
theorem dX4_factorial_0 : decode cX4_factorial 0 = .ok (.iconst 1, 1) := by decide +kernel
theorem dX4_factorial_1 : decode cX4_factorial 1 = .ok (.istore_n 1, 1) := by decide +kernel
theorem dX4_factorial_2 : decode cX4_factorial 2 = .ok (.iconst 2, 1) := by decide +kernel
theorem dX4_factorial_3 : decode cX4_factorial 3 = .ok (.istore_n 2, 1) := by decide +kernel
theorem dX4_factorial_4 : decode cX4_factorial 4 = .ok (.iload_n 2, 1) := by decide +kernel
theorem dX4_factorial_5 : decode cX4_factorial 5 = .ok (.iload_n 0, 1) := by decide +kernel
theorem dX4_factorial_6 : decode cX4_factorial 6 = .ok (.if_icmp .gt 13, 3) := by decide +kernel
theorem dX4_factorial_9 : decode cX4_factorial 9 = .ok (.iload_n 1, 1) := by decide +kernel
theorem dX4_factorial_10 : decode cX4_factorial 10 = .ok (.iload_n 2, 1) := by decide +kernel
theorem dX4_factorial_11 : decode cX4_factorial 11 = .ok (.imul, 1) := by decide +kernel
theorem dX4_factorial_12 : decode cX4_factorial 12 = .ok (.istore_n 1, 1) := by decide +kernel
theorem dX4_factorial_13 : decode cX4_factorial 13 = .ok (.iinc 2 1, 3) := by decide +kernel
theorem dX4_factorial_16 : decode cX4_factorial 16 = .ok (.goto (-12), 3) := by decide +kernel
theorem dX4_factorial_19 : decode cX4_factorial 19 = .ok (.iload_n 1, 1) := by decide +kernel
theorem dX4_factorial_20 : decode cX4_factorial 20 = .ok (.ireturn, 1) := by decide +kernel
theorem dX4_partOfFraction_0 : decode cX4_partOfFraction 0 = .ok (.iload_n 0, 1) := by decide +kernel
theorem dX4_partOfFraction_1 : decode cX4_partOfFraction 1 = .ok (.invokestatic 280, 3) := by decide +kernel
theorem dX4_partOfFraction_4 : decode cX4_partOfFraction 4 = .ok (.iload_n 1, 1) := by decide +kernel
theorem dX4_partOfFraction_5 : decode cX4_partOfFraction 5 = .ok (.invokestatic 283, 3) := by decide +kernel
theorem dX4_partOfFraction_8 : decode cX4_partOfFraction 8 = .ok (.istore_n 3, 1) := by decide +kernel
theorem dX4_partOfFraction_9 : decode cX4_partOfFraction 9 = .ok (.iload_n 2, 1) := by decide +kernel
theorem dX4_partOfFraction_10 : decode cX4_partOfFraction 10 = .ok (.ifCond .eq 7, 3) := by decide +kernel
theorem dX4_partOfFraction_13 : decode cX4_partOfFraction 13 = .ok (.iload_n 0, 1) := by decide +kernel
theorem dX4_partOfFraction_14 : decode cX4_partOfFraction 14 = .ok (.goto 4, 3) := by decide +kernel
theorem dX4_partOfFraction_17 : decode cX4_partOfFraction 17 = .ok (.iload_n 1, 1) := by decide +kernel
theorem dX4_partOfFraction_18 : decode cX4_partOfFraction 18 = .ok (.iload_n 3, 1) := by decide +kernel
theorem dX4_partOfFraction_19 : decode cX4_partOfFraction 19 = .ok (.idiv, 1) := by decide +kernel
theorem dX4_partOfFraction_20 : decode cX4_partOfFraction 20 = .ok (.ireturn, 1) := by decide +kernel
theorem dX4_commonDivisor_0 : decode cX4_commonDivisor 0 = .ok (.iload_n 0, 1) := by decide +kernel
theorem dX4_commonDivisor_1 : decode cX4_commonDivisor 1 = .ok (.istore_n 2, 1) := by decide +kernel
theorem dX4_commonDivisor_2 : decode cX4_commonDivisor 2 = .ok (.iload_n 1, 1) := by decide +kernel
theorem dX4_commonDivisor_3 : decode cX4_commonDivisor 3 = .ok (.istore_n 3, 1) := by decide +kernel
theorem dX4_commonDivisor_4 : decode cX4_commonDivisor 4 = .ok (.iconst 0, 1) := by decide +kernel
theorem dX4_commonDivisor_5 : decode cX4_commonDivisor 5 = .ok (.istore 4, 2) := by decide +kernel
theorem dX4_commonDivisor_7 : decode cX4_commonDivisor 7 = .ok (.iload 4, 2) := by decide +kernel
theorem dX4_commonDivisor_9 : decode cX4_commonDivisor 9 = .ok (.bipush 64, 2) := by decide +kernel
theorem dX4_commonDivisor_11 : decode cX4_commonDivisor 11 = .ok (.if_icmp .ge 23, 3) := by decide +kernel
theorem dX4_commonDivisor_14 : decode cX4_commonDivisor 14 = .ok (.iload_n 3, 1) := by decide +kernel
theorem dX4_commonDivisor_15 : decode cX4_commonDivisor 15 = .ok (.ifCond .eq 19, 3) := by decide +kernel
theorem dX4_commonDivisor_18 : decode cX4_commonDivisor 18 = .ok (.iload_n 2, 1) := by decide +kernel
theorem dX4_commonDivisor_19 : decode cX4_commonDivisor 19 = .ok (.iload_n 3, 1) := by decide +kernel
theorem dX4_commonDivisor_20 : decode cX4_commonDivisor 20 = .ok (.irem, 1) := by decide +kernel
theorem dX4_commonDivisor_21 : decode cX4_commonDivisor 21 = .ok (.istore 5, 2) := by decide +kernel
theorem dX4_commonDivisor_23 : decode cX4_commonDivisor 23 = .ok (.iload_n 3, 1) := by decide +kernel
theorem dX4_commonDivisor_24 : decode cX4_commonDivisor 24 = .ok (.istore_n 2, 1) := by decide +kernel
theorem dX4_commonDivisor_25 : decode cX4_commonDivisor 25 = .ok (.iload 5, 2) := by decide +kernel
theorem dX4_commonDivisor_27 : decode cX4_commonDivisor 27 = .ok (.istore_n 3, 1) := by decide +kernel
theorem dX4_commonDivisor_28 : decode cX4_commonDivisor 28 = .ok (.iinc 4 1, 3) := by decide +kernel
theorem dX4_commonDivisor_31 : decode cX4_commonDivisor 31 = .ok (.goto (-24), 3) := by decide +kernel
theorem dX4_commonDivisor_34 : decode cX4_commonDivisor 34 = .ok (.iconst 1, 1) := by decide +kernel
theorem dX4_commonDivisor_35 : decode cX4_commonDivisor 35 = .ok (.iload_n 2, 1) := by decide +kernel
theorem dX4_commonDivisor_36 : decode cX4_commonDivisor 36 = .ok (.invokestatic 286, 3) := by decide +kernel
theorem dX4_commonDivisor_39 : decode cX4_commonDivisor 39 = .ok (.ireturn, 1) := by decide +kernel
