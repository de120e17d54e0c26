theorem dX12_cheapAt_243 : decode cX12_cheapAt 243 = .ok (.getfield 194, 3) := by decide +kernel
theorem dX12_cheapAt_246 : decode cX12_cheapAt 246 = .ok (.iload 9, 2) := by decide +kernel
theorem dX12_cheapAt_248 : decode cX12_cheapAt 248 = .ok (.iaload, 1) := by decide +kernel
theorem dX12_cheapAt_249 : decode cX12_cheapAt 249 = .ok (.ior, 1) := by decide +kernel
theorem dX12_cheapAt_250 : decode cX12_cheapAt 250 = .ok (.istore 6, 2) := by decide +kernel
theorem dX12_cheapAt_252 : decode cX12_cheapAt 252 = .ok (.iinc 8 1, 3) := by decide +kernel
theorem dX12_cheapAt_255 : decode cX12_cheapAt 255 = .ok (.goto (-198), 3) := by decide +kernel
theorem dX12_cheapAt_258 : decode cX12_cheapAt 258 = .ok (.iconst (-1), 1) := by decide +kernel
theorem dX12_cheapAt_259 : decode cX12_cheapAt 259 = .ok (.ireturn, 1) := by decide +kernel
theorem dX12_youngerIn_0 : decode cX12_youngerIn 0 = .ok (.iconst 0, 1) := by decide +kernel
theorem dX12_youngerIn_1 : decode cX12_youngerIn 1 = .ok (.istore_n 3, 1) := by decide +kernel
theorem dX12_youngerIn_2 : decode cX12_youngerIn 2 = .ok (.aload_n 0, 1) := by decide +kernel
theorem dX12_youngerIn_3 : decode cX12_youngerIn 3 = .ok (.iload_n 1, 1) := by decide +kernel
theorem dX12_youngerIn_4 : decode cX12_youngerIn 4 = .ok (.iload_n 2, 1) := by decide +kernel
theorem dX12_youngerIn_5 : decode cX12_youngerIn 5 = .ok (.invokevirtual 396, 3) := by decide +kernel
theorem dX12_youngerIn_8 : decode cX12_youngerIn 8 = .ok (.ifCond .ge 5, 3) := by decide +kernel
theorem dX12_youngerIn_11 : decode cX12_youngerIn 11 = .ok (.iconst 0, 1) := by decide +kernel
theorem dX12_youngerIn_12 : decode cX12_youngerIn 12 = .ok (.ireturn, 1) := by decide +kernel
theorem dX12_youngerIn_13 : decode cX12_youngerIn 13 = .ok (.aload_n 0, 1) := by decide +kernel
theorem dX12_youngerIn_14 : decode cX12_youngerIn 14 = .ok (.aload_n 0, 1) := by decide +kernel
theorem dX12_youngerIn_15 : decode cX12_youngerIn 15 = .ok (.iload_n 1, 1) := by decide +kernel
theorem dX12_youngerIn_16 : decode cX12_youngerIn 16 = .ok (.iload_n 2, 1) := by decide +kernel
theorem dX12_youngerIn_17 : decode cX12_youngerIn 17 = .ok (.invokevirtual 396, 3) := by decide +kernel
theorem dX12_youngerIn_20 : decode cX12_youngerIn 20 = .ok (.iload_n 2, 1) := by decide +kernel
theorem dX12_youngerIn_21 : decode cX12_youngerIn 21 = .ok (.invokevirtual 424, 3) := by decide +kernel
theorem dX12_youngerIn_24 : decode cX12_youngerIn 24 = .ok (.istore 4, 2) := by decide +kernel
theorem dX12_youngerIn_26 : decode cX12_youngerIn 26 = .ok (.iconst 0, 1) := by decide +kernel
theorem dX12_youngerIn_27 : decode cX12_youngerIn 27 = .ok (.istore 5, 2) := by decide +kernel
theorem dX12_youngerIn_29 : decode cX12_youngerIn 29 = .ok (.iload 5, 2) := by decide +kernel
theorem dX12_youngerIn_31 : decode cX12_youngerIn 31 = .ok (.aload_n 0, 1) := by decide +kernel
theorem dX12_youngerIn_32 : decode cX12_youngerIn 32 = .ok (.iconst 1, 1) := by decide +kernel
theorem dX12_youngerIn_33 : decode cX12_youngerIn 33 = .ok (.invokevirtual 383, 3) := by decide +kernel
theorem dX12_youngerIn_36 : decode cX12_youngerIn 36 = .ok (.if_icmp .ge 43, 3) := by decide +kernel
theorem dX12_youngerIn_39 : decode cX12_youngerIn 39 = .ok (.iload 4, 2) := by decide +kernel
theorem dX12_youngerIn_41 : decode cX12_youngerIn 41 = .ok (.iload 5, 2) := by decide +kernel
theorem dX12_youngerIn_43 : decode cX12_youngerIn 43 = .ok (.ishr, 1) := by decide +kernel
theorem dX12_youngerIn_44 : decode cX12_youngerIn 44 = .ok (.iconst 1, 1) := by decide +kernel
theorem dX12_youngerIn_45 : decode cX12_youngerIn 45 = .ok (.iand, 1) := by decide +kernel
theorem dX12_youngerIn_46 : decode cX12_youngerIn 46 = .ok (.iconst 1, 1) := by decide +kernel
theorem dX12_youngerIn_47 : decode cX12_youngerIn 47 = .ok (.if_icmp .ne 26, 3) := by decide +kernel
theorem dX12_youngerIn_50 : decode cX12_youngerIn 50 = .ok (.aload_n 0, 1) := by decide +kernel
theorem dX12_youngerIn_51 : decode cX12_youngerIn 51 = .ok (.iload 5, 2) := by decide +kernel
theorem dX12_youngerIn_53 : decode cX12_youngerIn 53 = .ok (.iload_n 2, 1) := by decide +kernel
theorem dX12_youngerIn_54 : decode cX12_youngerIn 54 = .ok (.invokevirtual 403, 3) := by decide +kernel
theorem dX12_youngerIn_57 : decode cX12_youngerIn 57 = .ok (.aload_n 0, 1) := by decide +kernel
theorem dX12_youngerIn_58 : decode cX12_youngerIn 58 = .ok (.iload_n 1, 1) := by decide +kernel
theorem dX12_youngerIn_59 : decode cX12_youngerIn 59 = .ok (.iload_n 2, 1) := by decide +kernel
theorem dX12_youngerIn_60 : decode cX12_youngerIn 60 = .ok (.invokevirtual 403, 3) := by decide +kernel
theorem dX12_youngerIn_63 : decode cX12_youngerIn 63 = .ok (.if_icmp .ge 10, 3) := by decide +kernel
theorem dX12_youngerIn_66 : decode cX12_youngerIn 66 = .ok (.iload_n 3, 1) := by decide +kernel
theorem dX12_youngerIn_67 : decode cX12_youngerIn 67 = .ok (.iconst 1, 1) := by decide +kernel
theorem dX12_youngerIn_68 : decode cX12_youngerIn 68 = .ok (.iload 5, 2) := by decide +kernel
theorem dX12_youngerIn_70 : decode cX12_youngerIn 70 = .ok (.ishl, 1) := by decide +kernel
theorem dX12_youngerIn_71 : decode cX12_youngerIn 71 = .ok (.ior, 1) := by decide +kernel
theorem dX12_youngerIn_72 : decode cX12_youngerIn 72 = .ok (.istore_n 3, 1) := by decide +kernel
theorem dX12_youngerIn_73 : decode cX12_youngerIn 73 = .ok (.iinc 5 1, 3) := by decide +kernel
theorem dX12_youngerIn_76 : decode cX12_youngerIn 76 = .ok (.goto (-47), 3) := by decide +kernel
theorem dX12_youngerIn_79 : decode cX12_youngerIn 79 = .ok (.iload_n 3, 1) := by decide +kernel
theorem dX12_youngerIn_80 : decode cX12_youngerIn 80 = .ok (.ireturn, 1) := by decide +kernel
theorem dX12_secret_0 : decode cX12_secret 0 = .ok (.aload_n 0, 1) := by decide +kernel
theorem dX12_secret_1 : decode cX12_secret 1 = .ok (.iload_n 1, 1) := by decide +kernel
theorem dX12_secret_2 : decode cX12_secret 2 = .ok (.invokevirtual 415, 3) := by decide +kernel
theorem dX12_secret_5 : decode cX12_secret 5 = .ok (.ifCond .eq 10, 3) := by decide +kernel
theorem dX12_secret_8 : decode cX12_secret 8 = .ok (.iload_n 2, 1) := by decide +kernel
theorem dX12_secret_9 : decode cX12_secret 9 = .ok (.invokestatic 418, 3) := by decide +kernel
theorem dX12_secret_12 : decode cX12_secret 12 = .ok (.ifCond .ne 5, 3) := by decide +kernel
theorem dX12_secret_15 : decode cX12_secret 15 = .ok (.iconst (-1), 1) := by decide +kernel
theorem dX12_secret_16 : decode cX12_secret 16 = .ok (.ireturn, 1) := by decide +kernel
theorem dX12_secret_17 : decode cX12_secret 17 = .ok (.aload_n 0, 1) := by decide +kernel
theorem dX12_secret_18 : decode cX12_secret 18 = .ok (.iconst 0, 1) := by decide +kernel
theorem dX12_secret_19 : decode cX12_secret 19 = .ok (.putfield 390, 3) := by decide +kernel
theorem dX12_secret_22 : decode cX12_secret 22 = .ok (.aload_n 0, 1) := by decide +kernel
theorem dX12_secret_23 : decode cX12_secret 23 = .ok (.iload_n 1, 1) := by decide +kernel
theorem dX12_secret_24 : decode cX12_secret 24 = .ok (.iload_n 2, 1) := by decide +kernel
theorem dX12_secret_25 : decode cX12_secret 25 = .ok (.invokevirtual 520, 3) := by decide +kernel
theorem dX12_secret_28 : decode cX12_secret 28 = .ok (.ifCond .eq 6, 3) := by decide +kernel
theorem dX12_secret_31 : decode cX12_secret 31 = .ok (.bipush (-2), 2) := by decide +kernel
theorem dX12_secret_33 : decode cX12_secret 33 = .ok (.ireturn, 1) := by decide +kernel
theorem dX12_secret_34 : decode cX12_secret 34 = .ok (.iconst 0, 1) := by decide +kernel
theorem dX12_secret_35 : decode cX12_secret 35 = .ok (.istore_n 3, 1) := by decide +kernel
theorem dX12_secret_36 : decode cX12_secret 36 = .ok (.iload_n 3, 1) := by decide +kernel
theorem dX12_secret_37 : decode cX12_secret 37 = .ok (.aload_n 0, 1) := by decide +kernel
theorem dX12_secret_38 : decode cX12_secret 38 = .ok (.iconst 1, 1) := by decide +kernel
theorem dX12_secret_39 : decode cX12_secret 39 = .ok (.invokevirtual 383, 3) := by decide +kernel
theorem dX12_secret_42 : decode cX12_secret 42 = .ok (.if_icmp .ge 23, 3) := by decide +kernel
theorem dX12_secret_45 : decode cX12_secret 45 = .ok (.aload_n 0, 1) := by decide +kernel
theorem dX12_secret_46 : decode cX12_secret 46 = .ok (.iload_n 1, 1) := by decide +kernel
theorem dX12_secret_47 : decode cX12_secret 47 = .ok (.iload_n 3, 1) := by decide +kernel
theorem dX12_secret_48 : decode cX12_secret 48 = .ok (.iload_n 2, 1) := by decide +kernel
theorem dX12_secret_49 : decode cX12_secret 49 = .ok (.iconst 0, 1) := by decide +kernel
theorem dX12_secret_50 : decode cX12_secret 50 = .ok (.iconst 0, 1) := by decide +kernel
theorem dX12_secret_51 : decode cX12_secret 51 = .ok (.invokevirtual 427, 3) := by decide +kernel
theorem dX12_secret_54 : decode cX12_secret 54 = .ok (.ifCond .eq 5, 3) := by decide +kernel
theorem dX12_secret_57 : decode cX12_secret 57 = .ok (.iload_n 3, 1) := by decide +kernel
theorem dX12_secret_58 : decode cX12_secret 58 = .ok (.ireturn, 1) := by decide +kernel
theorem dX12_secret_59 : decode cX12_secret 59 = .ok (.iinc 3 1, 3) := by decide +kernel
theorem dX12_secret_62 : decode cX12_secret 62 = .ok (.goto (-26), 3) := by decide +kernel
theorem dX12_secret_65 : decode cX12_secret 65 = .ok (.bipush (-2), 2) := by decide +kernel
theorem dX12_secret_67 : decode cX12_secret 67 = .ok (.ireturn, 1) := by decide +kernel
theorem dX12_below_0 : decode cX12_below 0 = .ok (.aload_n 0, 1) := by decide +kernel
theorem dX12_below_1 : decode cX12_below 1 = .ok (.iload_n 1, 1) := by decide +kernel
theorem dX12_below_2 : decode cX12_below 2 = .ok (.invokevirtual 415, 3) := by decide +kernel
theorem dX12_below_5 : decode cX12_below 5 = .ok (.ifCond .eq 10, 3) := by decide +kernel
theorem dX12_below_8 : decode cX12_below 8 = .ok (.iload_n 2, 1) := by decide +kernel
theorem dX12_below_9 : decode cX12_below 9 = .ok (.invokestatic 418, 3) := by decide +kernel
theorem dX12_below_12 : decode cX12_below 12 = .ok (.ifCond .ne 5, 3) := by decide +kernel
theorem dX12_below_15 : decode cX12_below 15 = .ok (.iconst (-1), 1) := by decide +kernel
theorem dX12_below_16 : decode cX12_below 16 = .ok (.ireturn, 1) := by decide +kernel
theorem dX12_below_17 : decode cX12_below 17 = .ok (.aload_n 0, 1) := by decide +kernel
theorem dX12_below_18 : decode cX12_below 18 = .ok (.iconst 0, 1) := by decide +kernel
theorem dX12_below_19 : decode cX12_below 19 = .ok (.putfield 390, 3) := by decide +kernel
theorem dX12_below_22 : decode cX12_below 22 = .ok (.aload_n 0, 1) := by decide +kernel
theorem dX12_below_23 : decode cX12_below 23 = .ok (.iload_n 1, 1) := by decide +kernel
theorem dX12_below_24 : decode cX12_below 24 = .ok (.iload_n 2, 1) := by decide +kernel
theorem dX12_below_25 : decode cX12_below 25 = .ok (.invokevirtual 520, 3) := by decide +kernel
theorem dX12_below_28 : decode cX12_below 28 = .ok (.ireturn, 1) := by decide +kernel
theorem dX12_isSet_0 : decode cX12_isSet 0 = .ok (.iload_n 1, 1) := by decide +kernel
theorem dX12_isSet_1 : decode cX12_isSet 1 = .ok (.iconst 0, 1) := by decide +kernel
theorem dX12_isSet_2 : decode cX12_isSet 2 = .ok (.iconst 1, 1) := by decide +kernel
theorem dX12_isSet_3 : decode cX12_isSet 3 = .ok (.aload_n 0, 1) := by decide +kernel
theorem dX12_isSet_4 : decode cX12_isSet 4 = .ok (.iconst 1, 1) := by decide +kernel
theorem dX12_isSet_5 : decode cX12_isSet 5 = .ok (.invokevirtual 383, 3) := by decide +kernel
theorem dX12_isSet_8 : decode cX12_isSet 8 = .ok (.ishl, 1) := by decide +kernel
theorem dX12_isSet_9 : decode cX12_isSet 9 = .ok (.iconst 1, 1) := by decide +kernel
theorem dX12_isSet_10 : decode cX12_isSet 10 = .ok (.isub, 1) := by decide +kernel
theorem dX12_isSet_11 : decode cX12_isSet 11 = .ok (.invokestatic 386, 3) := by decide +kernel
theorem dX12_isSet_14 : decode cX12_isSet 14 = .ok (.ireturn, 1) := by decide +kernel
theorem dX12_stand_0 : decode cX12_stand 0 = .ok (.aload_n 0, 1) := by decide +kernel
theorem dX12_stand_1 : decode cX12_stand 1 = .ok (.iload_n 1, 1) := by decide +kernel
theorem dX12_stand_2 : decode cX12_stand 2 = .ok (.invokevirtual 421, 3) := by decide +kernel
theorem dX12_stand_5 : decode cX12_stand 5 = .ok (.ifCond .eq 18, 3) := by decide +kernel
theorem dX12_stand_8 : decode cX12_stand 8 = .ok (.iload_n 2, 1) := by decide +kernel
theorem dX12_stand_9 : decode cX12_stand 9 = .ok (.invokestatic 418, 3) := by decide +kernel
theorem dX12_stand_12 : decode cX12_stand 12 = .ok (.ifCond .eq 11, 3) := by decide +kernel
theorem dX12_stand_15 : decode cX12_stand 15 = .ok (.aload_n 0, 1) := by decide +kernel
theorem dX12_stand_16 : decode cX12_stand 16 = .ok (.iload_n 3, 1) := by decide +kernel
theorem dX12_stand_17 : decode cX12_stand 17 = .ok (.invokevirtual 523, 3) := by decide +kernel
theorem dX12_stand_20 : decode cX12_stand 20 = .ok (.ifCond .ne 5, 3) := by decide +kernel
theorem dX12_stand_23 : decode cX12_stand 23 = .ok (.iconst (-1), 1) := by decide +kernel
theorem dX12_stand_24 : decode cX12_stand 24 = .ok (.ireturn, 1) := by decide +kernel
theorem dX12_stand_25 : decode cX12_stand 25 = .ok (.aload_n 0, 1) := by decide +kernel
theorem dX12_stand_26 : decode cX12_stand 26 = .ok (.iconst 0, 1) := by decide +kernel
theorem dX12_stand_27 : decode cX12_stand 27 = .ok (.putfield 390, 3) := by decide +kernel
theorem dX12_stand_30 : decode cX12_stand 30 = .ok (.iload_n 3, 1) := by decide +kernel
theorem dX12_stand_31 : decode cX12_stand 31 = .ok (.aload_n 0, 1) := by decide +kernel
theorem dX12_stand_32 : decode cX12_stand 32 = .ok (.iload_n 1, 1) := by decide +kernel
theorem dX12_stand_33 : decode cX12_stand 33 = .ok (.iload_n 2, 1) := by decide +kernel
theorem dX12_stand_34 : decode cX12_stand 34 = .ok (.invokevirtual 424, 3) := by decide +kernel
theorem dX12_stand_37 : decode cX12_stand 37 = .ok (.iconst (-1), 1) := by decide +kernel
theorem dX12_stand_38 : decode cX12_stand 38 = .ok (.ixor, 1) := by decide +kernel
theorem dX12_stand_39 : decode cX12_stand 39 = .ok (.iand, 1) := by decide +kernel
theorem dX12_stand_40 : decode cX12_stand 40 = .ok (.ireturn, 1) := by decide +kernel
theorem dX12_best_0 : decode cX12_best 0 = .ok (.aload_n 0, 1) := by decide +kernel
theorem dX12_best_1 : decode cX12_best 1 = .ok (.iload_n 1, 1) := by decide +kernel
theorem dX12_best_2 : decode cX12_best 2 = .ok (.invokevirtual 415, 3) := by decide +kernel
theorem dX12_best_5 : decode cX12_best 5 = .ok (.ifCond .eq 18, 3) := by decide +kernel
theorem dX12_best_8 : decode cX12_best 8 = .ok (.iload_n 2, 1) := by decide +kernel
theorem dX12_best_9 : decode cX12_best 9 = .ok (.invokestatic 418, 3) := by decide +kernel
theorem dX12_best_12 : decode cX12_best 12 = .ok (.ifCond .eq 11, 3) := by decide +kernel
theorem dX12_best_15 : decode cX12_best 15 = .ok (.aload_n 0, 1) := by decide +kernel
theorem dX12_best_16 : decode cX12_best 16 = .ok (.iload_n 3, 1) := by decide +kernel
theorem dX12_best_17 : decode cX12_best 17 = .ok (.invokevirtual 523, 3) := by decide +kernel
theorem dX12_best_20 : decode cX12_best 20 = .ok (.ifCond .ne 5, 3) := by decide +kernel
theorem dX12_best_23 : decode cX12_best 23 = .ok (.iconst (-1), 1) := by decide +kernel
theorem dX12_best_24 : decode cX12_best 24 = .ok (.ireturn, 1) := by decide +kernel
theorem dX12_best_25 : decode cX12_best 25 = .ok (.aload_n 0, 1) := by decide +kernel
theorem dX12_best_26 : decode cX12_best 26 = .ok (.iconst 0, 1) := by decide +kernel
theorem dX12_best_27 : decode cX12_best 27 = .ok (.putfield 390, 3) := by decide +kernel
theorem dX12_best_30 : decode cX12_best 30 = .ok (.iload_n 2, 1) := by decide +kernel
theorem dX12_best_31 : decode cX12_best 31 = .ok (.istore 4, 2) := by decide +kernel
theorem dX12_best_33 : decode cX12_best 33 = .ok (.iload 4, 2) := by decide +kernel
theorem dX12_best_35 : decode cX12_best 35 = .ok (.bipush 24, 2) := by decide +kernel
theorem dX12_best_37 : decode cX12_best 37 = .ok (.if_icmp .ge 52, 3) := by decide +kernel
theorem dX12_best_40 : decode cX12_best 40 = .ok (.aload_n 0, 1) := by decide +kernel
theorem dX12_best_41 : decode cX12_best 41 = .ok (.iload_n 1, 1) := by decide +kernel
theorem dX12_best_42 : decode cX12_best 42 = .ok (.iload 4, 2) := by decide +kernel
theorem dX12_best_44 : decode cX12_best 44 = .ok (.invokevirtual 396, 3) := by decide +kernel
theorem dX12_best_47 : decode cX12_best 47 = .ok (.istore 5, 2) := by decide +kernel
theorem dX12_best_49 : decode cX12_best 49 = .ok (.iload 5, 2) := by decide +kernel
theorem dX12_best_51 : decode cX12_best 51 = .ok (.ifCond .lt 32, 3) := by decide +kernel
theorem dX12_best_54 : decode cX12_best 54 = .ok (.aload_n 0, 1) := by decide +kernel
theorem dX12_best_55 : decode cX12_best 55 = .ok (.iload_n 1, 1) := by decide +kernel
theorem dX12_best_56 : decode cX12_best 56 = .ok (.iload 4, 2) := by decide +kernel
theorem dX12_best_58 : decode cX12_best 58 = .ok (.iconst 0, 1) := by decide +kernel
theorem dX12_best_59 : decode cX12_best 59 = .ok (.invokevirtual 484, 3) := by decide +kernel
theorem dX12_best_62 : decode cX12_best 62 = .ok (.ifCond .eq 21, 3) := by decide +kernel
theorem dX12_best_65 : decode cX12_best 65 = .ok (.iload_n 3, 1) := by decide +kernel
theorem dX12_best_66 : decode cX12_best 66 = .ok (.aload_n 0, 1) := by decide +kernel
theorem dX12_best_67 : decode cX12_best 67 = .ok (.iload 5, 2) := by decide +kernel
theorem dX12_best_69 : decode cX12_best 69 = .ok (.iload 4, 2) := by decide +kernel
theorem dX12_best_71 : decode cX12_best 71 = .ok (.invokevirtual 424, 3) := by decide +kernel
theorem dX12_best_74 : decode cX12_best 74 = .ok (.iconst (-1), 1) := by decide +kernel
theorem dX12_best_75 : decode cX12_best 75 = .ok (.ixor, 1) := by decide +kernel
theorem dX12_best_76 : decode cX12_best 76 = .ok (.iand, 1) := by decide +kernel
theorem dX12_best_77 : decode cX12_best 77 = .ok (.ifCond .ne 6, 3) := by decide +kernel
theorem dX12_best_80 : decode cX12_best 80 = .ok (.iload 4, 2) := by decide +kernel
theorem dX12_best_82 : decode cX12_best 82 = .ok (.ireturn, 1) := by decide +kernel
theorem dX12_best_83 : decode cX12_best 83 = .ok (.iinc 4 1, 3) := by decide +kernel
theorem dX12_best_86 : decode cX12_best 86 = .ok (.goto (-53), 3) := by decide +kernel
theorem dX12_best_89 : decode cX12_best 89 = .ok (.bipush (-2), 2) := by decide +kernel
theorem dX12_best_91 : decode cX12_best 91 = .ok (.ireturn, 1) := by decide +kernel
theorem dX12_lostWith_0 : decode cX12_lostWith 0 = .ok (.aload_n 0, 1) := by decide +kernel
theorem dX12_lostWith_1 : decode cX12_lostWith 1 = .ok (.getfield 164, 3) := by decide +kernel
theorem dX12_lostWith_4 : decode cX12_lostWith 4 = .ok (.bipush 10, 2) := by decide +kernel
theorem dX12_lostWith_6 : decode cX12_lostWith 6 = .ok (.iload_n 2, 1) := by decide +kernel
theorem dX12_lostWith_7 : decode cX12_lostWith 7 = .ok (.imul, 1) := by decide +kernel
theorem dX12_lostWith_8 : decode cX12_lostWith 8 = .ok (.iload_n 1, 1) := by decide +kernel
theorem dX12_lostWith_9 : decode cX12_lostWith 9 = .ok (.iadd, 1) := by decide +kernel
theorem dX12_lostWith_10 : decode cX12_lostWith 10 = .ok (.iaload, 1) := by decide +kernel
theorem dX12_lostWith_11 : decode cX12_lostWith 11 = .ok (.istore_n 3, 1) := by decide +kernel
theorem dX12_lostWith_12 : decode cX12_lostWith 12 = .ok (.iconst 0, 1) := by decide +kernel
theorem dX12_lostWith_13 : decode cX12_lostWith 13 = .ok (.istore 4, 2) := by decide +kernel
theorem dX12_lostWith_15 : decode cX12_lostWith 15 = .ok (.iload 4, 2) := by decide +kernel
theorem dX12_lostWith_17 : decode cX12_lostWith 17 = .ok (.aload_n 0, 1) := by decide +kernel
theorem dX12_lostWith_18 : decode cX12_lostWith 18 = .ok (.iconst 1, 1) := by decide +kernel
theorem dX12_lostWith_19 : decode cX12_lostWith 19 = .ok (.invokevirtual 383, 3) := by decide +kernel
theorem dX12_lostWith_22 : decode cX12_lostWith 22 = .ok (.if_icmp .ge 32, 3) := by decide +kernel
theorem dX12_lostWith_25 : decode cX12_lostWith 25 = .ok (.iload 4, 2) := by decide +kernel
theorem dX12_lostWith_27 : decode cX12_lostWith 27 = .ok (.iload_n 1, 1) := by decide +kernel
theorem dX12_lostWith_28 : decode cX12_lostWith 28 = .ok (.if_icmp .eq 20, 3) := by decide +kernel
theorem dX12_lostWith_31 : decode cX12_lostWith 31 = .ok (.iload_n 3, 1) := by decide +kernel
theorem dX12_lostWith_32 : decode cX12_lostWith 32 = .ok (.aload_n 0, 1) := by decide +kernel
theorem dX12_lostWith_33 : decode cX12_lostWith 33 = .ok (.getfield 164, 3) := by decide +kernel
theorem dX12_lostWith_36 : decode cX12_lostWith 36 = .ok (.bipush 10, 2) := by decide +kernel
theorem dX12_lostWith_38 : decode cX12_lostWith 38 = .ok (.iload_n 2, 1) := by decide +kernel
theorem dX12_lostWith_39 : decode cX12_lostWith 39 = .ok (.imul, 1) := by decide +kernel
theorem dX12_lostWith_40 : decode cX12_lostWith 40 = .ok (.iload 4, 2) := by decide +kernel
theorem dX12_lostWith_42 : decode cX12_lostWith 42 = .ok (.iadd, 1) := by decide +kernel
theorem dX12_lostWith_43 : decode cX12_lostWith 43 = .ok (.iaload, 1) := by decide +kernel
theorem dX12_lostWith_44 : decode cX12_lostWith 44 = .ok (.iconst (-1), 1) := by decide +kernel
theorem dX12_lostWith_45 : decode cX12_lostWith 45 = .ok (.ixor, 1) := by decide +kernel
theorem dX12_lostWith_46 : decode cX12_lostWith 46 = .ok (.iand, 1) := by decide +kernel
theorem dX12_lostWith_47 : decode cX12_lostWith 47 = .ok (.istore_n 3, 1) := by decide +kernel
theorem dX12_lostWith_48 : decode cX12_lostWith 48 = .ok (.iinc 4 1, 3) := by decide +kernel
theorem dX12_lostWith_51 : decode cX12_lostWith 51 = .ok (.goto (-36), 3) := by decide +kernel
theorem dX12_lostWith_54 : decode cX12_lostWith 54 = .ok (.iload_n 3, 1) := by decide +kernel
theorem dX12_lostWith_55 : decode cX12_lostWith 55 = .ok (.ireturn, 1) := by decide +kernel
theorem dX12_lost_0 : decode cX12_lost 0 = .ok (.aload_n 0, 1) := by decide +kernel
theorem dX12_lost_1 : decode cX12_lost 1 = .ok (.iload_n 1, 1) := by decide +kernel
theorem dX12_lost_2 : decode cX12_lost 2 = .ok (.invokevirtual 415, 3) := by decide +kernel
theorem dX12_lost_5 : decode cX12_lost 5 = .ok (.ifCond .eq 10, 3) := by decide +kernel
theorem dX12_lost_8 : decode cX12_lost 8 = .ok (.iload_n 2, 1) := by decide +kernel
theorem dX12_lost_9 : decode cX12_lost 9 = .ok (.invokestatic 478, 3) := by decide +kernel
theorem dX12_lost_12 : decode cX12_lost 12 = .ok (.ifCond .ne 5, 3) := by decide +kernel
theorem dX12_lost_15 : decode cX12_lost 15 = .ok (.iconst (-1), 1) := by decide +kernel
theorem dX12_lost_16 : decode cX12_lost 16 = .ok (.ireturn, 1) := by decide +kernel
theorem dX12_lost_17 : decode cX12_lost 17 = .ok (.aload_n 0, 1) := by decide +kernel
theorem dX12_lost_18 : decode cX12_lost 18 = .ok (.invokevirtual 472, 3) := by decide +kernel
theorem dX12_lost_21 : decode cX12_lost 21 = .ok (.aload_n 0, 1) := by decide +kernel
theorem dX12_lost_22 : decode cX12_lost 22 = .ok (.iload_n 1, 1) := by decide +kernel
theorem dX12_lost_23 : decode cX12_lost 23 = .ok (.iload_n 2, 1) := by decide +kernel
theorem dX12_lost_24 : decode cX12_lost 24 = .ok (.invokevirtual 526, 3) := by decide +kernel
theorem dX12_lost_27 : decode cX12_lost 27 = .ok (.ireturn, 1) := by decide +kernel
theorem dX12_before_0 : decode cX12_before 0 = .ok (.aload_n 0, 1) := by decide +kernel
theorem dX12_before_1 : decode cX12_before 1 = .ok (.iload_n 1, 1) := by decide +kernel
theorem dX12_before_2 : decode cX12_before 2 = .ok (.invokevirtual 415, 3) := by decide +kernel
theorem dX12_before_5 : decode cX12_before 5 = .ok (.ifCond .eq 10, 3) := by decide +kernel
theorem dX12_before_8 : decode cX12_before 8 = .ok (.iload_n 2, 1) := by decide +kernel
theorem dX12_before_9 : decode cX12_before 9 = .ok (.invokestatic 478, 3) := by decide +kernel
theorem dX12_before_12 : decode cX12_before 12 = .ok (.ifCond .ne 5, 3) := by decide +kernel
theorem dX12_before_15 : decode cX12_before 15 = .ok (.iconst (-1), 1) := by decide +kernel
theorem dX12_before_16 : decode cX12_before 16 = .ok (.ireturn, 1) := by decide +kernel
theorem dX12_before_17 : decode cX12_before 17 = .ok (.aload_n 0, 1) := by decide +kernel
theorem dX12_before_18 : decode cX12_before 18 = .ok (.invokevirtual 472, 3) := by decide +kernel
theorem dX12_before_21 : decode cX12_before 21 = .ok (.aload_n 0, 1) := by decide +kernel
theorem dX12_before_22 : decode cX12_before 22 = .ok (.iload_n 1, 1) := by decide +kernel
theorem dX12_before_23 : decode cX12_before 23 = .ok (.iload_n 2, 1) := by decide +kernel
theorem dX12_before_24 : decode cX12_before 24 = .ok (.invokevirtual 526, 3) := by decide +kernel
theorem dX12_before_27 : decode cX12_before 27 = .ok (.istore_n 3, 1) := by decide +kernel
theorem dX12_before_28 : decode cX12_before 28 = .ok (.bipush (-2), 2) := by decide +kernel
theorem dX12_before_30 : decode cX12_before 30 = .ok (.istore 4, 2) := by decide +kernel
theorem dX12_before_32 : decode cX12_before 32 = .ok (.iconst 0, 1) := by decide +kernel
theorem dX12_before_33 : decode cX12_before 33 = .ok (.istore 5, 2) := by decide +kernel
theorem dX12_before_35 : decode cX12_before 35 = .ok (.iload 5, 2) := by decide +kernel
theorem dX12_before_37 : decode cX12_before 37 = .ok (.aload_n 0, 1) := by decide +kernel
theorem dX12_before_38 : decode cX12_before 38 = .ok (.iconst 2, 1) := by decide +kernel
theorem dX12_before_39 : decode cX12_before 39 = .ok (.invokevirtual 383, 3) := by decide +kernel
theorem dX12_before_42 : decode cX12_before 42 = .ok (.if_icmp .ge 61, 3) := by decide +kernel
theorem dX12_before_45 : decode cX12_before 45 = .ok (.iload_n 3, 1) := by decide +kernel
theorem dX12_before_46 : decode cX12_before 46 = .ok (.iload 5, 2) := by decide +kernel
theorem dX12_before_48 : decode cX12_before 48 = .ok (.ishr, 1) := by decide +kernel
theorem dX12_before_49 : decode cX12_before 49 = .ok (.iconst 1, 1) := by decide +kernel
theorem dX12_before_50 : decode cX12_before 50 = .ok (.iand, 1) := by decide +kernel
theorem dX12_before_51 : decode cX12_before 51 = .ok (.iconst 1, 1) := by decide +kernel
theorem dX12_before_52 : decode cX12_before 52 = .ok (.if_icmp .ne 45, 3) := by decide +kernel
theorem dX12_before_55 : decode cX12_before 55 = .ok (.iload 4, 2) := by decide +kernel
theorem dX12_before_57 : decode cX12_before 57 = .ok (.ifCond .lt 36, 3) := by decide +kernel
theorem dX12_before_60 : decode cX12_before 60 = .ok (.aload_n 0, 1) := by decide +kernel
theorem dX12_before_61 : decode cX12_before 61 = .ok (.getfield 61, 3) := by decide +kernel
theorem dX12_before_64 : decode cX12_before 64 = .ok (.bipush 6, 2) := by decide +kernel
theorem dX12_before_66 : decode cX12_before 66 = .ok (.aload_n 0, 1) := by decide +kernel
theorem dX12_before_67 : decode cX12_before 67 = .ok (.getfield 290, 3) := by decide +kernel
theorem dX12_before_70 : decode cX12_before 70 = .ok (.imul, 1) := by decide +kernel
theorem dX12_before_71 : decode cX12_before 71 = .ok (.iload 5, 2) := by decide +kernel
theorem dX12_before_73 : decode cX12_before 73 = .ok (.iadd, 1) := by decide +kernel
theorem dX12_before_74 : decode cX12_before 74 = .ok (.iaload, 1) := by decide +kernel
theorem dX12_before_75 : decode cX12_before 75 = .ok (.aload_n 0, 1) := by decide +kernel
theorem dX12_before_76 : decode cX12_before 76 = .ok (.getfield 61, 3) := by decide +kernel
theorem dX12_before_79 : decode cX12_before 79 = .ok (.bipush 6, 2) := by decide +kernel
theorem dX12_before_81 : decode cX12_before 81 = .ok (.aload_n 0, 1) := by decide +kernel
theorem dX12_before_82 : decode cX12_before 82 = .ok (.getfield 290, 3) := by decide +kernel
theorem dX12_before_85 : decode cX12_before 85 = .ok (.imul, 1) := by decide +kernel
theorem dX12_before_86 : decode cX12_before 86 = .ok (.iload 4, 2) := by decide +kernel
theorem dX12_before_88 : decode cX12_before 88 = .ok (.iadd, 1) := by decide +kernel
theorem dX12_before_89 : decode cX12_before 89 = .ok (.iaload, 1) := by decide +kernel
theorem dX12_before_90 : decode cX12_before 90 = .ok (.if_icmp .le 7, 3) := by decide +kernel
theorem dX12_before_93 : decode cX12_before 93 = .ok (.iload 5, 2) := by decide +kernel
theorem dX12_before_95 : decode cX12_before 95 = .ok (.istore 4, 2) := by decide +kernel
theorem dX12_before_97 : decode cX12_before 97 = .ok (.iinc 5 1, 3) := by decide +kernel
theorem dX12_before_100 : decode cX12_before 100 = .ok (.goto (-65), 3) := by decide +kernel
theorem dX12_before_103 : decode cX12_before 103 = .ok (.iload 4, 2) := by decide +kernel
theorem dX12_before_105 : decode cX12_before 105 = .ok (.ireturn, 1) := by decide +kernel
theorem dX12_isMissed_0 : decode cX12_isMissed 0 = .ok (.bipush 12, 2) := by decide +kernel
theorem dX12_isMissed_2 : decode cX12_isMissed 2 = .ok (.aload_n 0, 1) := by decide +kernel
theorem dX12_isMissed_3 : decode cX12_isMissed 3 = .ok (.getfield 290, 3) := by decide +kernel
theorem dX12_isMissed_6 : decode cX12_isMissed 6 = .ok (.imul, 1) := by decide +kernel
theorem dX12_isMissed_7 : decode cX12_isMissed 7 = .ok (.iload_n 1, 1) := by decide +kernel
theorem dX12_isMissed_8 : decode cX12_isMissed 8 = .ok (.iadd, 1) := by decide +kernel
theorem dX12_isMissed_9 : decode cX12_isMissed 9 = .ok (.istore_n 2, 1) := by decide +kernel
theorem dX12_isMissed_10 : decode cX12_isMissed 10 = .ok (.aload_n 0, 1) := by decide +kernel
theorem dX12_isMissed_11 : decode cX12_isMissed 11 = .ok (.aload_n 0, 1) := by decide +kernel
theorem dX12_isMissed_12 : decode cX12_isMissed 12 = .ok (.getfield 88, 3) := by decide +kernel
theorem dX12_isMissed_15 : decode cX12_isMissed 15 = .ok (.iload_n 2, 1) := by decide +kernel
theorem dX12_isMissed_16 : decode cX12_isMissed 16 = .ok (.iaload, 1) := by decide +kernel
theorem dX12_isMissed_17 : decode cX12_isMissed 17 = .ok (.aload_n 0, 1) := by decide +kernel
theorem dX12_isMissed_18 : decode cX12_isMissed 18 = .ok (.getfield 94, 3) := by decide +kernel
theorem dX12_isMissed_21 : decode cX12_isMissed 21 = .ok (.iload_n 2, 1) := by decide +kernel
theorem dX12_isMissed_22 : decode cX12_isMissed 22 = .ok (.iaload, 1) := by decide +kernel
theorem dX12_isMissed_23 : decode cX12_isMissed 23 = .ok (.aload_n 0, 1) := by decide +kernel
theorem dX12_isMissed_24 : decode cX12_isMissed 24 = .ok (.getfield 91, 3) := by decide +kernel
theorem dX12_isMissed_27 : decode cX12_isMissed 27 = .ok (.iload_n 2, 1) := by decide +kernel
theorem dX12_isMissed_28 : decode cX12_isMissed 28 = .ok (.iaload, 1) := by decide +kernel
theorem dX12_isMissed_29 : decode cX12_isMissed 29 = .ok (.invokevirtual 444, 3) := by decide +kernel
theorem dX12_isMissed_32 : decode cX12_isMissed 32 = .ok (.ifCond .ne 7, 3) := by decide +kernel
theorem dX12_isMissed_35 : decode cX12_isMissed 35 = .ok (.iconst 1, 1) := by decide +kernel
theorem dX12_isMissed_36 : decode cX12_isMissed 36 = .ok (.goto 4, 3) := by decide +kernel
theorem dX12_isMissed_39 : decode cX12_isMissed 39 = .ok (.iconst 0, 1) := by decide +kernel
theorem dX12_isMissed_40 : decode cX12_isMissed 40 = .ok (.ireturn, 1) := by decide +kernel
theorem dX12_worthOfMust_0 : decode cX12_worthOfMust 0 = .ok (.aload_n 0, 1) := by decide +kernel
theorem dX12_worthOfMust_1 : decode cX12_worthOfMust 1 = .ok (.getfield 61, 3) := by decide +kernel
theorem dX12_worthOfMust_4 : decode cX12_worthOfMust 4 = .ok (.bipush 6, 2) := by decide +kernel
theorem dX12_worthOfMust_6 : decode cX12_worthOfMust 6 = .ok (.aload_n 0, 1) := by decide +kernel
theorem dX12_worthOfMust_7 : decode cX12_worthOfMust 7 = .ok (.getfield 290, 3) := by decide +kernel
theorem dX12_worthOfMust_10 : decode cX12_worthOfMust 10 = .ok (.imul, 1) := by decide +kernel
theorem dX12_worthOfMust_11 : decode cX12_worthOfMust 11 = .ok (.aload_n 0, 1) := by decide +kernel
theorem dX12_worthOfMust_12 : decode cX12_worthOfMust 12 = .ok (.getfield 91, 3) := by decide +kernel
theorem dX12_worthOfMust_15 : decode cX12_worthOfMust 15 = .ok (.bipush 12, 2) := by decide +kernel
theorem dX12_worthOfMust_17 : decode cX12_worthOfMust 17 = .ok (.aload_n 0, 1) := by decide +kernel
theorem dX12_worthOfMust_18 : decode cX12_worthOfMust 18 = .ok (.getfield 290, 3) := by decide +kernel
theorem dX12_worthOfMust_21 : decode cX12_worthOfMust 21 = .ok (.imul, 1) := by decide +kernel
theorem dX12_worthOfMust_22 : decode cX12_worthOfMust 22 = .ok (.iload_n 1, 1) := by decide +kernel
theorem dX12_worthOfMust_23 : decode cX12_worthOfMust 23 = .ok (.iadd, 1) := by decide +kernel
theorem dX12_worthOfMust_24 : decode cX12_worthOfMust 24 = .ok (.iaload, 1) := by decide +kernel
theorem dX12_worthOfMust_25 : decode cX12_worthOfMust 25 = .ok (.iadd, 1) := by decide +kernel
theorem dX12_worthOfMust_26 : decode cX12_worthOfMust 26 = .ok (.iaload, 1) := by decide +kernel
theorem dX12_worthOfMust_27 : decode cX12_worthOfMust 27 = .ok (.ireturn, 1) := by decide +kernel
theorem dX12_harmNow_0 : decode cX12_harmNow 0 = .ok (.iconst 0, 1) := by decide +kernel
theorem dX12_harmNow_1 : decode cX12_harmNow 1 = .ok (.istore_n 1, 1) := by decide +kernel
theorem dX12_harmNow_2 : decode cX12_harmNow 2 = .ok (.iconst 0, 1) := by decide +kernel
theorem dX12_harmNow_3 : decode cX12_harmNow 3 = .ok (.istore_n 2, 1) := by decide +kernel
theorem dX12_harmNow_4 : decode cX12_harmNow 4 = .ok (.iload_n 2, 1) := by decide +kernel
theorem dX12_harmNow_5 : decode cX12_harmNow 5 = .ok (.aload_n 0, 1) := by decide +kernel
theorem dX12_harmNow_6 : decode cX12_harmNow 6 = .ok (.bipush 6, 2) := by decide +kernel
theorem dX12_harmNow_8 : decode cX12_harmNow 8 = .ok (.invokevirtual 383, 3) := by decide +kernel
theorem dX12_harmNow_11 : decode cX12_harmNow 11 = .ok (.if_icmp .ge 25, 3) := by decide +kernel
theorem dX12_harmNow_14 : decode cX12_harmNow 14 = .ok (.aload_n 0, 1) := by decide +kernel
theorem dX12_harmNow_15 : decode cX12_harmNow 15 = .ok (.iload_n 2, 1) := by decide +kernel
theorem dX12_harmNow_16 : decode cX12_harmNow 16 = .ok (.invokevirtual 529, 3) := by decide +kernel
theorem dX12_harmNow_19 : decode cX12_harmNow 19 = .ok (.ifCond .eq 11, 3) := by decide +kernel
theorem dX12_harmNow_22 : decode cX12_harmNow 22 = .ok (.iload_n 1, 1) := by decide +kernel
theorem dX12_harmNow_23 : decode cX12_harmNow 23 = .ok (.aload_n 0, 1) := by decide +kernel
theorem dX12_harmNow_24 : decode cX12_harmNow 24 = .ok (.iload_n 2, 1) := by decide +kernel
theorem dX12_harmNow_25 : decode cX12_harmNow 25 = .ok (.invokevirtual 532, 3) := by decide +kernel
theorem dX12_harmNow_28 : decode cX12_harmNow 28 = .ok (.iadd, 1) := by decide +kernel
theorem dX12_harmNow_29 : decode cX12_harmNow 29 = .ok (.istore_n 1, 1) := by decide +kernel
theorem dX12_harmNow_30 : decode cX12_harmNow 30 = .ok (.iinc 2 1, 3) := by decide +kernel
theorem dX12_harmNow_33 : decode cX12_harmNow 33 = .ok (.goto (-29), 3) := by decide +kernel
theorem dX12_harmNow_36 : decode cX12_harmNow 36 = .ok (.iload_n 1, 1) := by decide +kernel
theorem dX12_harmNow_37 : decode cX12_harmNow 37 = .ok (.ireturn, 1) := by decide +kernel
theorem dX12_missed_0 : decode cX12_missed 0 = .ok (.aload_n 0, 1) := by decide +kernel
theorem dX12_missed_1 : decode cX12_missed 1 = .ok (.invokevirtual 472, 3) := by decide +kernel
theorem dX12_missed_4 : decode cX12_missed 4 = .ok (.iconst 0, 1) := by decide +kernel
theorem dX12_missed_5 : decode cX12_missed 5 = .ok (.istore_n 2, 1) := by decide +kernel
theorem dX12_missed_6 : decode cX12_missed 6 = .ok (.iconst 0, 1) := by decide +kernel
theorem dX12_missed_7 : decode cX12_missed 7 = .ok (.istore_n 3, 1) := by decide +kernel
theorem dX12_missed_8 : decode cX12_missed 8 = .ok (.iload_n 3, 1) := by decide +kernel
theorem dX12_missed_9 : decode cX12_missed 9 = .ok (.aload_n 0, 1) := by decide +kernel
theorem dX12_missed_10 : decode cX12_missed 10 = .ok (.bipush 6, 2) := by decide +kernel
theorem dX12_missed_12 : decode cX12_missed 12 = .ok (.invokevirtual 383, 3) := by decide +kernel
theorem dX12_missed_15 : decode cX12_missed 15 = .ok (.if_icmp .ge 30, 3) := by decide +kernel
theorem dX12_missed_18 : decode cX12_missed 18 = .ok (.aload_n 0, 1) := by decide +kernel
theorem dX12_missed_19 : decode cX12_missed 19 = .ok (.iload_n 3, 1) := by decide +kernel
theorem dX12_missed_20 : decode cX12_missed 20 = .ok (.invokevirtual 529, 3) := by decide +kernel
theorem dX12_missed_23 : decode cX12_missed 23 = .ok (.ifCond .ne 6, 3) := by decide +kernel
theorem dX12_missed_26 : decode cX12_missed 26 = .ok (.goto 13, 3) := by decide +kernel
theorem dX12_missed_29 : decode cX12_missed 29 = .ok (.iload_n 2, 1) := by decide +kernel
theorem dX12_missed_30 : decode cX12_missed 30 = .ok (.iload_n 1, 1) := by decide +kernel
theorem dX12_missed_31 : decode cX12_missed 31 = .ok (.if_icmp .ne 5, 3) := by decide +kernel
theorem dX12_missed_34 : decode cX12_missed 34 = .ok (.iload_n 3, 1) := by decide +kernel
theorem dX12_missed_35 : decode cX12_missed 35 = .ok (.ireturn, 1) := by decide +kernel
theorem dX12_missed_36 : decode cX12_missed 36 = .ok (.iinc 2 1, 3) := by decide +kernel
theorem dX12_missed_39 : decode cX12_missed 39 = .ok (.iinc 3 1, 3) := by decide +kernel
theorem dX12_missed_42 : decode cX12_missed 42 = .ok (.goto (-34), 3) := by decide +kernel
theorem dX12_missed_45 : decode cX12_missed 45 = .ok (.iload_n 1, 1) := by decide +kernel
theorem dX12_missed_46 : decode cX12_missed 46 = .ok (.iconst (-1), 1) := by decide +kernel
theorem dX12_missed_47 : decode cX12_missed 47 = .ok (.if_icmp .ne 7, 3) := by decide +kernel
theorem dX12_missed_50 : decode cX12_missed 50 = .ok (.iload_n 2, 1) := by decide +kernel
theorem dX12_missed_51 : decode cX12_missed 51 = .ok (.goto 4, 3) := by decide +kernel
theorem dX12_missed_54 : decode cX12_missed 54 = .ok (.iconst (-1), 1) := by decide +kernel
theorem dX12_missed_55 : decode cX12_missed 55 = .ok (.ireturn, 1) := by decide +kernel
theorem dX12_harm_0 : decode cX12_harm 0 = .ok (.aload_n 0, 1) := by decide +kernel
theorem dX12_harm_1 : decode cX12_harm 1 = .ok (.invokevirtual 472, 3) := by decide +kernel
theorem dX12_harm_4 : decode cX12_harm 4 = .ok (.aload_n 0, 1) := by decide +kernel
theorem dX12_harm_5 : decode cX12_harm 5 = .ok (.invokevirtual 535, 3) := by decide +kernel
theorem dX12_harm_8 : decode cX12_harm 8 = .ok (.ireturn, 1) := by decide +kernel
theorem dX12_can_0 : decode cX12_can 0 = .ok (.iload_n 1, 1) := by decide +kernel
theorem dX12_can_1 : decode cX12_can 1 = .ok (.iconst 0, 1) := by decide +kernel
theorem dX12_can_2 : decode cX12_can 2 = .ok (.iconst 1, 1) := by decide +kernel
theorem dX12_can_3 : decode cX12_can 3 = .ok (.invokestatic 386, 3) := by decide +kernel
theorem dX12_can_6 : decode cX12_can 6 = .ok (.ifCond .ne 5, 3) := by decide +kernel
theorem dX12_can_9 : decode cX12_can 9 = .ok (.iconst (-1), 1) := by decide +kernel
theorem dX12_can_10 : decode cX12_can 10 = .ok (.ireturn, 1) := by decide +kernel
theorem dX12_can_11 : decode cX12_can 11 = .ok (.iconst 0, 1) := by decide +kernel
theorem dX12_can_12 : decode cX12_can 12 = .ok (.istore_n 2, 1) := by decide +kernel
theorem dX12_can_13 : decode cX12_can 13 = .ok (.iconst 0, 1) := by decide +kernel
theorem dX12_can_14 : decode cX12_can 14 = .ok (.istore_n 3, 1) := by decide +kernel
theorem dX12_can_15 : decode cX12_can 15 = .ok (.iconst 0, 1) := by decide +kernel
theorem dX12_can_16 : decode cX12_can 16 = .ok (.istore 4, 2) := by decide +kernel
theorem dX12_can_18 : decode cX12_can 18 = .ok (.iload 4, 2) := by decide +kernel
theorem dX12_can_20 : decode cX12_can 20 = .ok (.aload_n 0, 1) := by decide +kernel
theorem dX12_can_21 : decode cX12_can 21 = .ok (.bipush 6, 2) := by decide +kernel
theorem dX12_can_23 : decode cX12_can 23 = .ok (.invokevirtual 383, 3) := by decide +kernel
theorem dX12_can_26 : decode cX12_can 26 = .ok (.if_icmp .ge 92, 3) := by decide +kernel
theorem dX12_can_29 : decode cX12_can 29 = .ok (.bipush 12, 2) := by decide +kernel
theorem dX12_can_31 : decode cX12_can 31 = .ok (.aload_n 0, 1) := by decide +kernel
theorem dX12_can_32 : decode cX12_can 32 = .ok (.getfield 290, 3) := by decide +kernel
theorem dX12_can_35 : decode cX12_can 35 = .ok (.imul, 1) := by decide +kernel
theorem dX12_can_36 : decode cX12_can 36 = .ok (.iload 4, 2) := by decide +kernel
theorem dX12_can_38 : decode cX12_can 38 = .ok (.iadd, 1) := by decide +kernel
theorem dX12_can_39 : decode cX12_can 39 = .ok (.istore 5, 2) := by decide +kernel
theorem dX12_can_41 : decode cX12_can 41 = .ok (.aload_n 0, 1) := by decide +kernel
theorem dX12_can_42 : decode cX12_can 42 = .ok (.aload_n 0, 1) := by decide +kernel
theorem dX12_can_43 : decode cX12_can 43 = .ok (.getfield 91, 3) := by decide +kernel
theorem dX12_can_46 : decode cX12_can 46 = .ok (.iload 5, 2) := by decide +kernel
theorem dX12_can_48 : decode cX12_can 48 = .ok (.iaload, 1) := by decide +kernel
theorem dX12_can_49 : decode cX12_can 49 = .ok (.aload_n 0, 1) := by decide +kernel
theorem dX12_can_50 : decode cX12_can 50 = .ok (.aload_n 0, 1) := by decide +kernel
theorem dX12_can_51 : decode cX12_can 51 = .ok (.getfield 91, 3) := by decide +kernel
theorem dX12_can_54 : decode cX12_can 54 = .ok (.iload 5, 2) := by decide +kernel
theorem dX12_can_56 : decode cX12_can 56 = .ok (.iaload, 1) := by decide +kernel
theorem dX12_can_57 : decode cX12_can 57 = .ok (.invokevirtual 538, 3) := by decide +kernel
theorem dX12_can_60 : decode cX12_can 60 = .ok (.iconst 0, 1) := by decide +kernel
theorem dX12_can_61 : decode cX12_can 61 = .ok (.iconst 0, 1) := by decide +kernel
theorem dX12_can_62 : decode cX12_can 62 = .ok (.iconst 0, 1) := by decide +kernel
theorem dX12_can_63 : decode cX12_can 63 = .ok (.invokevirtual 491, 3) := by decide +kernel
theorem dX12_can_66 : decode cX12_can 66 = .ok (.aload_n 0, 1) := by decide +kernel
theorem dX12_can_67 : decode cX12_can 67 = .ok (.aload_n 0, 1) := by decide +kernel
theorem dX12_can_68 : decode cX12_can 68 = .ok (.getfield 88, 3) := by decide +kernel
theorem dX12_can_71 : decode cX12_can 71 = .ok (.iload 5, 2) := by decide +kernel
theorem dX12_can_73 : decode cX12_can 73 = .ok (.iaload, 1) := by decide +kernel
theorem dX12_can_74 : decode cX12_can 74 = .ok (.iconst 0, 1) := by decide +kernel
theorem dX12_can_75 : decode cX12_can 75 = .ok (.invokevirtual 495, 3) := by decide +kernel
theorem dX12_can_78 : decode cX12_can 78 = .ok (.istore 6, 2) := by decide +kernel
theorem dX12_can_80 : decode cX12_can 80 = .ok (.iload 6, 2) := by decide +kernel
theorem dX12_can_82 : decode cX12_can 82 = .ok (.ifCond .lt 21, 3) := by decide +kernel
theorem dX12_can_85 : decode cX12_can 85 = .ok (.iload 6, 2) := by decide +kernel
theorem dX12_can_87 : decode cX12_can 87 = .ok (.aload_n 0, 1) := by decide +kernel
theorem dX12_can_88 : decode cX12_can 88 = .ok (.getfield 94, 3) := by decide +kernel
theorem dX12_can_91 : decode cX12_can 91 = .ok (.iload 5, 2) := by decide +kernel
theorem dX12_can_93 : decode cX12_can 93 = .ok (.iaload, 1) := by decide +kernel
theorem dX12_can_94 : decode cX12_can 94 = .ok (.if_icmp .gt 9, 3) := by decide +kernel
theorem dX12_can_97 : decode cX12_can 97 = .ok (.iinc 2 1, 3) := by decide +kernel
theorem dX12_can_100 : decode cX12_can 100 = .ok (.goto 12, 3) := by decide +kernel
theorem dX12_can_103 : decode cX12_can 103 = .ok (.iload_n 3, 1) := by decide +kernel
theorem dX12_can_104 : decode cX12_can 104 = .ok (.aload_n 0, 1) := by decide +kernel
theorem dX12_can_105 : decode cX12_can 105 = .ok (.iload 4, 2) := by decide +kernel
theorem dX12_can_107 : decode cX12_can 107 = .ok (.invokevirtual 532, 3) := by decide +kernel
theorem dX12_can_110 : decode cX12_can 110 = .ok (.iadd, 1) := by decide +kernel
theorem dX12_can_111 : decode cX12_can 111 = .ok (.istore_n 3, 1) := by decide +kernel
theorem dX12_can_112 : decode cX12_can 112 = .ok (.iinc 4 1, 3) := by decide +kernel
theorem dX12_can_115 : decode cX12_can 115 = .ok (.goto (-97), 3) := by decide +kernel
theorem dX12_can_118 : decode cX12_can 118 = .ok (.iload_n 1, 1) := by decide +kernel
theorem dX12_can_119 : decode cX12_can 119 = .ok (.ifCond .ne 7, 3) := by decide +kernel
theorem dX12_can_122 : decode cX12_can 122 = .ok (.iload_n 2, 1) := by decide +kernel
theorem dX12_can_123 : decode cX12_can 123 = .ok (.goto 4, 3) := by decide +kernel
theorem dX12_can_126 : decode cX12_can 126 = .ok (.iload_n 3, 1) := by decide +kernel
theorem dX12_can_127 : decode cX12_can 127 = .ok (.ireturn, 1) := by decide +kernel
theorem dX12_task_0 : decode cX12_task 0 = .ok (.iload_n 1, 1) := by decide +kernel
theorem dX12_task_1 : decode cX12_task 1 = .ok (.iconst 0, 1) := by decide +kernel
theorem dX12_task_2 : decode cX12_task 2 = .ok (.aload_n 0, 1) := by decide +kernel
theorem dX12_task_3 : decode cX12_task 3 = .ok (.getfield 52, 3) := by decide +kernel
theorem dX12_task_6 : decode cX12_task 6 = .ok (.aload_n 0, 1) := by decide +kernel
theorem dX12_task_7 : decode cX12_task 7 = .ok (.getfield 290, 3) := by decide +kernel
theorem dX12_task_10 : decode cX12_task 10 = .ok (.iaload, 1) := by decide +kernel
theorem dX12_task_11 : decode cX12_task 11 = .ok (.iconst 1, 1) := by decide +kernel
theorem dX12_task_12 : decode cX12_task 12 = .ok (.isub, 1) := by decide +kernel
theorem dX12_task_13 : decode cX12_task 13 = .ok (.invokestatic 386, 3) := by decide +kernel
theorem dX12_task_16 : decode cX12_task 16 = .ok (.ifCond .eq 11, 3) := by decide +kernel
theorem dX12_task_19 : decode cX12_task 19 = .ok (.aload_n 0, 1) := by decide +kernel
theorem dX12_task_20 : decode cX12_task 20 = .ok (.iload_n 2, 1) := by decide +kernel
theorem dX12_task_21 : decode cX12_task 21 = .ok (.invokevirtual 415, 3) := by decide +kernel
theorem dX12_task_24 : decode cX12_task 24 = .ok (.ifCond .ne 5, 3) := by decide +kernel
theorem dX12_task_27 : decode cX12_task 27 = .ok (.iconst (-1), 1) := by decide +kernel
theorem dX12_task_28 : decode cX12_task 28 = .ok (.ireturn, 1) := by decide +kernel
theorem dX12_task_29 : decode cX12_task 29 = .ok (.iconst 0, 1) := by decide +kernel
theorem dX12_task_30 : decode cX12_task 30 = .ok (.istore_n 3, 1) := by decide +kernel
theorem dX12_task_31 : decode cX12_task 31 = .ok (.iconst 0, 1) := by decide +kernel
theorem dX12_task_32 : decode cX12_task 32 = .ok (.istore 4, 2) := by decide +kernel
theorem dX12_task_34 : decode cX12_task 34 = .ok (.iload 4, 2) := by decide +kernel
theorem dX12_task_36 : decode cX12_task 36 = .ok (.aload_n 0, 1) := by decide +kernel
theorem dX12_task_37 : decode cX12_task 37 = .ok (.iconst 2, 1) := by decide +kernel
theorem dX12_task_38 : decode cX12_task 38 = .ok (.invokevirtual 383, 3) := by decide +kernel
theorem dX12_task_41 : decode cX12_task 41 = .ok (.if_icmp .ge 73, 3) := by decide +kernel
theorem dX12_task_44 : decode cX12_task 44 = .ok (.aload_n 0, 1) := by decide +kernel
theorem dX12_task_45 : decode cX12_task 45 = .ok (.getfield 103, 3) := by decide +kernel
theorem dX12_task_48 : decode cX12_task 48 = .ok (.iconst 4, 1) := by decide +kernel
theorem dX12_task_49 : decode cX12_task 49 = .ok (.aload_n 0, 1) := by decide +kernel
theorem dX12_task_50 : decode cX12_task 50 = .ok (.getfield 290, 3) := by decide +kernel
theorem dX12_task_53 : decode cX12_task 53 = .ok (.imul, 1) := by decide +kernel
theorem dX12_task_54 : decode cX12_task 54 = .ok (.iload_n 1, 1) := by decide +kernel
theorem dX12_task_55 : decode cX12_task 55 = .ok (.iadd, 1) := by decide +kernel
theorem dX12_task_56 : decode cX12_task 56 = .ok (.iaload, 1) := by decide +kernel
theorem dX12_task_57 : decode cX12_task 57 = .ok (.iload 4, 2) := by decide +kernel
theorem dX12_task_59 : decode cX12_task 59 = .ok (.ishr, 1) := by decide +kernel
theorem dX12_task_60 : decode cX12_task 60 = .ok (.iconst 1, 1) := by decide +kernel
theorem dX12_task_61 : decode cX12_task 61 = .ok (.iand, 1) := by decide +kernel
theorem dX12_task_62 : decode cX12_task 62 = .ok (.ifCond .ne 6, 3) := by decide +kernel
theorem dX12_task_65 : decode cX12_task 65 = .ok (.goto 43, 3) := by decide +kernel
theorem dX12_task_68 : decode cX12_task 68 = .ok (.aload_n 0, 1) := by decide +kernel
theorem dX12_task_69 : decode cX12_task 69 = .ok (.iload 4, 2) := by decide +kernel
theorem dX12_task_71 : decode cX12_task 71 = .ok (.aload_n 0, 1) := by decide +kernel
theorem dX12_task_72 : decode cX12_task 72 = .ok (.iload 4, 2) := by decide +kernel
theorem dX12_task_74 : decode cX12_task 74 = .ok (.invokevirtual 538, 3) := by decide +kernel
theorem dX12_task_77 : decode cX12_task 77 = .ok (.iconst 0, 1) := by decide +kernel
theorem dX12_task_78 : decode cX12_task 78 = .ok (.iconst 0, 1) := by decide +kernel
theorem dX12_task_79 : decode cX12_task 79 = .ok (.iconst 0, 1) := by decide +kernel
theorem dX12_task_80 : decode cX12_task 80 = .ok (.invokevirtual 491, 3) := by decide +kernel
theorem dX12_task_83 : decode cX12_task 83 = .ok (.aload_n 0, 1) := by decide +kernel
theorem dX12_task_84 : decode cX12_task 84 = .ok (.iload_n 2, 1) := by decide +kernel
theorem dX12_task_85 : decode cX12_task 85 = .ok (.iconst 0, 1) := by decide +kernel
theorem dX12_task_86 : decode cX12_task 86 = .ok (.invokevirtual 495, 3) := by decide +kernel
theorem dX12_task_89 : decode cX12_task 89 = .ok (.istore 5, 2) := by decide +kernel
theorem dX12_task_91 : decode cX12_task 91 = .ok (.iload 5, 2) := by decide +kernel
theorem dX12_task_93 : decode cX12_task 93 = .ok (.ifCond .ge 6, 3) := by decide +kernel
theorem dX12_task_96 : decode cX12_task 96 = .ok (.bipush (-2), 2) := by decide +kernel
theorem dX12_task_98 : decode cX12_task 98 = .ok (.ireturn, 1) := by decide +kernel
theorem dX12_task_99 : decode cX12_task 99 = .ok (.iload 5, 2) := by decide +kernel
theorem dX12_task_101 : decode cX12_task 101 = .ok (.iload_n 3, 1) := by decide +kernel
theorem dX12_task_102 : decode cX12_task 102 = .ok (.if_icmp .le 6, 3) := by decide +kernel
theorem dX12_task_105 : decode cX12_task 105 = .ok (.iload 5, 2) := by decide +kernel
theorem dX12_task_107 : decode cX12_task 107 = .ok (.istore_n 3, 1) := by decide +kernel
theorem dX12_task_108 : decode cX12_task 108 = .ok (.iinc 4 1, 3) := by decide +kernel
theorem dX12_task_111 : decode cX12_task 111 = .ok (.goto (-77), 3) := by decide +kernel
theorem dX12_task_114 : decode cX12_task 114 = .ok (.iload_n 3, 1) := by decide +kernel
theorem dX12_task_115 : decode cX12_task 115 = .ok (.ireturn, 1) := by decide +kernel
theorem dX12_ranks_0 : decode cX12_ranks 0 = .ok (.iconst 0, 1) := by decide +kernel
theorem dX12_ranks_1 : decode cX12_ranks 1 = .ok (.istore_n 3, 1) := by decide +kernel
theorem dX12_ranks_2 : decode cX12_ranks 2 = .ok (.iload_n 3, 1) := by decide +kernel
theorem dX12_ranks_3 : decode cX12_ranks 3 = .ok (.aload_n 0, 1) := by decide +kernel
theorem dX12_ranks_4 : decode cX12_ranks 4 = .ok (.iconst 1, 1) := by decide +kernel
theorem dX12_ranks_5 : decode cX12_ranks 5 = .ok (.invokevirtual 383, 3) := by decide +kernel
theorem dX12_ranks_8 : decode cX12_ranks 8 = .ok (.if_icmp .ge 66, 3) := by decide +kernel
theorem dX12_ranks_11 : decode cX12_ranks 11 = .ok (.iload_n 3, 1) := by decide +kernel
theorem dX12_ranks_12 : decode cX12_ranks 12 = .ok (.istore 4, 2) := by decide +kernel
theorem dX12_ranks_14 : decode cX12_ranks 14 = .ok (.iload 4, 2) := by decide +kernel
theorem dX12_ranks_16 : decode cX12_ranks 16 = .ok (.ifCond .le 44, 3) := by decide +kernel
theorem dX12_ranks_19 : decode cX12_ranks 19 = .ok (.aload_n 0, 1) := by decide +kernel
theorem dX12_ranks_20 : decode cX12_ranks 20 = .ok (.iload_n 3, 1) := by decide +kernel
theorem dX12_ranks_21 : decode cX12_ranks 21 = .ok (.aload_n 0, 1) := by decide +kernel
theorem dX12_ranks_22 : decode cX12_ranks 22 = .ok (.getfield 197, 3) := by decide +kernel
theorem dX12_ranks_25 : decode cX12_ranks 25 = .ok (.iload 4, 2) := by decide +kernel
theorem dX12_ranks_27 : decode cX12_ranks 27 = .ok (.iconst 1, 1) := by decide +kernel
theorem dX12_ranks_28 : decode cX12_ranks 28 = .ok (.isub, 1) := by decide +kernel
theorem dX12_ranks_29 : decode cX12_ranks 29 = .ok (.iaload, 1) := by decide +kernel
theorem dX12_ranks_30 : decode cX12_ranks 30 = .ok (.iload_n 1, 1) := by decide +kernel
theorem dX12_ranks_31 : decode cX12_ranks 31 = .ok (.iload_n 2, 1) := by decide +kernel
theorem dX12_ranks_32 : decode cX12_ranks 32 = .ok (.invokevirtual 541, 3) := by decide +kernel
theorem dX12_ranks_35 : decode cX12_ranks 35 = .ok (.ifCond .eq 25, 3) := by decide +kernel
theorem dX12_ranks_38 : decode cX12_ranks 38 = .ok (.aload_n 0, 1) := by decide +kernel
theorem dX12_ranks_39 : decode cX12_ranks 39 = .ok (.getfield 197, 3) := by decide +kernel
theorem dX12_ranks_42 : decode cX12_ranks 42 = .ok (.iload 4, 2) := by decide +kernel
theorem dX12_ranks_44 : decode cX12_ranks 44 = .ok (.aload_n 0, 1) := by decide +kernel
theorem dX12_ranks_45 : decode cX12_ranks 45 = .ok (.getfield 197, 3) := by decide +kernel
theorem dX12_ranks_48 : decode cX12_ranks 48 = .ok (.iload 4, 2) := by decide +kernel
theorem dX12_ranks_50 : decode cX12_ranks 50 = .ok (.iconst 1, 1) := by decide +kernel
theorem dX12_ranks_51 : decode cX12_ranks 51 = .ok (.isub, 1) := by decide +kernel
theorem dX12_ranks_52 : decode cX12_ranks 52 = .ok (.iaload, 1) := by decide +kernel
theorem dX12_ranks_53 : decode cX12_ranks 53 = .ok (.iastore, 1) := by decide +kernel
theorem dX12_ranks_54 : decode cX12_ranks 54 = .ok (.iinc 4 (-1), 3) := by decide +kernel
theorem dX12_ranks_57 : decode cX12_ranks 57 = .ok (.goto (-43), 3) := by decide +kernel
theorem dX12_ranks_60 : decode cX12_ranks 60 = .ok (.aload_n 0, 1) := by decide +kernel
theorem dX12_ranks_61 : decode cX12_ranks 61 = .ok (.getfield 197, 3) := by decide +kernel
theorem dX12_ranks_64 : decode cX12_ranks 64 = .ok (.iload 4, 2) := by decide +kernel
theorem dX12_ranks_66 : decode cX12_ranks 66 = .ok (.iload_n 3, 1) := by decide +kernel
theorem dX12_ranks_67 : decode cX12_ranks 67 = .ok (.iastore, 1) := by decide +kernel
theorem dX12_ranks_68 : decode cX12_ranks 68 = .ok (.iinc 3 1, 3) := by decide +kernel
theorem dX12_ranks_71 : decode cX12_ranks 71 = .ok (.goto (-69), 3) := by decide +kernel
theorem dX12_ranks_74 : decode cX12_ranks 74 = .ok (.return_, 1) := by decide +kernel
theorem dX12_isAhead_0 : decode cX12_isAhead 0 = .ok (.iload 4, 2) := by decide +kernel
theorem dX12_isAhead_2 : decode cX12_isAhead 2 = .ok (.ifCond .eq 20, 3) := by decide +kernel
theorem dX12_isAhead_5 : decode cX12_isAhead 5 = .ok (.aload_n 0, 1) := by decide +kernel
theorem dX12_isAhead_6 : decode cX12_isAhead 6 = .ok (.getfield 164, 3) := by decide +kernel
theorem dX12_isAhead_9 : decode cX12_isAhead 9 = .ok (.bipush 10, 2) := by decide +kernel
theorem dX12_isAhead_11 : decode cX12_isAhead 11 = .ok (.iload_n 3, 1) := by decide +kernel
theorem dX12_isAhead_12 : decode cX12_isAhead 12 = .ok (.imul, 1) := by decide +kernel
theorem dX12_isAhead_13 : decode cX12_isAhead 13 = .ok (.iload_n 1, 1) := by decide +kernel
theorem dX12_isAhead_14 : decode cX12_isAhead 14 = .ok (.iadd, 1) := by decide +kernel
theorem dX12_isAhead_15 : decode cX12_isAhead 15 = .ok (.iaload, 1) := by decide +kernel
theorem dX12_isAhead_16 : decode cX12_isAhead 16 = .ok (.invokestatic 409, 3) := by decide +kernel
theorem dX12_isAhead_19 : decode cX12_isAhead 19 = .ok (.goto 4, 3) := by decide +kernel
theorem dX12_isAhead_22 : decode cX12_isAhead 22 = .ok (.iconst 0, 1) := by decide +kernel
theorem dX12_isAhead_23 : decode cX12_isAhead 23 = .ok (.istore 5, 2) := by decide +kernel
theorem dX12_isAhead_25 : decode cX12_isAhead 25 = .ok (.iload 4, 2) := by decide +kernel
theorem dX12_isAhead_27 : decode cX12_isAhead 27 = .ok (.ifCond .eq 20, 3) := by decide +kernel
theorem dX12_isAhead_30 : decode cX12_isAhead 30 = .ok (.aload_n 0, 1) := by decide +kernel
theorem dX12_isAhead_31 : decode cX12_isAhead 31 = .ok (.getfield 164, 3) := by decide +kernel
theorem dX12_isAhead_34 : decode cX12_isAhead 34 = .ok (.bipush 10, 2) := by decide +kernel
theorem dX12_isAhead_36 : decode cX12_isAhead 36 = .ok (.iload_n 3, 1) := by decide +kernel
theorem dX12_isAhead_37 : decode cX12_isAhead 37 = .ok (.imul, 1) := by decide +kernel
theorem dX12_isAhead_38 : decode cX12_isAhead 38 = .ok (.iload_n 2, 1) := by decide +kernel
theorem dX12_isAhead_39 : decode cX12_isAhead 39 = .ok (.iadd, 1) := by decide +kernel
theorem dX12_isAhead_40 : decode cX12_isAhead 40 = .ok (.iaload, 1) := by decide +kernel
theorem dX12_isAhead_41 : decode cX12_isAhead 41 = .ok (.invokestatic 409, 3) := by decide +kernel
theorem dX12_isAhead_44 : decode cX12_isAhead 44 = .ok (.goto 4, 3) := by decide +kernel
theorem dX12_isAhead_47 : decode cX12_isAhead 47 = .ok (.iconst 0, 1) := by decide +kernel
theorem dX12_isAhead_48 : decode cX12_isAhead 48 = .ok (.istore 6, 2) := by decide +kernel
theorem dX12_isAhead_50 : decode cX12_isAhead 50 = .ok (.iload 5, 2) := by decide +kernel
theorem dX12_isAhead_52 : decode cX12_isAhead 52 = .ok (.iload 6, 2) := by decide +kernel
theorem dX12_isAhead_54 : decode cX12_isAhead 54 = .ok (.if_icmp .gt 25, 3) := by decide +kernel
theorem dX12_isAhead_57 : decode cX12_isAhead 57 = .ok (.iload 5, 2) := by decide +kernel
theorem dX12_isAhead_59 : decode cX12_isAhead 59 = .ok (.iload 6, 2) := by decide +kernel
theorem dX12_isAhead_61 : decode cX12_isAhead 61 = .ok (.if_icmp .ne 22, 3) := by decide +kernel
theorem dX12_isAhead_64 : decode cX12_isAhead 64 = .ok (.aload_n 0, 1) := by decide +kernel
theorem dX12_isAhead_65 : decode cX12_isAhead 65 = .ok (.iload_n 1, 1) := by decide +kernel
theorem dX12_isAhead_66 : decode cX12_isAhead 66 = .ok (.iload_n 3, 1) := by decide +kernel
theorem dX12_isAhead_67 : decode cX12_isAhead 67 = .ok (.invokevirtual 403, 3) := by decide +kernel
theorem dX12_isAhead_70 : decode cX12_isAhead 70 = .ok (.aload_n 0, 1) := by decide +kernel
theorem dX12_isAhead_71 : decode cX12_isAhead 71 = .ok (.iload_n 2, 1) := by decide +kernel
theorem dX12_isAhead_72 : decode cX12_isAhead 72 = .ok (.iload_n 3, 1) := by decide +kernel
theorem dX12_isAhead_73 : decode cX12_isAhead 73 = .ok (.invokevirtual 403, 3) := by decide +kernel
theorem dX12_isAhead_76 : decode cX12_isAhead 76 = .ok (.if_icmp .le 7, 3) := by decide +kernel
theorem dX12_isAhead_79 : decode cX12_isAhead 79 = .ok (.iconst 1, 1) := by decide +kernel
theorem dX12_isAhead_80 : decode cX12_isAhead 80 = .ok (.goto 4, 3) := by decide +kernel
theorem dX12_isAhead_83 : decode cX12_isAhead 83 = .ok (.iconst 0, 1) := by decide +kernel
theorem dX12_isAhead_84 : decode cX12_isAhead 84 = .ok (.ireturn, 1) := by decide +kernel
theorem dX12_rank_0 : decode cX12_rank 0 = .ok (.iload_n 1, 1) := by decide +kernel
theorem dX12_rank_1 : decode cX12_rank 1 = .ok (.invokestatic 478, 3) := by decide +kernel
theorem dX12_rank_4 : decode cX12_rank 4 = .ok (.ifCond .eq 11, 3) := by decide +kernel
theorem dX12_rank_7 : decode cX12_rank 7 = .ok (.aload_n 0, 1) := by decide +kernel
theorem dX12_rank_8 : decode cX12_rank 8 = .ok (.iload_n 2, 1) := by decide +kernel
theorem dX12_rank_9 : decode cX12_rank 9 = .ok (.invokevirtual 415, 3) := by decide +kernel
theorem dX12_rank_12 : decode cX12_rank 12 = .ok (.ifCond .ne 5, 3) := by decide +kernel
theorem dX12_rank_15 : decode cX12_rank 15 = .ok (.iconst (-1), 1) := by decide +kernel
theorem dX12_rank_16 : decode cX12_rank 16 = .ok (.ireturn, 1) := by decide +kernel
theorem dX12_rank_17 : decode cX12_rank 17 = .ok (.aload_n 0, 1) := by decide +kernel
theorem dX12_rank_18 : decode cX12_rank 18 = .ok (.invokevirtual 472, 3) := by decide +kernel
theorem dX12_rank_21 : decode cX12_rank 21 = .ok (.aload_n 0, 1) := by decide +kernel
theorem dX12_rank_22 : decode cX12_rank 22 = .ok (.iload_n 1, 1) := by decide +kernel
theorem dX12_rank_23 : decode cX12_rank 23 = .ok (.iconst 1, 1) := by decide +kernel
theorem dX12_rank_24 : decode cX12_rank 24 = .ok (.invokevirtual 545, 3) := by decide +kernel
theorem dX12_rank_27 : decode cX12_rank 27 = .ok (.aload_n 0, 1) := by decide +kernel
theorem dX12_rank_28 : decode cX12_rank 28 = .ok (.getfield 197, 3) := by decide +kernel
theorem dX12_rank_31 : decode cX12_rank 31 = .ok (.iload_n 2, 1) := by decide +kernel
theorem dX12_rank_32 : decode cX12_rank 32 = .ok (.iaload, 1) := by decide +kernel
theorem dX12_rank_33 : decode cX12_rank 33 = .ok (.ireturn, 1) := by decide +kernel
theorem dX12_share_0 : decode cX12_share 0 = .ok (.iload_n 1, 1) := by decide +kernel
theorem dX12_share_1 : decode cX12_share 1 = .ok (.invokestatic 478, 3) := by decide +kernel
theorem dX12_share_4 : decode cX12_share 4 = .ok (.ifCond .eq 22, 3) := by decide +kernel
theorem dX12_share_7 : decode cX12_share 7 = .ok (.iload_n 2, 1) := by decide +kernel
theorem dX12_share_8 : decode cX12_share 8 = .ok (.iconst 0, 1) := by decide +kernel
theorem dX12_share_9 : decode cX12_share 9 = .ok (.bipush 10, 2) := by decide +kernel
theorem dX12_share_11 : decode cX12_share 11 = .ok (.invokestatic 386, 3) := by decide +kernel
theorem dX12_share_14 : decode cX12_share 14 = .ok (.ifCond .eq 12, 3) := by decide +kernel
theorem dX12_share_17 : decode cX12_share 17 = .ok (.iload_n 3, 1) := by decide +kernel
theorem dX12_share_18 : decode cX12_share 18 = .ok (.iconst 0, 1) := by decide +kernel
theorem dX12_share_19 : decode cX12_share 19 = .ok (.iconst 1, 1) := by decide +kernel
theorem dX12_share_20 : decode cX12_share 20 = .ok (.invokestatic 386, 3) := by decide +kernel
theorem dX12_share_23 : decode cX12_share 23 = .ok (.ifCond .ne 5, 3) := by decide +kernel
theorem dX12_share_26 : decode cX12_share 26 = .ok (.iconst (-1), 1) := by decide +kernel
theorem dX12_share_27 : decode cX12_share 27 = .ok (.ireturn, 1) := by decide +kernel
theorem dX12_share_28 : decode cX12_share 28 = .ok (.aload_n 0, 1) := by decide +kernel
theorem dX12_share_29 : decode cX12_share 29 = .ok (.invokevirtual 472, 3) := by decide +kernel
theorem dX12_share_32 : decode cX12_share 32 = .ok (.aload_n 0, 1) := by decide +kernel
theorem dX12_share_33 : decode cX12_share 33 = .ok (.iconst 0, 1) := by decide +kernel
theorem dX12_share_34 : decode cX12_share 34 = .ok (.iconst 0, 1) := by decide +kernel
theorem dX12_share_35 : decode cX12_share 35 = .ok (.invokevirtual 545, 3) := by decide +kernel
theorem dX12_share_38 : decode cX12_share 38 = .ok (.iconst 0, 1) := by decide +kernel
theorem dX12_share_39 : decode cX12_share 39 = .ok (.istore 4, 2) := by decide +kernel
theorem dX12_share_41 : decode cX12_share 41 = .ok (.iconst 0, 1) := by decide +kernel
theorem dX12_share_42 : decode cX12_share 42 = .ok (.istore 5, 2) := by decide +kernel
theorem dX12_share_44 : decode cX12_share 44 = .ok (.iload 5, 2) := by decide +kernel
theorem dX12_share_46 : decode cX12_share 46 = .ok (.aload_n 0, 1) := by decide +kernel
theorem dX12_share_47 : decode cX12_share 47 = .ok (.iconst 1, 1) := by decide +kernel
theorem dX12_share_48 : decode cX12_share 48 = .ok (.invokevirtual 383, 3) := by decide +kernel
theorem dX12_share_51 : decode cX12_share 51 = .ok (.if_icmp .ge 45, 3) := by decide +kernel
theorem dX12_share_54 : decode cX12_share 54 = .ok (.iload_n 3, 1) := by decide +kernel
theorem dX12_share_55 : decode cX12_share 55 = .ok (.iconst 1, 1) := by decide +kernel
theorem dX12_share_56 : decode cX12_share 56 = .ok (.if_icmp .eq 9, 3) := by decide +kernel
theorem dX12_share_59 : decode cX12_share 59 = .ok (.iload 5, 2) := by decide +kernel
theorem dX12_share_61 : decode cX12_share 61 = .ok (.iload_n 2, 1) := by decide +kernel
theorem dX12_share_62 : decode cX12_share 62 = .ok (.if_icmp .ge 28, 3) := by decide +kernel
theorem dX12_share_65 : decode cX12_share 65 = .ok (.iload 4, 2) := by decide +kernel
theorem dX12_share_67 : decode cX12_share 67 = .ok (.aload_n 0, 1) := by decide +kernel
theorem dX12_share_68 : decode cX12_share 68 = .ok (.getfield 164, 3) := by decide +kernel
theorem dX12_share_71 : decode cX12_share 71 = .ok (.bipush 10, 2) := by decide +kernel
theorem dX12_share_73 : decode cX12_share 73 = .ok (.iload_n 1, 1) := by decide +kernel
theorem dX12_share_74 : decode cX12_share 74 = .ok (.imul, 1) := by decide +kernel
theorem dX12_share_75 : decode cX12_share 75 = .ok (.aload_n 0, 1) := by decide +kernel
theorem dX12_share_76 : decode cX12_share 76 = .ok (.getfield 197, 3) := by decide +kernel
theorem dX12_share_79 : decode cX12_share 79 = .ok (.iload 5, 2) := by decide +kernel
theorem dX12_share_81 : decode cX12_share 81 = .ok (.iaload, 1) := by decide +kernel
theorem dX12_share_82 : decode cX12_share 82 = .ok (.iadd, 1) := by decide +kernel
theorem dX12_share_83 : decode cX12_share 83 = .ok (.iaload, 1) := by decide +kernel
theorem dX12_share_84 : decode cX12_share 84 = .ok (.invokestatic 409, 3) := by decide +kernel
theorem dX12_share_87 : decode cX12_share 87 = .ok (.iadd, 1) := by decide +kernel
theorem dX12_share_88 : decode cX12_share 88 = .ok (.istore 4, 2) := by decide +kernel
theorem dX12_share_90 : decode cX12_share 90 = .ok (.iinc 5 1, 3) := by decide +kernel
theorem dX12_share_93 : decode cX12_share 93 = .ok (.goto (-49), 3) := by decide +kernel
theorem dX12_share_96 : decode cX12_share 96 = .ok (.iload 4, 2) := by decide +kernel
theorem dX12_share_98 : decode cX12_share 98 = .ok (.ireturn, 1) := by decide +kernel
theorem dX12_gain_0 : decode cX12_gain 0 = .ok (.iconst 0, 1) := by decide +kernel
theorem dX12_gain_1 : decode cX12_gain 1 = .ok (.istore 4, 2) := by decide +kernel
theorem dX12_gain_3 : decode cX12_gain 3 = .ok (.iconst 0, 1) := by decide +kernel
theorem dX12_gain_4 : decode cX12_gain 4 = .ok (.istore 5, 2) := by decide +kernel
theorem dX12_gain_6 : decode cX12_gain 6 = .ok (.iload 5, 2) := by decide +kernel
theorem dX12_gain_8 : decode cX12_gain 8 = .ok (.aload_n 0, 1) := by decide +kernel
theorem dX12_gain_9 : decode cX12_gain 9 = .ok (.bipush 6, 2) := by decide +kernel
theorem dX12_gain_11 : decode cX12_gain 11 = .ok (.invokevirtual 383, 3) := by decide +kernel
theorem dX12_gain_14 : decode cX12_gain 14 = .ok (.if_icmp .ge 97, 3) := by decide +kernel
theorem dX12_gain_17 : decode cX12_gain 17 = .ok (.bipush 12, 2) := by decide +kernel
theorem dX12_gain_19 : decode cX12_gain 19 = .ok (.aload_n 0, 1) := by decide +kernel
theorem dX12_gain_20 : decode cX12_gain 20 = .ok (.getfield 290, 3) := by decide +kernel
theorem dX12_gain_23 : decode cX12_gain 23 = .ok (.imul, 1) := by decide +kernel
theorem dX12_gain_24 : decode cX12_gain 24 = .ok (.iload 5, 2) := by decide +kernel
theorem dX12_gain_26 : decode cX12_gain 26 = .ok (.iadd, 1) := by decide +kernel
theorem dX12_gain_27 : decode cX12_gain 27 = .ok (.istore 6, 2) := by decide +kernel
theorem dX12_gain_29 : decode cX12_gain 29 = .ok (.aload_n 0, 1) := by decide +kernel
theorem dX12_gain_30 : decode cX12_gain 30 = .ok (.getfield 88, 3) := by decide +kernel
theorem dX12_gain_33 : decode cX12_gain 33 = .ok (.iload 6, 2) := by decide +kernel
theorem dX12_gain_35 : decode cX12_gain 35 = .ok (.iaload, 1) := by decide +kernel
theorem dX12_gain_36 : decode cX12_gain 36 = .ok (.istore 7, 2) := by decide +kernel
theorem dX12_gain_38 : decode cX12_gain 38 = .ok (.aload_n 0, 1) := by decide +kernel
theorem dX12_gain_39 : decode cX12_gain 39 = .ok (.getfield 91, 3) := by decide +kernel
theorem dX12_gain_42 : decode cX12_gain 42 = .ok (.iload 6, 2) := by decide +kernel
theorem dX12_gain_44 : decode cX12_gain 44 = .ok (.iaload, 1) := by decide +kernel
theorem dX12_gain_45 : decode cX12_gain 45 = .ok (.iload_n 3, 1) := by decide +kernel
theorem dX12_gain_46 : decode cX12_gain 46 = .ok (.if_icmp .ne 59, 3) := by decide +kernel
theorem dX12_gain_49 : decode cX12_gain 49 = .ok (.aload_n 0, 1) := by decide +kernel
theorem dX12_gain_50 : decode cX12_gain 50 = .ok (.getfield 94, 3) := by decide +kernel
theorem dX12_gain_53 : decode cX12_gain 53 = .ok (.iload 6, 2) := by decide +kernel
theorem dX12_gain_55 : decode cX12_gain 55 = .ok (.iaload, 1) := by decide +kernel
theorem dX12_gain_56 : decode cX12_gain 56 = .ok (.iload_n 2, 1) := by decide +kernel
theorem dX12_gain_57 : decode cX12_gain 57 = .ok (.if_icmp .le 48, 3) := by decide +kernel
theorem dX12_gain_60 : decode cX12_gain 60 = .ok (.iload_n 1, 1) := by decide +kernel
theorem dX12_gain_61 : decode cX12_gain 61 = .ok (.iload 7, 2) := by decide +kernel
theorem dX12_gain_63 : decode cX12_gain 63 = .ok (.ishr, 1) := by decide +kernel
theorem dX12_gain_64 : decode cX12_gain 64 = .ok (.iconst 1, 1) := by decide +kernel
theorem dX12_gain_65 : decode cX12_gain 65 = .ok (.iand, 1) := by decide +kernel
theorem dX12_gain_66 : decode cX12_gain 66 = .ok (.ifCond .ne 6, 3) := by decide +kernel
theorem dX12_gain_69 : decode cX12_gain 69 = .ok (.goto 36, 3) := by decide +kernel
theorem dX12_gain_72 : decode cX12_gain 72 = .ok (.aload_n 0, 1) := by decide +kernel
theorem dX12_gain_73 : decode cX12_gain 73 = .ok (.getfield 164, 3) := by decide +kernel
theorem dX12_gain_76 : decode cX12_gain 76 = .ok (.bipush 10, 2) := by decide +kernel
theorem dX12_gain_78 : decode cX12_gain 78 = .ok (.iload_n 2, 1) := by decide +kernel
theorem dX12_gain_79 : decode cX12_gain 79 = .ok (.imul, 1) := by decide +kernel
theorem dX12_gain_80 : decode cX12_gain 80 = .ok (.bipush 10, 2) := by decide +kernel
theorem dX12_gain_82 : decode cX12_gain 82 = .ok (.iadd, 1) := by decide +kernel
theorem dX12_gain_83 : decode cX12_gain 83 = .ok (.iload 7, 2) := by decide +kernel
theorem dX12_gain_85 : decode cX12_gain 85 = .ok (.iadd, 1) := by decide +kernel
theorem dX12_gain_86 : decode cX12_gain 86 = .ok (.iaload, 1) := by decide +kernel
theorem dX12_gain_87 : decode cX12_gain 87 = .ok (.iload_n 3, 1) := by decide +kernel
theorem dX12_gain_88 : decode cX12_gain 88 = .ok (.ishr, 1) := by decide +kernel
theorem dX12_gain_89 : decode cX12_gain 89 = .ok (.iconst 1, 1) := by decide +kernel
theorem dX12_gain_90 : decode cX12_gain 90 = .ok (.iand, 1) := by decide +kernel
theorem dX12_gain_91 : decode cX12_gain 91 = .ok (.ifCond .ne 14, 3) := by decide +kernel
theorem dX12_gain_94 : decode cX12_gain 94 = .ok (.iload 4, 2) := by decide +kernel
theorem dX12_gain_96 : decode cX12_gain 96 = .ok (.aload_n 0, 1) := by decide +kernel
theorem dX12_gain_97 : decode cX12_gain 97 = .ok (.iload 5, 2) := by decide +kernel
theorem dX12_gain_99 : decode cX12_gain 99 = .ok (.invokevirtual 532, 3) := by decide +kernel
theorem dX12_gain_102 : decode cX12_gain 102 = .ok (.iadd, 1) := by decide +kernel
theorem dX12_gain_103 : decode cX12_gain 103 = .ok (.istore 4, 2) := by decide +kernel
theorem dX12_gain_105 : decode cX12_gain 105 = .ok (.iinc 5 1, 3) := by decide +kernel
theorem dX12_gain_108 : decode cX12_gain 108 = .ok (.goto (-102), 3) := by decide +kernel
theorem dX12_gain_111 : decode cX12_gain 111 = .ok (.iload 4, 2) := by decide +kernel
theorem dX12_gain_113 : decode cX12_gain 113 = .ok (.ireturn, 1) := by decide +kernel
theorem dX12_offers_0 : decode cX12_offers 0 = .ok (.aload_n 0, 1) := by decide +kernel
theorem dX12_offers_1 : decode cX12_offers 1 = .ok (.iload_n 1, 1) := by decide +kernel
theorem dX12_offers_2 : decode cX12_offers 2 = .ok (.iload_n 2, 1) := by decide +kernel
theorem dX12_offers_3 : decode cX12_offers 3 = .ok (.iload_n 3, 1) := by decide +kernel
theorem dX12_offers_4 : decode cX12_offers 4 = .ok (.invokevirtual 549, 3) := by decide +kernel
theorem dX12_offers_7 : decode cX12_offers 7 = .ok (.istore 5, 2) := by decide +kernel
theorem dX12_offers_9 : decode cX12_offers 9 = .ok (.iload 5, 2) := by decide +kernel
theorem dX12_offers_11 : decode cX12_offers 11 = .ok (.aload_n 0, 1) := by decide +kernel
theorem dX12_offers_12 : decode cX12_offers 12 = .ok (.getfield 552, 3) := by decide +kernel
theorem dX12_offers_15 : decode cX12_offers 15 = .ok (.if_icmp .gt 4, 3) := by decide +kernel
theorem dX12_offers_18 : decode cX12_offers 18 = .ok (.return_, 1) := by decide +kernel
theorem dX12_offers_19 : decode cX12_offers 19 = .ok (.aload_n 0, 1) := by decide +kernel
theorem dX12_offers_20 : decode cX12_offers 20 = .ok (.iload 5, 2) := by decide +kernel
theorem dX12_offers_22 : decode cX12_offers 22 = .ok (.putfield 552, 3) := by decide +kernel
theorem dX12_offers_25 : decode cX12_offers 25 = .ok (.aload_n 0, 1) := by decide +kernel
theorem dX12_offers_26 : decode cX12_offers 26 = .ok (.iload_n 1, 1) := by decide +kernel
theorem dX12_offers_27 : decode cX12_offers 27 = .ok (.putfield 555, 3) := by decide +kernel
theorem dX12_offers_30 : decode cX12_offers 30 = .ok (.aload_n 0, 1) := by decide +kernel
theorem dX12_offers_31 : decode cX12_offers 31 = .ok (.iload_n 3, 1) := by decide +kernel
theorem dX12_offers_32 : decode cX12_offers 32 = .ok (.putfield 558, 3) := by decide +kernel
theorem dX12_offers_35 : decode cX12_offers 35 = .ok (.aload_n 0, 1) := by decide +kernel
theorem dX12_offers_36 : decode cX12_offers 36 = .ok (.iload 4, 2) := by decide +kernel
theorem dX12_offers_38 : decode cX12_offers 38 = .ok (.putfield 561, 3) := by decide +kernel
theorem dX12_offers_41 : decode cX12_offers 41 = .ok (.return_, 1) := by decide +kernel
theorem dX12_tellsMost_0 : decode cX12_tellsMost 0 = .ok (.aload_n 0, 1) := by decide +kernel
theorem dX12_tellsMost_1 : decode cX12_tellsMost 1 = .ok (.iload_n 1, 1) := by decide +kernel
theorem dX12_tellsMost_2 : decode cX12_tellsMost 2 = .ok (.iload_n 2, 1) := by decide +kernel
theorem dX12_tellsMost_3 : decode cX12_tellsMost 3 = .ok (.invokevirtual 396, 3) := by decide +kernel
theorem dX12_tellsMost_6 : decode cX12_tellsMost 6 = .ok (.istore_n 3, 1) := by decide +kernel
theorem dX12_tellsMost_7 : decode cX12_tellsMost 7 = .ok (.iload_n 3, 1) := by decide +kernel
theorem dX12_tellsMost_8 : decode cX12_tellsMost 8 = .ok (.ifCond .ge 4, 3) := by decide +kernel
theorem dX12_tellsMost_11 : decode cX12_tellsMost 11 = .ok (.return_, 1) := by decide +kernel
theorem dX12_tellsMost_12 : decode cX12_tellsMost 12 = .ok (.aload_n 0, 1) := by decide +kernel
theorem dX12_tellsMost_13 : decode cX12_tellsMost 13 = .ok (.iconst 0, 1) := by decide +kernel
theorem dX12_tellsMost_14 : decode cX12_tellsMost 14 = .ok (.putfield 552, 3) := by decide +kernel
theorem dX12_tellsMost_17 : decode cX12_tellsMost 17 = .ok (.iconst 0, 1) := by decide +kernel
theorem dX12_tellsMost_18 : decode cX12_tellsMost 18 = .ok (.istore 4, 2) := by decide +kernel
theorem dX12_tellsMost_20 : decode cX12_tellsMost 20 = .ok (.iload 4, 2) := by decide +kernel
theorem dX12_tellsMost_22 : decode cX12_tellsMost 22 = .ok (.aload_n 0, 1) := by decide +kernel
theorem dX12_tellsMost_23 : decode cX12_tellsMost 23 = .ok (.iconst 1, 1) := by decide +kernel
theorem dX12_tellsMost_24 : decode cX12_tellsMost 24 = .ok (.invokevirtual 383, 3) := by decide +kernel
theorem dX12_tellsMost_27 : decode cX12_tellsMost 27 = .ok (.if_icmp .ge 69, 3) := by decide +kernel
theorem dX12_tellsMost_30 : decode cX12_tellsMost 30 = .ok (.aload_n 0, 1) := by decide +kernel
theorem dX12_tellsMost_31 : decode cX12_tellsMost 31 = .ok (.iload_n 1, 1) := by decide +kernel
theorem dX12_tellsMost_32 : decode cX12_tellsMost 32 = .ok (.iload 4, 2) := by decide +kernel
theorem dX12_tellsMost_34 : decode cX12_tellsMost 34 = .ok (.iload_n 2, 1) := by decide +kernel
theorem dX12_tellsMost_35 : decode cX12_tellsMost 35 = .ok (.iconst 0, 1) := by decide +kernel
theorem dX12_tellsMost_36 : decode cX12_tellsMost 36 = .ok (.iconst 0, 1) := by decide +kernel
theorem dX12_tellsMost_37 : decode cX12_tellsMost 37 = .ok (.invokevirtual 427, 3) := by decide +kernel
theorem dX12_tellsMost_40 : decode cX12_tellsMost 40 = .ok (.ifCond .ne 6, 3) := by decide +kernel
theorem dX12_tellsMost_43 : decode cX12_tellsMost 43 = .ok (.goto 47, 3) := by decide +kernel
theorem dX12_tellsMost_46 : decode cX12_tellsMost 46 = .ok (.iconst 0, 1) := by decide +kernel
theorem dX12_tellsMost_47 : decode cX12_tellsMost 47 = .ok (.istore 5, 2) := by decide +kernel
theorem dX12_tellsMost_49 : decode cX12_tellsMost 49 = .ok (.iload 5, 2) := by decide +kernel
theorem dX12_tellsMost_51 : decode cX12_tellsMost 51 = .ok (.aload_n 0, 1) := by decide +kernel
theorem dX12_tellsMost_52 : decode cX12_tellsMost 52 = .ok (.iconst 2, 1) := by decide +kernel
theorem dX12_tellsMost_53 : decode cX12_tellsMost 53 = .ok (.invokevirtual 383, 3) := by decide +kernel
theorem dX12_tellsMost_56 : decode cX12_tellsMost 56 = .ok (.if_icmp .ge 34, 3) := by decide +kernel
theorem dX12_tellsMost_59 : decode cX12_tellsMost 59 = .ok (.aload_n 0, 1) := by decide +kernel
theorem dX12_tellsMost_60 : decode cX12_tellsMost 60 = .ok (.iload_n 1, 1) := by decide +kernel
theorem dX12_tellsMost_61 : decode cX12_tellsMost 61 = .ok (.iload_n 2, 1) := by decide +kernel
theorem dX12_tellsMost_62 : decode cX12_tellsMost 62 = .ok (.iload 5, 2) := by decide +kernel
theorem dX12_tellsMost_64 : decode cX12_tellsMost 64 = .ok (.invokevirtual 444, 3) := by decide +kernel
theorem dX12_tellsMost_67 : decode cX12_tellsMost 67 = .ok (.ifCond .eq 17, 3) := by decide +kernel
theorem dX12_tellsMost_70 : decode cX12_tellsMost 70 = .ok (.aload_n 0, 1) := by decide +kernel
theorem dX12_tellsMost_71 : decode cX12_tellsMost 71 = .ok (.aload_n 0, 1) := by decide +kernel
theorem dX12_tellsMost_72 : decode cX12_tellsMost 72 = .ok (.iload_n 3, 1) := by decide +kernel
theorem dX12_tellsMost_73 : decode cX12_tellsMost 73 = .ok (.iload_n 2, 1) := by decide +kernel
theorem dX12_tellsMost_74 : decode cX12_tellsMost 74 = .ok (.invokevirtual 424, 3) := by decide +kernel
theorem dX12_tellsMost_77 : decode cX12_tellsMost 77 = .ok (.iload_n 2, 1) := by decide +kernel
theorem dX12_tellsMost_78 : decode cX12_tellsMost 78 = .ok (.iload 5, 2) := by decide +kernel
theorem dX12_tellsMost_80 : decode cX12_tellsMost 80 = .ok (.iconst 1, 1) := by decide +kernel
theorem dX12_tellsMost_81 : decode cX12_tellsMost 81 = .ok (.invokevirtual 564, 3) := by decide +kernel
theorem dX12_tellsMost_84 : decode cX12_tellsMost 84 = .ok (.iinc 5 1, 3) := by decide +kernel
theorem dX12_tellsMost_87 : decode cX12_tellsMost 87 = .ok (.goto (-38), 3) := by decide +kernel
theorem dX12_tellsMost_90 : decode cX12_tellsMost 90 = .ok (.iinc 4 1, 3) := by decide +kernel
theorem dX12_tellsMost_93 : decode cX12_tellsMost 93 = .ok (.goto (-73), 3) := by decide +kernel
theorem dX12_tellsMost_96 : decode cX12_tellsMost 96 = .ok (.iconst 0, 1) := by decide +kernel
theorem dX12_tellsMost_97 : decode cX12_tellsMost 97 = .ok (.istore 4, 2) := by decide +kernel
theorem dX12_tellsMost_99 : decode cX12_tellsMost 99 = .ok (.iload 4, 2) := by decide +kernel
theorem dX12_tellsMost_101 : decode cX12_tellsMost 101 = .ok (.aload_n 0, 1) := by decide +kernel
theorem dX12_tellsMost_102 : decode cX12_tellsMost 102 = .ok (.bipush 7, 2) := by decide +kernel
theorem dX12_tellsMost_104 : decode cX12_tellsMost 104 = .ok (.invokevirtual 383, 3) := by decide +kernel
theorem dX12_tellsMost_107 : decode cX12_tellsMost 107 = .ok (.if_icmp .ge 65, 3) := by decide +kernel
theorem dX12_tellsMost_110 : decode cX12_tellsMost 110 = .ok (.aload_n 0, 1) := by decide +kernel
theorem dX12_tellsMost_111 : decode cX12_tellsMost 111 = .ok (.getfield 97, 3) := by decide +kernel
theorem dX12_tellsMost_114 : decode cX12_tellsMost 114 = .ok (.bipush 6, 2) := by decide +kernel
theorem dX12_tellsMost_116 : decode cX12_tellsMost 116 = .ok (.aload_n 0, 1) := by decide +kernel
theorem dX12_tellsMost_117 : decode cX12_tellsMost 117 = .ok (.getfield 290, 3) := by decide +kernel
theorem dX12_tellsMost_120 : decode cX12_tellsMost 120 = .ok (.imul, 1) := by decide +kernel
theorem dX12_tellsMost_121 : decode cX12_tellsMost 121 = .ok (.iload 4, 2) := by decide +kernel
theorem dX12_tellsMost_123 : decode cX12_tellsMost 123 = .ok (.iadd, 1) := by decide +kernel
theorem dX12_tellsMost_124 : decode cX12_tellsMost 124 = .ok (.iaload, 1) := by decide +kernel
theorem dX12_tellsMost_125 : decode cX12_tellsMost 125 = .ok (.istore 5, 2) := by decide +kernel
theorem dX12_tellsMost_127 : decode cX12_tellsMost 127 = .ok (.aload_n 0, 1) := by decide +kernel
theorem dX12_tellsMost_128 : decode cX12_tellsMost 128 = .ok (.iload_n 1, 1) := by decide +kernel
theorem dX12_tellsMost_129 : decode cX12_tellsMost 129 = .ok (.iload_n 2, 1) := by decide +kernel
theorem dX12_tellsMost_130 : decode cX12_tellsMost 130 = .ok (.iload 5, 2) := by decide +kernel
theorem dX12_tellsMost_132 : decode cX12_tellsMost 132 = .ok (.invokevirtual 444, 3) := by decide +kernel
theorem dX12_tellsMost_135 : decode cX12_tellsMost 135 = .ok (.ifCond .eq 31, 3) := by decide +kernel
theorem dX12_tellsMost_138 : decode cX12_tellsMost 138 = .ok (.aload_n 0, 1) := by decide +kernel
theorem dX12_tellsMost_139 : decode cX12_tellsMost 139 = .ok (.aload_n 0, 1) := by decide +kernel
theorem dX12_tellsMost_140 : decode cX12_tellsMost 140 = .ok (.iload_n 3, 1) := by decide +kernel
theorem dX12_tellsMost_141 : decode cX12_tellsMost 141 = .ok (.iload_n 2, 1) := by decide +kernel
theorem dX12_tellsMost_142 : decode cX12_tellsMost 142 = .ok (.invokevirtual 406, 3) := by decide +kernel
theorem dX12_tellsMost_145 : decode cX12_tellsMost 145 = .ok (.iload_n 2, 1) := by decide +kernel
theorem dX12_tellsMost_146 : decode cX12_tellsMost 146 = .ok (.iload 5, 2) := by decide +kernel
theorem dX12_tellsMost_148 : decode cX12_tellsMost 148 = .ok (.aload_n 0, 1) := by decide +kernel
theorem dX12_tellsMost_149 : decode cX12_tellsMost 149 = .ok (.getfield 100, 3) := by decide +kernel
theorem dX12_tellsMost_152 : decode cX12_tellsMost 152 = .ok (.bipush 6, 2) := by decide +kernel
theorem dX12_tellsMost_154 : decode cX12_tellsMost 154 = .ok (.aload_n 0, 1) := by decide +kernel
theorem dX12_tellsMost_155 : decode cX12_tellsMost 155 = .ok (.getfield 290, 3) := by decide +kernel
theorem dX12_tellsMost_158 : decode cX12_tellsMost 158 = .ok (.imul, 1) := by decide +kernel
theorem dX12_tellsMost_159 : decode cX12_tellsMost 159 = .ok (.iload 4, 2) := by decide +kernel
theorem dX12_tellsMost_161 : decode cX12_tellsMost 161 = .ok (.iadd, 1) := by decide +kernel
theorem dX12_tellsMost_162 : decode cX12_tellsMost 162 = .ok (.iaload, 1) := by decide +kernel
theorem dX12_tellsMost_163 : decode cX12_tellsMost 163 = .ok (.invokevirtual 564, 3) := by decide +kernel
theorem dX12_tellsMost_166 : decode cX12_tellsMost 166 = .ok (.iinc 4 1, 3) := by decide +kernel
theorem dX12_tellsMost_169 : decode cX12_tellsMost 169 = .ok (.goto (-70), 3) := by decide +kernel
theorem dX12_tellsMost_172 : decode cX12_tellsMost 172 = .ok (.aload_n 0, 1) := by decide +kernel
theorem dX12_tellsMost_173 : decode cX12_tellsMost 173 = .ok (.getfield 552, 3) := by decide +kernel
theorem dX12_tellsMost_176 : decode cX12_tellsMost 176 = .ok (.ifCond .ne 4, 3) := by decide +kernel
theorem dX12_tellsMost_179 : decode cX12_tellsMost 179 = .ok (.return_, 1) := by decide +kernel
theorem dX12_tellsMost_180 : decode cX12_tellsMost 180 = .ok (.aload_n 0, 1) := by decide +kernel
theorem dX12_tellsMost_181 : decode cX12_tellsMost 181 = .ok (.aload_n 0, 1) := by decide +kernel
theorem dX12_tellsMost_182 : decode cX12_tellsMost 182 = .ok (.getfield 555, 3) := by decide +kernel
theorem dX12_tellsMost_185 : decode cX12_tellsMost 185 = .ok (.iload_n 2, 1) := by decide +kernel
theorem dX12_tellsMost_186 : decode cX12_tellsMost 186 = .ok (.iconst 1, 1) := by decide +kernel
theorem dX12_tellsMost_187 : decode cX12_tellsMost 187 = .ok (.aload_n 0, 1) := by decide +kernel
theorem dX12_tellsMost_188 : decode cX12_tellsMost 188 = .ok (.getfield 558, 3) := by decide +kernel
theorem dX12_tellsMost_191 : decode cX12_tellsMost 191 = .ok (.ishl, 1) := by decide +kernel
theorem dX12_tellsMost_192 : decode cX12_tellsMost 192 = .ok (.invokevirtual 447, 3) := by decide +kernel
theorem dX12_tellsMost_195 : decode cX12_tellsMost 195 = .ok (.aload_n 0, 1) := by decide +kernel
theorem dX12_tellsMost_196 : decode cX12_tellsMost 196 = .ok (.dup, 1) := by decide +kernel
theorem dX12_tellsMost_197 : decode cX12_tellsMost 197 = .ok (.getfield 567, 3) := by decide +kernel
theorem dX12_tellsMost_200 : decode cX12_tellsMost 200 = .ok (.aload_n 0, 1) := by decide +kernel
theorem dX12_tellsMost_201 : decode cX12_tellsMost 201 = .ok (.getfield 561, 3) := by decide +kernel
theorem dX12_tellsMost_204 : decode cX12_tellsMost 204 = .ok (.iadd, 1) := by decide +kernel
theorem dX12_tellsMost_205 : decode cX12_tellsMost 205 = .ok (.putfield 567, 3) := by decide +kernel
theorem dX12_tellsMost_208 : decode cX12_tellsMost 208 = .ok (.aload_n 0, 1) := by decide +kernel
theorem dX12_tellsMost_209 : decode cX12_tellsMost 209 = .ok (.dup, 1) := by decide +kernel
theorem dX12_tellsMost_210 : decode cX12_tellsMost 210 = .ok (.getfield 570, 3) := by decide +kernel
theorem dX12_tellsMost_213 : decode cX12_tellsMost 213 = .ok (.iconst 1, 1) := by decide +kernel
theorem dX12_tellsMost_214 : decode cX12_tellsMost 214 = .ok (.iadd, 1) := by decide +kernel
theorem dX12_tellsMost_215 : decode cX12_tellsMost 215 = .ok (.putfield 570, 3) := by decide +kernel
theorem dX12_tellsMost_218 : decode cX12_tellsMost 218 = .ok (.return_, 1) := by decide +kernel
theorem dX12_rules_0 : decode cX12_rules 0 = .ok (.aload_n 0, 1) := by decide +kernel
theorem dX12_rules_1 : decode cX12_rules 1 = .ok (.iconst 0, 1) := by decide +kernel
theorem dX12_rules_2 : decode cX12_rules 2 = .ok (.putfield 390, 3) := by decide +kernel
theorem dX12_rules_5 : decode cX12_rules 5 = .ok (.aload_n 0, 1) := by decide +kernel
theorem dX12_rules_6 : decode cX12_rules 6 = .ok (.invokevirtual 454, 3) := by decide +kernel
theorem dX12_rules_9 : decode cX12_rules 9 = .ok (.aload_n 0, 1) := by decide +kernel
theorem dX12_rules_10 : decode cX12_rules 10 = .ok (.iconst 0, 1) := by decide +kernel
theorem dX12_rules_11 : decode cX12_rules 11 = .ok (.putfield 567, 3) := by decide +kernel
theorem dX12_rules_14 : decode cX12_rules 14 = .ok (.aload_n 0, 1) := by decide +kernel
theorem dX12_rules_15 : decode cX12_rules 15 = .ok (.iconst 0, 1) := by decide +kernel
theorem dX12_rules_16 : decode cX12_rules 16 = .ok (.putfield 570, 3) := by decide +kernel
theorem dX12_rules_19 : decode cX12_rules 19 = .ok (.iconst 0, 1) := by decide +kernel
theorem dX12_rules_20 : decode cX12_rules 20 = .ok (.istore_n 1, 1) := by decide +kernel
theorem dX12_rules_21 : decode cX12_rules 21 = .ok (.iload_n 1, 1) := by decide +kernel
theorem dX12_rules_22 : decode cX12_rules 22 = .ok (.bipush 24, 2) := by decide +kernel
theorem dX12_rules_24 : decode cX12_rules 24 = .ok (.if_icmp .ge 88, 3) := by decide +kernel
theorem dX12_rules_27 : decode cX12_rules 27 = .ok (.iconst 0, 1) := by decide +kernel
theorem dX12_rules_28 : decode cX12_rules 28 = .ok (.istore_n 2, 1) := by decide +kernel
theorem dX12_rules_29 : decode cX12_rules 29 = .ok (.iload_n 2, 1) := by decide +kernel
theorem dX12_rules_30 : decode cX12_rules 30 = .ok (.aload_n 0, 1) := by decide +kernel
theorem dX12_rules_31 : decode cX12_rules 31 = .ok (.iconst 1, 1) := by decide +kernel
theorem dX12_rules_32 : decode cX12_rules 32 = .ok (.invokevirtual 383, 3) := by decide +kernel
theorem dX12_rules_35 : decode cX12_rules 35 = .ok (.if_icmp .ge 37, 3) := by decide +kernel
theorem dX12_rules_38 : decode cX12_rules 38 = .ok (.aload_n 0, 1) := by decide +kernel
theorem dX12_rules_39 : decode cX12_rules 39 = .ok (.getfield 164, 3) := by decide +kernel
theorem dX12_rules_42 : decode cX12_rules 42 = .ok (.bipush 10, 2) := by decide +kernel
theorem dX12_rules_44 : decode cX12_rules 44 = .ok (.iload_n 1, 1) := by decide +kernel
theorem dX12_rules_45 : decode cX12_rules 45 = .ok (.imul, 1) := by decide +kernel
theorem dX12_rules_46 : decode cX12_rules 46 = .ok (.bipush 10, 2) := by decide +kernel
theorem dX12_rules_48 : decode cX12_rules 48 = .ok (.iadd, 1) := by decide +kernel
theorem dX12_rules_49 : decode cX12_rules 49 = .ok (.iload_n 2, 1) := by decide +kernel
theorem dX12_rules_50 : decode cX12_rules 50 = .ok (.iadd, 1) := by decide +kernel
theorem dX12_rules_51 : decode cX12_rules 51 = .ok (.dup2, 1) := by decide +kernel
theorem dX12_rules_52 : decode cX12_rules 52 = .ok (.iaload, 1) := by decide +kernel
theorem dX12_rules_53 : decode cX12_rules 53 = .ok (.aload_n 0, 1) := by decide +kernel
theorem dX12_rules_54 : decode cX12_rules 54 = .ok (.getfield 164, 3) := by decide +kernel
theorem dX12_rules_57 : decode cX12_rules 57 = .ok (.bipush 10, 2) := by decide +kernel
theorem dX12_rules_59 : decode cX12_rules 59 = .ok (.iload_n 1, 1) := by decide +kernel
theorem dX12_rules_60 : decode cX12_rules 60 = .ok (.imul, 1) := by decide +kernel
theorem dX12_rules_61 : decode cX12_rules 61 = .ok (.iload_n 2, 1) := by decide +kernel
theorem dX12_rules_62 : decode cX12_rules 62 = .ok (.iadd, 1) := by decide +kernel
theorem dX12_rules_63 : decode cX12_rules 63 = .ok (.iaload, 1) := by decide +kernel
theorem dX12_rules_64 : decode cX12_rules 64 = .ok (.ior, 1) := by decide +kernel
theorem dX12_rules_65 : decode cX12_rules 65 = .ok (.iastore, 1) := by decide +kernel
theorem dX12_rules_66 : decode cX12_rules 66 = .ok (.iinc 2 1, 3) := by decide +kernel
theorem dX12_rules_69 : decode cX12_rules 69 = .ok (.goto (-40), 3) := by decide +kernel
theorem dX12_rules_72 : decode cX12_rules 72 = .ok (.aload_n 0, 1) := by decide +kernel
theorem dX12_rules_73 : decode cX12_rules 73 = .ok (.iload_n 1, 1) := by decide +kernel
theorem dX12_rules_74 : decode cX12_rules 74 = .ok (.iconst 0, 1) := by decide +kernel
theorem dX12_rules_75 : decode cX12_rules 75 = .ok (.invokevirtual 545, 3) := by decide +kernel
theorem dX12_rules_78 : decode cX12_rules 78 = .ok (.iconst 0, 1) := by decide +kernel
theorem dX12_rules_79 : decode cX12_rules 79 = .ok (.istore_n 2, 1) := by decide +kernel
theorem dX12_rules_80 : decode cX12_rules 80 = .ok (.iload_n 2, 1) := by decide +kernel
theorem dX12_rules_81 : decode cX12_rules 81 = .ok (.aload_n 0, 1) := by decide +kernel
theorem dX12_rules_82 : decode cX12_rules 82 = .ok (.iconst 1, 1) := by decide +kernel
theorem dX12_rules_83 : decode cX12_rules 83 = .ok (.invokevirtual 383, 3) := by decide +kernel
theorem dX12_rules_86 : decode cX12_rules 86 = .ok (.if_icmp .ge 20, 3) := by decide +kernel
theorem dX12_rules_89 : decode cX12_rules 89 = .ok (.aload_n 0, 1) := by decide +kernel
theorem dX12_rules_90 : decode cX12_rules 90 = .ok (.aload_n 0, 1) := by decide +kernel
theorem dX12_rules_91 : decode cX12_rules 91 = .ok (.getfield 197, 3) := by decide +kernel
theorem dX12_rules_94 : decode cX12_rules 94 = .ok (.iload_n 2, 1) := by decide +kernel
theorem dX12_rules_95 : decode cX12_rules 95 = .ok (.iaload, 1) := by decide +kernel
theorem dX12_rules_96 : decode cX12_rules 96 = .ok (.iload_n 1, 1) := by decide +kernel
theorem dX12_rules_97 : decode cX12_rules 97 = .ok (.invokevirtual 573, 3) := by decide +kernel
theorem dX12_rules_100 : decode cX12_rules 100 = .ok (.iinc 2 1, 3) := by decide +kernel
theorem dX12_rules_103 : decode cX12_rules 103 = .ok (.goto (-23), 3) := by decide +kernel
theorem dX12_rules_106 : decode cX12_rules 106 = .ok (.iinc 1 1, 3) := by decide +kernel
theorem dX12_rules_109 : decode cX12_rules 109 = .ok (.goto (-88), 3) := by decide +kernel
theorem dX12_rules_112 : decode cX12_rules 112 = .ok (.return_, 1) := by decide +kernel
theorem dX12_rule_0 : decode cX12_rule 0 = .ok (.iload_n 1, 1) := by decide +kernel
theorem dX12_rule_1 : decode cX12_rule 1 = .ok (.iconst 0, 1) := by decide +kernel
theorem dX12_rule_2 : decode cX12_rule 2 = .ok (.iconst 2, 1) := by decide +kernel
theorem dX12_rule_3 : decode cX12_rule 3 = .ok (.invokestatic 386, 3) := by decide +kernel
theorem dX12_rule_6 : decode cX12_rule 6 = .ok (.ifCond .ne 5, 3) := by decide +kernel
theorem dX12_rule_9 : decode cX12_rule 9 = .ok (.iconst (-1), 1) := by decide +kernel
theorem dX12_rule_10 : decode cX12_rule 10 = .ok (.ireturn, 1) := by decide +kernel
theorem dX12_rule_11 : decode cX12_rule 11 = .ok (.aload_n 0, 1) := by decide +kernel
theorem dX12_rule_12 : decode cX12_rule 12 = .ok (.invokevirtual 576, 3) := by decide +kernel
theorem dX12_rule_15 : decode cX12_rule 15 = .ok (.iload_n 1, 1) := by decide +kernel
theorem dX12_rule_16 : decode cX12_rule 16 = .ok (.ifCond .ne 10, 3) := by decide +kernel
theorem dX12_rule_19 : decode cX12_rule 19 = .ok (.aload_n 0, 1) := by decide +kernel
theorem dX12_rule_20 : decode cX12_rule 20 = .ok (.invokevirtual 535, 3) := by decide +kernel
theorem dX12_rule_23 : decode cX12_rule 23 = .ok (.goto 19, 3) := by decide +kernel
theorem dX12_rule_26 : decode cX12_rule 26 = .ok (.iload_n 1, 1) := by decide +kernel
theorem dX12_rule_27 : decode cX12_rule 27 = .ok (.iconst 1, 1) := by decide +kernel
theorem dX12_rule_28 : decode cX12_rule 28 = .ok (.if_icmp .ne 10, 3) := by decide +kernel
theorem dX12_rule_31 : decode cX12_rule 31 = .ok (.aload_n 0, 1) := by decide +kernel
theorem dX12_rule_32 : decode cX12_rule 32 = .ok (.getfield 567, 3) := by decide +kernel
theorem dX12_rule_35 : decode cX12_rule 35 = .ok (.goto 7, 3) := by decide +kernel
theorem dX12_rule_38 : decode cX12_rule 38 = .ok (.aload_n 0, 1) := by decide +kernel
theorem dX12_rule_39 : decode cX12_rule 39 = .ok (.getfield 570, 3) := by decide +kernel
theorem dX12_rule_42 : decode cX12_rule 42 = .ok (.ireturn, 1) := by decide +kernel
theorem dX12_ruled_0 : decode cX12_ruled 0 = .ok (.aload_n 0, 1) := by decide +kernel
theorem dX12_ruled_1 : decode cX12_ruled 1 = .ok (.iload_n 1, 1) := by decide +kernel
theorem dX12_ruled_2 : decode cX12_ruled 2 = .ok (.invokevirtual 415, 3) := by decide +kernel
theorem dX12_ruled_5 : decode cX12_ruled 5 = .ok (.ifCond .eq 10, 3) := by decide +kernel
theorem dX12_ruled_8 : decode cX12_ruled 8 = .ok (.iload_n 2, 1) := by decide +kernel
theorem dX12_ruled_9 : decode cX12_ruled 9 = .ok (.invokestatic 478, 3) := by decide +kernel
theorem dX12_ruled_12 : decode cX12_ruled 12 = .ok (.ifCond .ne 5, 3) := by decide +kernel
theorem dX12_ruled_15 : decode cX12_ruled 15 = .ok (.iconst (-1), 1) := by decide +kernel
theorem dX12_ruled_16 : decode cX12_ruled 16 = .ok (.ireturn, 1) := by decide +kernel
theorem dX12_ruled_17 : decode cX12_ruled 17 = .ok (.aload_n 0, 1) := by decide +kernel
theorem dX12_ruled_18 : decode cX12_ruled 18 = .ok (.invokevirtual 576, 3) := by decide +kernel
theorem dX12_ruled_21 : decode cX12_ruled 21 = .ok (.aload_n 0, 1) := by decide +kernel
theorem dX12_ruled_22 : decode cX12_ruled 22 = .ok (.getfield 164, 3) := by decide +kernel
theorem dX12_ruled_25 : decode cX12_ruled 25 = .ok (.bipush 10, 2) := by decide +kernel
theorem dX12_ruled_27 : decode cX12_ruled 27 = .ok (.iload_n 2, 1) := by decide +kernel
theorem dX12_ruled_28 : decode cX12_ruled 28 = .ok (.imul, 1) := by decide +kernel
theorem dX12_ruled_29 : decode cX12_ruled 29 = .ok (.iload_n 1, 1) := by decide +kernel
theorem dX12_ruled_30 : decode cX12_ruled 30 = .ok (.iadd, 1) := by decide +kernel
theorem dX12_ruled_31 : decode cX12_ruled 31 = .ok (.iaload, 1) := by decide +kernel
theorem dX12_ruled_32 : decode cX12_ruled 32 = .ok (.ireturn, 1) := by decide +kernel
theorem dX12_goesByLots_0 : decode cX12_goesByLots 0 = .ok (.aload_n 0, 1) := by decide +kernel
theorem dX12_goesByLots_1 : decode cX12_goesByLots 1 = .ok (.iload_n 1, 1) := by decide +kernel
theorem dX12_goesByLots_2 : decode cX12_goesByLots 2 = .ok (.putfield 457, 3) := by decide +kernel
theorem dX12_goesByLots_5 : decode cX12_goesByLots 5 = .ok (.aload_n 0, 1) := by decide +kernel
theorem dX12_goesByLots_6 : decode cX12_goesByLots 6 = .ok (.iload_n 2, 1) := by decide +kernel
theorem dX12_goesByLots_7 : decode cX12_goesByLots 7 = .ok (.putfield 176, 3) := by decide +kernel
theorem dX12_goesByLots_10 : decode cX12_goesByLots 10 = .ok (.aload_n 0, 1) := by decide +kernel
theorem dX12_goesByLots_11 : decode cX12_goesByLots 11 = .ok (.invokevirtual 469, 3) := by decide +kernel
theorem dX12_goesByLots_14 : decode cX12_goesByLots 14 = .ok (.aload_n 0, 1) := by decide +kernel
theorem dX12_goesByLots_15 : decode cX12_goesByLots 15 = .ok (.iconst (-1), 1) := by decide +kernel
theorem dX12_goesByLots_16 : decode cX12_goesByLots 16 = .ok (.putfield 176, 3) := by decide +kernel
theorem dX12_goesByLots_19 : decode cX12_goesByLots 19 = .ok (.return_, 1) := by decide +kernel
theorem dX12_goneNow_0 : decode cX12_goneNow 0 = .ok (.iconst 0, 1) := by decide +kernel
theorem dX12_goneNow_1 : decode cX12_goneNow 1 = .ok (.istore_n 1, 1) := by decide +kernel
theorem dX12_goneNow_2 : decode cX12_goneNow 2 = .ok (.iconst 0, 1) := by decide +kernel
theorem dX12_goneNow_3 : decode cX12_goneNow 3 = .ok (.istore_n 2, 1) := by decide +kernel
theorem dX12_goneNow_4 : decode cX12_goneNow 4 = .ok (.iconst 0, 1) := by decide +kernel
theorem dX12_goneNow_5 : decode cX12_goneNow 5 = .ok (.istore_n 3, 1) := by decide +kernel
theorem dX12_goneNow_6 : decode cX12_goneNow 6 = .ok (.iload_n 3, 1) := by decide +kernel
theorem dX12_goneNow_7 : decode cX12_goneNow 7 = .ok (.aload_n 0, 1) := by decide +kernel
theorem dX12_goneNow_8 : decode cX12_goneNow 8 = .ok (.iconst 1, 1) := by decide +kernel
theorem dX12_goneNow_9 : decode cX12_goneNow 9 = .ok (.invokevirtual 383, 3) := by decide +kernel
theorem dX12_goneNow_12 : decode cX12_goneNow 12 = .ok (.if_icmp .ge 43, 3) := by decide +kernel
theorem dX12_goneNow_15 : decode cX12_goneNow 15 = .ok (.iload_n 1, 1) := by decide +kernel
theorem dX12_goneNow_16 : decode cX12_goneNow 16 = .ok (.aload_n 0, 1) := by decide +kernel
theorem dX12_goneNow_17 : decode cX12_goneNow 17 = .ok (.getfield 164, 3) := by decide +kernel
theorem dX12_goneNow_20 : decode cX12_goneNow 20 = .ok (.sipush 240, 3) := by decide +kernel
theorem dX12_goneNow_23 : decode cX12_goneNow 23 = .ok (.iload_n 3, 1) := by decide +kernel
theorem dX12_goneNow_24 : decode cX12_goneNow 24 = .ok (.iadd, 1) := by decide +kernel
theorem dX12_goneNow_25 : decode cX12_goneNow 25 = .ok (.iaload, 1) := by decide +kernel
theorem dX12_goneNow_26 : decode cX12_goneNow 26 = .ok (.ior, 1) := by decide +kernel
theorem dX12_goneNow_27 : decode cX12_goneNow 27 = .ok (.istore_n 1, 1) := by decide +kernel
theorem dX12_goneNow_28 : decode cX12_goneNow 28 = .ok (.aload_n 0, 1) := by decide +kernel
theorem dX12_goneNow_29 : decode cX12_goneNow 29 = .ok (.iload_n 3, 1) := by decide +kernel
theorem dX12_goneNow_30 : decode cX12_goneNow 30 = .ok (.invokevirtual 393, 3) := by decide +kernel
theorem dX12_goneNow_33 : decode cX12_goneNow 33 = .ok (.ifCond .ne 16, 3) := by decide +kernel
theorem dX12_goneNow_36 : decode cX12_goneNow 36 = .ok (.iload_n 2, 1) := by decide +kernel
theorem dX12_goneNow_37 : decode cX12_goneNow 37 = .ok (.aload_n 0, 1) := by decide +kernel
theorem dX12_goneNow_38 : decode cX12_goneNow 38 = .ok (.getfield 164, 3) := by decide +kernel
theorem dX12_goneNow_41 : decode cX12_goneNow 41 = .ok (.sipush 240, 3) := by decide +kernel
theorem dX12_goneNow_44 : decode cX12_goneNow 44 = .ok (.iload_n 3, 1) := by decide +kernel
theorem dX12_goneNow_45 : decode cX12_goneNow 45 = .ok (.iadd, 1) := by decide +kernel
theorem dX12_goneNow_46 : decode cX12_goneNow 46 = .ok (.iaload, 1) := by decide +kernel
theorem dX12_goneNow_47 : decode cX12_goneNow 47 = .ok (.ior, 1) := by decide +kernel
theorem dX12_goneNow_48 : decode cX12_goneNow 48 = .ok (.istore_n 2, 1) := by decide +kernel
theorem dX12_goneNow_49 : decode cX12_goneNow 49 = .ok (.iinc 3 1, 3) := by decide +kernel
theorem dX12_goneNow_52 : decode cX12_goneNow 52 = .ok (.goto (-46), 3) := by decide +kernel
theorem dX12_goneNow_55 : decode cX12_goneNow 55 = .ok (.iload_n 1, 1) := by decide +kernel
theorem dX12_goneNow_56 : decode cX12_goneNow 56 = .ok (.iload_n 2, 1) := by decide +kernel
theorem dX12_goneNow_57 : decode cX12_goneNow 57 = .ok (.iconst (-1), 1) := by decide +kernel
theorem dX12_goneNow_58 : decode cX12_goneNow 58 = .ok (.ixor, 1) := by decide +kernel
theorem dX12_goneNow_59 : decode cX12_goneNow 59 = .ok (.iand, 1) := by decide +kernel
theorem dX12_goneNow_60 : decode cX12_goneNow 60 = .ok (.ireturn, 1) := by decide +kernel
theorem dX12_day_0 : decode cX12_day 0 = .ok (.iload_n 2, 1) := by decide +kernel
theorem dX12_day_1 : decode cX12_day 1 = .ok (.iconst 0, 1) := by decide +kernel
theorem dX12_day_2 : decode cX12_day 2 = .ok (.bipush 100, 2) := by decide +kernel
theorem dX12_day_4 : decode cX12_day 4 = .ok (.invokestatic 386, 3) := by decide +kernel
theorem dX12_day_7 : decode cX12_day 7 = .ok (.ifCond .eq 12, 3) := by decide +kernel
theorem dX12_day_10 : decode cX12_day 10 = .ok (.iload_n 3, 1) := by decide +kernel
theorem dX12_day_11 : decode cX12_day 11 = .ok (.iconst 0, 1) := by decide +kernel
theorem dX12_day_12 : decode cX12_day 12 = .ok (.iconst 3, 1) := by decide +kernel
theorem dX12_day_13 : decode cX12_day 13 = .ok (.invokestatic 386, 3) := by decide +kernel
theorem dX12_day_16 : decode cX12_day 16 = .ok (.ifCond .ne 5, 3) := by decide +kernel
theorem dX12_day_19 : decode cX12_day 19 = .ok (.iconst (-1), 1) := by decide +kernel
theorem dX12_day_20 : decode cX12_day 20 = .ok (.ireturn, 1) := by decide +kernel
theorem dX12_day_21 : decode cX12_day 21 = .ok (.aload_n 0, 1) := by decide +kernel
theorem dX12_day_22 : decode cX12_day 22 = .ok (.iload_n 1, 1) := by decide +kernel
theorem dX12_day_23 : decode cX12_day 23 = .ok (.iload_n 2, 1) := by decide +kernel
theorem dX12_day_24 : decode cX12_day 24 = .ok (.invokevirtual 579, 3) := by decide +kernel
theorem dX12_day_27 : decode cX12_day 27 = .ok (.iconst 0, 1) := by decide +kernel
theorem dX12_day_28 : decode cX12_day 28 = .ok (.istore 4, 2) := by decide +kernel
theorem dX12_day_30 : decode cX12_day 30 = .ok (.iload_n 3, 1) := by decide +kernel
theorem dX12_day_31 : decode cX12_day 31 = .ok (.ifCond .ne 24, 3) := by decide +kernel
theorem dX12_day_34 : decode cX12_day 34 = .ok (.iconst 1, 1) := by decide +kernel
theorem dX12_day_35 : decode cX12_day 35 = .ok (.aload_n 0, 1) := by decide +kernel
theorem dX12_day_36 : decode cX12_day 36 = .ok (.iconst 1, 1) := by decide +kernel
theorem dX12_day_37 : decode cX12_day 37 = .ok (.invokevirtual 383, 3) := by decide +kernel
theorem dX12_day_40 : decode cX12_day 40 = .ok (.ishl, 1) := by decide +kernel
theorem dX12_day_41 : decode cX12_day 41 = .ok (.iconst 1, 1) := by decide +kernel
theorem dX12_day_42 : decode cX12_day 42 = .ok (.isub, 1) := by decide +kernel
theorem dX12_day_43 : decode cX12_day 43 = .ok (.aload_n 0, 1) := by decide +kernel
theorem dX12_day_44 : decode cX12_day 44 = .ok (.getfield 390, 3) := by decide +kernel
theorem dX12_day_47 : decode cX12_day 47 = .ok (.iconst (-1), 1) := by decide +kernel
theorem dX12_day_48 : decode cX12_day 48 = .ok (.ixor, 1) := by decide +kernel
theorem dX12_day_49 : decode cX12_day 49 = .ok (.iand, 1) := by decide +kernel
theorem dX12_day_50 : decode cX12_day 50 = .ok (.istore 4, 2) := by decide +kernel
theorem dX12_day_52 : decode cX12_day 52 = .ok (.goto 69, 3) := by decide +kernel
theorem dX12_day_55 : decode cX12_day 55 = .ok (.iload_n 3, 1) := by decide +kernel
theorem dX12_day_56 : decode cX12_day 56 = .ok (.iconst 1, 1) := by decide +kernel
theorem dX12_day_57 : decode cX12_day 57 = .ok (.if_icmp .ne 12, 3) := by decide +kernel
theorem dX12_day_60 : decode cX12_day 60 = .ok (.aload_n 0, 1) := by decide +kernel
theorem dX12_day_61 : decode cX12_day 61 = .ok (.invokevirtual 582, 3) := by decide +kernel
theorem dX12_day_64 : decode cX12_day 64 = .ok (.istore 4, 2) := by decide +kernel
theorem dX12_day_66 : decode cX12_day 66 = .ok (.goto 55, 3) := by decide +kernel
theorem dX12_day_69 : decode cX12_day 69 = .ok (.iload_n 3, 1) := by decide +kernel
theorem dX12_day_70 : decode cX12_day 70 = .ok (.iconst 2, 1) := by decide +kernel
theorem dX12_day_71 : decode cX12_day 71 = .ok (.if_icmp .ne 12, 3) := by decide +kernel
theorem dX12_day_74 : decode cX12_day 74 = .ok (.aload_n 0, 1) := by decide +kernel
theorem dX12_day_75 : decode cX12_day 75 = .ok (.invokevirtual 535, 3) := by decide +kernel
theorem dX12_day_78 : decode cX12_day 78 = .ok (.istore 4, 2) := by decide +kernel
theorem dX12_day_80 : decode cX12_day 80 = .ok (.goto 41, 3) := by decide +kernel
theorem dX12_day_83 : decode cX12_day 83 = .ok (.iconst 0, 1) := by decide +kernel
theorem dX12_day_84 : decode cX12_day 84 = .ok (.istore 5, 2) := by decide +kernel
theorem dX12_day_86 : decode cX12_day 86 = .ok (.iload 5, 2) := by decide +kernel
theorem dX12_day_88 : decode cX12_day 88 = .ok (.aload_n 0, 1) := by decide +kernel
theorem dX12_day_89 : decode cX12_day 89 = .ok (.getfield 308, 3) := by decide +kernel
theorem dX12_day_92 : decode cX12_day 92 = .ok (.if_icmp .ge 29, 3) := by decide +kernel
theorem dX12_day_95 : decode cX12_day 95 = .ok (.iload 4, 2) := by decide +kernel
theorem dX12_day_97 : decode cX12_day 97 = .ok (.aload_n 0, 1) := by decide +kernel
theorem dX12_day_98 : decode cX12_day 98 = .ok (.getfield 167, 3) := by decide +kernel
theorem dX12_day_101 : decode cX12_day 101 = .ok (.iload 5, 2) := by decide +kernel
theorem dX12_day_103 : decode cX12_day 103 = .ok (.iaload, 1) := by decide +kernel
theorem dX12_day_104 : decode cX12_day 104 = .ok (.ifCond .ne 7, 3) := by decide +kernel
theorem dX12_day_107 : decode cX12_day 107 = .ok (.iconst 1, 1) := by decide +kernel
theorem dX12_day_108 : decode cX12_day 108 = .ok (.goto 4, 3) := by decide +kernel
theorem dX12_day_111 : decode cX12_day 111 = .ok (.iconst 0, 1) := by decide +kernel
theorem dX12_day_112 : decode cX12_day 112 = .ok (.iadd, 1) := by decide +kernel
theorem dX12_day_113 : decode cX12_day 113 = .ok (.istore 4, 2) := by decide +kernel
theorem dX12_day_115 : decode cX12_day 115 = .ok (.iinc 5 1, 3) := by decide +kernel
theorem dX12_day_118 : decode cX12_day 118 = .ok (.goto (-32), 3) := by decide +kernel
theorem dX12_day_121 : decode cX12_day 121 = .ok (.aload_n 0, 1) := by decide +kernel
theorem dX12_day_122 : decode cX12_day 122 = .ok (.iconst 0, 1) := by decide +kernel
theorem dX12_day_123 : decode cX12_day 123 = .ok (.putfield 390, 3) := by decide +kernel
theorem dX12_day_126 : decode cX12_day 126 = .ok (.iload 4, 2) := by decide +kernel
theorem dX12_day_128 : decode cX12_day 128 = .ok (.ireturn, 1) := by decide +kernel
theorem dX12_kept_0 : decode cX12_kept 0 = .ok (.iload_n 2, 1) := by decide +kernel
theorem dX12_kept_1 : decode cX12_kept 1 = .ok (.iconst 1, 1) := by decide +kernel
theorem dX12_kept_2 : decode cX12_kept 2 = .ok (.bipush 50, 2) := by decide +kernel
theorem dX12_kept_4 : decode cX12_kept 4 = .ok (.invokestatic 386, 3) := by decide +kernel
theorem dX12_kept_7 : decode cX12_kept 7 = .ok (.ifCond .eq 22, 3) := by decide +kernel
theorem dX12_kept_10 : decode cX12_kept 10 = .ok (.iload_n 3, 1) := by decide +kernel
theorem dX12_kept_11 : decode cX12_kept 11 = .ok (.iconst 0, 1) := by decide +kernel
theorem dX12_kept_12 : decode cX12_kept 12 = .ok (.bipush 100, 2) := by decide +kernel
theorem dX12_kept_14 : decode cX12_kept 14 = .ok (.invokestatic 386, 3) := by decide +kernel
theorem dX12_kept_17 : decode cX12_kept 17 = .ok (.ifCond .eq 12, 3) := by decide +kernel
theorem dX12_kept_20 : decode cX12_kept 20 = .ok (.aload_n 0, 1) := by decide +kernel
theorem dX12_kept_21 : decode cX12_kept 21 = .ok (.iload 4, 2) := by decide +kernel
theorem dX12_kept_23 : decode cX12_kept 23 = .ok (.invokevirtual 434, 3) := by decide +kernel
theorem dX12_kept_26 : decode cX12_kept 26 = .ok (.ifCond .ne 5, 3) := by decide +kernel
theorem dX12_kept_29 : decode cX12_kept 29 = .ok (.iconst (-1), 1) := by decide +kernel
theorem dX12_kept_30 : decode cX12_kept 30 = .ok (.ireturn, 1) := by decide +kernel
theorem dX12_kept_31 : decode cX12_kept 31 = .ok (.iconst 0, 1) := by decide +kernel
theorem dX12_kept_32 : decode cX12_kept 32 = .ok (.istore 5, 2) := by decide +kernel
theorem dX12_kept_34 : decode cX12_kept 34 = .ok (.iconst 0, 1) := by decide +kernel
theorem dX12_kept_35 : decode cX12_kept 35 = .ok (.istore 6, 2) := by decide +kernel
theorem dX12_kept_37 : decode cX12_kept 37 = .ok (.iload 6, 2) := by decide +kernel
theorem dX12_kept_39 : decode cX12_kept 39 = .ok (.iload_n 2, 1) := by decide +kernel
theorem dX12_kept_40 : decode cX12_kept 40 = .ok (.if_icmp .ge 33, 3) := by decide +kernel
theorem dX12_kept_43 : decode cX12_kept 43 = .ok (.aload_n 0, 1) := by decide +kernel
theorem dX12_kept_44 : decode cX12_kept 44 = .ok (.iload_n 1, 1) := by decide +kernel
theorem dX12_kept_45 : decode cX12_kept 45 = .ok (.iload 6, 2) := by decide +kernel
theorem dX12_kept_47 : decode cX12_kept 47 = .ok (.iadd, 1) := by decide +kernel
theorem dX12_kept_48 : decode cX12_kept 48 = .ok (.iload_n 3, 1) := by decide +kernel
theorem dX12_kept_49 : decode cX12_kept 49 = .ok (.invokevirtual 579, 3) := by decide +kernel
theorem dX12_kept_52 : decode cX12_kept 52 = .ok (.aload_n 0, 1) := by decide +kernel
theorem dX12_kept_53 : decode cX12_kept 53 = .ok (.invokevirtual 582, 3) := by decide +kernel
theorem dX12_kept_56 : decode cX12_kept 56 = .ok (.iload 4, 2) := by decide +kernel
theorem dX12_kept_58 : decode cX12_kept 58 = .ok (.ishr, 1) := by decide +kernel
theorem dX12_kept_59 : decode cX12_kept 59 = .ok (.iconst 1, 1) := by decide +kernel
theorem dX12_kept_60 : decode cX12_kept 60 = .ok (.iand, 1) := by decide +kernel
theorem dX12_kept_61 : decode cX12_kept 61 = .ok (.ifCond .ne 6, 3) := by decide +kernel
theorem dX12_kept_64 : decode cX12_kept 64 = .ok (.iinc 5 1, 3) := by decide +kernel
theorem dX12_kept_67 : decode cX12_kept 67 = .ok (.iinc 6 1, 3) := by decide +kernel
theorem dX12_kept_70 : decode cX12_kept 70 = .ok (.goto (-33), 3) := by decide +kernel
theorem dX12_kept_73 : decode cX12_kept 73 = .ok (.aload_n 0, 1) := by decide +kernel
theorem dX12_kept_74 : decode cX12_kept 74 = .ok (.iconst 0, 1) := by decide +kernel
theorem dX12_kept_75 : decode cX12_kept 75 = .ok (.putfield 390, 3) := by decide +kernel
theorem dX12_kept_78 : decode cX12_kept 78 = .ok (.iload 5, 2) := by decide +kernel
theorem dX12_kept_80 : decode cX12_kept 80 = .ok (.ireturn, 1) := by decide +kernel
theorem dX12_hold_0 : decode cX12_hold 0 = .ok (.iload_n 1, 1) := by decide +kernel
theorem dX12_hold_1 : decode cX12_hold 1 = .ok (.iconst 0, 1) := by decide +kernel
theorem dX12_hold_2 : decode cX12_hold 2 = .ok (.iconst 2, 1) := by decide +kernel
theorem dX12_hold_3 : decode cX12_hold 3 = .ok (.invokestatic 386, 3) := by decide +kernel
theorem dX12_hold_6 : decode cX12_hold 6 = .ok (.ifCond .ne 5, 3) := by decide +kernel
theorem dX12_hold_9 : decode cX12_hold 9 = .ok (.iconst 0, 1) := by decide +kernel
theorem dX12_hold_10 : decode cX12_hold 10 = .ok (.ireturn, 1) := by decide +kernel
theorem dX12_hold_11 : decode cX12_hold 11 = .ok (.aload_n 0, 1) := by decide +kernel
theorem dX12_hold_12 : decode cX12_hold 12 = .ok (.getfield 200, 3) := by decide +kernel
theorem dX12_hold_15 : decode cX12_hold 15 = .ok (.iload_n 1, 1) := by decide +kernel
theorem dX12_hold_16 : decode cX12_hold 16 = .ok (.aload_n 0, 1) := by decide +kernel
theorem dX12_hold_17 : decode cX12_hold 17 = .ok (.getfield 308, 3) := by decide +kernel
theorem dX12_hold_20 : decode cX12_hold 20 = .ok (.iastore, 1) := by decide +kernel
theorem dX12_hold_21 : decode cX12_hold 21 = .ok (.iconst 0, 1) := by decide +kernel
theorem dX12_hold_22 : decode cX12_hold 22 = .ok (.istore_n 2, 1) := by decide +kernel
theorem dX12_hold_23 : decode cX12_hold 23 = .ok (.iload_n 2, 1) := by decide +kernel
theorem dX12_hold_24 : decode cX12_hold 24 = .ok (.aload_n 0, 1) := by decide +kernel
theorem dX12_hold_25 : decode cX12_hold 25 = .ok (.getfield 308, 3) := by decide +kernel
theorem dX12_hold_28 : decode cX12_hold 28 = .ok (.if_icmp .ge 94, 3) := by decide +kernel
theorem dX12_hold_31 : decode cX12_hold 31 = .ok (.aload_n 0, 1) := by decide +kernel
theorem dX12_hold_32 : decode cX12_hold 32 = .ok (.getfield 203, 3) := by decide +kernel
theorem dX12_hold_35 : decode cX12_hold 35 = .ok (.bipush 30, 2) := by decide +kernel
theorem dX12_hold_37 : decode cX12_hold 37 = .ok (.iload_n 1, 1) := by decide +kernel
theorem dX12_hold_38 : decode cX12_hold 38 = .ok (.imul, 1) := by decide +kernel
theorem dX12_hold_39 : decode cX12_hold 39 = .ok (.iload_n 2, 1) := by decide +kernel
theorem dX12_hold_40 : decode cX12_hold 40 = .ok (.iadd, 1) := by decide +kernel
theorem dX12_hold_41 : decode cX12_hold 41 = .ok (.aload_n 0, 1) := by decide +kernel
theorem dX12_hold_42 : decode cX12_hold 42 = .ok (.getfield 149, 3) := by decide +kernel
theorem dX12_hold_45 : decode cX12_hold 45 = .ok (.iload_n 2, 1) := by decide +kernel
theorem dX12_hold_46 : decode cX12_hold 46 = .ok (.iaload, 1) := by decide +kernel
theorem dX12_hold_47 : decode cX12_hold 47 = .ok (.iastore, 1) := by decide +kernel
theorem dX12_hold_48 : decode cX12_hold 48 = .ok (.aload_n 0, 1) := by decide +kernel
theorem dX12_hold_49 : decode cX12_hold 49 = .ok (.getfield 206, 3) := by decide +kernel
theorem dX12_hold_52 : decode cX12_hold 52 = .ok (.bipush 30, 2) := by decide +kernel
theorem dX12_hold_54 : decode cX12_hold 54 = .ok (.iload_n 1, 1) := by decide +kernel
theorem dX12_hold_55 : decode cX12_hold 55 = .ok (.imul, 1) := by decide +kernel
theorem dX12_hold_56 : decode cX12_hold 56 = .ok (.iload_n 2, 1) := by decide +kernel
theorem dX12_hold_57 : decode cX12_hold 57 = .ok (.iadd, 1) := by decide +kernel
theorem dX12_hold_58 : decode cX12_hold 58 = .ok (.aload_n 0, 1) := by decide +kernel
theorem dX12_hold_59 : decode cX12_hold 59 = .ok (.getfield 152, 3) := by decide +kernel
theorem dX12_hold_62 : decode cX12_hold 62 = .ok (.iload_n 2, 1) := by decide +kernel
theorem dX12_hold_63 : decode cX12_hold 63 = .ok (.iaload, 1) := by decide +kernel
theorem dX12_hold_64 : decode cX12_hold 64 = .ok (.iastore, 1) := by decide +kernel
theorem dX12_hold_65 : decode cX12_hold 65 = .ok (.aload_n 0, 1) := by decide +kernel
theorem dX12_hold_66 : decode cX12_hold 66 = .ok (.getfield 209, 3) := by decide +kernel
theorem dX12_hold_69 : decode cX12_hold 69 = .ok (.bipush 30, 2) := by decide +kernel
theorem dX12_hold_71 : decode cX12_hold 71 = .ok (.iload_n 1, 1) := by decide +kernel
theorem dX12_hold_72 : decode cX12_hold 72 = .ok (.imul, 1) := by decide +kernel
theorem dX12_hold_73 : decode cX12_hold 73 = .ok (.iload_n 2, 1) := by decide +kernel
theorem dX12_hold_74 : decode cX12_hold 74 = .ok (.iadd, 1) := by decide +kernel
theorem dX12_hold_75 : decode cX12_hold 75 = .ok (.aload_n 0, 1) := by decide +kernel
theorem dX12_hold_76 : decode cX12_hold 76 = .ok (.getfield 155, 3) := by decide +kernel
theorem dX12_hold_79 : decode cX12_hold 79 = .ok (.iload_n 2, 1) := by decide +kernel
theorem dX12_hold_80 : decode cX12_hold 80 = .ok (.iaload, 1) := by decide +kernel
theorem dX12_hold_81 : decode cX12_hold 81 = .ok (.iastore, 1) := by decide +kernel
theorem dX12_hold_82 : decode cX12_hold 82 = .ok (.aload_n 0, 1) := by decide +kernel
theorem dX12_hold_83 : decode cX12_hold 83 = .ok (.getfield 212, 3) := by decide +kernel
theorem dX12_hold_86 : decode cX12_hold 86 = .ok (.bipush 30, 2) := by decide +kernel
theorem dX12_hold_88 : decode cX12_hold 88 = .ok (.iload_n 1, 1) := by decide +kernel
theorem dX12_hold_89 : decode cX12_hold 89 = .ok (.imul, 1) := by decide +kernel
theorem dX12_hold_90 : decode cX12_hold 90 = .ok (.iload_n 2, 1) := by decide +kernel
theorem dX12_hold_91 : decode cX12_hold 91 = .ok (.iadd, 1) := by decide +kernel
theorem dX12_hold_92 : decode cX12_hold 92 = .ok (.aload_n 0, 1) := by decide +kernel
theorem dX12_hold_93 : decode cX12_hold 93 = .ok (.getfield 158, 3) := by decide +kernel
theorem dX12_hold_96 : decode cX12_hold 96 = .ok (.iload_n 2, 1) := by decide +kernel
theorem dX12_hold_97 : decode cX12_hold 97 = .ok (.iaload, 1) := by decide +kernel
theorem dX12_hold_98 : decode cX12_hold 98 = .ok (.iastore, 1) := by decide +kernel
theorem dX12_hold_99 : decode cX12_hold 99 = .ok (.aload_n 0, 1) := by decide +kernel
theorem dX12_hold_100 : decode cX12_hold 100 = .ok (.getfield 215, 3) := by decide +kernel
theorem dX12_hold_103 : decode cX12_hold 103 = .ok (.bipush 30, 2) := by decide +kernel
theorem dX12_hold_105 : decode cX12_hold 105 = .ok (.iload_n 1, 1) := by decide +kernel
theorem dX12_hold_106 : decode cX12_hold 106 = .ok (.imul, 1) := by decide +kernel
theorem dX12_hold_107 : decode cX12_hold 107 = .ok (.iload_n 2, 1) := by decide +kernel
theorem dX12_hold_108 : decode cX12_hold 108 = .ok (.iadd, 1) := by decide +kernel
theorem dX12_hold_109 : decode cX12_hold 109 = .ok (.aload_n 0, 1) := by decide +kernel
theorem dX12_hold_110 : decode cX12_hold 110 = .ok (.getfield 161, 3) := by decide +kernel
theorem dX12_hold_113 : decode cX12_hold 113 = .ok (.iload_n 2, 1) := by decide +kernel
theorem dX12_hold_114 : decode cX12_hold 114 = .ok (.iaload, 1) := by decide +kernel
theorem dX12_hold_115 : decode cX12_hold 115 = .ok (.iastore, 1) := by decide +kernel
theorem dX12_hold_116 : decode cX12_hold 116 = .ok (.iinc 2 1, 3) := by decide +kernel
theorem dX12_hold_119 : decode cX12_hold 119 = .ok (.goto (-96), 3) := by decide +kernel
theorem dX12_hold_122 : decode cX12_hold 122 = .ok (.iconst 1, 1) := by decide +kernel
theorem dX12_hold_123 : decode cX12_hold 123 = .ok (.ireturn, 1) := by decide +kernel
theorem dX12_restore_0 : decode cX12_restore 0 = .ok (.iload_n 1, 1) := by decide +kernel
theorem dX12_restore_1 : decode cX12_restore 1 = .ok (.iconst 0, 1) := by decide +kernel
theorem dX12_restore_2 : decode cX12_restore 2 = .ok (.iconst 2, 1) := by decide +kernel
theorem dX12_restore_3 : decode cX12_restore 3 = .ok (.invokestatic 386, 3) := by decide +kernel
theorem dX12_restore_6 : decode cX12_restore 6 = .ok (.ifCond .eq 12, 3) := by decide +kernel
theorem dX12_restore_9 : decode cX12_restore 9 = .ok (.aload_n 0, 1) := by decide +kernel
theorem dX12_restore_10 : decode cX12_restore 10 = .ok (.getfield 200, 3) := by decide +kernel
theorem dX12_restore_13 : decode cX12_restore 13 = .ok (.iload_n 1, 1) := by decide +kernel
theorem dX12_restore_14 : decode cX12_restore 14 = .ok (.iaload, 1) := by decide +kernel
theorem dX12_restore_15 : decode cX12_restore 15 = .ok (.ifCond .ge 5, 3) := by decide +kernel
theorem dX12_restore_18 : decode cX12_restore 18 = .ok (.iconst 0, 1) := by decide +kernel
theorem dX12_restore_19 : decode cX12_restore 19 = .ok (.ireturn, 1) := by decide +kernel
theorem dX12_restore_20 : decode cX12_restore 20 = .ok (.aload_n 0, 1) := by decide +kernel
theorem dX12_restore_21 : decode cX12_restore 21 = .ok (.aload_n 0, 1) := by decide +kernel
theorem dX12_restore_22 : decode cX12_restore 22 = .ok (.getfield 200, 3) := by decide +kernel
theorem dX12_restore_25 : decode cX12_restore 25 = .ok (.iload_n 1, 1) := by decide +kernel
theorem dX12_restore_26 : decode cX12_restore 26 = .ok (.iaload, 1) := by decide +kernel
theorem dX12_restore_27 : decode cX12_restore 27 = .ok (.putfield 308, 3) := by decide +kernel
theorem dX12_restore_30 : decode cX12_restore 30 = .ok (.iconst 0, 1) := by decide +kernel
theorem dX12_restore_31 : decode cX12_restore 31 = .ok (.istore_n 2, 1) := by decide +kernel
theorem dX12_restore_32 : decode cX12_restore 32 = .ok (.iload_n 2, 1) := by decide +kernel
theorem dX12_restore_33 : decode cX12_restore 33 = .ok (.aload_n 0, 1) := by decide +kernel
theorem dX12_restore_34 : decode cX12_restore 34 = .ok (.getfield 308, 3) := by decide +kernel
theorem dX12_restore_37 : decode cX12_restore 37 = .ok (.if_icmp .ge 94, 3) := by decide +kernel
theorem dX12_restore_40 : decode cX12_restore 40 = .ok (.aload_n 0, 1) := by decide +kernel
theorem dX12_restore_41 : decode cX12_restore 41 = .ok (.getfield 149, 3) := by decide +kernel
theorem dX12_restore_44 : decode cX12_restore 44 = .ok (.iload_n 2, 1) := by decide +kernel
theorem dX12_restore_45 : decode cX12_restore 45 = .ok (.aload_n 0, 1) := by decide +kernel
theorem dX12_restore_46 : decode cX12_restore 46 = .ok (.getfield 203, 3) := by decide +kernel
theorem dX12_restore_49 : decode cX12_restore 49 = .ok (.bipush 30, 2) := by decide +kernel
theorem dX12_restore_51 : decode cX12_restore 51 = .ok (.iload_n 1, 1) := by decide +kernel
theorem dX12_restore_52 : decode cX12_restore 52 = .ok (.imul, 1) := by decide +kernel
theorem dX12_restore_53 : decode cX12_restore 53 = .ok (.iload_n 2, 1) := by decide +kernel
theorem dX12_restore_54 : decode cX12_restore 54 = .ok (.iadd, 1) := by decide +kernel
theorem dX12_restore_55 : decode cX12_restore 55 = .ok (.iaload, 1) := by decide +kernel
theorem dX12_restore_56 : decode cX12_restore 56 = .ok (.iastore, 1) := by decide +kernel
theorem dX12_restore_57 : decode cX12_restore 57 = .ok (.aload_n 0, 1) := by decide +kernel
theorem dX12_restore_58 : decode cX12_restore 58 = .ok (.getfield 152, 3) := by decide +kernel
theorem dX12_restore_61 : decode cX12_restore 61 = .ok (.iload_n 2, 1) := by decide +kernel
theorem dX12_restore_62 : decode cX12_restore 62 = .ok (.aload_n 0, 1) := by decide +kernel
theorem dX12_restore_63 : decode cX12_restore 63 = .ok (.getfield 206, 3) := by decide +kernel
theorem dX12_restore_66 : decode cX12_restore 66 = .ok (.bipush 30, 2) := by decide +kernel
theorem dX12_restore_68 : decode cX12_restore 68 = .ok (.iload_n 1, 1) := by decide +kernel
theorem dX12_restore_69 : decode cX12_restore 69 = .ok (.imul, 1) := by decide +kernel
theorem dX12_restore_70 : decode cX12_restore 70 = .ok (.iload_n 2, 1) := by decide +kernel
theorem dX12_restore_71 : decode cX12_restore 71 = .ok (.iadd, 1) := by decide +kernel
theorem dX12_restore_72 : decode cX12_restore 72 = .ok (.iaload, 1) := by decide +kernel
theorem dX12_restore_73 : decode cX12_restore 73 = .ok (.iastore, 1) := by decide +kernel
theorem dX12_restore_74 : decode cX12_restore 74 = .ok (.aload_n 0, 1) := by decide +kernel
theorem dX12_restore_75 : decode cX12_restore 75 = .ok (.getfield 155, 3) := by decide +kernel
theorem dX12_restore_78 : decode cX12_restore 78 = .ok (.iload_n 2, 1) := by decide +kernel
theorem dX12_restore_79 : decode cX12_restore 79 = .ok (.aload_n 0, 1) := by decide +kernel
theorem dX12_restore_80 : decode cX12_restore 80 = .ok (.getfield 209, 3) := by decide +kernel
theorem dX12_restore_83 : decode cX12_restore 83 = .ok (.bipush 30, 2) := by decide +kernel
theorem dX12_restore_85 : decode cX12_restore 85 = .ok (.iload_n 1, 1) := by decide +kernel
theorem dX12_restore_86 : decode cX12_restore 86 = .ok (.imul, 1) := by decide +kernel
theorem dX12_restore_87 : decode cX12_restore 87 = .ok (.iload_n 2, 1) := by decide +kernel
theorem dX12_restore_88 : decode cX12_restore 88 = .ok (.iadd, 1) := by decide +kernel
theorem dX12_restore_89 : decode cX12_restore 89 = .ok (.iaload, 1) := by decide +kernel
theorem dX12_restore_90 : decode cX12_restore 90 = .ok (.iastore, 1) := by decide +kernel
theorem dX12_restore_91 : decode cX12_restore 91 = .ok (.aload_n 0, 1) := by decide +kernel
theorem dX12_restore_92 : decode cX12_restore 92 = .ok (.getfield 158, 3) := by decide +kernel
theorem dX12_restore_95 : decode cX12_restore 95 = .ok (.iload_n 2, 1) := by decide +kernel
theorem dX12_restore_96 : decode cX12_restore 96 = .ok (.aload_n 0, 1) := by decide +kernel
theorem dX12_restore_97 : decode cX12_restore 97 = .ok (.getfield 212, 3) := by decide +kernel
theorem dX12_restore_100 : decode cX12_restore 100 = .ok (.bipush 30, 2) := by decide +kernel
theorem dX12_restore_102 : decode cX12_restore 102 = .ok (.iload_n 1, 1) := by decide +kernel
theorem dX12_restore_103 : decode cX12_restore 103 = .ok (.imul, 1) := by decide +kernel
theorem dX12_restore_104 : decode cX12_restore 104 = .ok (.iload_n 2, 1) := by decide +kernel
theorem dX12_restore_105 : decode cX12_restore 105 = .ok (.iadd, 1) := by decide +kernel
theorem dX12_restore_106 : decode cX12_restore 106 = .ok (.iaload, 1) := by decide +kernel
theorem dX12_restore_107 : decode cX12_restore 107 = .ok (.iastore, 1) := by decide +kernel
theorem dX12_restore_108 : decode cX12_restore 108 = .ok (.aload_n 0, 1) := by decide +kernel
theorem dX12_restore_109 : decode cX12_restore 109 = .ok (.getfield 161, 3) := by decide +kernel
theorem dX12_restore_112 : decode cX12_restore 112 = .ok (.iload_n 2, 1) := by decide +kernel
theorem dX12_restore_113 : decode cX12_restore 113 = .ok (.aload_n 0, 1) := by decide +kernel
theorem dX12_restore_114 : decode cX12_restore 114 = .ok (.getfield 215, 3) := by decide +kernel
theorem dX12_restore_117 : decode cX12_restore 117 = .ok (.bipush 30, 2) := by decide +kernel
theorem dX12_restore_119 : decode cX12_restore 119 = .ok (.iload_n 1, 1) := by decide +kernel
theorem dX12_restore_120 : decode cX12_restore 120 = .ok (.imul, 1) := by decide +kernel
theorem dX12_restore_121 : decode cX12_restore 121 = .ok (.iload_n 2, 1) := by decide +kernel
theorem dX12_restore_122 : decode cX12_restore 122 = .ok (.iadd, 1) := by decide +kernel
theorem dX12_restore_123 : decode cX12_restore 123 = .ok (.iaload, 1) := by decide +kernel
theorem dX12_restore_124 : decode cX12_restore 124 = .ok (.iastore, 1) := by decide +kernel
theorem dX12_restore_125 : decode cX12_restore 125 = .ok (.iinc 2 1, 3) := by decide +kernel
theorem dX12_restore_128 : decode cX12_restore 128 = .ok (.goto (-96), 3) := by decide +kernel
theorem dX12_restore_131 : decode cX12_restore 131 = .ok (.iconst 1, 1) := by decide +kernel
theorem dX12_restore_132 : decode cX12_restore 132 = .ok (.ireturn, 1) := by decide +kernel
theorem dX12_count_0 : decode cX12_count 0 = .ok (.iload_n 1, 1) := by decide +kernel
theorem dX12_count_1 : decode cX12_count 1 = .ok (.tableswitch 178 0 12 #[67, 67, 67, 67, 67, 73, 80, 87, 97, 109, 123, 128, 133], 67) := by decide +kernel
theorem dX12_count_68 : decode cX12_count 68 = .ok (.aload_n 0, 1) := by decide +kernel
theorem dX12_count_69 : decode cX12_count 69 = .ok (.iload_n 1, 1) := by decide +kernel
theorem dX12_count_70 : decode cX12_count 70 = .ok (.invokevirtual 383, 3) := by decide +kernel
theorem dX12_count_73 : decode cX12_count 73 = .ok (.ireturn, 1) := by decide +kernel
theorem dX12_count_74 : decode cX12_count 74 = .ok (.aload_n 0, 1) := by decide +kernel
theorem dX12_count_75 : decode cX12_count 75 = .ok (.bipush 6, 2) := by decide +kernel
theorem dX12_count_77 : decode cX12_count 77 = .ok (.invokevirtual 383, 3) := by decide +kernel
theorem dX12_count_80 : decode cX12_count 80 = .ok (.ireturn, 1) := by decide +kernel
theorem dX12_count_81 : decode cX12_count 81 = .ok (.aload_n 0, 1) := by decide +kernel
theorem dX12_count_82 : decode cX12_count 82 = .ok (.bipush 7, 2) := by decide +kernel
theorem dX12_count_84 : decode cX12_count 84 = .ok (.invokevirtual 383, 3) := by decide +kernel
theorem dX12_count_87 : decode cX12_count 87 = .ok (.ireturn, 1) := by decide +kernel
theorem dX12_count_88 : decode cX12_count 88 = .ok (.aload_n 0, 1) := by decide +kernel
theorem dX12_count_89 : decode cX12_count 89 = .ok (.getfield 52, 3) := by decide +kernel
theorem dX12_count_92 : decode cX12_count 92 = .ok (.aload_n 0, 1) := by decide +kernel
theorem dX12_count_93 : decode cX12_count 93 = .ok (.getfield 290, 3) := by decide +kernel
theorem dX12_count_96 : decode cX12_count 96 = .ok (.iaload, 1) := by decide +kernel
theorem dX12_count_97 : decode cX12_count 97 = .ok (.ireturn, 1) := by decide +kernel
theorem dX12_count_98 : decode cX12_count 98 = .ok (.aload_n 0, 1) := by decide +kernel
theorem dX12_count_99 : decode cX12_count 99 = .ok (.getfield 106, 3) := by decide +kernel
theorem dX12_count_102 : decode cX12_count 102 = .ok (.iconst 2, 1) := by decide +kernel
theorem dX12_count_103 : decode cX12_count 103 = .ok (.aload_n 0, 1) := by decide +kernel
theorem dX12_count_104 : decode cX12_count 104 = .ok (.getfield 290, 3) := by decide +kernel
theorem dX12_count_107 : decode cX12_count 107 = .ok (.imul, 1) := by decide +kernel
theorem dX12_count_108 : decode cX12_count 108 = .ok (.iaload, 1) := by decide +kernel
theorem dX12_count_109 : decode cX12_count 109 = .ok (.ireturn, 1) := by decide +kernel
theorem dX12_count_110 : decode cX12_count 110 = .ok (.aload_n 0, 1) := by decide +kernel
theorem dX12_count_111 : decode cX12_count 111 = .ok (.getfield 106, 3) := by decide +kernel
theorem dX12_count_114 : decode cX12_count 114 = .ok (.iconst 2, 1) := by decide +kernel
theorem dX12_count_115 : decode cX12_count 115 = .ok (.aload_n 0, 1) := by decide +kernel
theorem dX12_count_116 : decode cX12_count 116 = .ok (.getfield 290, 3) := by decide +kernel
theorem dX12_count_119 : decode cX12_count 119 = .ok (.imul, 1) := by decide +kernel
theorem dX12_count_120 : decode cX12_count 120 = .ok (.iconst 1, 1) := by decide +kernel
theorem dX12_count_121 : decode cX12_count 121 = .ok (.iadd, 1) := by decide +kernel
theorem dX12_count_122 : decode cX12_count 122 = .ok (.iaload, 1) := by decide +kernel
theorem dX12_count_123 : decode cX12_count 123 = .ok (.ireturn, 1) := by decide +kernel
theorem dX12_count_124 : decode cX12_count 124 = .ok (.aload_n 0, 1) := by decide +kernel
theorem dX12_count_125 : decode cX12_count 125 = .ok (.getfield 308, 3) := by decide +kernel
theorem dX12_count_128 : decode cX12_count 128 = .ok (.ireturn, 1) := by decide +kernel
theorem dX12_count_129 : decode cX12_count 129 = .ok (.aload_n 0, 1) := by decide +kernel
theorem dX12_count_130 : decode cX12_count 130 = .ok (.getfield 222, 3) := by decide +kernel
theorem dX12_count_133 : decode cX12_count 133 = .ok (.ireturn, 1) := by decide +kernel
theorem dX12_count_134 : decode cX12_count 134 = .ok (.aload_n 0, 1) := by decide +kernel
theorem dX12_count_135 : decode cX12_count 135 = .ok (.getfield 200, 3) := by decide +kernel
theorem dX12_count_138 : decode cX12_count 138 = .ok (.iconst 0, 1) := by decide +kernel
theorem dX12_count_139 : decode cX12_count 139 = .ok (.iaload, 1) := by decide +kernel
theorem dX12_count_140 : decode cX12_count 140 = .ok (.ifCond .ge 7, 3) := by decide +kernel
theorem dX12_count_143 : decode cX12_count 143 = .ok (.iconst 0, 1) := by decide +kernel
theorem dX12_count_144 : decode cX12_count 144 = .ok (.goto 4, 3) := by decide +kernel
theorem dX12_count_147 : decode cX12_count 147 = .ok (.iconst 1, 1) := by decide +kernel
theorem dX12_count_148 : decode cX12_count 148 = .ok (.aload_n 0, 1) := by decide +kernel
theorem dX12_count_149 : decode cX12_count 149 = .ok (.getfield 200, 3) := by decide +kernel
theorem dX12_count_152 : decode cX12_count 152 = .ok (.iconst 1, 1) := by decide +kernel
theorem dX12_count_153 : decode cX12_count 153 = .ok (.iaload, 1) := by decide +kernel
theorem dX12_count_154 : decode cX12_count 154 = .ok (.ifCond .ge 7, 3) := by decide +kernel
theorem dX12_count_157 : decode cX12_count 157 = .ok (.iconst 0, 1) := by decide +kernel
theorem dX12_count_158 : decode cX12_count 158 = .ok (.goto 4, 3) := by decide +kernel
theorem dX12_count_161 : decode cX12_count 161 = .ok (.iconst 1, 1) := by decide +kernel
theorem dX12_count_162 : decode cX12_count 162 = .ok (.iadd, 1) := by decide +kernel
theorem dX12_count_163 : decode cX12_count 163 = .ok (.aload_n 0, 1) := by decide +kernel
theorem dX12_count_164 : decode cX12_count 164 = .ok (.getfield 200, 3) := by decide +kernel
theorem dX12_count_167 : decode cX12_count 167 = .ok (.iconst 2, 1) := by decide +kernel
theorem dX12_count_168 : decode cX12_count 168 = .ok (.iaload, 1) := by decide +kernel
theorem dX12_count_169 : decode cX12_count 169 = .ok (.ifCond .ge 7, 3) := by decide +kernel
theorem dX12_count_172 : decode cX12_count 172 = .ok (.iconst 0, 1) := by decide +kernel
theorem dX12_count_173 : decode cX12_count 173 = .ok (.goto 4, 3) := by decide +kernel
theorem dX12_count_176 : decode cX12_count 176 = .ok (.iconst 1, 1) := by decide +kernel
theorem dX12_count_177 : decode cX12_count 177 = .ok (.iadd, 1) := by decide +kernel
theorem dX12_count_178 : decode cX12_count 178 = .ok (.ireturn, 1) := by decide +kernel
theorem dX12_count_179 : decode cX12_count 179 = .ok (.aload_n 0, 1) := by decide +kernel
theorem dX12_count_180 : decode cX12_count 180 = .ok (.iload_n 1, 1) := by decide +kernel
theorem dX12_count_181 : decode cX12_count 181 = .ok (.bipush 20, 2) := by decide +kernel
theorem dX12_count_183 : decode cX12_count 183 = .ok (.isub, 1) := by decide +kernel
theorem dX12_count_184 : decode cX12_count 184 = .ok (.invokevirtual 434, 3) := by decide +kernel
theorem dX12_count_187 : decode cX12_count 187 = .ok (.ifCond .eq 21, 3) := by decide +kernel
theorem dX12_count_190 : decode cX12_count 190 = .ok (.aload_n 0, 1) := by decide +kernel
theorem dX12_count_191 : decode cX12_count 191 = .ok (.getfield 61, 3) := by decide +kernel
theorem dX12_count_194 : decode cX12_count 194 = .ok (.bipush 6, 2) := by decide +kernel
theorem dX12_count_196 : decode cX12_count 196 = .ok (.aload_n 0, 1) := by decide +kernel
theorem dX12_count_197 : decode cX12_count 197 = .ok (.getfield 290, 3) := by decide +kernel
theorem dX12_count_200 : decode cX12_count 200 = .ok (.imul, 1) := by decide +kernel
theorem dX12_count_201 : decode cX12_count 201 = .ok (.iload_n 1, 1) := by decide +kernel
theorem dX12_count_202 : decode cX12_count 202 = .ok (.iadd, 1) := by decide +kernel
theorem dX12_count_203 : decode cX12_count 203 = .ok (.bipush 20, 2) := by decide +kernel
theorem dX12_count_205 : decode cX12_count 205 = .ok (.isub, 1) := by decide +kernel
theorem dX12_count_206 : decode cX12_count 206 = .ok (.iaload, 1) := by decide +kernel
theorem dX12_count_207 : decode cX12_count 207 = .ok (.ireturn, 1) := by decide +kernel
theorem dX12_count_208 : decode cX12_count 208 = .ok (.iload_n 1, 1) := by decide +kernel
theorem dX12_count_209 : decode cX12_count 209 = .ok (.bipush 30, 2) := by decide +kernel
theorem dX12_count_211 : decode cX12_count 211 = .ok (.isub, 1) := by decide +kernel
theorem dX12_count_212 : decode cX12_count 212 = .ok (.iconst 0, 1) := by decide +kernel
theorem dX12_count_213 : decode cX12_count 213 = .ok (.aload_n 0, 1) := by decide +kernel
theorem dX12_count_214 : decode cX12_count 214 = .ok (.getfield 52, 3) := by decide +kernel
theorem dX12_count_217 : decode cX12_count 217 = .ok (.aload_n 0, 1) := by decide +kernel
theorem dX12_count_218 : decode cX12_count 218 = .ok (.getfield 290, 3) := by decide +kernel
theorem dX12_count_221 : decode cX12_count 221 = .ok (.iaload, 1) := by decide +kernel
theorem dX12_count_222 : decode cX12_count 222 = .ok (.iconst 1, 1) := by decide +kernel
theorem dX12_count_223 : decode cX12_count 223 = .ok (.isub, 1) := by decide +kernel
theorem dX12_count_224 : decode cX12_count 224 = .ok (.invokestatic 386, 3) := by decide +kernel
theorem dX12_count_227 : decode cX12_count 227 = .ok (.ifCond .eq 23, 3) := by decide +kernel
theorem dX12_count_230 : decode cX12_count 230 = .ok (.aload_n 0, 1) := by decide +kernel
theorem dX12_count_231 : decode cX12_count 231 = .ok (.getfield 103, 3) := by decide +kernel
theorem dX12_count_234 : decode cX12_count 234 = .ok (.iconst 4, 1) := by decide +kernel
theorem dX12_count_235 : decode cX12_count 235 = .ok (.aload_n 0, 1) := by decide +kernel
theorem dX12_count_236 : decode cX12_count 236 = .ok (.getfield 290, 3) := by decide +kernel
theorem dX12_count_239 : decode cX12_count 239 = .ok (.imul, 1) := by decide +kernel
theorem dX12_count_240 : decode cX12_count 240 = .ok (.iload_n 1, 1) := by decide +kernel
theorem dX12_count_241 : decode cX12_count 241 = .ok (.iadd, 1) := by decide +kernel
theorem dX12_count_242 : decode cX12_count 242 = .ok (.bipush 30, 2) := by decide +kernel
theorem dX12_count_244 : decode cX12_count 244 = .ok (.isub, 1) := by decide +kernel
theorem dX12_count_245 : decode cX12_count 245 = .ok (.iaload, 1) := by decide +kernel
theorem dX12_count_246 : decode cX12_count 246 = .ok (.invokestatic 409, 3) := by decide +kernel
theorem dX12_count_249 : decode cX12_count 249 = .ok (.ireturn, 1) := by decide +kernel
theorem dX12_count_250 : decode cX12_count 250 = .ok (.aload_n 0, 1) := by decide +kernel
theorem dX12_count_251 : decode cX12_count 251 = .ok (.iload_n 1, 1) := by decide +kernel
theorem dX12_count_252 : decode cX12_count 252 = .ok (.bipush 40, 2) := by decide +kernel
theorem dX12_count_254 : decode cX12_count 254 = .ok (.isub, 1) := by decide +kernel
theorem dX12_count_255 : decode cX12_count 255 = .ok (.invokevirtual 441, 3) := by decide +kernel
theorem dX12_count_258 : decode cX12_count 258 = .ok (.ifCond .eq 23, 3) := by decide +kernel
theorem dX12_count_261 : decode cX12_count 261 = .ok (.aload_n 0, 1) := by decide +kernel
theorem dX12_count_262 : decode cX12_count 262 = .ok (.getfield 100, 3) := by decide +kernel
theorem dX12_count_265 : decode cX12_count 265 = .ok (.bipush 6, 2) := by decide +kernel
theorem dX12_count_267 : decode cX12_count 267 = .ok (.aload_n 0, 1) := by decide +kernel
theorem dX12_count_268 : decode cX12_count 268 = .ok (.getfield 290, 3) := by decide +kernel
theorem dX12_count_271 : decode cX12_count 271 = .ok (.imul, 1) := by decide +kernel
theorem dX12_count_272 : decode cX12_count 272 = .ok (.iload_n 1, 1) := by decide +kernel
theorem dX12_count_273 : decode cX12_count 273 = .ok (.iadd, 1) := by decide +kernel
theorem dX12_count_274 : decode cX12_count 274 = .ok (.bipush 40, 2) := by decide +kernel
theorem dX12_count_276 : decode cX12_count 276 = .ok (.isub, 1) := by decide +kernel
theorem dX12_count_277 : decode cX12_count 277 = .ok (.iaload, 1) := by decide +kernel
theorem dX12_count_278 : decode cX12_count 278 = .ok (.goto 4, 3) := by decide +kernel
theorem dX12_count_281 : decode cX12_count 281 = .ok (.iconst (-1), 1) := by decide +kernel
theorem dX12_count_282 : decode cX12_count 282 = .ok (.ireturn, 1) := by decide +kernel
