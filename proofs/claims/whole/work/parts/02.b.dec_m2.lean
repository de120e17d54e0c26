theorem dX12_leave_19 : decode cX12_leave 19 = .ok (.iload_n 1, 1) := by decide +kernel
theorem dX12_leave_20 : decode cX12_leave 20 = .ok (.iload_n 2, 1) := by decide +kernel
theorem dX12_leave_21 : decode cX12_leave 21 = .ok (.iconst (-1), 1) := by decide +kernel
theorem dX12_leave_22 : decode cX12_leave 22 = .ok (.iload_n 3, 1) := by decide +kernel
theorem dX12_leave_23 : decode cX12_leave 23 = .ok (.invokevirtual 437, 3) := by decide +kernel
theorem dX12_leave_26 : decode cX12_leave 26 = .ok (.goto 4, 3) := by decide +kernel
theorem dX12_leave_29 : decode cX12_leave 29 = .ok (.iconst (-1), 1) := by decide +kernel
theorem dX12_leave_30 : decode cX12_leave 30 = .ok (.ireturn, 1) := by decide +kernel
theorem dX12_ask_0 : decode cX12_ask 0 = .ok (.aload_n 0, 1) := by decide +kernel
theorem dX12_ask_1 : decode cX12_ask 1 = .ok (.iload_n 1, 1) := by decide +kernel
theorem dX12_ask_2 : decode cX12_ask 2 = .ok (.iload_n 2, 1) := by decide +kernel
theorem dX12_ask_3 : decode cX12_ask 3 = .ok (.invokevirtual 431, 3) := by decide +kernel
theorem dX12_ask_6 : decode cX12_ask 6 = .ok (.ifCond .eq 38, 3) := by decide +kernel
theorem dX12_ask_9 : decode cX12_ask 9 = .ok (.aload_n 0, 1) := by decide +kernel
theorem dX12_ask_10 : decode cX12_ask 10 = .ok (.iload_n 3, 1) := by decide +kernel
theorem dX12_ask_11 : decode cX12_ask 11 = .ok (.invokevirtual 415, 3) := by decide +kernel
theorem dX12_ask_14 : decode cX12_ask 14 = .ok (.ifCond .eq 30, 3) := by decide +kernel
theorem dX12_ask_17 : decode cX12_ask 17 = .ok (.iload_n 2, 1) := by decide +kernel
theorem dX12_ask_18 : decode cX12_ask 18 = .ok (.iload_n 3, 1) := by decide +kernel
theorem dX12_ask_19 : decode cX12_ask 19 = .ok (.if_icmp .eq 25, 3) := by decide +kernel
theorem dX12_ask_22 : decode cX12_ask 22 = .ok (.aload_n 0, 1) := by decide +kernel
theorem dX12_ask_23 : decode cX12_ask 23 = .ok (.iload 4, 2) := by decide +kernel
theorem dX12_ask_25 : decode cX12_ask 25 = .ok (.invokevirtual 434, 3) := by decide +kernel
theorem dX12_ask_28 : decode cX12_ask 28 = .ok (.ifCond .eq 16, 3) := by decide +kernel
theorem dX12_ask_31 : decode cX12_ask 31 = .ok (.aload_n 0, 1) := by decide +kernel
theorem dX12_ask_32 : decode cX12_ask 32 = .ok (.iconst 3, 1) := by decide +kernel
theorem dX12_ask_33 : decode cX12_ask 33 = .ok (.iload_n 1, 1) := by decide +kernel
theorem dX12_ask_34 : decode cX12_ask 34 = .ok (.iload_n 2, 1) := by decide +kernel
theorem dX12_ask_35 : decode cX12_ask 35 = .ok (.iload_n 3, 1) := by decide +kernel
theorem dX12_ask_36 : decode cX12_ask 36 = .ok (.iload 4, 2) := by decide +kernel
theorem dX12_ask_38 : decode cX12_ask 38 = .ok (.invokevirtual 437, 3) := by decide +kernel
theorem dX12_ask_41 : decode cX12_ask 41 = .ok (.goto 4, 3) := by decide +kernel
theorem dX12_ask_44 : decode cX12_ask 44 = .ok (.iconst (-1), 1) := by decide +kernel
theorem dX12_ask_45 : decode cX12_ask 45 = .ok (.ireturn, 1) := by decide +kernel
theorem dX12_drop_0 : decode cX12_drop 0 = .ok (.iload_n 1, 1) := by decide +kernel
theorem dX12_drop_1 : decode cX12_drop 1 = .ok (.iconst 0, 1) := by decide +kernel
theorem dX12_drop_2 : decode cX12_drop 2 = .ok (.aload_n 0, 1) := by decide +kernel
theorem dX12_drop_3 : decode cX12_drop 3 = .ok (.getfield 308, 3) := by decide +kernel
theorem dX12_drop_6 : decode cX12_drop 6 = .ok (.iconst 1, 1) := by decide +kernel
theorem dX12_drop_7 : decode cX12_drop 7 = .ok (.isub, 1) := by decide +kernel
theorem dX12_drop_8 : decode cX12_drop 8 = .ok (.invokestatic 386, 3) := by decide +kernel
theorem dX12_drop_11 : decode cX12_drop 11 = .ok (.ifCond .ne 5, 3) := by decide +kernel
theorem dX12_drop_14 : decode cX12_drop 14 = .ok (.iconst (-1), 1) := by decide +kernel
theorem dX12_drop_15 : decode cX12_drop 15 = .ok (.ireturn, 1) := by decide +kernel
theorem dX12_drop_16 : decode cX12_drop 16 = .ok (.aload_n 0, 1) := by decide +kernel
theorem dX12_drop_17 : decode cX12_drop 17 = .ok (.dup, 1) := by decide +kernel
theorem dX12_drop_18 : decode cX12_drop 18 = .ok (.getfield 308, 3) := by decide +kernel
theorem dX12_drop_21 : decode cX12_drop 21 = .ok (.iconst 1, 1) := by decide +kernel
theorem dX12_drop_22 : decode cX12_drop 22 = .ok (.isub, 1) := by decide +kernel
theorem dX12_drop_23 : decode cX12_drop 23 = .ok (.putfield 308, 3) := by decide +kernel
theorem dX12_drop_26 : decode cX12_drop 26 = .ok (.iload_n 1, 1) := by decide +kernel
theorem dX12_drop_27 : decode cX12_drop 27 = .ok (.istore_n 2, 1) := by decide +kernel
theorem dX12_drop_28 : decode cX12_drop 28 = .ok (.iload_n 2, 1) := by decide +kernel
theorem dX12_drop_29 : decode cX12_drop 29 = .ok (.aload_n 0, 1) := by decide +kernel
theorem dX12_drop_30 : decode cX12_drop 30 = .ok (.getfield 308, 3) := by decide +kernel
theorem dX12_drop_33 : decode cX12_drop 33 = .ok (.if_icmp .ge 79, 3) := by decide +kernel
theorem dX12_drop_36 : decode cX12_drop 36 = .ok (.aload_n 0, 1) := by decide +kernel
theorem dX12_drop_37 : decode cX12_drop 37 = .ok (.getfield 149, 3) := by decide +kernel
theorem dX12_drop_40 : decode cX12_drop 40 = .ok (.iload_n 2, 1) := by decide +kernel
theorem dX12_drop_41 : decode cX12_drop 41 = .ok (.aload_n 0, 1) := by decide +kernel
theorem dX12_drop_42 : decode cX12_drop 42 = .ok (.getfield 149, 3) := by decide +kernel
theorem dX12_drop_45 : decode cX12_drop 45 = .ok (.iload_n 2, 1) := by decide +kernel
theorem dX12_drop_46 : decode cX12_drop 46 = .ok (.iconst 1, 1) := by decide +kernel
theorem dX12_drop_47 : decode cX12_drop 47 = .ok (.iadd, 1) := by decide +kernel
theorem dX12_drop_48 : decode cX12_drop 48 = .ok (.iaload, 1) := by decide +kernel
theorem dX12_drop_49 : decode cX12_drop 49 = .ok (.iastore, 1) := by decide +kernel
theorem dX12_drop_50 : decode cX12_drop 50 = .ok (.aload_n 0, 1) := by decide +kernel
theorem dX12_drop_51 : decode cX12_drop 51 = .ok (.getfield 152, 3) := by decide +kernel
theorem dX12_drop_54 : decode cX12_drop 54 = .ok (.iload_n 2, 1) := by decide +kernel
theorem dX12_drop_55 : decode cX12_drop 55 = .ok (.aload_n 0, 1) := by decide +kernel
theorem dX12_drop_56 : decode cX12_drop 56 = .ok (.getfield 152, 3) := by decide +kernel
theorem dX12_drop_59 : decode cX12_drop 59 = .ok (.iload_n 2, 1) := by decide +kernel
theorem dX12_drop_60 : decode cX12_drop 60 = .ok (.iconst 1, 1) := by decide +kernel
theorem dX12_drop_61 : decode cX12_drop 61 = .ok (.iadd, 1) := by decide +kernel
theorem dX12_drop_62 : decode cX12_drop 62 = .ok (.iaload, 1) := by decide +kernel
theorem dX12_drop_63 : decode cX12_drop 63 = .ok (.iastore, 1) := by decide +kernel
theorem dX12_drop_64 : decode cX12_drop 64 = .ok (.aload_n 0, 1) := by decide +kernel
theorem dX12_drop_65 : decode cX12_drop 65 = .ok (.getfield 155, 3) := by decide +kernel
theorem dX12_drop_68 : decode cX12_drop 68 = .ok (.iload_n 2, 1) := by decide +kernel
theorem dX12_drop_69 : decode cX12_drop 69 = .ok (.aload_n 0, 1) := by decide +kernel
theorem dX12_drop_70 : decode cX12_drop 70 = .ok (.getfield 155, 3) := by decide +kernel
theorem dX12_drop_73 : decode cX12_drop 73 = .ok (.iload_n 2, 1) := by decide +kernel
theorem dX12_drop_74 : decode cX12_drop 74 = .ok (.iconst 1, 1) := by decide +kernel
theorem dX12_drop_75 : decode cX12_drop 75 = .ok (.iadd, 1) := by decide +kernel
theorem dX12_drop_76 : decode cX12_drop 76 = .ok (.iaload, 1) := by decide +kernel
theorem dX12_drop_77 : decode cX12_drop 77 = .ok (.iastore, 1) := by decide +kernel
theorem dX12_drop_78 : decode cX12_drop 78 = .ok (.aload_n 0, 1) := by decide +kernel
theorem dX12_drop_79 : decode cX12_drop 79 = .ok (.getfield 158, 3) := by decide +kernel
theorem dX12_drop_82 : decode cX12_drop 82 = .ok (.iload_n 2, 1) := by decide +kernel
theorem dX12_drop_83 : decode cX12_drop 83 = .ok (.aload_n 0, 1) := by decide +kernel
theorem dX12_drop_84 : decode cX12_drop 84 = .ok (.getfield 158, 3) := by decide +kernel
theorem dX12_drop_87 : decode cX12_drop 87 = .ok (.iload_n 2, 1) := by decide +kernel
theorem dX12_drop_88 : decode cX12_drop 88 = .ok (.iconst 1, 1) := by decide +kernel
theorem dX12_drop_89 : decode cX12_drop 89 = .ok (.iadd, 1) := by decide +kernel
theorem dX12_drop_90 : decode cX12_drop 90 = .ok (.iaload, 1) := by decide +kernel
theorem dX12_drop_91 : decode cX12_drop 91 = .ok (.iastore, 1) := by decide +kernel
theorem dX12_drop_92 : decode cX12_drop 92 = .ok (.aload_n 0, 1) := by decide +kernel
theorem dX12_drop_93 : decode cX12_drop 93 = .ok (.getfield 161, 3) := by decide +kernel
theorem dX12_drop_96 : decode cX12_drop 96 = .ok (.iload_n 2, 1) := by decide +kernel
theorem dX12_drop_97 : decode cX12_drop 97 = .ok (.aload_n 0, 1) := by decide +kernel
theorem dX12_drop_98 : decode cX12_drop 98 = .ok (.getfield 161, 3) := by decide +kernel
theorem dX12_drop_101 : decode cX12_drop 101 = .ok (.iload_n 2, 1) := by decide +kernel
theorem dX12_drop_102 : decode cX12_drop 102 = .ok (.iconst 1, 1) := by decide +kernel
theorem dX12_drop_103 : decode cX12_drop 103 = .ok (.iadd, 1) := by decide +kernel
theorem dX12_drop_104 : decode cX12_drop 104 = .ok (.iaload, 1) := by decide +kernel
theorem dX12_drop_105 : decode cX12_drop 105 = .ok (.iastore, 1) := by decide +kernel
theorem dX12_drop_106 : decode cX12_drop 106 = .ok (.iinc 2 1, 3) := by decide +kernel
theorem dX12_drop_109 : decode cX12_drop 109 = .ok (.goto (-81), 3) := by decide +kernel
theorem dX12_drop_112 : decode cX12_drop 112 = .ok (.aload_n 0, 1) := by decide +kernel
theorem dX12_drop_113 : decode cX12_drop 113 = .ok (.getfield 308, 3) := by decide +kernel
theorem dX12_drop_116 : decode cX12_drop 116 = .ok (.ireturn, 1) := by decide +kernel
theorem dX12_knowsIt_0 : decode cX12_knowsIt 0 = .ok (.aload_n 0, 1) := by decide +kernel
theorem dX12_knowsIt_1 : decode cX12_knowsIt 1 = .ok (.getfield 164, 3) := by decide +kernel
theorem dX12_knowsIt_4 : decode cX12_knowsIt 4 = .ok (.bipush 10, 2) := by decide +kernel
theorem dX12_knowsIt_6 : decode cX12_knowsIt 6 = .ok (.iload_n 2, 1) := by decide +kernel
theorem dX12_knowsIt_7 : decode cX12_knowsIt 7 = .ok (.imul, 1) := by decide +kernel
theorem dX12_knowsIt_8 : decode cX12_knowsIt 8 = .ok (.iload_n 1, 1) := by decide +kernel
theorem dX12_knowsIt_9 : decode cX12_knowsIt 9 = .ok (.iadd, 1) := by decide +kernel
theorem dX12_knowsIt_10 : decode cX12_knowsIt 10 = .ok (.iaload, 1) := by decide +kernel
theorem dX12_knowsIt_11 : decode cX12_knowsIt 11 = .ok (.iload_n 3, 1) := by decide +kernel
theorem dX12_knowsIt_12 : decode cX12_knowsIt 12 = .ok (.ishr, 1) := by decide +kernel
theorem dX12_knowsIt_13 : decode cX12_knowsIt 13 = .ok (.iconst 1, 1) := by decide +kernel
theorem dX12_knowsIt_14 : decode cX12_knowsIt 14 = .ok (.iand, 1) := by decide +kernel
theorem dX12_knowsIt_15 : decode cX12_knowsIt 15 = .ok (.iconst 1, 1) := by decide +kernel
theorem dX12_knowsIt_16 : decode cX12_knowsIt 16 = .ok (.if_icmp .ne 7, 3) := by decide +kernel
theorem dX12_knowsIt_19 : decode cX12_knowsIt 19 = .ok (.iconst 1, 1) := by decide +kernel
theorem dX12_knowsIt_20 : decode cX12_knowsIt 20 = .ok (.goto 4, 3) := by decide +kernel
theorem dX12_knowsIt_23 : decode cX12_knowsIt 23 = .ok (.iconst 0, 1) := by decide +kernel
theorem dX12_knowsIt_24 : decode cX12_knowsIt 24 = .ok (.ireturn, 1) := by decide +kernel
theorem dX12_startsKnowing_0 : decode cX12_startsKnowing 0 = .ok (.iconst 0, 1) := by decide +kernel
theorem dX12_startsKnowing_1 : decode cX12_startsKnowing 1 = .ok (.istore_n 1, 1) := by decide +kernel
theorem dX12_startsKnowing_2 : decode cX12_startsKnowing 2 = .ok (.iload_n 1, 1) := by decide +kernel
theorem dX12_startsKnowing_3 : decode cX12_startsKnowing 3 = .ok (.sipush 250, 3) := by decide +kernel
theorem dX12_startsKnowing_6 : decode cX12_startsKnowing 6 = .ok (.if_icmp .ge 16, 3) := by decide +kernel
theorem dX12_startsKnowing_9 : decode cX12_startsKnowing 9 = .ok (.aload_n 0, 1) := by decide +kernel
theorem dX12_startsKnowing_10 : decode cX12_startsKnowing 10 = .ok (.getfield 164, 3) := by decide +kernel
theorem dX12_startsKnowing_13 : decode cX12_startsKnowing 13 = .ok (.iload_n 1, 1) := by decide +kernel
theorem dX12_startsKnowing_14 : decode cX12_startsKnowing 14 = .ok (.iconst 0, 1) := by decide +kernel
theorem dX12_startsKnowing_15 : decode cX12_startsKnowing 15 = .ok (.iastore, 1) := by decide +kernel
theorem dX12_startsKnowing_16 : decode cX12_startsKnowing 16 = .ok (.iinc 1 1, 3) := by decide +kernel
theorem dX12_startsKnowing_19 : decode cX12_startsKnowing 19 = .ok (.goto (-17), 3) := by decide +kernel
theorem dX12_startsKnowing_22 : decode cX12_startsKnowing 22 = .ok (.iconst 0, 1) := by decide +kernel
theorem dX12_startsKnowing_23 : decode cX12_startsKnowing 23 = .ok (.istore_n 1, 1) := by decide +kernel
theorem dX12_startsKnowing_24 : decode cX12_startsKnowing 24 = .ok (.iload_n 1, 1) := by decide +kernel
theorem dX12_startsKnowing_25 : decode cX12_startsKnowing 25 = .ok (.aload_n 0, 1) := by decide +kernel
theorem dX12_startsKnowing_26 : decode cX12_startsKnowing 26 = .ok (.iconst 5, 1) := by decide +kernel
theorem dX12_startsKnowing_27 : decode cX12_startsKnowing 27 = .ok (.invokevirtual 383, 3) := by decide +kernel
theorem dX12_startsKnowing_30 : decode cX12_startsKnowing 30 = .ok (.if_icmp .ge 47, 3) := by decide +kernel
theorem dX12_startsKnowing_33 : decode cX12_startsKnowing 33 = .ok (.aload_n 0, 1) := by decide +kernel
theorem dX12_startsKnowing_34 : decode cX12_startsKnowing 34 = .ok (.getfield 164, 3) := by decide +kernel
theorem dX12_startsKnowing_37 : decode cX12_startsKnowing 37 = .ok (.aload_n 0, 1) := by decide +kernel
theorem dX12_startsKnowing_38 : decode cX12_startsKnowing 38 = .ok (.getfield 82, 3) := by decide +kernel
theorem dX12_startsKnowing_41 : decode cX12_startsKnowing 41 = .ok (.bipush 12, 2) := by decide +kernel
theorem dX12_startsKnowing_43 : decode cX12_startsKnowing 43 = .ok (.aload_n 0, 1) := by decide +kernel
theorem dX12_startsKnowing_44 : decode cX12_startsKnowing 44 = .ok (.getfield 290, 3) := by decide +kernel
theorem dX12_startsKnowing_47 : decode cX12_startsKnowing 47 = .ok (.imul, 1) := by decide +kernel
theorem dX12_startsKnowing_48 : decode cX12_startsKnowing 48 = .ok (.iload_n 1, 1) := by decide +kernel
theorem dX12_startsKnowing_49 : decode cX12_startsKnowing 49 = .ok (.iadd, 1) := by decide +kernel
theorem dX12_startsKnowing_50 : decode cX12_startsKnowing 50 = .ok (.iaload, 1) := by decide +kernel
theorem dX12_startsKnowing_51 : decode cX12_startsKnowing 51 = .ok (.dup2, 1) := by decide +kernel
theorem dX12_startsKnowing_52 : decode cX12_startsKnowing 52 = .ok (.iaload, 1) := by decide +kernel
theorem dX12_startsKnowing_53 : decode cX12_startsKnowing 53 = .ok (.iconst 1, 1) := by decide +kernel
theorem dX12_startsKnowing_54 : decode cX12_startsKnowing 54 = .ok (.aload_n 0, 1) := by decide +kernel
theorem dX12_startsKnowing_55 : decode cX12_startsKnowing 55 = .ok (.getfield 85, 3) := by decide +kernel
theorem dX12_startsKnowing_58 : decode cX12_startsKnowing 58 = .ok (.bipush 12, 2) := by decide +kernel
theorem dX12_startsKnowing_60 : decode cX12_startsKnowing 60 = .ok (.aload_n 0, 1) := by decide +kernel
theorem dX12_startsKnowing_61 : decode cX12_startsKnowing 61 = .ok (.getfield 290, 3) := by decide +kernel
theorem dX12_startsKnowing_64 : decode cX12_startsKnowing 64 = .ok (.imul, 1) := by decide +kernel
theorem dX12_startsKnowing_65 : decode cX12_startsKnowing 65 = .ok (.iload_n 1, 1) := by decide +kernel
theorem dX12_startsKnowing_66 : decode cX12_startsKnowing 66 = .ok (.iadd, 1) := by decide +kernel
theorem dX12_startsKnowing_67 : decode cX12_startsKnowing 67 = .ok (.iaload, 1) := by decide +kernel
theorem dX12_startsKnowing_68 : decode cX12_startsKnowing 68 = .ok (.ishl, 1) := by decide +kernel
theorem dX12_startsKnowing_69 : decode cX12_startsKnowing 69 = .ok (.ior, 1) := by decide +kernel
theorem dX12_startsKnowing_70 : decode cX12_startsKnowing 70 = .ok (.iastore, 1) := by decide +kernel
theorem dX12_startsKnowing_71 : decode cX12_startsKnowing 71 = .ok (.iinc 1 1, 3) := by decide +kernel
theorem dX12_startsKnowing_74 : decode cX12_startsKnowing 74 = .ok (.goto (-50), 3) := by decide +kernel
theorem dX12_startsKnowing_77 : decode cX12_startsKnowing 77 = .ok (.return_, 1) := by decide +kernel
theorem dX12_learn_0 : decode cX12_learn 0 = .ok (.iconst 0, 1) := by decide +kernel
theorem dX12_learn_1 : decode cX12_learn 1 = .ok (.istore 4, 2) := by decide +kernel
theorem dX12_learn_3 : decode cX12_learn 3 = .ok (.iload 4, 2) := by decide +kernel
theorem dX12_learn_5 : decode cX12_learn 5 = .ok (.aload_n 0, 1) := by decide +kernel
theorem dX12_learn_6 : decode cX12_learn 6 = .ok (.iconst 1, 1) := by decide +kernel
theorem dX12_learn_7 : decode cX12_learn 7 = .ok (.invokevirtual 383, 3) := by decide +kernel
theorem dX12_learn_10 : decode cX12_learn 10 = .ok (.if_icmp .ge 38, 3) := by decide +kernel
theorem dX12_learn_13 : decode cX12_learn 13 = .ok (.iload_n 1, 1) := by decide +kernel
theorem dX12_learn_14 : decode cX12_learn 14 = .ok (.iload 4, 2) := by decide +kernel
theorem dX12_learn_16 : decode cX12_learn 16 = .ok (.ishr, 1) := by decide +kernel
theorem dX12_learn_17 : decode cX12_learn 17 = .ok (.iconst 1, 1) := by decide +kernel
theorem dX12_learn_18 : decode cX12_learn 18 = .ok (.iand, 1) := by decide +kernel
theorem dX12_learn_19 : decode cX12_learn 19 = .ok (.iconst 1, 1) := by decide +kernel
theorem dX12_learn_20 : decode cX12_learn 20 = .ok (.if_icmp .ne 22, 3) := by decide +kernel
theorem dX12_learn_23 : decode cX12_learn 23 = .ok (.aload_n 0, 1) := by decide +kernel
theorem dX12_learn_24 : decode cX12_learn 24 = .ok (.getfield 164, 3) := by decide +kernel
theorem dX12_learn_27 : decode cX12_learn 27 = .ok (.bipush 10, 2) := by decide +kernel
theorem dX12_learn_29 : decode cX12_learn 29 = .ok (.iload_n 2, 1) := by decide +kernel
theorem dX12_learn_30 : decode cX12_learn 30 = .ok (.imul, 1) := by decide +kernel
theorem dX12_learn_31 : decode cX12_learn 31 = .ok (.bipush 10, 2) := by decide +kernel
theorem dX12_learn_33 : decode cX12_learn 33 = .ok (.iadd, 1) := by decide +kernel
theorem dX12_learn_34 : decode cX12_learn 34 = .ok (.iload 4, 2) := by decide +kernel
theorem dX12_learn_36 : decode cX12_learn 36 = .ok (.iadd, 1) := by decide +kernel
theorem dX12_learn_37 : decode cX12_learn 37 = .ok (.dup2, 1) := by decide +kernel
theorem dX12_learn_38 : decode cX12_learn 38 = .ok (.iaload, 1) := by decide +kernel
theorem dX12_learn_39 : decode cX12_learn 39 = .ok (.iload_n 3, 1) := by decide +kernel
theorem dX12_learn_40 : decode cX12_learn 40 = .ok (.ior, 1) := by decide +kernel
theorem dX12_learn_41 : decode cX12_learn 41 = .ok (.iastore, 1) := by decide +kernel
theorem dX12_learn_42 : decode cX12_learn 42 = .ok (.iinc 4 1, 3) := by decide +kernel
theorem dX12_learn_45 : decode cX12_learn 45 = .ok (.goto (-42), 3) := by decide +kernel
theorem dX12_learn_48 : decode cX12_learn 48 = .ok (.return_, 1) := by decide +kernel
theorem dX12_whyNot_0 : decode cX12_whyNot 0 = .ok (.aload_n 0, 1) := by decide +kernel
theorem dX12_whyNot_1 : decode cX12_whyNot 1 = .ok (.getfield 152, 3) := by decide +kernel
theorem dX12_whyNot_4 : decode cX12_whyNot 4 = .ok (.iload_n 1, 1) := by decide +kernel
theorem dX12_whyNot_5 : decode cX12_whyNot 5 = .ok (.iaload, 1) := by decide +kernel
theorem dX12_whyNot_6 : decode cX12_whyNot 6 = .ok (.istore_n 2, 1) := by decide +kernel
theorem dX12_whyNot_7 : decode cX12_whyNot 7 = .ok (.aload_n 0, 1) := by decide +kernel
theorem dX12_whyNot_8 : decode cX12_whyNot 8 = .ok (.getfield 155, 3) := by decide +kernel
theorem dX12_whyNot_11 : decode cX12_whyNot 11 = .ok (.iload_n 1, 1) := by decide +kernel
theorem dX12_whyNot_12 : decode cX12_whyNot 12 = .ok (.iaload, 1) := by decide +kernel
theorem dX12_whyNot_13 : decode cX12_whyNot 13 = .ok (.istore_n 3, 1) := by decide +kernel
theorem dX12_whyNot_14 : decode cX12_whyNot 14 = .ok (.aload_n 0, 1) := by decide +kernel
theorem dX12_whyNot_15 : decode cX12_whyNot 15 = .ok (.iload_n 3, 1) := by decide +kernel
theorem dX12_whyNot_16 : decode cX12_whyNot 16 = .ok (.invokevirtual 393, 3) := by decide +kernel
theorem dX12_whyNot_19 : decode cX12_whyNot 19 = .ok (.ifCond .eq 5, 3) := by decide +kernel
theorem dX12_whyNot_22 : decode cX12_whyNot 22 = .ok (.iconst 5, 1) := by decide +kernel
theorem dX12_whyNot_23 : decode cX12_whyNot 23 = .ok (.ireturn, 1) := by decide +kernel
theorem dX12_whyNot_24 : decode cX12_whyNot 24 = .ok (.iconst 0, 1) := by decide +kernel
theorem dX12_whyNot_25 : decode cX12_whyNot 25 = .ok (.istore 4, 2) := by decide +kernel
theorem dX12_whyNot_27 : decode cX12_whyNot 27 = .ok (.iload 4, 2) := by decide +kernel
theorem dX12_whyNot_29 : decode cX12_whyNot 29 = .ok (.iload_n 1, 1) := by decide +kernel
theorem dX12_whyNot_30 : decode cX12_whyNot 30 = .ok (.if_icmp .ge 33, 3) := by decide +kernel
theorem dX12_whyNot_33 : decode cX12_whyNot 33 = .ok (.aload_n 0, 1) := by decide +kernel
theorem dX12_whyNot_34 : decode cX12_whyNot 34 = .ok (.getfield 152, 3) := by decide +kernel
theorem dX12_whyNot_37 : decode cX12_whyNot 37 = .ok (.iload 4, 2) := by decide +kernel
theorem dX12_whyNot_39 : decode cX12_whyNot 39 = .ok (.iaload, 1) := by decide +kernel
theorem dX12_whyNot_40 : decode cX12_whyNot 40 = .ok (.iload_n 2, 1) := by decide +kernel
theorem dX12_whyNot_41 : decode cX12_whyNot 41 = .ok (.if_icmp .ne 16, 3) := by decide +kernel
theorem dX12_whyNot_44 : decode cX12_whyNot 44 = .ok (.aload_n 0, 1) := by decide +kernel
theorem dX12_whyNot_45 : decode cX12_whyNot 45 = .ok (.getfield 155, 3) := by decide +kernel
theorem dX12_whyNot_48 : decode cX12_whyNot 48 = .ok (.iload 4, 2) := by decide +kernel
theorem dX12_whyNot_50 : decode cX12_whyNot 50 = .ok (.iaload, 1) := by decide +kernel
theorem dX12_whyNot_51 : decode cX12_whyNot 51 = .ok (.iload_n 3, 1) := by decide +kernel
theorem dX12_whyNot_52 : decode cX12_whyNot 52 = .ok (.if_icmp .ne 5, 3) := by decide +kernel
theorem dX12_whyNot_55 : decode cX12_whyNot 55 = .ok (.iconst 1, 1) := by decide +kernel
theorem dX12_whyNot_56 : decode cX12_whyNot 56 = .ok (.ireturn, 1) := by decide +kernel
theorem dX12_whyNot_57 : decode cX12_whyNot 57 = .ok (.iinc 4 1, 3) := by decide +kernel
theorem dX12_whyNot_60 : decode cX12_whyNot 60 = .ok (.goto (-33), 3) := by decide +kernel
theorem dX12_whyNot_63 : decode cX12_whyNot 63 = .ok (.aload_n 0, 1) := by decide +kernel
theorem dX12_whyNot_64 : decode cX12_whyNot 64 = .ok (.iload_n 3, 1) := by decide +kernel
theorem dX12_whyNot_65 : decode cX12_whyNot 65 = .ok (.iload_n 2, 1) := by decide +kernel
theorem dX12_whyNot_66 : decode cX12_whyNot 66 = .ok (.invokevirtual 396, 3) := by decide +kernel
theorem dX12_whyNot_69 : decode cX12_whyNot 69 = .ok (.istore 4, 2) := by decide +kernel
theorem dX12_whyNot_71 : decode cX12_whyNot 71 = .ok (.aload_n 0, 1) := by decide +kernel
theorem dX12_whyNot_72 : decode cX12_whyNot 72 = .ok (.getfield 149, 3) := by decide +kernel
theorem dX12_whyNot_75 : decode cX12_whyNot 75 = .ok (.iload_n 1, 1) := by decide +kernel
theorem dX12_whyNot_76 : decode cX12_whyNot 76 = .ok (.iaload, 1) := by decide +kernel
theorem dX12_whyNot_77 : decode cX12_whyNot 77 = .ok (.ifCond .eq 13, 3) := by decide +kernel
theorem dX12_whyNot_80 : decode cX12_whyNot 80 = .ok (.aload_n 0, 1) := by decide +kernel
theorem dX12_whyNot_81 : decode cX12_whyNot 81 = .ok (.getfield 149, 3) := by decide +kernel
theorem dX12_whyNot_84 : decode cX12_whyNot 84 = .ok (.iload_n 1, 1) := by decide +kernel
theorem dX12_whyNot_85 : decode cX12_whyNot 85 = .ok (.iaload, 1) := by decide +kernel
theorem dX12_whyNot_86 : decode cX12_whyNot 86 = .ok (.iconst 3, 1) := by decide +kernel
theorem dX12_whyNot_87 : decode cX12_whyNot 87 = .ok (.if_icmp .ne 7, 3) := by decide +kernel
theorem dX12_whyNot_90 : decode cX12_whyNot 90 = .ok (.iconst 1, 1) := by decide +kernel
theorem dX12_whyNot_91 : decode cX12_whyNot 91 = .ok (.goto 4, 3) := by decide +kernel
theorem dX12_whyNot_94 : decode cX12_whyNot 94 = .ok (.iconst 0, 1) := by decide +kernel
theorem dX12_whyNot_95 : decode cX12_whyNot 95 = .ok (.istore 5, 2) := by decide +kernel
theorem dX12_whyNot_97 : decode cX12_whyNot 97 = .ok (.iload 4, 2) := by decide +kernel
theorem dX12_whyNot_99 : decode cX12_whyNot 99 = .ok (.ifCond .lt 24, 3) := by decide +kernel
theorem dX12_whyNot_102 : decode cX12_whyNot 102 = .ok (.iload 5, 2) := by decide +kernel
theorem dX12_whyNot_104 : decode cX12_whyNot 104 = .ok (.ifCond .eq 21, 3) := by decide +kernel
theorem dX12_whyNot_107 : decode cX12_whyNot 107 = .ok (.aload_n 0, 1) := by decide +kernel
theorem dX12_whyNot_108 : decode cX12_whyNot 108 = .ok (.aload_n 0, 1) := by decide +kernel
theorem dX12_whyNot_109 : decode cX12_whyNot 109 = .ok (.getfield 158, 3) := by decide +kernel
theorem dX12_whyNot_112 : decode cX12_whyNot 112 = .ok (.iload_n 1, 1) := by decide +kernel
theorem dX12_whyNot_113 : decode cX12_whyNot 113 = .ok (.iaload, 1) := by decide +kernel
theorem dX12_whyNot_114 : decode cX12_whyNot 114 = .ok (.iload_n 2, 1) := by decide +kernel
theorem dX12_whyNot_115 : decode cX12_whyNot 115 = .ok (.invokevirtual 396, 3) := by decide +kernel
theorem dX12_whyNot_118 : decode cX12_whyNot 118 = .ok (.iload 4, 2) := by decide +kernel
theorem dX12_whyNot_120 : decode cX12_whyNot 120 = .ok (.if_icmp .eq 5, 3) := by decide +kernel
theorem dX12_whyNot_123 : decode cX12_whyNot 123 = .ok (.iconst 2, 1) := by decide +kernel
theorem dX12_whyNot_124 : decode cX12_whyNot 124 = .ok (.ireturn, 1) := by decide +kernel
theorem dX12_whyNot_125 : decode cX12_whyNot 125 = .ok (.aload_n 0, 1) := by decide +kernel
theorem dX12_whyNot_126 : decode cX12_whyNot 126 = .ok (.getfield 149, 3) := by decide +kernel
theorem dX12_whyNot_129 : decode cX12_whyNot 129 = .ok (.iload_n 1, 1) := by decide +kernel
theorem dX12_whyNot_130 : decode cX12_whyNot 130 = .ok (.iaload, 1) := by decide +kernel
theorem dX12_whyNot_131 : decode cX12_whyNot 131 = .ok (.iconst 3, 1) := by decide +kernel
theorem dX12_whyNot_132 : decode cX12_whyNot 132 = .ok (.if_icmp .eq 20, 3) := by decide +kernel
theorem dX12_whyNot_135 : decode cX12_whyNot 135 = .ok (.aload_n 0, 1) := by decide +kernel
theorem dX12_whyNot_136 : decode cX12_whyNot 136 = .ok (.iload_n 3, 1) := by decide +kernel
theorem dX12_whyNot_137 : decode cX12_whyNot 137 = .ok (.iload_n 2, 1) := by decide +kernel
theorem dX12_whyNot_138 : decode cX12_whyNot 138 = .ok (.aload_n 0, 1) := by decide +kernel
theorem dX12_whyNot_139 : decode cX12_whyNot 139 = .ok (.getfield 161, 3) := by decide +kernel
theorem dX12_whyNot_142 : decode cX12_whyNot 142 = .ok (.iload_n 1, 1) := by decide +kernel
theorem dX12_whyNot_143 : decode cX12_whyNot 143 = .ok (.iaload, 1) := by decide +kernel
theorem dX12_whyNot_144 : decode cX12_whyNot 144 = .ok (.invokevirtual 444, 3) := by decide +kernel
theorem dX12_whyNot_147 : decode cX12_whyNot 147 = .ok (.ifCond .ne 5, 3) := by decide +kernel
theorem dX12_whyNot_150 : decode cX12_whyNot 150 = .ok (.iconst 3, 1) := by decide +kernel
theorem dX12_whyNot_151 : decode cX12_whyNot 151 = .ok (.ireturn, 1) := by decide +kernel
theorem dX12_whyNot_152 : decode cX12_whyNot 152 = .ok (.iload 5, 2) := by decide +kernel
theorem dX12_whyNot_154 : decode cX12_whyNot 154 = .ok (.ifCond .eq 38, 3) := by decide +kernel
theorem dX12_whyNot_157 : decode cX12_whyNot 157 = .ok (.aload_n 0, 1) := by decide +kernel
theorem dX12_whyNot_158 : decode cX12_whyNot 158 = .ok (.iload_n 3, 1) := by decide +kernel
theorem dX12_whyNot_159 : decode cX12_whyNot 159 = .ok (.aload_n 0, 1) := by decide +kernel
theorem dX12_whyNot_160 : decode cX12_whyNot 160 = .ok (.getfield 158, 3) := by decide +kernel
theorem dX12_whyNot_163 : decode cX12_whyNot 163 = .ok (.iload_n 1, 1) := by decide +kernel
theorem dX12_whyNot_164 : decode cX12_whyNot 164 = .ok (.iaload, 1) := by decide +kernel
theorem dX12_whyNot_165 : decode cX12_whyNot 165 = .ok (.iload_n 2, 1) := by decide +kernel
theorem dX12_whyNot_166 : decode cX12_whyNot 166 = .ok (.aload_n 0, 1) := by decide +kernel
theorem dX12_whyNot_167 : decode cX12_whyNot 167 = .ok (.getfield 149, 3) := by decide +kernel
theorem dX12_whyNot_170 : decode cX12_whyNot 170 = .ok (.iload_n 1, 1) := by decide +kernel
theorem dX12_whyNot_171 : decode cX12_whyNot 171 = .ok (.iaload, 1) := by decide +kernel
theorem dX12_whyNot_172 : decode cX12_whyNot 172 = .ok (.iconst 3, 1) := by decide +kernel
theorem dX12_whyNot_173 : decode cX12_whyNot 173 = .ok (.if_icmp .ne 7, 3) := by decide +kernel
theorem dX12_whyNot_176 : decode cX12_whyNot 176 = .ok (.iconst 1, 1) := by decide +kernel
theorem dX12_whyNot_177 : decode cX12_whyNot 177 = .ok (.goto 4, 3) := by decide +kernel
theorem dX12_whyNot_180 : decode cX12_whyNot 180 = .ok (.iconst 0, 1) := by decide +kernel
theorem dX12_whyNot_181 : decode cX12_whyNot 181 = .ok (.iconst 0, 1) := by decide +kernel
theorem dX12_whyNot_182 : decode cX12_whyNot 182 = .ok (.invokevirtual 427, 3) := by decide +kernel
theorem dX12_whyNot_185 : decode cX12_whyNot 185 = .ok (.ifCond .ne 7, 3) := by decide +kernel
theorem dX12_whyNot_188 : decode cX12_whyNot 188 = .ok (.iconst 4, 1) := by decide +kernel
theorem dX12_whyNot_189 : decode cX12_whyNot 189 = .ok (.goto 4, 3) := by decide +kernel
theorem dX12_whyNot_192 : decode cX12_whyNot 192 = .ok (.iconst 0, 1) := by decide +kernel
theorem dX12_whyNot_193 : decode cX12_whyNot 193 = .ok (.ireturn, 1) := by decide +kernel
theorem dX12_does_0 : decode cX12_does 0 = .ok (.aload_n 0, 1) := by decide +kernel
theorem dX12_does_1 : decode cX12_does 1 = .ok (.getfield 152, 3) := by decide +kernel
theorem dX12_does_4 : decode cX12_does 4 = .ok (.iload_n 1, 1) := by decide +kernel
theorem dX12_does_5 : decode cX12_does 5 = .ok (.iaload, 1) := by decide +kernel
theorem dX12_does_6 : decode cX12_does 6 = .ok (.istore_n 2, 1) := by decide +kernel
theorem dX12_does_7 : decode cX12_does 7 = .ok (.aload_n 0, 1) := by decide +kernel
theorem dX12_does_8 : decode cX12_does 8 = .ok (.getfield 155, 3) := by decide +kernel
theorem dX12_does_11 : decode cX12_does 11 = .ok (.iload_n 1, 1) := by decide +kernel
theorem dX12_does_12 : decode cX12_does 12 = .ok (.iaload, 1) := by decide +kernel
theorem dX12_does_13 : decode cX12_does 13 = .ok (.istore_n 3, 1) := by decide +kernel
theorem dX12_does_14 : decode cX12_does 14 = .ok (.aload_n 0, 1) := by decide +kernel
theorem dX12_does_15 : decode cX12_does 15 = .ok (.getfield 161, 3) := by decide +kernel
theorem dX12_does_18 : decode cX12_does 18 = .ok (.iload_n 1, 1) := by decide +kernel
theorem dX12_does_19 : decode cX12_does 19 = .ok (.iaload, 1) := by decide +kernel
theorem dX12_does_20 : decode cX12_does 20 = .ok (.istore 4, 2) := by decide +kernel
theorem dX12_does_22 : decode cX12_does 22 = .ok (.aload_n 0, 1) := by decide +kernel
theorem dX12_does_23 : decode cX12_does 23 = .ok (.iload_n 3, 1) := by decide +kernel
theorem dX12_does_24 : decode cX12_does 24 = .ok (.iload_n 2, 1) := by decide +kernel
theorem dX12_does_25 : decode cX12_does 25 = .ok (.invokevirtual 396, 3) := by decide +kernel
theorem dX12_does_28 : decode cX12_does 28 = .ok (.istore 5, 2) := by decide +kernel
theorem dX12_does_30 : decode cX12_does 30 = .ok (.aload_n 0, 1) := by decide +kernel
theorem dX12_does_31 : decode cX12_does 31 = .ok (.getfield 149, 3) := by decide +kernel
theorem dX12_does_34 : decode cX12_does 34 = .ok (.iload_n 1, 1) := by decide +kernel
theorem dX12_does_35 : decode cX12_does 35 = .ok (.iaload, 1) := by decide +kernel
theorem dX12_does_36 : decode cX12_does 36 = .ok (.iconst 1, 1) := by decide +kernel
theorem dX12_does_37 : decode cX12_does 37 = .ok (.if_icmp .ne 22, 3) := by decide +kernel
theorem dX12_does_40 : decode cX12_does 40 = .ok (.aload_n 0, 1) := by decide +kernel
theorem dX12_does_41 : decode cX12_does 41 = .ok (.aload_n 0, 1) := by decide +kernel
theorem dX12_does_42 : decode cX12_does 42 = .ok (.iload 5, 2) := by decide +kernel
theorem dX12_does_44 : decode cX12_does 44 = .ok (.iload_n 2, 1) := by decide +kernel
theorem dX12_does_45 : decode cX12_does 45 = .ok (.invokevirtual 406, 3) := by decide +kernel
theorem dX12_does_48 : decode cX12_does 48 = .ok (.iload_n 2, 1) := by decide +kernel
theorem dX12_does_49 : decode cX12_does 49 = .ok (.iconst 1, 1) := by decide +kernel
theorem dX12_does_50 : decode cX12_does 50 = .ok (.iload 4, 2) := by decide +kernel
theorem dX12_does_52 : decode cX12_does 52 = .ok (.ishl, 1) := by decide +kernel
theorem dX12_does_53 : decode cX12_does 53 = .ok (.invokevirtual 447, 3) := by decide +kernel
theorem dX12_does_56 : decode cX12_does 56 = .ok (.goto 209, 3) := by decide +kernel
theorem dX12_does_59 : decode cX12_does 59 = .ok (.aload_n 0, 1) := by decide +kernel
theorem dX12_does_60 : decode cX12_does 60 = .ok (.getfield 149, 3) := by decide +kernel
theorem dX12_does_63 : decode cX12_does 63 = .ok (.iload_n 1, 1) := by decide +kernel
theorem dX12_does_64 : decode cX12_does 64 = .ok (.iaload, 1) := by decide +kernel
theorem dX12_does_65 : decode cX12_does 65 = .ok (.iconst 2, 1) := by decide +kernel
theorem dX12_does_66 : decode cX12_does 66 = .ok (.if_icmp .ne 23, 3) := by decide +kernel
theorem dX12_does_69 : decode cX12_does 69 = .ok (.aload_n 0, 1) := by decide +kernel
theorem dX12_does_70 : decode cX12_does 70 = .ok (.getfield 173, 3) := by decide +kernel
theorem dX12_does_73 : decode cX12_does 73 = .ok (.iload 5, 2) := by decide +kernel
theorem dX12_does_75 : decode cX12_does 75 = .ok (.dup2, 1) := by decide +kernel
theorem dX12_does_76 : decode cX12_does 76 = .ok (.iaload, 1) := by decide +kernel
theorem dX12_does_77 : decode cX12_does 77 = .ok (.iconst 1, 1) := by decide +kernel
theorem dX12_does_78 : decode cX12_does 78 = .ok (.bipush 6, 2) := by decide +kernel
theorem dX12_does_80 : decode cX12_does 80 = .ok (.iload 4, 2) := by decide +kernel
theorem dX12_does_82 : decode cX12_does 82 = .ok (.iadd, 1) := by decide +kernel
theorem dX12_does_83 : decode cX12_does 83 = .ok (.ishl, 1) := by decide +kernel
theorem dX12_does_84 : decode cX12_does 84 = .ok (.ior, 1) := by decide +kernel
theorem dX12_does_85 : decode cX12_does 85 = .ok (.iastore, 1) := by decide +kernel
theorem dX12_does_86 : decode cX12_does 86 = .ok (.goto 179, 3) := by decide +kernel
theorem dX12_does_89 : decode cX12_does 89 = .ok (.aload_n 0, 1) := by decide +kernel
theorem dX12_does_90 : decode cX12_does 90 = .ok (.getfield 158, 3) := by decide +kernel
theorem dX12_does_93 : decode cX12_does 93 = .ok (.iload_n 1, 1) := by decide +kernel
theorem dX12_does_94 : decode cX12_does 94 = .ok (.iaload, 1) := by decide +kernel
theorem dX12_does_95 : decode cX12_does 95 = .ok (.istore 6, 2) := by decide +kernel
theorem dX12_does_97 : decode cX12_does 97 = .ok (.aload_n 0, 1) := by decide +kernel
theorem dX12_does_98 : decode cX12_does 98 = .ok (.getfield 149, 3) := by decide +kernel
theorem dX12_does_101 : decode cX12_does 101 = .ok (.iload_n 1, 1) := by decide +kernel
theorem dX12_does_102 : decode cX12_does 102 = .ok (.iaload, 1) := by decide +kernel
theorem dX12_does_103 : decode cX12_does 103 = .ok (.ifCond .eq 28, 3) := by decide +kernel
theorem dX12_does_106 : decode cX12_does 106 = .ok (.aload_n 0, 1) := by decide +kernel
theorem dX12_does_107 : decode cX12_does 107 = .ok (.iload 6, 2) := by decide +kernel
theorem dX12_does_109 : decode cX12_does 109 = .ok (.iload_n 2, 1) := by decide +kernel
theorem dX12_does_110 : decode cX12_does 110 = .ok (.iload 4, 2) := by decide +kernel
theorem dX12_does_112 : decode cX12_does 112 = .ok (.invokevirtual 444, 3) := by decide +kernel
theorem dX12_does_115 : decode cX12_does 115 = .ok (.ifCond .eq 20, 3) := by decide +kernel
theorem dX12_does_118 : decode cX12_does 118 = .ok (.aload_n 0, 1) := by decide +kernel
theorem dX12_does_119 : decode cX12_does 119 = .ok (.iload 6, 2) := by decide +kernel
theorem dX12_does_121 : decode cX12_does 121 = .ok (.iload_n 3, 1) := by decide +kernel
theorem dX12_does_122 : decode cX12_does 122 = .ok (.iload_n 2, 1) := by decide +kernel
theorem dX12_does_123 : decode cX12_does 123 = .ok (.iconst 0, 1) := by decide +kernel
theorem dX12_does_124 : decode cX12_does 124 = .ok (.iconst 0, 1) := by decide +kernel
theorem dX12_does_125 : decode cX12_does 125 = .ok (.invokevirtual 427, 3) := by decide +kernel
theorem dX12_does_128 : decode cX12_does 128 = .ok (.ifCond .eq 7, 3) := by decide +kernel
theorem dX12_does_131 : decode cX12_does 131 = .ok (.iconst 1, 1) := by decide +kernel
theorem dX12_does_132 : decode cX12_does 132 = .ok (.goto 4, 3) := by decide +kernel
theorem dX12_does_135 : decode cX12_does 135 = .ok (.iconst 0, 1) := by decide +kernel
theorem dX12_does_136 : decode cX12_does 136 = .ok (.istore 7, 2) := by decide +kernel
theorem dX12_does_138 : decode cX12_does 138 = .ok (.aload_n 0, 1) := by decide +kernel
theorem dX12_does_139 : decode cX12_does 139 = .ok (.iload 5, 2) := by decide +kernel
theorem dX12_does_141 : decode cX12_does 141 = .ok (.iload_n 2, 1) := by decide +kernel
theorem dX12_does_142 : decode cX12_does 142 = .ok (.invokevirtual 424, 3) := by decide +kernel
theorem dX12_does_145 : decode cX12_does 145 = .ok (.istore 8, 2) := by decide +kernel
theorem dX12_does_147 : decode cX12_does 147 = .ok (.iload 7, 2) := by decide +kernel
theorem dX12_does_149 : decode cX12_does 149 = .ok (.ifCond .eq 14, 3) := by decide +kernel
theorem dX12_does_152 : decode cX12_does 152 = .ok (.aload_n 0, 1) := by decide +kernel
theorem dX12_does_153 : decode cX12_does 153 = .ok (.iload 8, 2) := by decide +kernel
theorem dX12_does_155 : decode cX12_does 155 = .ok (.iload_n 2, 1) := by decide +kernel
theorem dX12_does_156 : decode cX12_does 156 = .ok (.iconst 1, 1) := by decide +kernel
theorem dX12_does_157 : decode cX12_does 157 = .ok (.iload 4, 2) := by decide +kernel
theorem dX12_does_159 : decode cX12_does 159 = .ok (.ishl, 1) := by decide +kernel
theorem dX12_does_160 : decode cX12_does 160 = .ok (.invokevirtual 447, 3) := by decide +kernel
theorem dX12_does_163 : decode cX12_does 163 = .ok (.aload_n 0, 1) := by decide +kernel
theorem dX12_does_164 : decode cX12_does 164 = .ok (.getfield 149, 3) := by decide +kernel
theorem dX12_does_167 : decode cX12_does 167 = .ok (.iload_n 1, 1) := by decide +kernel
theorem dX12_does_168 : decode cX12_does 168 = .ok (.iaload, 1) := by decide +kernel
theorem dX12_does_169 : decode cX12_does 169 = .ok (.ifCond .eq 14, 3) := by decide +kernel
theorem dX12_does_172 : decode cX12_does 172 = .ok (.aload_n 0, 1) := by decide +kernel
theorem dX12_does_173 : decode cX12_does 173 = .ok (.iload_n 3, 1) := by decide +kernel
theorem dX12_does_174 : decode cX12_does 174 = .ok (.iload_n 2, 1) := by decide +kernel
theorem dX12_does_175 : decode cX12_does 175 = .ok (.iload 4, 2) := by decide +kernel
theorem dX12_does_177 : decode cX12_does 177 = .ok (.invokevirtual 444, 3) := by decide +kernel
theorem dX12_does_180 : decode cX12_does 180 = .ok (.ifCond .eq 4, 3) := by decide +kernel
theorem dX12_does_183 : decode cX12_does 183 = .ok (.return_, 1) := by decide +kernel
theorem dX12_does_184 : decode cX12_does 184 = .ok (.iconst 0, 1) := by decide +kernel
theorem dX12_does_185 : decode cX12_does 185 = .ok (.istore 9, 2) := by decide +kernel
theorem dX12_does_187 : decode cX12_does 187 = .ok (.iload 9, 2) := by decide +kernel
theorem dX12_does_189 : decode cX12_does 189 = .ok (.aload_n 0, 1) := by decide +kernel
theorem dX12_does_190 : decode cX12_does 190 = .ok (.iconst 1, 1) := by decide +kernel
theorem dX12_does_191 : decode cX12_does 191 = .ok (.invokevirtual 383, 3) := by decide +kernel
theorem dX12_does_194 : decode cX12_does 194 = .ok (.if_icmp .ge 71, 3) := by decide +kernel
theorem dX12_does_197 : decode cX12_does 197 = .ok (.iload 9, 2) := by decide +kernel
theorem dX12_does_199 : decode cX12_does 199 = .ok (.iload_n 3, 1) := by decide +kernel
theorem dX12_does_200 : decode cX12_does 200 = .ok (.if_icmp .eq 59, 3) := by decide +kernel
theorem dX12_does_203 : decode cX12_does 203 = .ok (.iload 8, 2) := by decide +kernel
theorem dX12_does_205 : decode cX12_does 205 = .ok (.iload 9, 2) := by decide +kernel
theorem dX12_does_207 : decode cX12_does 207 = .ok (.ishr, 1) := by decide +kernel
theorem dX12_does_208 : decode cX12_does 208 = .ok (.iconst 1, 1) := by decide +kernel
theorem dX12_does_209 : decode cX12_does 209 = .ok (.iand, 1) := by decide +kernel
theorem dX12_does_210 : decode cX12_does 210 = .ok (.iconst 1, 1) := by decide +kernel
theorem dX12_does_211 : decode cX12_does 211 = .ok (.if_icmp .ne 48, 3) := by decide +kernel
theorem dX12_does_214 : decode cX12_does 214 = .ok (.aload_n 0, 1) := by decide +kernel
theorem dX12_does_215 : decode cX12_does 215 = .ok (.getfield 170, 3) := by decide +kernel
theorem dX12_does_218 : decode cX12_does 218 = .ok (.bipush 60, 2) := by decide +kernel
theorem dX12_does_220 : decode cX12_does 220 = .ok (.iload 9, 2) := by decide +kernel
theorem dX12_does_222 : decode cX12_does 222 = .ok (.imul, 1) := by decide +kernel
theorem dX12_does_223 : decode cX12_does 223 = .ok (.bipush 6, 2) := by decide +kernel
theorem dX12_does_225 : decode cX12_does 225 = .ok (.iload_n 3, 1) := by decide +kernel
theorem dX12_does_226 : decode cX12_does 226 = .ok (.imul, 1) := by decide +kernel
theorem dX12_does_227 : decode cX12_does 227 = .ok (.iadd, 1) := by decide +kernel
theorem dX12_does_228 : decode cX12_does 228 = .ok (.iload 4, 2) := by decide +kernel
theorem dX12_does_230 : decode cX12_does 230 = .ok (.iadd, 1) := by decide +kernel
theorem dX12_does_231 : decode cX12_does 231 = .ok (.iaload, 1) := by decide +kernel
theorem dX12_does_232 : decode cX12_does 232 = .ok (.iload_n 2, 1) := by decide +kernel
theorem dX12_does_233 : decode cX12_does 233 = .ok (.iconst 1, 1) := by decide +kernel
theorem dX12_does_234 : decode cX12_does 234 = .ok (.iadd, 1) := by decide +kernel
theorem dX12_does_235 : decode cX12_does 235 = .ok (.if_icmp .le 24, 3) := by decide +kernel
theorem dX12_does_238 : decode cX12_does 238 = .ok (.aload_n 0, 1) := by decide +kernel
theorem dX12_does_239 : decode cX12_does 239 = .ok (.getfield 170, 3) := by decide +kernel
theorem dX12_does_242 : decode cX12_does 242 = .ok (.bipush 60, 2) := by decide +kernel
theorem dX12_does_244 : decode cX12_does 244 = .ok (.iload 9, 2) := by decide +kernel
theorem dX12_does_246 : decode cX12_does 246 = .ok (.imul, 1) := by decide +kernel
theorem dX12_does_247 : decode cX12_does 247 = .ok (.bipush 6, 2) := by decide +kernel
theorem dX12_does_249 : decode cX12_does 249 = .ok (.iload_n 3, 1) := by decide +kernel
theorem dX12_does_250 : decode cX12_does 250 = .ok (.imul, 1) := by decide +kernel
theorem dX12_does_251 : decode cX12_does 251 = .ok (.iadd, 1) := by decide +kernel
theorem dX12_does_252 : decode cX12_does 252 = .ok (.iload 4, 2) := by decide +kernel
theorem dX12_does_254 : decode cX12_does 254 = .ok (.iadd, 1) := by decide +kernel
theorem dX12_does_255 : decode cX12_does 255 = .ok (.iload_n 2, 1) := by decide +kernel
theorem dX12_does_256 : decode cX12_does 256 = .ok (.iconst 1, 1) := by decide +kernel
theorem dX12_does_257 : decode cX12_does 257 = .ok (.iadd, 1) := by decide +kernel
theorem dX12_does_258 : decode cX12_does 258 = .ok (.iastore, 1) := by decide +kernel
theorem dX12_does_259 : decode cX12_does 259 = .ok (.iinc 9 1, 3) := by decide +kernel
theorem dX12_does_262 : decode cX12_does 262 = .ok (.goto (-75), 3) := by decide +kernel
theorem dX12_does_265 : decode cX12_does 265 = .ok (.return_, 1) := by decide +kernel
theorem dX12_mixed_0 : decode cX12_mixed 0 = .ok (.iload_n 0, 1) := by decide +kernel
theorem dX12_mixed_1 : decode cX12_mixed 1 = .ok (.iload_n 1, 1) := by decide +kernel
theorem dX12_mixed_2 : decode cX12_mixed 2 = .ok (.ixor, 1) := by decide +kernel
theorem dX12_mixed_3 : decode cX12_mixed 3 = .ok (.ldc_w 450, 3) := by decide +kernel
theorem dX12_mixed_6 : decode cX12_mixed 6 = .ok (.imul, 1) := by decide +kernel
theorem dX12_mixed_7 : decode cX12_mixed 7 = .ok (.sipush 12345, 3) := by decide +kernel
theorem dX12_mixed_10 : decode cX12_mixed 10 = .ok (.iadd, 1) := by decide +kernel
theorem dX12_mixed_11 : decode cX12_mixed 11 = .ok (.istore_n 2, 1) := by decide +kernel
theorem dX12_mixed_12 : decode cX12_mixed 12 = .ok (.iload_n 2, 1) := by decide +kernel
theorem dX12_mixed_13 : decode cX12_mixed 13 = .ok (.iload_n 2, 1) := by decide +kernel
theorem dX12_mixed_14 : decode cX12_mixed 14 = .ok (.bipush 15, 2) := by decide +kernel
theorem dX12_mixed_16 : decode cX12_mixed 16 = .ok (.iushr, 1) := by decide +kernel
theorem dX12_mixed_17 : decode cX12_mixed 17 = .ok (.ixor, 1) := by decide +kernel
theorem dX12_mixed_18 : decode cX12_mixed 18 = .ok (.ireturn, 1) := by decide +kernel
theorem dX12_lot_0 : decode cX12_lot 0 = .ok (.iload_n 0, 1) := by decide +kernel
theorem dX12_lot_1 : decode cX12_lot 1 = .ok (.bipush 17, 2) := by decide +kernel
theorem dX12_lot_3 : decode cX12_lot 3 = .ok (.invokestatic 451, 3) := by decide +kernel
theorem dX12_lot_6 : decode cX12_lot 6 = .ok (.iload_n 1, 1) := by decide +kernel
theorem dX12_lot_7 : decode cX12_lot 7 = .ok (.invokestatic 451, 3) := by decide +kernel
theorem dX12_lot_10 : decode cX12_lot 10 = .ok (.iconst 1, 1) := by decide +kernel
theorem dX12_lot_11 : decode cX12_lot 11 = .ok (.iushr, 1) := by decide +kernel
theorem dX12_lot_12 : decode cX12_lot 12 = .ok (.iload_n 2, 1) := by decide +kernel
theorem dX12_lot_13 : decode cX12_lot 13 = .ok (.irem, 1) := by decide +kernel
theorem dX12_lot_14 : decode cX12_lot 14 = .ok (.ireturn, 1) := by decide +kernel
theorem dX12_goes_0 : decode cX12_goes 0 = .ok (.aload_n 0, 1) := by decide +kernel
theorem dX12_goes_1 : decode cX12_goes 1 = .ok (.invokevirtual 454, 3) := by decide +kernel
theorem dX12_goes_4 : decode cX12_goes 4 = .ok (.aload_n 0, 1) := by decide +kernel
theorem dX12_goes_5 : decode cX12_goes 5 = .ok (.iconst 0, 1) := by decide +kernel
theorem dX12_goes_6 : decode cX12_goes 6 = .ok (.putfield 390, 3) := by decide +kernel
theorem dX12_goes_9 : decode cX12_goes 9 = .ok (.iconst 0, 1) := by decide +kernel
theorem dX12_goes_10 : decode cX12_goes 10 = .ok (.istore_n 1, 1) := by decide +kernel
theorem dX12_goes_11 : decode cX12_goes 11 = .ok (.iload_n 1, 1) := by decide +kernel
theorem dX12_goes_12 : decode cX12_goes 12 = .ok (.sipush 600, 3) := by decide +kernel
theorem dX12_goes_15 : decode cX12_goes 15 = .ok (.if_icmp .ge 17, 3) := by decide +kernel
theorem dX12_goes_18 : decode cX12_goes 18 = .ok (.aload_n 0, 1) := by decide +kernel
theorem dX12_goes_19 : decode cX12_goes 19 = .ok (.getfield 170, 3) := by decide +kernel
theorem dX12_goes_22 : decode cX12_goes 22 = .ok (.iload_n 1, 1) := by decide +kernel
theorem dX12_goes_23 : decode cX12_goes 23 = .ok (.bipush 99, 2) := by decide +kernel
theorem dX12_goes_25 : decode cX12_goes 25 = .ok (.iastore, 1) := by decide +kernel
theorem dX12_goes_26 : decode cX12_goes 26 = .ok (.iinc 1 1, 3) := by decide +kernel
theorem dX12_goes_29 : decode cX12_goes 29 = .ok (.goto (-18), 3) := by decide +kernel
theorem dX12_goes_32 : decode cX12_goes 32 = .ok (.iconst 0, 1) := by decide +kernel
theorem dX12_goes_33 : decode cX12_goes 33 = .ok (.istore_n 1, 1) := by decide +kernel
theorem dX12_goes_34 : decode cX12_goes 34 = .ok (.iload_n 1, 1) := by decide +kernel
theorem dX12_goes_35 : decode cX12_goes 35 = .ok (.bipush 6, 2) := by decide +kernel
theorem dX12_goes_37 : decode cX12_goes 37 = .ok (.if_icmp .ge 16, 3) := by decide +kernel
theorem dX12_goes_40 : decode cX12_goes 40 = .ok (.aload_n 0, 1) := by decide +kernel
theorem dX12_goes_41 : decode cX12_goes 41 = .ok (.getfield 173, 3) := by decide +kernel
theorem dX12_goes_44 : decode cX12_goes 44 = .ok (.iload_n 1, 1) := by decide +kernel
theorem dX12_goes_45 : decode cX12_goes 45 = .ok (.iconst 0, 1) := by decide +kernel
theorem dX12_goes_46 : decode cX12_goes 46 = .ok (.iastore, 1) := by decide +kernel
theorem dX12_goes_47 : decode cX12_goes 47 = .ok (.iinc 1 1, 3) := by decide +kernel
theorem dX12_goes_50 : decode cX12_goes 50 = .ok (.goto (-16), 3) := by decide +kernel
theorem dX12_goes_53 : decode cX12_goes 53 = .ok (.iconst 0, 1) := by decide +kernel
theorem dX12_goes_54 : decode cX12_goes 54 = .ok (.istore_n 1, 1) := by decide +kernel
theorem dX12_goes_55 : decode cX12_goes 55 = .ok (.iload_n 1, 1) := by decide +kernel
theorem dX12_goes_56 : decode cX12_goes 56 = .ok (.bipush 24, 2) := by decide +kernel
theorem dX12_goes_58 : decode cX12_goes 58 = .ok (.if_icmp .ge 231, 3) := by decide +kernel
theorem dX12_goes_61 : decode cX12_goes 61 = .ok (.iconst 0, 1) := by decide +kernel
theorem dX12_goes_62 : decode cX12_goes 62 = .ok (.istore_n 2, 1) := by decide +kernel
theorem dX12_goes_63 : decode cX12_goes 63 = .ok (.iload_n 2, 1) := by decide +kernel
theorem dX12_goes_64 : decode cX12_goes 64 = .ok (.aload_n 0, 1) := by decide +kernel
theorem dX12_goes_65 : decode cX12_goes 65 = .ok (.iconst 1, 1) := by decide +kernel
theorem dX12_goes_66 : decode cX12_goes 66 = .ok (.invokevirtual 383, 3) := by decide +kernel
theorem dX12_goes_69 : decode cX12_goes 69 = .ok (.if_icmp .ge 91, 3) := by decide +kernel
theorem dX12_goes_72 : decode cX12_goes 72 = .ok (.aload_n 0, 1) := by decide +kernel
theorem dX12_goes_73 : decode cX12_goes 73 = .ok (.getfield 176, 3) := by decide +kernel
theorem dX12_goes_76 : decode cX12_goes 76 = .ok (.iconst (-1), 1) := by decide +kernel
theorem dX12_goes_77 : decode cX12_goes 77 = .ok (.if_icmp .eq 49, 3) := by decide +kernel
theorem dX12_goes_80 : decode cX12_goes 80 = .ok (.iload_n 1, 1) := by decide +kernel
theorem dX12_goes_81 : decode cX12_goes 81 = .ok (.ifCond .le 45, 3) := by decide +kernel
theorem dX12_goes_84 : decode cX12_goes 84 = .ok (.aload_n 0, 1) := by decide +kernel
theorem dX12_goes_85 : decode cX12_goes 85 = .ok (.iload_n 2, 1) := by decide +kernel
theorem dX12_goes_86 : decode cX12_goes 86 = .ok (.invokevirtual 393, 3) := by decide +kernel
theorem dX12_goes_89 : decode cX12_goes 89 = .ok (.ifCond .ne 37, 3) := by decide +kernel
theorem dX12_goes_92 : decode cX12_goes 92 = .ok (.aload_n 0, 1) := by decide +kernel
theorem dX12_goes_93 : decode cX12_goes 93 = .ok (.getfield 457, 3) := by decide +kernel
theorem dX12_goes_96 : decode cX12_goes 96 = .ok (.bipush 100, 2) := by decide +kernel
theorem dX12_goes_98 : decode cX12_goes 98 = .ok (.iload_n 1, 1) := by decide +kernel
theorem dX12_goes_99 : decode cX12_goes 99 = .ok (.imul, 1) := by decide +kernel
theorem dX12_goes_100 : decode cX12_goes 100 = .ok (.iload_n 2, 1) := by decide +kernel
theorem dX12_goes_101 : decode cX12_goes 101 = .ok (.iadd, 1) := by decide +kernel
theorem dX12_goes_102 : decode cX12_goes 102 = .ok (.bipush 100, 2) := by decide +kernel
theorem dX12_goes_104 : decode cX12_goes 104 = .ok (.invokestatic 460, 3) := by decide +kernel
theorem dX12_goes_107 : decode cX12_goes 107 = .ok (.aload_n 0, 1) := by decide +kernel
theorem dX12_goes_108 : decode cX12_goes 108 = .ok (.getfield 176, 3) := by decide +kernel
theorem dX12_goes_111 : decode cX12_goes 111 = .ok (.if_icmp .ge 15, 3) := by decide +kernel
theorem dX12_goes_114 : decode cX12_goes 114 = .ok (.aload_n 0, 1) := by decide +kernel
theorem dX12_goes_115 : decode cX12_goes 115 = .ok (.dup, 1) := by decide +kernel
theorem dX12_goes_116 : decode cX12_goes 116 = .ok (.getfield 390, 3) := by decide +kernel
theorem dX12_goes_119 : decode cX12_goes 119 = .ok (.iconst 1, 1) := by decide +kernel
theorem dX12_goes_120 : decode cX12_goes 120 = .ok (.iload_n 2, 1) := by decide +kernel
theorem dX12_goes_121 : decode cX12_goes 121 = .ok (.ishl, 1) := by decide +kernel
theorem dX12_goes_122 : decode cX12_goes 122 = .ok (.ior, 1) := by decide +kernel
theorem dX12_goes_123 : decode cX12_goes 123 = .ok (.putfield 390, 3) := by decide +kernel
theorem dX12_goes_126 : decode cX12_goes 126 = .ok (.aload_n 0, 1) := by decide +kernel
theorem dX12_goes_127 : decode cX12_goes 127 = .ok (.getfield 164, 3) := by decide +kernel
theorem dX12_goes_130 : decode cX12_goes 130 = .ok (.bipush 10, 2) := by decide +kernel
theorem dX12_goes_132 : decode cX12_goes 132 = .ok (.iload_n 1, 1) := by decide +kernel
theorem dX12_goes_133 : decode cX12_goes 133 = .ok (.imul, 1) := by decide +kernel
theorem dX12_goes_134 : decode cX12_goes 134 = .ok (.bipush 10, 2) := by decide +kernel
theorem dX12_goes_136 : decode cX12_goes 136 = .ok (.iadd, 1) := by decide +kernel
theorem dX12_goes_137 : decode cX12_goes 137 = .ok (.iload_n 2, 1) := by decide +kernel
theorem dX12_goes_138 : decode cX12_goes 138 = .ok (.iadd, 1) := by decide +kernel
theorem dX12_goes_139 : decode cX12_goes 139 = .ok (.dup2, 1) := by decide +kernel
theorem dX12_goes_140 : decode cX12_goes 140 = .ok (.iaload, 1) := by decide +kernel
theorem dX12_goes_141 : decode cX12_goes 141 = .ok (.aload_n 0, 1) := by decide +kernel
theorem dX12_goes_142 : decode cX12_goes 142 = .ok (.getfield 164, 3) := by decide +kernel
theorem dX12_goes_145 : decode cX12_goes 145 = .ok (.bipush 10, 2) := by decide +kernel
theorem dX12_goes_147 : decode cX12_goes 147 = .ok (.iload_n 1, 1) := by decide +kernel
theorem dX12_goes_148 : decode cX12_goes 148 = .ok (.imul, 1) := by decide +kernel
theorem dX12_goes_149 : decode cX12_goes 149 = .ok (.iload_n 2, 1) := by decide +kernel
theorem dX12_goes_150 : decode cX12_goes 150 = .ok (.iadd, 1) := by decide +kernel
theorem dX12_goes_151 : decode cX12_goes 151 = .ok (.iaload, 1) := by decide +kernel
theorem dX12_goes_152 : decode cX12_goes 152 = .ok (.ior, 1) := by decide +kernel
theorem dX12_goes_153 : decode cX12_goes 153 = .ok (.iastore, 1) := by decide +kernel
theorem dX12_goes_154 : decode cX12_goes 154 = .ok (.iinc 2 1, 3) := by decide +kernel
theorem dX12_goes_157 : decode cX12_goes 157 = .ok (.goto (-94), 3) := by decide +kernel
theorem dX12_goes_160 : decode cX12_goes 160 = .ok (.iconst 0, 1) := by decide +kernel
theorem dX12_goes_161 : decode cX12_goes 161 = .ok (.istore_n 2, 1) := by decide +kernel
theorem dX12_goes_162 : decode cX12_goes 162 = .ok (.iload_n 2, 1) := by decide +kernel
theorem dX12_goes_163 : decode cX12_goes 163 = .ok (.aload_n 0, 1) := by decide +kernel
theorem dX12_goes_164 : decode cX12_goes 164 = .ok (.iconst 0, 1) := by decide +kernel
theorem dX12_goes_165 : decode cX12_goes 165 = .ok (.invokevirtual 383, 3) := by decide +kernel
theorem dX12_goes_168 : decode cX12_goes 168 = .ok (.if_icmp .ge 29, 3) := by decide +kernel
theorem dX12_goes_171 : decode cX12_goes 171 = .ok (.aload_n 0, 1) := by decide +kernel
theorem dX12_goes_172 : decode cX12_goes 172 = .ok (.aload_n 0, 1) := by decide +kernel
theorem dX12_goes_173 : decode cX12_goes 173 = .ok (.iload_n 2, 1) := by decide +kernel
theorem dX12_goes_174 : decode cX12_goes 174 = .ok (.iload_n 1, 1) := by decide +kernel
theorem dX12_goes_175 : decode cX12_goes 175 = .ok (.invokevirtual 406, 3) := by decide +kernel
theorem dX12_goes_178 : decode cX12_goes 178 = .ok (.iload_n 1, 1) := by decide +kernel
theorem dX12_goes_179 : decode cX12_goes 179 = .ok (.aload_n 0, 1) := by decide +kernel
theorem dX12_goes_180 : decode cX12_goes 180 = .ok (.getfield 173, 3) := by decide +kernel
theorem dX12_goes_183 : decode cX12_goes 183 = .ok (.iload_n 2, 1) := by decide +kernel
theorem dX12_goes_184 : decode cX12_goes 184 = .ok (.iaload, 1) := by decide +kernel
theorem dX12_goes_185 : decode cX12_goes 185 = .ok (.bipush 63, 2) := by decide +kernel
theorem dX12_goes_187 : decode cX12_goes 187 = .ok (.iand, 1) := by decide +kernel
theorem dX12_goes_188 : decode cX12_goes 188 = .ok (.invokevirtual 447, 3) := by decide +kernel
theorem dX12_goes_191 : decode cX12_goes 191 = .ok (.iinc 2 1, 3) := by decide +kernel
theorem dX12_goes_194 : decode cX12_goes 194 = .ok (.goto (-32), 3) := by decide +kernel
theorem dX12_goes_197 : decode cX12_goes 197 = .ok (.iconst 0, 1) := by decide +kernel
theorem dX12_goes_198 : decode cX12_goes 198 = .ok (.istore_n 2, 1) := by decide +kernel
theorem dX12_goes_199 : decode cX12_goes 199 = .ok (.iload_n 2, 1) := by decide +kernel
theorem dX12_goes_200 : decode cX12_goes 200 = .ok (.aload_n 0, 1) := by decide +kernel
theorem dX12_goes_201 : decode cX12_goes 201 = .ok (.getfield 308, 3) := by decide +kernel
theorem dX12_goes_204 : decode cX12_goes 204 = .ok (.if_icmp .ge 47, 3) := by decide +kernel
theorem dX12_goes_207 : decode cX12_goes 207 = .ok (.aload_n 0, 1) := by decide +kernel
theorem dX12_goes_208 : decode cX12_goes 208 = .ok (.getfield 152, 3) := by decide +kernel
theorem dX12_goes_211 : decode cX12_goes 211 = .ok (.iload_n 2, 1) := by decide +kernel
theorem dX12_goes_212 : decode cX12_goes 212 = .ok (.iaload, 1) := by decide +kernel
theorem dX12_goes_213 : decode cX12_goes 213 = .ok (.iload_n 1, 1) := by decide +kernel
theorem dX12_goes_214 : decode cX12_goes 214 = .ok (.if_icmp .eq 6, 3) := by decide +kernel
theorem dX12_goes_217 : decode cX12_goes 217 = .ok (.goto 28, 3) := by decide +kernel
theorem dX12_goes_220 : decode cX12_goes 220 = .ok (.aload_n 0, 1) := by decide +kernel
theorem dX12_goes_221 : decode cX12_goes 221 = .ok (.getfield 167, 3) := by decide +kernel
theorem dX12_goes_224 : decode cX12_goes 224 = .ok (.iload_n 2, 1) := by decide +kernel
theorem dX12_goes_225 : decode cX12_goes 225 = .ok (.aload_n 0, 1) := by decide +kernel
theorem dX12_goes_226 : decode cX12_goes 226 = .ok (.iload_n 2, 1) := by decide +kernel
theorem dX12_goes_227 : decode cX12_goes 227 = .ok (.invokevirtual 463, 3) := by decide +kernel
theorem dX12_goes_230 : decode cX12_goes 230 = .ok (.iastore, 1) := by decide +kernel
theorem dX12_goes_231 : decode cX12_goes 231 = .ok (.aload_n 0, 1) := by decide +kernel
theorem dX12_goes_232 : decode cX12_goes 232 = .ok (.getfield 167, 3) := by decide +kernel
theorem dX12_goes_235 : decode cX12_goes 235 = .ok (.iload_n 2, 1) := by decide +kernel
theorem dX12_goes_236 : decode cX12_goes 236 = .ok (.iaload, 1) := by decide +kernel
theorem dX12_goes_237 : decode cX12_goes 237 = .ok (.ifCond .ne 8, 3) := by decide +kernel
theorem dX12_goes_240 : decode cX12_goes 240 = .ok (.aload_n 0, 1) := by decide +kernel
theorem dX12_goes_241 : decode cX12_goes 241 = .ok (.iload_n 2, 1) := by decide +kernel
theorem dX12_goes_242 : decode cX12_goes 242 = .ok (.invokevirtual 466, 3) := by decide +kernel
theorem dX12_goes_245 : decode cX12_goes 245 = .ok (.iinc 2 1, 3) := by decide +kernel
theorem dX12_goes_248 : decode cX12_goes 248 = .ok (.goto (-49), 3) := by decide +kernel
theorem dX12_goes_251 : decode cX12_goes 251 = .ok (.iconst 0, 1) := by decide +kernel
theorem dX12_goes_252 : decode cX12_goes 252 = .ok (.istore_n 2, 1) := by decide +kernel
theorem dX12_goes_253 : decode cX12_goes 253 = .ok (.iload_n 2, 1) := by decide +kernel
theorem dX12_goes_254 : decode cX12_goes 254 = .ok (.bipush 6, 2) := by decide +kernel
theorem dX12_goes_256 : decode cX12_goes 256 = .ok (.if_icmp .ge 27, 3) := by decide +kernel
theorem dX12_goes_259 : decode cX12_goes 259 = .ok (.aload_n 0, 1) := by decide +kernel
theorem dX12_goes_260 : decode cX12_goes 260 = .ok (.getfield 173, 3) := by decide +kernel
theorem dX12_goes_263 : decode cX12_goes 263 = .ok (.iload_n 2, 1) := by decide +kernel
theorem dX12_goes_264 : decode cX12_goes 264 = .ok (.dup2, 1) := by decide +kernel
theorem dX12_goes_265 : decode cX12_goes 265 = .ok (.iaload, 1) := by decide +kernel
theorem dX12_goes_266 : decode cX12_goes 266 = .ok (.aload_n 0, 1) := by decide +kernel
theorem dX12_goes_267 : decode cX12_goes 267 = .ok (.getfield 173, 3) := by decide +kernel
theorem dX12_goes_270 : decode cX12_goes 270 = .ok (.iload_n 2, 1) := by decide +kernel
theorem dX12_goes_271 : decode cX12_goes 271 = .ok (.iaload, 1) := by decide +kernel
theorem dX12_goes_272 : decode cX12_goes 272 = .ok (.bipush 6, 2) := by decide +kernel
theorem dX12_goes_274 : decode cX12_goes 274 = .ok (.ishr, 1) := by decide +kernel
theorem dX12_goes_275 : decode cX12_goes 275 = .ok (.ior, 1) := by decide +kernel
theorem dX12_goes_276 : decode cX12_goes 276 = .ok (.iastore, 1) := by decide +kernel
theorem dX12_goes_277 : decode cX12_goes 277 = .ok (.iinc 2 1, 3) := by decide +kernel
theorem dX12_goes_280 : decode cX12_goes 280 = .ok (.goto (-27), 3) := by decide +kernel
theorem dX12_goes_283 : decode cX12_goes 283 = .ok (.iinc 1 1, 3) := by decide +kernel
theorem dX12_goes_286 : decode cX12_goes 286 = .ok (.goto (-231), 3) := by decide +kernel
theorem dX12_goes_289 : decode cX12_goes 289 = .ok (.return_, 1) := by decide +kernel
theorem dX12_goesAsTold_0 : decode cX12_goesAsTold 0 = .ok (.aload_n 0, 1) := by decide +kernel
theorem dX12_goesAsTold_1 : decode cX12_goesAsTold 1 = .ok (.iconst (-1), 1) := by decide +kernel
theorem dX12_goesAsTold_2 : decode cX12_goesAsTold 2 = .ok (.putfield 176, 3) := by decide +kernel
theorem dX12_goesAsTold_5 : decode cX12_goesAsTold 5 = .ok (.aload_n 0, 1) := by decide +kernel
theorem dX12_goesAsTold_6 : decode cX12_goesAsTold 6 = .ok (.invokevirtual 469, 3) := by decide +kernel
theorem dX12_goesAsTold_9 : decode cX12_goesAsTold 9 = .ok (.return_, 1) := by decide +kernel
theorem dX12_doing_0 : decode cX12_doing 0 = .ok (.iload_n 1, 1) := by decide +kernel
theorem dX12_doing_1 : decode cX12_doing 1 = .ok (.iconst 0, 1) := by decide +kernel
theorem dX12_doing_2 : decode cX12_doing 2 = .ok (.aload_n 0, 1) := by decide +kernel
theorem dX12_doing_3 : decode cX12_doing 3 = .ok (.getfield 308, 3) := by decide +kernel
theorem dX12_doing_6 : decode cX12_doing 6 = .ok (.iconst 1, 1) := by decide +kernel
theorem dX12_doing_7 : decode cX12_doing 7 = .ok (.isub, 1) := by decide +kernel
theorem dX12_doing_8 : decode cX12_doing 8 = .ok (.invokestatic 386, 3) := by decide +kernel
theorem dX12_doing_11 : decode cX12_doing 11 = .ok (.ifCond .ne 5, 3) := by decide +kernel
theorem dX12_doing_14 : decode cX12_doing 14 = .ok (.iconst (-1), 1) := by decide +kernel
theorem dX12_doing_15 : decode cX12_doing 15 = .ok (.ireturn, 1) := by decide +kernel
theorem dX12_doing_16 : decode cX12_doing 16 = .ok (.iload_n 2, 1) := by decide +kernel
theorem dX12_doing_17 : decode cX12_doing 17 = .ok (.tableswitch 85 0 5 #[39, 46, 53, 60, 67, 74], 39) := by decide +kernel
theorem dX12_doing_56 : decode cX12_doing 56 = .ok (.aload_n 0, 1) := by decide +kernel
theorem dX12_doing_57 : decode cX12_doing 57 = .ok (.getfield 149, 3) := by decide +kernel
theorem dX12_doing_60 : decode cX12_doing 60 = .ok (.iload_n 1, 1) := by decide +kernel
theorem dX12_doing_61 : decode cX12_doing 61 = .ok (.iaload, 1) := by decide +kernel
theorem dX12_doing_62 : decode cX12_doing 62 = .ok (.ireturn, 1) := by decide +kernel
theorem dX12_doing_63 : decode cX12_doing 63 = .ok (.aload_n 0, 1) := by decide +kernel
theorem dX12_doing_64 : decode cX12_doing 64 = .ok (.getfield 152, 3) := by decide +kernel
theorem dX12_doing_67 : decode cX12_doing 67 = .ok (.iload_n 1, 1) := by decide +kernel
theorem dX12_doing_68 : decode cX12_doing 68 = .ok (.iaload, 1) := by decide +kernel
theorem dX12_doing_69 : decode cX12_doing 69 = .ok (.ireturn, 1) := by decide +kernel
theorem dX12_doing_70 : decode cX12_doing 70 = .ok (.aload_n 0, 1) := by decide +kernel
theorem dX12_doing_71 : decode cX12_doing 71 = .ok (.getfield 155, 3) := by decide +kernel
theorem dX12_doing_74 : decode cX12_doing 74 = .ok (.iload_n 1, 1) := by decide +kernel
theorem dX12_doing_75 : decode cX12_doing 75 = .ok (.iaload, 1) := by decide +kernel
theorem dX12_doing_76 : decode cX12_doing 76 = .ok (.ireturn, 1) := by decide +kernel
theorem dX12_doing_77 : decode cX12_doing 77 = .ok (.aload_n 0, 1) := by decide +kernel
theorem dX12_doing_78 : decode cX12_doing 78 = .ok (.getfield 158, 3) := by decide +kernel
theorem dX12_doing_81 : decode cX12_doing 81 = .ok (.iload_n 1, 1) := by decide +kernel
theorem dX12_doing_82 : decode cX12_doing 82 = .ok (.iaload, 1) := by decide +kernel
theorem dX12_doing_83 : decode cX12_doing 83 = .ok (.ireturn, 1) := by decide +kernel
theorem dX12_doing_84 : decode cX12_doing 84 = .ok (.aload_n 0, 1) := by decide +kernel
theorem dX12_doing_85 : decode cX12_doing 85 = .ok (.getfield 161, 3) := by decide +kernel
theorem dX12_doing_88 : decode cX12_doing 88 = .ok (.iload_n 1, 1) := by decide +kernel
theorem dX12_doing_89 : decode cX12_doing 89 = .ok (.iaload, 1) := by decide +kernel
theorem dX12_doing_90 : decode cX12_doing 90 = .ok (.ireturn, 1) := by decide +kernel
theorem dX12_doing_91 : decode cX12_doing 91 = .ok (.aload_n 0, 1) := by decide +kernel
theorem dX12_doing_92 : decode cX12_doing 92 = .ok (.invokevirtual 472, 3) := by decide +kernel
theorem dX12_doing_95 : decode cX12_doing 95 = .ok (.aload_n 0, 1) := by decide +kernel
theorem dX12_doing_96 : decode cX12_doing 96 = .ok (.getfield 167, 3) := by decide +kernel
theorem dX12_doing_99 : decode cX12_doing 99 = .ok (.iload_n 1, 1) := by decide +kernel
theorem dX12_doing_100 : decode cX12_doing 100 = .ok (.iaload, 1) := by decide +kernel
theorem dX12_doing_101 : decode cX12_doing 101 = .ok (.ireturn, 1) := by decide +kernel
theorem dX12_doing_102 : decode cX12_doing 102 = .ok (.iconst (-1), 1) := by decide +kernel
theorem dX12_doing_103 : decode cX12_doing 103 = .ok (.ireturn, 1) := by decide +kernel
theorem dX12_judge_0 : decode cX12_judge 0 = .ok (.aload_n 0, 1) := by decide +kernel
theorem dX12_judge_1 : decode cX12_judge 1 = .ok (.invokevirtual 472, 3) := by decide +kernel
theorem dX12_judge_4 : decode cX12_judge 4 = .ok (.iconst 0, 1) := by decide +kernel
theorem dX12_judge_5 : decode cX12_judge 5 = .ok (.istore_n 1, 1) := by decide +kernel
theorem dX12_judge_6 : decode cX12_judge 6 = .ok (.iload_n 1, 1) := by decide +kernel
theorem dX12_judge_7 : decode cX12_judge 7 = .ok (.bipush 24, 2) := by decide +kernel
theorem dX12_judge_9 : decode cX12_judge 9 = .ok (.if_icmp .ge 46, 3) := by decide +kernel
theorem dX12_judge_12 : decode cX12_judge 12 = .ok (.iconst 0, 1) := by decide +kernel
theorem dX12_judge_13 : decode cX12_judge 13 = .ok (.istore_n 2, 1) := by decide +kernel
theorem dX12_judge_14 : decode cX12_judge 14 = .ok (.iload_n 2, 1) := by decide +kernel
theorem dX12_judge_15 : decode cX12_judge 15 = .ok (.aload_n 0, 1) := by decide +kernel
theorem dX12_judge_16 : decode cX12_judge 16 = .ok (.getfield 308, 3) := by decide +kernel
theorem dX12_judge_19 : decode cX12_judge 19 = .ok (.if_icmp .ge 30, 3) := by decide +kernel
theorem dX12_judge_22 : decode cX12_judge 22 = .ok (.aload_n 0, 1) := by decide +kernel
theorem dX12_judge_23 : decode cX12_judge 23 = .ok (.getfield 152, 3) := by decide +kernel
theorem dX12_judge_26 : decode cX12_judge 26 = .ok (.iload_n 2, 1) := by decide +kernel
theorem dX12_judge_27 : decode cX12_judge 27 = .ok (.iaload, 1) := by decide +kernel
theorem dX12_judge_28 : decode cX12_judge 28 = .ok (.iload_n 1, 1) := by decide +kernel
theorem dX12_judge_29 : decode cX12_judge 29 = .ok (.if_icmp .ne 14, 3) := by decide +kernel
theorem dX12_judge_32 : decode cX12_judge 32 = .ok (.aload_n 0, 1) := by decide +kernel
theorem dX12_judge_33 : decode cX12_judge 33 = .ok (.getfield 167, 3) := by decide +kernel
theorem dX12_judge_36 : decode cX12_judge 36 = .ok (.iload_n 2, 1) := by decide +kernel
theorem dX12_judge_37 : decode cX12_judge 37 = .ok (.iaload, 1) := by decide +kernel
theorem dX12_judge_38 : decode cX12_judge 38 = .ok (.ifCond .le 5, 3) := by decide +kernel
theorem dX12_judge_41 : decode cX12_judge 41 = .ok (.iload_n 2, 1) := by decide +kernel
theorem dX12_judge_42 : decode cX12_judge 42 = .ok (.ireturn, 1) := by decide +kernel
theorem dX12_judge_43 : decode cX12_judge 43 = .ok (.iinc 2 1, 3) := by decide +kernel
theorem dX12_judge_46 : decode cX12_judge 46 = .ok (.goto (-32), 3) := by decide +kernel
theorem dX12_judge_49 : decode cX12_judge 49 = .ok (.iinc 1 1, 3) := by decide +kernel
theorem dX12_judge_52 : decode cX12_judge 52 = .ok (.goto (-46), 3) := by decide +kernel
theorem dX12_judge_55 : decode cX12_judge 55 = .ok (.bipush (-2), 2) := by decide +kernel
theorem dX12_judge_57 : decode cX12_judge 57 = .ok (.ireturn, 1) := by decide +kernel
theorem dX12_costOf_0 : decode cX12_costOf 0 = .ok (.iload_n 1, 1) := by decide +kernel
theorem dX12_costOf_1 : decode cX12_costOf 1 = .ok (.iconst 1, 1) := by decide +kernel
theorem dX12_costOf_2 : decode cX12_costOf 2 = .ok (.if_icmp .ne 20, 3) := by decide +kernel
theorem dX12_costOf_5 : decode cX12_costOf 5 = .ok (.aload_n 0, 1) := by decide +kernel
theorem dX12_costOf_6 : decode cX12_costOf 6 = .ok (.getfield 100, 3) := by decide +kernel
theorem dX12_costOf_9 : decode cX12_costOf 9 = .ok (.bipush 6, 2) := by decide +kernel
theorem dX12_costOf_11 : decode cX12_costOf 11 = .ok (.aload_n 0, 1) := by decide +kernel
theorem dX12_costOf_12 : decode cX12_costOf 12 = .ok (.getfield 290, 3) := by decide +kernel
theorem dX12_costOf_15 : decode cX12_costOf 15 = .ok (.imul, 1) := by decide +kernel
theorem dX12_costOf_16 : decode cX12_costOf 16 = .ok (.iload_n 2, 1) := by decide +kernel
theorem dX12_costOf_17 : decode cX12_costOf 17 = .ok (.iadd, 1) := by decide +kernel
theorem dX12_costOf_18 : decode cX12_costOf 18 = .ok (.iaload, 1) := by decide +kernel
theorem dX12_costOf_19 : decode cX12_costOf 19 = .ok (.goto 13, 3) := by decide +kernel
theorem dX12_costOf_22 : decode cX12_costOf 22 = .ok (.iload_n 1, 1) := by decide +kernel
theorem dX12_costOf_23 : decode cX12_costOf 23 = .ok (.iconst 2, 1) := by decide +kernel
theorem dX12_costOf_24 : decode cX12_costOf 24 = .ok (.if_icmp .ne 7, 3) := by decide +kernel
theorem dX12_costOf_27 : decode cX12_costOf 27 = .ok (.iconst 5, 1) := by decide +kernel
theorem dX12_costOf_28 : decode cX12_costOf 28 = .ok (.goto 4, 3) := by decide +kernel
theorem dX12_costOf_31 : decode cX12_costOf 31 = .ok (.iconst 1, 1) := by decide +kernel
theorem dX12_costOf_32 : decode cX12_costOf 32 = .ok (.ireturn, 1) := by decide +kernel
theorem dX12_cost_0 : decode cX12_cost 0 = .ok (.aload_n 0, 1) := by decide +kernel
theorem dX12_cost_1 : decode cX12_cost 1 = .ok (.invokevirtual 472, 3) := by decide +kernel
theorem dX12_cost_4 : decode cX12_cost 4 = .ok (.iconst 0, 1) := by decide +kernel
theorem dX12_cost_5 : decode cX12_cost 5 = .ok (.istore_n 1, 1) := by decide +kernel
theorem dX12_cost_6 : decode cX12_cost 6 = .ok (.iconst 0, 1) := by decide +kernel
theorem dX12_cost_7 : decode cX12_cost 7 = .ok (.istore_n 2, 1) := by decide +kernel
theorem dX12_cost_8 : decode cX12_cost 8 = .ok (.iload_n 2, 1) := by decide +kernel
theorem dX12_cost_9 : decode cX12_cost 9 = .ok (.aload_n 0, 1) := by decide +kernel
theorem dX12_cost_10 : decode cX12_cost 10 = .ok (.getfield 308, 3) := by decide +kernel
theorem dX12_cost_13 : decode cX12_cost 13 = .ok (.if_icmp .ge 37, 3) := by decide +kernel
theorem dX12_cost_16 : decode cX12_cost 16 = .ok (.aload_n 0, 1) := by decide +kernel
theorem dX12_cost_17 : decode cX12_cost 17 = .ok (.getfield 167, 3) := by decide +kernel
theorem dX12_cost_20 : decode cX12_cost 20 = .ok (.iload_n 2, 1) := by decide +kernel
theorem dX12_cost_21 : decode cX12_cost 21 = .ok (.iaload, 1) := by decide +kernel
theorem dX12_cost_22 : decode cX12_cost 22 = .ok (.ifCond .ne 22, 3) := by decide +kernel
theorem dX12_cost_25 : decode cX12_cost 25 = .ok (.iload_n 1, 1) := by decide +kernel
theorem dX12_cost_26 : decode cX12_cost 26 = .ok (.aload_n 0, 1) := by decide +kernel
theorem dX12_cost_27 : decode cX12_cost 27 = .ok (.aload_n 0, 1) := by decide +kernel
theorem dX12_cost_28 : decode cX12_cost 28 = .ok (.getfield 149, 3) := by decide +kernel
theorem dX12_cost_31 : decode cX12_cost 31 = .ok (.iload_n 2, 1) := by decide +kernel
theorem dX12_cost_32 : decode cX12_cost 32 = .ok (.iaload, 1) := by decide +kernel
theorem dX12_cost_33 : decode cX12_cost 33 = .ok (.aload_n 0, 1) := by decide +kernel
theorem dX12_cost_34 : decode cX12_cost 34 = .ok (.getfield 158, 3) := by decide +kernel
theorem dX12_cost_37 : decode cX12_cost 37 = .ok (.iload_n 2, 1) := by decide +kernel
theorem dX12_cost_38 : decode cX12_cost 38 = .ok (.iaload, 1) := by decide +kernel
theorem dX12_cost_39 : decode cX12_cost 39 = .ok (.invokevirtual 475, 3) := by decide +kernel
theorem dX12_cost_42 : decode cX12_cost 42 = .ok (.iadd, 1) := by decide +kernel
theorem dX12_cost_43 : decode cX12_cost 43 = .ok (.istore_n 1, 1) := by decide +kernel
theorem dX12_cost_44 : decode cX12_cost 44 = .ok (.iinc 2 1, 3) := by decide +kernel
theorem dX12_cost_47 : decode cX12_cost 47 = .ok (.goto (-39), 3) := by decide +kernel
theorem dX12_cost_50 : decode cX12_cost 50 = .ok (.iload_n 1, 1) := by decide +kernel
theorem dX12_cost_51 : decode cX12_cost 51 = .ok (.ireturn, 1) := by decide +kernel
theorem dX12_isEnd_0 : decode cX12_isEnd 0 = .ok (.iload_n 0, 1) := by decide +kernel
theorem dX12_isEnd_1 : decode cX12_isEnd 1 = .ok (.iconst 0, 1) := by decide +kernel
theorem dX12_isEnd_2 : decode cX12_isEnd 2 = .ok (.bipush 24, 2) := by decide +kernel
theorem dX12_isEnd_4 : decode cX12_isEnd 4 = .ok (.invokestatic 386, 3) := by decide +kernel
theorem dX12_isEnd_7 : decode cX12_isEnd 7 = .ok (.ireturn, 1) := by decide +kernel
theorem dX12_knows_0 : decode cX12_knows 0 = .ok (.aload_n 0, 1) := by decide +kernel
theorem dX12_knows_1 : decode cX12_knows 1 = .ok (.iload_n 1, 1) := by decide +kernel
theorem dX12_knows_2 : decode cX12_knows 2 = .ok (.invokevirtual 415, 3) := by decide +kernel
theorem dX12_knows_5 : decode cX12_knows 5 = .ok (.ifCond .eq 10, 3) := by decide +kernel
theorem dX12_knows_8 : decode cX12_knows 8 = .ok (.iload_n 2, 1) := by decide +kernel
theorem dX12_knows_9 : decode cX12_knows 9 = .ok (.invokestatic 478, 3) := by decide +kernel
theorem dX12_knows_12 : decode cX12_knows 12 = .ok (.ifCond .ne 5, 3) := by decide +kernel
theorem dX12_knows_15 : decode cX12_knows 15 = .ok (.iconst (-1), 1) := by decide +kernel
theorem dX12_knows_16 : decode cX12_knows 16 = .ok (.ireturn, 1) := by decide +kernel
theorem dX12_knows_17 : decode cX12_knows 17 = .ok (.aload_n 0, 1) := by decide +kernel
theorem dX12_knows_18 : decode cX12_knows 18 = .ok (.invokevirtual 472, 3) := by decide +kernel
theorem dX12_knows_21 : decode cX12_knows 21 = .ok (.aload_n 0, 1) := by decide +kernel
theorem dX12_knows_22 : decode cX12_knows 22 = .ok (.getfield 164, 3) := by decide +kernel
theorem dX12_knows_25 : decode cX12_knows 25 = .ok (.bipush 10, 2) := by decide +kernel
theorem dX12_knows_27 : decode cX12_knows 27 = .ok (.iload_n 2, 1) := by decide +kernel
theorem dX12_knows_28 : decode cX12_knows 28 = .ok (.imul, 1) := by decide +kernel
theorem dX12_knows_29 : decode cX12_knows 29 = .ok (.iload_n 1, 1) := by decide +kernel
theorem dX12_knows_30 : decode cX12_knows 30 = .ok (.iadd, 1) := by decide +kernel
theorem dX12_knows_31 : decode cX12_knows 31 = .ok (.iaload, 1) := by decide +kernel
theorem dX12_knows_32 : decode cX12_knows 32 = .ok (.ireturn, 1) := by decide +kernel
theorem dX12_when_0 : decode cX12_when 0 = .ok (.aload_n 0, 1) := by decide +kernel
theorem dX12_when_1 : decode cX12_when 1 = .ok (.iload_n 1, 1) := by decide +kernel
theorem dX12_when_2 : decode cX12_when 2 = .ok (.invokevirtual 415, 3) := by decide +kernel
theorem dX12_when_5 : decode cX12_when 5 = .ok (.ifCond .eq 11, 3) := by decide +kernel
theorem dX12_when_8 : decode cX12_when 8 = .ok (.aload_n 0, 1) := by decide +kernel
theorem dX12_when_9 : decode cX12_when 9 = .ok (.iload_n 2, 1) := by decide +kernel
theorem dX12_when_10 : decode cX12_when 10 = .ok (.invokevirtual 434, 3) := by decide +kernel
theorem dX12_when_13 : decode cX12_when 13 = .ok (.ifCond .ne 5, 3) := by decide +kernel
theorem dX12_when_16 : decode cX12_when 16 = .ok (.iconst (-1), 1) := by decide +kernel
theorem dX12_when_17 : decode cX12_when 17 = .ok (.ireturn, 1) := by decide +kernel
theorem dX12_when_18 : decode cX12_when 18 = .ok (.aload_n 0, 1) := by decide +kernel
theorem dX12_when_19 : decode cX12_when 19 = .ok (.invokevirtual 472, 3) := by decide +kernel
theorem dX12_when_22 : decode cX12_when 22 = .ok (.iconst 0, 1) := by decide +kernel
theorem dX12_when_23 : decode cX12_when 23 = .ok (.istore_n 3, 1) := by decide +kernel
theorem dX12_when_24 : decode cX12_when 24 = .ok (.iload_n 3, 1) := by decide +kernel
theorem dX12_when_25 : decode cX12_when 25 = .ok (.bipush 25, 2) := by decide +kernel
theorem dX12_when_27 : decode cX12_when 27 = .ok (.if_icmp .ge 21, 3) := by decide +kernel
theorem dX12_when_30 : decode cX12_when 30 = .ok (.aload_n 0, 1) := by decide +kernel
theorem dX12_when_31 : decode cX12_when 31 = .ok (.iload_n 1, 1) := by decide +kernel
theorem dX12_when_32 : decode cX12_when 32 = .ok (.iload_n 3, 1) := by decide +kernel
theorem dX12_when_33 : decode cX12_when 33 = .ok (.iload_n 2, 1) := by decide +kernel
theorem dX12_when_34 : decode cX12_when 34 = .ok (.invokevirtual 444, 3) := by decide +kernel
theorem dX12_when_37 : decode cX12_when 37 = .ok (.ifCond .eq 5, 3) := by decide +kernel
theorem dX12_when_40 : decode cX12_when 40 = .ok (.iload_n 3, 1) := by decide +kernel
theorem dX12_when_41 : decode cX12_when 41 = .ok (.ireturn, 1) := by decide +kernel
theorem dX12_when_42 : decode cX12_when 42 = .ok (.iinc 3 1, 3) := by decide +kernel
theorem dX12_when_45 : decode cX12_when 45 = .ok (.goto (-21), 3) := by decide +kernel
theorem dX12_when_48 : decode cX12_when 48 = .ok (.bipush (-2), 2) := by decide +kernel
theorem dX12_when_50 : decode cX12_when 50 = .ok (.ireturn, 1) := by decide +kernel
theorem dX12_seen_0 : decode cX12_seen 0 = .ok (.aload_n 0, 1) := by decide +kernel
theorem dX12_seen_1 : decode cX12_seen 1 = .ok (.iload_n 1, 1) := by decide +kernel
theorem dX12_seen_2 : decode cX12_seen 2 = .ok (.invokevirtual 415, 3) := by decide +kernel
theorem dX12_seen_5 : decode cX12_seen 5 = .ok (.ifCond .eq 23, 3) := by decide +kernel
theorem dX12_seen_8 : decode cX12_seen 8 = .ok (.aload_n 0, 1) := by decide +kernel
theorem dX12_seen_9 : decode cX12_seen 9 = .ok (.iload_n 2, 1) := by decide +kernel
theorem dX12_seen_10 : decode cX12_seen 10 = .ok (.invokevirtual 415, 3) := by decide +kernel
theorem dX12_seen_13 : decode cX12_seen 13 = .ok (.ifCond .eq 15, 3) := by decide +kernel
theorem dX12_seen_16 : decode cX12_seen 16 = .ok (.iload_n 1, 1) := by decide +kernel
theorem dX12_seen_17 : decode cX12_seen 17 = .ok (.iload_n 2, 1) := by decide +kernel
theorem dX12_seen_18 : decode cX12_seen 18 = .ok (.if_icmp .eq 10, 3) := by decide +kernel
theorem dX12_seen_21 : decode cX12_seen 21 = .ok (.iload_n 3, 1) := by decide +kernel
theorem dX12_seen_22 : decode cX12_seen 22 = .ok (.invokestatic 478, 3) := by decide +kernel
theorem dX12_seen_25 : decode cX12_seen 25 = .ok (.ifCond .ne 5, 3) := by decide +kernel
theorem dX12_seen_28 : decode cX12_seen 28 = .ok (.iconst (-1), 1) := by decide +kernel
theorem dX12_seen_29 : decode cX12_seen 29 = .ok (.ireturn, 1) := by decide +kernel
theorem dX12_seen_30 : decode cX12_seen 30 = .ok (.aload_n 0, 1) := by decide +kernel
theorem dX12_seen_31 : decode cX12_seen 31 = .ok (.invokevirtual 472, 3) := by decide +kernel
theorem dX12_seen_34 : decode cX12_seen 34 = .ok (.iconst 0, 1) := by decide +kernel
theorem dX12_seen_35 : decode cX12_seen 35 = .ok (.istore 4, 2) := by decide +kernel
theorem dX12_seen_37 : decode cX12_seen 37 = .ok (.iconst 0, 1) := by decide +kernel
theorem dX12_seen_38 : decode cX12_seen 38 = .ok (.istore 5, 2) := by decide +kernel
theorem dX12_seen_40 : decode cX12_seen 40 = .ok (.iload 5, 2) := by decide +kernel
theorem dX12_seen_42 : decode cX12_seen 42 = .ok (.aload_n 0, 1) := by decide +kernel
theorem dX12_seen_43 : decode cX12_seen 43 = .ok (.iconst 2, 1) := by decide +kernel
theorem dX12_seen_44 : decode cX12_seen 44 = .ok (.invokevirtual 383, 3) := by decide +kernel
theorem dX12_seen_47 : decode cX12_seen 47 = .ok (.if_icmp .ge 39, 3) := by decide +kernel
theorem dX12_seen_50 : decode cX12_seen 50 = .ok (.aload_n 0, 1) := by decide +kernel
theorem dX12_seen_51 : decode cX12_seen 51 = .ok (.getfield 170, 3) := by decide +kernel
theorem dX12_seen_54 : decode cX12_seen 54 = .ok (.bipush 60, 2) := by decide +kernel
theorem dX12_seen_56 : decode cX12_seen 56 = .ok (.iload_n 1, 1) := by decide +kernel
theorem dX12_seen_57 : decode cX12_seen 57 = .ok (.imul, 1) := by decide +kernel
theorem dX12_seen_58 : decode cX12_seen 58 = .ok (.bipush 6, 2) := by decide +kernel
theorem dX12_seen_60 : decode cX12_seen 60 = .ok (.iload_n 2, 1) := by decide +kernel
theorem dX12_seen_61 : decode cX12_seen 61 = .ok (.imul, 1) := by decide +kernel
theorem dX12_seen_62 : decode cX12_seen 62 = .ok (.iadd, 1) := by decide +kernel
theorem dX12_seen_63 : decode cX12_seen 63 = .ok (.iload 5, 2) := by decide +kernel
theorem dX12_seen_65 : decode cX12_seen 65 = .ok (.iadd, 1) := by decide +kernel
theorem dX12_seen_66 : decode cX12_seen 66 = .ok (.iaload, 1) := by decide +kernel
theorem dX12_seen_67 : decode cX12_seen 67 = .ok (.iload_n 3, 1) := by decide +kernel
theorem dX12_seen_68 : decode cX12_seen 68 = .ok (.if_icmp .gt 12, 3) := by decide +kernel
theorem dX12_seen_71 : decode cX12_seen 71 = .ok (.iload 4, 2) := by decide +kernel
theorem dX12_seen_73 : decode cX12_seen 73 = .ok (.iconst 1, 1) := by decide +kernel
theorem dX12_seen_74 : decode cX12_seen 74 = .ok (.iload 5, 2) := by decide +kernel
theorem dX12_seen_76 : decode cX12_seen 76 = .ok (.ishl, 1) := by decide +kernel
theorem dX12_seen_77 : decode cX12_seen 77 = .ok (.ior, 1) := by decide +kernel
theorem dX12_seen_78 : decode cX12_seen 78 = .ok (.istore 4, 2) := by decide +kernel
theorem dX12_seen_80 : decode cX12_seen 80 = .ok (.iinc 5 1, 3) := by decide +kernel
theorem dX12_seen_83 : decode cX12_seen 83 = .ok (.goto (-43), 3) := by decide +kernel
theorem dX12_seen_86 : decode cX12_seen 86 = .ok (.iload 4, 2) := by decide +kernel
theorem dX12_seen_88 : decode cX12_seen 88 = .ok (.ireturn, 1) := by decide +kernel
theorem dX12_isShown_0 : decode cX12_isShown 0 = .ok (.iconst 0, 1) := by decide +kernel
theorem dX12_isShown_1 : decode cX12_isShown 1 = .ok (.istore_n 2, 1) := by decide +kernel
theorem dX12_isShown_2 : decode cX12_isShown 2 = .ok (.iload_n 2, 1) := by decide +kernel
theorem dX12_isShown_3 : decode cX12_isShown 3 = .ok (.aload_n 0, 1) := by decide +kernel
theorem dX12_isShown_4 : decode cX12_isShown 4 = .ok (.bipush 7, 2) := by decide +kernel
theorem dX12_isShown_6 : decode cX12_isShown 6 = .ok (.invokevirtual 383, 3) := by decide +kernel
theorem dX12_isShown_9 : decode cX12_isShown 9 = .ok (.if_icmp .ge 29, 3) := by decide +kernel
theorem dX12_isShown_12 : decode cX12_isShown 12 = .ok (.aload_n 0, 1) := by decide +kernel
theorem dX12_isShown_13 : decode cX12_isShown 13 = .ok (.getfield 97, 3) := by decide +kernel
theorem dX12_isShown_16 : decode cX12_isShown 16 = .ok (.bipush 6, 2) := by decide +kernel
theorem dX12_isShown_18 : decode cX12_isShown 18 = .ok (.aload_n 0, 1) := by decide +kernel
theorem dX12_isShown_19 : decode cX12_isShown 19 = .ok (.getfield 290, 3) := by decide +kernel
theorem dX12_isShown_22 : decode cX12_isShown 22 = .ok (.imul, 1) := by decide +kernel
theorem dX12_isShown_23 : decode cX12_isShown 23 = .ok (.iload_n 2, 1) := by decide +kernel
theorem dX12_isShown_24 : decode cX12_isShown 24 = .ok (.iadd, 1) := by decide +kernel
theorem dX12_isShown_25 : decode cX12_isShown 25 = .ok (.iaload, 1) := by decide +kernel
theorem dX12_isShown_26 : decode cX12_isShown 26 = .ok (.iload_n 1, 1) := by decide +kernel
theorem dX12_isShown_27 : decode cX12_isShown 27 = .ok (.if_icmp .ne 5, 3) := by decide +kernel
theorem dX12_isShown_30 : decode cX12_isShown 30 = .ok (.iconst 1, 1) := by decide +kernel
theorem dX12_isShown_31 : decode cX12_isShown 31 = .ok (.ireturn, 1) := by decide +kernel
theorem dX12_isShown_32 : decode cX12_isShown 32 = .ok (.iinc 2 1, 3) := by decide +kernel
theorem dX12_isShown_35 : decode cX12_isShown 35 = .ok (.goto (-33), 3) := by decide +kernel
theorem dX12_isShown_38 : decode cX12_isShown 38 = .ok (.iconst 0, 1) := by decide +kernel
theorem dX12_isShown_39 : decode cX12_isShown 39 = .ok (.ireturn, 1) := by decide +kernel
theorem dX12_speaks_0 : decode cX12_speaks 0 = .ok (.iconst 0, 1) := by decide +kernel
theorem dX12_speaks_1 : decode cX12_speaks 1 = .ok (.istore 4, 2) := by decide +kernel
theorem dX12_speaks_3 : decode cX12_speaks 3 = .ok (.iload 4, 2) := by decide +kernel
theorem dX12_speaks_5 : decode cX12_speaks 5 = .ok (.aload_n 0, 1) := by decide +kernel
theorem dX12_speaks_6 : decode cX12_speaks 6 = .ok (.iconst 1, 1) := by decide +kernel
theorem dX12_speaks_7 : decode cX12_speaks 7 = .ok (.invokevirtual 383, 3) := by decide +kernel
theorem dX12_speaks_10 : decode cX12_speaks 10 = .ok (.if_icmp .ge 24, 3) := by decide +kernel
theorem dX12_speaks_13 : decode cX12_speaks 13 = .ok (.aload_n 0, 1) := by decide +kernel
theorem dX12_speaks_14 : decode cX12_speaks 14 = .ok (.iload_n 1, 1) := by decide +kernel
theorem dX12_speaks_15 : decode cX12_speaks 15 = .ok (.iload 4, 2) := by decide +kernel
theorem dX12_speaks_17 : decode cX12_speaks 17 = .ok (.iload_n 2, 1) := by decide +kernel
theorem dX12_speaks_18 : decode cX12_speaks 18 = .ok (.iconst 0, 1) := by decide +kernel
theorem dX12_speaks_19 : decode cX12_speaks 19 = .ok (.iload_n 3, 1) := by decide +kernel
theorem dX12_speaks_20 : decode cX12_speaks 20 = .ok (.invokevirtual 427, 3) := by decide +kernel
theorem dX12_speaks_23 : decode cX12_speaks 23 = .ok (.ifCond .eq 5, 3) := by decide +kernel
theorem dX12_speaks_26 : decode cX12_speaks 26 = .ok (.iconst 1, 1) := by decide +kernel
theorem dX12_speaks_27 : decode cX12_speaks 27 = .ok (.ireturn, 1) := by decide +kernel
theorem dX12_speaks_28 : decode cX12_speaks 28 = .ok (.iinc 4 1, 3) := by decide +kernel
theorem dX12_speaks_31 : decode cX12_speaks 31 = .ok (.goto (-28), 3) := by decide +kernel
theorem dX12_speaks_34 : decode cX12_speaks 34 = .ok (.iconst 0, 1) := by decide +kernel
theorem dX12_speaks_35 : decode cX12_speaks 35 = .ok (.ireturn, 1) := by decide +kernel
theorem dX12_spreads_0 : decode cX12_spreads 0 = .ok (.aload_n 0, 1) := by decide +kernel
theorem dX12_spreads_1 : decode cX12_spreads 1 = .ok (.iconst 0, 1) := by decide +kernel
theorem dX12_spreads_2 : decode cX12_spreads 2 = .ok (.putfield 390, 3) := by decide +kernel
theorem dX12_spreads_5 : decode cX12_spreads 5 = .ok (.iconst 0, 1) := by decide +kernel
theorem dX12_spreads_6 : decode cX12_spreads 6 = .ok (.istore 6, 2) := by decide +kernel
theorem dX12_spreads_8 : decode cX12_spreads 8 = .ok (.iload 5, 2) := by decide +kernel
theorem dX12_spreads_10 : decode cX12_spreads 10 = .ok (.ifCond .ne 15, 3) := by decide +kernel
theorem dX12_spreads_13 : decode cX12_spreads 13 = .ok (.aload_n 0, 1) := by decide +kernel
theorem dX12_spreads_14 : decode cX12_spreads 14 = .ok (.iload_n 1, 1) := by decide +kernel
theorem dX12_spreads_15 : decode cX12_spreads 15 = .ok (.invokevirtual 481, 3) := by decide +kernel
theorem dX12_spreads_18 : decode cX12_spreads 18 = .ok (.ifCond .eq 7, 3) := by decide +kernel
theorem dX12_spreads_21 : decode cX12_spreads 21 = .ok (.iconst 1, 1) := by decide +kernel
theorem dX12_spreads_22 : decode cX12_spreads 22 = .ok (.goto 4, 3) := by decide +kernel
theorem dX12_spreads_25 : decode cX12_spreads 25 = .ok (.iconst 0, 1) := by decide +kernel
theorem dX12_spreads_26 : decode cX12_spreads 26 = .ok (.istore 7, 2) := by decide +kernel
theorem dX12_spreads_28 : decode cX12_spreads 28 = .ok (.aload_n 0, 1) := by decide +kernel
theorem dX12_spreads_29 : decode cX12_spreads 29 = .ok (.getfield 179, 3) := by decide +kernel
theorem dX12_spreads_32 : decode cX12_spreads 32 = .ok (.iload_n 3, 1) := by decide +kernel
theorem dX12_spreads_33 : decode cX12_spreads 33 = .ok (.iload_n 2, 1) := by decide +kernel
theorem dX12_spreads_34 : decode cX12_spreads 34 = .ok (.iastore, 1) := by decide +kernel
theorem dX12_spreads_35 : decode cX12_spreads 35 = .ok (.iload_n 3, 1) := by decide +kernel
theorem dX12_spreads_36 : decode cX12_spreads 36 = .ok (.istore 8, 2) := by decide +kernel
theorem dX12_spreads_38 : decode cX12_spreads 38 = .ok (.iload 8, 2) := by decide +kernel
theorem dX12_spreads_40 : decode cX12_spreads 40 = .ok (.bipush 24, 2) := by decide +kernel
theorem dX12_spreads_42 : decode cX12_spreads 42 = .ok (.if_icmp .ge 191, 3) := by decide +kernel
theorem dX12_spreads_45 : decode cX12_spreads 45 = .ok (.aload_n 0, 1) := by decide +kernel
theorem dX12_spreads_46 : decode cX12_spreads 46 = .ok (.getfield 179, 3) := by decide +kernel
theorem dX12_spreads_49 : decode cX12_spreads 49 = .ok (.iload 8, 2) := by decide +kernel
theorem dX12_spreads_51 : decode cX12_spreads 51 = .ok (.iaload, 1) := by decide +kernel
theorem dX12_spreads_52 : decode cX12_spreads 52 = .ok (.istore 9, 2) := by decide +kernel
theorem dX12_spreads_54 : decode cX12_spreads 54 = .ok (.iload 9, 2) := by decide +kernel
theorem dX12_spreads_56 : decode cX12_spreads 56 = .ok (.istore 10, 2) := by decide +kernel
theorem dX12_spreads_58 : decode cX12_spreads 58 = .ok (.iconst 0, 1) := by decide +kernel
theorem dX12_spreads_59 : decode cX12_spreads 59 = .ok (.istore 11, 2) := by decide +kernel
theorem dX12_spreads_61 : decode cX12_spreads 61 = .ok (.iconst 0, 1) := by decide +kernel
theorem dX12_spreads_62 : decode cX12_spreads 62 = .ok (.istore 12, 2) := by decide +kernel
theorem dX12_spreads_64 : decode cX12_spreads 64 = .ok (.iload 12, 2) := by decide +kernel
theorem dX12_spreads_66 : decode cX12_spreads 66 = .ok (.aload_n 0, 1) := by decide +kernel
theorem dX12_spreads_67 : decode cX12_spreads 67 = .ok (.iconst 0, 1) := by decide +kernel
theorem dX12_spreads_68 : decode cX12_spreads 68 = .ok (.invokevirtual 383, 3) := by decide +kernel
theorem dX12_spreads_71 : decode cX12_spreads 71 = .ok (.if_icmp .ge 38, 3) := by decide +kernel
theorem dX12_spreads_74 : decode cX12_spreads 74 = .ok (.iload 5, 2) := by decide +kernel
theorem dX12_spreads_76 : decode cX12_spreads 76 = .ok (.ifCond .ne 33, 3) := by decide +kernel
theorem dX12_spreads_79 : decode cX12_spreads 79 = .ok (.iload 6, 2) := by decide +kernel
theorem dX12_spreads_81 : decode cX12_spreads 81 = .ok (.iload 12, 2) := by decide +kernel
theorem dX12_spreads_83 : decode cX12_spreads 83 = .ok (.ishr, 1) := by decide +kernel
theorem dX12_spreads_84 : decode cX12_spreads 84 = .ok (.iconst 1, 1) := by decide +kernel
theorem dX12_spreads_85 : decode cX12_spreads 85 = .ok (.iand, 1) := by decide +kernel
theorem dX12_spreads_86 : decode cX12_spreads 86 = .ok (.iconst 1, 1) := by decide +kernel
theorem dX12_spreads_87 : decode cX12_spreads 87 = .ok (.if_icmp .ne 16, 3) := by decide +kernel
theorem dX12_spreads_90 : decode cX12_spreads 90 = .ok (.iload 10, 2) := by decide +kernel
theorem dX12_spreads_92 : decode cX12_spreads 92 = .ok (.aload_n 0, 1) := by decide +kernel
theorem dX12_spreads_93 : decode cX12_spreads 93 = .ok (.iload 12, 2) := by decide +kernel
theorem dX12_spreads_95 : decode cX12_spreads 95 = .ok (.iload 8, 2) := by decide +kernel
theorem dX12_spreads_97 : decode cX12_spreads 97 = .ok (.invokevirtual 406, 3) := by decide +kernel
theorem dX12_spreads_100 : decode cX12_spreads 100 = .ok (.ior, 1) := by decide +kernel
theorem dX12_spreads_101 : decode cX12_spreads 101 = .ok (.istore 10, 2) := by decide +kernel
theorem dX12_spreads_103 : decode cX12_spreads 103 = .ok (.iinc 12 1, 3) := by decide +kernel
theorem dX12_spreads_106 : decode cX12_spreads 106 = .ok (.goto (-42), 3) := by decide +kernel
theorem dX12_spreads_109 : decode cX12_spreads 109 = .ok (.iconst 0, 1) := by decide +kernel
theorem dX12_spreads_110 : decode cX12_spreads 110 = .ok (.istore 12, 2) := by decide +kernel
theorem dX12_spreads_112 : decode cX12_spreads 112 = .ok (.iload 12, 2) := by decide +kernel
theorem dX12_spreads_114 : decode cX12_spreads 114 = .ok (.aload_n 0, 1) := by decide +kernel
theorem dX12_spreads_115 : decode cX12_spreads 115 = .ok (.iconst 1, 1) := by decide +kernel
theorem dX12_spreads_116 : decode cX12_spreads 116 = .ok (.invokevirtual 383, 3) := by decide +kernel
theorem dX12_spreads_119 : decode cX12_spreads 119 = .ok (.if_icmp .ge 90, 3) := by decide +kernel
theorem dX12_spreads_122 : decode cX12_spreads 122 = .ok (.aload_n 0, 1) := by decide +kernel
theorem dX12_spreads_123 : decode cX12_spreads 123 = .ok (.iload 12, 2) := by decide +kernel
theorem dX12_spreads_125 : decode cX12_spreads 125 = .ok (.iload 8, 2) := by decide +kernel
theorem dX12_spreads_127 : decode cX12_spreads 127 = .ok (.invokevirtual 396, 3) := by decide +kernel
theorem dX12_spreads_130 : decode cX12_spreads 130 = .ok (.istore 13, 2) := by decide +kernel
theorem dX12_spreads_132 : decode cX12_spreads 132 = .ok (.iload 9, 2) := by decide +kernel
theorem dX12_spreads_134 : decode cX12_spreads 134 = .ok (.iload 12, 2) := by decide +kernel
theorem dX12_spreads_136 : decode cX12_spreads 136 = .ok (.ishr, 1) := by decide +kernel
theorem dX12_spreads_137 : decode cX12_spreads 137 = .ok (.iconst 1, 1) := by decide +kernel
theorem dX12_spreads_138 : decode cX12_spreads 138 = .ok (.iand, 1) := by decide +kernel
theorem dX12_spreads_139 : decode cX12_spreads 139 = .ok (.ifCond .eq 64, 3) := by decide +kernel
theorem dX12_spreads_142 : decode cX12_spreads 142 = .ok (.iload 13, 2) := by decide +kernel
theorem dX12_spreads_144 : decode cX12_spreads 144 = .ok (.ifCond .ge 6, 3) := by decide +kernel
theorem dX12_spreads_147 : decode cX12_spreads 147 = .ok (.goto 56, 3) := by decide +kernel
theorem dX12_spreads_150 : decode cX12_spreads 150 = .ok (.aload_n 0, 1) := by decide +kernel
theorem dX12_spreads_151 : decode cX12_spreads 151 = .ok (.iload 12, 2) := by decide +kernel
theorem dX12_spreads_153 : decode cX12_spreads 153 = .ok (.iload 8, 2) := by decide +kernel
theorem dX12_spreads_155 : decode cX12_spreads 155 = .ok (.iload 4, 2) := by decide +kernel
theorem dX12_spreads_157 : decode cX12_spreads 157 = .ok (.invokevirtual 484, 3) := by decide +kernel
theorem dX12_spreads_160 : decode cX12_spreads 160 = .ok (.ifCond .eq 16, 3) := by decide +kernel
theorem dX12_spreads_163 : decode cX12_spreads 163 = .ok (.iload 10, 2) := by decide +kernel
theorem dX12_spreads_165 : decode cX12_spreads 165 = .ok (.aload_n 0, 1) := by decide +kernel
theorem dX12_spreads_166 : decode cX12_spreads 166 = .ok (.iload 13, 2) := by decide +kernel
theorem dX12_spreads_168 : decode cX12_spreads 168 = .ok (.iload 8, 2) := by decide +kernel
theorem dX12_spreads_170 : decode cX12_spreads 170 = .ok (.invokevirtual 424, 3) := by decide +kernel
theorem dX12_spreads_173 : decode cX12_spreads 173 = .ok (.ior, 1) := by decide +kernel
theorem dX12_spreads_174 : decode cX12_spreads 174 = .ok (.istore 10, 2) := by decide +kernel
theorem dX12_spreads_176 : decode cX12_spreads 176 = .ok (.iload 7, 2) := by decide +kernel
theorem dX12_spreads_178 : decode cX12_spreads 178 = .ok (.ifCond .eq 16, 3) := by decide +kernel
theorem dX12_spreads_181 : decode cX12_spreads 181 = .ok (.iload 10, 2) := by decide +kernel
theorem dX12_spreads_183 : decode cX12_spreads 183 = .ok (.aload_n 0, 1) := by decide +kernel
theorem dX12_spreads_184 : decode cX12_spreads 184 = .ok (.iload 13, 2) := by decide +kernel
theorem dX12_spreads_186 : decode cX12_spreads 186 = .ok (.iload 8, 2) := by decide +kernel
theorem dX12_spreads_188 : decode cX12_spreads 188 = .ok (.invokevirtual 406, 3) := by decide +kernel
theorem dX12_spreads_191 : decode cX12_spreads 191 = .ok (.ior, 1) := by decide +kernel
theorem dX12_spreads_192 : decode cX12_spreads 192 = .ok (.istore 10, 2) := by decide +kernel
theorem dX12_spreads_194 : decode cX12_spreads 194 = .ok (.iload 11, 2) := by decide +kernel
theorem dX12_spreads_196 : decode cX12_spreads 196 = .ok (.iconst 1, 1) := by decide +kernel
theorem dX12_spreads_197 : decode cX12_spreads 197 = .ok (.iload 13, 2) := by decide +kernel
theorem dX12_spreads_199 : decode cX12_spreads 199 = .ok (.ishl, 1) := by decide +kernel
theorem dX12_spreads_200 : decode cX12_spreads 200 = .ok (.ior, 1) := by decide +kernel
theorem dX12_spreads_201 : decode cX12_spreads 201 = .ok (.istore 11, 2) := by decide +kernel
theorem dX12_spreads_203 : decode cX12_spreads 203 = .ok (.iinc 12 1, 3) := by decide +kernel
theorem dX12_spreads_206 : decode cX12_spreads 206 = .ok (.goto (-94), 3) := by decide +kernel
theorem dX12_spreads_209 : decode cX12_spreads 209 = .ok (.iload 6, 2) := by decide +kernel
theorem dX12_spreads_211 : decode cX12_spreads 211 = .ok (.iload 11, 2) := by decide +kernel
theorem dX12_spreads_213 : decode cX12_spreads 213 = .ok (.ior, 1) := by decide +kernel
theorem dX12_spreads_214 : decode cX12_spreads 214 = .ok (.istore 6, 2) := by decide +kernel
theorem dX12_spreads_216 : decode cX12_spreads 216 = .ok (.aload_n 0, 1) := by decide +kernel
theorem dX12_spreads_217 : decode cX12_spreads 217 = .ok (.getfield 179, 3) := by decide +kernel
theorem dX12_spreads_220 : decode cX12_spreads 220 = .ok (.iload 8, 2) := by decide +kernel
theorem dX12_spreads_222 : decode cX12_spreads 222 = .ok (.iconst 1, 1) := by decide +kernel
theorem dX12_spreads_223 : decode cX12_spreads 223 = .ok (.iadd, 1) := by decide +kernel
theorem dX12_spreads_224 : decode cX12_spreads 224 = .ok (.iload 10, 2) := by decide +kernel
theorem dX12_spreads_226 : decode cX12_spreads 226 = .ok (.iastore, 1) := by decide +kernel
theorem dX12_spreads_227 : decode cX12_spreads 227 = .ok (.iinc 8 1, 3) := by decide +kernel
theorem dX12_spreads_230 : decode cX12_spreads 230 = .ok (.goto (-192), 3) := by decide +kernel
theorem dX12_spreads_233 : decode cX12_spreads 233 = .ok (.return_, 1) := by decide +kernel
theorem dX12_isSoon_0 : decode cX12_isSoon 0 = .ok (.aload_n 0, 1) := by decide +kernel
theorem dX12_isSoon_1 : decode cX12_isSoon 1 = .ok (.iload_n 1, 1) := by decide +kernel
theorem dX12_isSoon_2 : decode cX12_isSoon 2 = .ok (.invokevirtual 434, 3) := by decide +kernel
theorem dX12_isSoon_5 : decode cX12_isSoon 5 = .ok (.ifCond .eq 41, 3) := by decide +kernel
theorem dX12_isSoon_8 : decode cX12_isSoon 8 = .ok (.iload_n 2, 1) := by decide +kernel
theorem dX12_isSoon_9 : decode cX12_isSoon 9 = .ok (.iconst 0, 1) := by decide +kernel
theorem dX12_isSoon_10 : decode cX12_isSoon 10 = .ok (.iconst 1, 1) := by decide +kernel
theorem dX12_isSoon_11 : decode cX12_isSoon 11 = .ok (.aload_n 0, 1) := by decide +kernel
theorem dX12_isSoon_12 : decode cX12_isSoon 12 = .ok (.iconst 1, 1) := by decide +kernel
theorem dX12_isSoon_13 : decode cX12_isSoon 13 = .ok (.invokevirtual 383, 3) := by decide +kernel
theorem dX12_isSoon_16 : decode cX12_isSoon 16 = .ok (.ishl, 1) := by decide +kernel
theorem dX12_isSoon_17 : decode cX12_isSoon 17 = .ok (.iconst 1, 1) := by decide +kernel
theorem dX12_isSoon_18 : decode cX12_isSoon 18 = .ok (.isub, 1) := by decide +kernel
theorem dX12_isSoon_19 : decode cX12_isSoon 19 = .ok (.invokestatic 386, 3) := by decide +kernel
theorem dX12_isSoon_22 : decode cX12_isSoon 22 = .ok (.ifCond .eq 24, 3) := by decide +kernel
theorem dX12_isSoon_25 : decode cX12_isSoon 25 = .ok (.iload_n 3, 1) := by decide +kernel
theorem dX12_isSoon_26 : decode cX12_isSoon 26 = .ok (.invokestatic 418, 3) := by decide +kernel
theorem dX12_isSoon_29 : decode cX12_isSoon 29 = .ok (.ifCond .eq 17, 3) := by decide +kernel
theorem dX12_isSoon_32 : decode cX12_isSoon 32 = .ok (.iload 4, 2) := by decide +kernel
theorem dX12_isSoon_34 : decode cX12_isSoon 34 = .ok (.iconst 0, 1) := by decide +kernel
theorem dX12_isSoon_35 : decode cX12_isSoon 35 = .ok (.iconst 3, 1) := by decide +kernel
theorem dX12_isSoon_36 : decode cX12_isSoon 36 = .ok (.invokestatic 386, 3) := by decide +kernel
theorem dX12_isSoon_39 : decode cX12_isSoon 39 = .ok (.ifCond .eq 7, 3) := by decide +kernel
theorem dX12_isSoon_42 : decode cX12_isSoon 42 = .ok (.iconst 1, 1) := by decide +kernel
theorem dX12_isSoon_43 : decode cX12_isSoon 43 = .ok (.goto 4, 3) := by decide +kernel
theorem dX12_isSoon_46 : decode cX12_isSoon 46 = .ok (.iconst 0, 1) := by decide +kernel
theorem dX12_isSoon_47 : decode cX12_isSoon 47 = .ok (.ireturn, 1) := by decide +kernel
theorem dX12_soonOf_0 : decode cX12_soonOf 0 = .ok (.iload_n 2, 1) := by decide +kernel
theorem dX12_soonOf_1 : decode cX12_soonOf 1 = .ok (.istore_n 3, 1) := by decide +kernel
theorem dX12_soonOf_2 : decode cX12_soonOf 2 = .ok (.iload_n 3, 1) := by decide +kernel
theorem dX12_soonOf_3 : decode cX12_soonOf 3 = .ok (.bipush 25, 2) := by decide +kernel
theorem dX12_soonOf_5 : decode cX12_soonOf 5 = .ok (.if_icmp .ge 25, 3) := by decide +kernel
theorem dX12_soonOf_8 : decode cX12_soonOf 8 = .ok (.aload_n 0, 1) := by decide +kernel
theorem dX12_soonOf_9 : decode cX12_soonOf 9 = .ok (.getfield 179, 3) := by decide +kernel
theorem dX12_soonOf_12 : decode cX12_soonOf 12 = .ok (.iload_n 3, 1) := by decide +kernel
theorem dX12_soonOf_13 : decode cX12_soonOf 13 = .ok (.iaload, 1) := by decide +kernel
theorem dX12_soonOf_14 : decode cX12_soonOf 14 = .ok (.iload_n 1, 1) := by decide +kernel
theorem dX12_soonOf_15 : decode cX12_soonOf 15 = .ok (.ishr, 1) := by decide +kernel
theorem dX12_soonOf_16 : decode cX12_soonOf 16 = .ok (.iconst 1, 1) := by decide +kernel
theorem dX12_soonOf_17 : decode cX12_soonOf 17 = .ok (.iand, 1) := by decide +kernel
theorem dX12_soonOf_18 : decode cX12_soonOf 18 = .ok (.iconst 1, 1) := by decide +kernel
theorem dX12_soonOf_19 : decode cX12_soonOf 19 = .ok (.if_icmp .ne 5, 3) := by decide +kernel
theorem dX12_soonOf_22 : decode cX12_soonOf 22 = .ok (.iload_n 3, 1) := by decide +kernel
theorem dX12_soonOf_23 : decode cX12_soonOf 23 = .ok (.ireturn, 1) := by decide +kernel
theorem dX12_soonOf_24 : decode cX12_soonOf 24 = .ok (.iinc 3 1, 3) := by decide +kernel
theorem dX12_soonOf_27 : decode cX12_soonOf 27 = .ok (.goto (-25), 3) := by decide +kernel
theorem dX12_soonOf_30 : decode cX12_soonOf 30 = .ok (.bipush (-2), 2) := by decide +kernel
theorem dX12_soonOf_32 : decode cX12_soonOf 32 = .ok (.ireturn, 1) := by decide +kernel
theorem dX12_soon_0 : decode cX12_soon 0 = .ok (.aload_n 0, 1) := by decide +kernel
theorem dX12_soon_1 : decode cX12_soon 1 = .ok (.iload_n 1, 1) := by decide +kernel
theorem dX12_soon_2 : decode cX12_soon 2 = .ok (.invokevirtual 415, 3) := by decide +kernel
theorem dX12_soon_5 : decode cX12_soon 5 = .ok (.ifCond .eq 16, 3) := by decide +kernel
theorem dX12_soon_8 : decode cX12_soon 8 = .ok (.aload_n 0, 1) := by decide +kernel
theorem dX12_soon_9 : decode cX12_soon 9 = .ok (.iload_n 2, 1) := by decide +kernel
theorem dX12_soon_10 : decode cX12_soon 10 = .ok (.iload_n 3, 1) := by decide +kernel
theorem dX12_soon_11 : decode cX12_soon 11 = .ok (.iload 4, 2) := by decide +kernel
theorem dX12_soon_13 : decode cX12_soon 13 = .ok (.iload 5, 2) := by decide +kernel
theorem dX12_soon_15 : decode cX12_soon 15 = .ok (.invokevirtual 487, 3) := by decide +kernel
theorem dX12_soon_18 : decode cX12_soon 18 = .ok (.ifCond .ne 5, 3) := by decide +kernel
theorem dX12_soon_21 : decode cX12_soon 21 = .ok (.iconst (-1), 1) := by decide +kernel
theorem dX12_soon_22 : decode cX12_soon 22 = .ok (.ireturn, 1) := by decide +kernel
theorem dX12_soon_23 : decode cX12_soon 23 = .ok (.aload_n 0, 1) := by decide +kernel
theorem dX12_soon_24 : decode cX12_soon 24 = .ok (.iload_n 2, 1) := by decide +kernel
theorem dX12_soon_25 : decode cX12_soon 25 = .ok (.iload_n 3, 1) := by decide +kernel
theorem dX12_soon_26 : decode cX12_soon 26 = .ok (.iload 4, 2) := by decide +kernel
theorem dX12_soon_28 : decode cX12_soon 28 = .ok (.iload 5, 2) := by decide +kernel
theorem dX12_soon_30 : decode cX12_soon 30 = .ok (.iload 6, 2) := by decide +kernel
theorem dX12_soon_32 : decode cX12_soon 32 = .ok (.invokevirtual 491, 3) := by decide +kernel
theorem dX12_soon_35 : decode cX12_soon 35 = .ok (.aload_n 0, 1) := by decide +kernel
theorem dX12_soon_36 : decode cX12_soon 36 = .ok (.iload_n 1, 1) := by decide +kernel
theorem dX12_soon_37 : decode cX12_soon 37 = .ok (.iload 4, 2) := by decide +kernel
theorem dX12_soon_39 : decode cX12_soon 39 = .ok (.invokevirtual 495, 3) := by decide +kernel
theorem dX12_soon_42 : decode cX12_soon 42 = .ok (.ireturn, 1) := by decide +kernel
theorem dX12_all_0 : decode cX12_all 0 = .ok (.aload_n 0, 1) := by decide +kernel
theorem dX12_all_1 : decode cX12_all 1 = .ok (.iload_n 1, 1) := by decide +kernel
theorem dX12_all_2 : decode cX12_all 2 = .ok (.iload_n 2, 1) := by decide +kernel
theorem dX12_all_3 : decode cX12_all 3 = .ok (.iload_n 3, 1) := by decide +kernel
theorem dX12_all_4 : decode cX12_all 4 = .ok (.iload 4, 2) := by decide +kernel
theorem dX12_all_6 : decode cX12_all 6 = .ok (.invokevirtual 487, 3) := by decide +kernel
theorem dX12_all_9 : decode cX12_all 9 = .ok (.ifCond .ne 5, 3) := by decide +kernel
theorem dX12_all_12 : decode cX12_all 12 = .ok (.iconst (-1), 1) := by decide +kernel
theorem dX12_all_13 : decode cX12_all 13 = .ok (.ireturn, 1) := by decide +kernel
theorem dX12_all_14 : decode cX12_all 14 = .ok (.aload_n 0, 1) := by decide +kernel
theorem dX12_all_15 : decode cX12_all 15 = .ok (.iload_n 1, 1) := by decide +kernel
theorem dX12_all_16 : decode cX12_all 16 = .ok (.iload_n 2, 1) := by decide +kernel
theorem dX12_all_17 : decode cX12_all 17 = .ok (.iload_n 3, 1) := by decide +kernel
theorem dX12_all_18 : decode cX12_all 18 = .ok (.iload 4, 2) := by decide +kernel
theorem dX12_all_20 : decode cX12_all 20 = .ok (.iload 5, 2) := by decide +kernel
theorem dX12_all_22 : decode cX12_all 22 = .ok (.invokevirtual 491, 3) := by decide +kernel
theorem dX12_all_25 : decode cX12_all 25 = .ok (.iload_n 3, 1) := by decide +kernel
theorem dX12_all_26 : decode cX12_all 26 = .ok (.istore 6, 2) := by decide +kernel
theorem dX12_all_28 : decode cX12_all 28 = .ok (.iload 6, 2) := by decide +kernel
theorem dX12_all_30 : decode cX12_all 30 = .ok (.bipush 25, 2) := by decide +kernel
theorem dX12_all_32 : decode cX12_all 32 = .ok (.if_icmp .ge 31, 3) := by decide +kernel
theorem dX12_all_35 : decode cX12_all 35 = .ok (.aload_n 0, 1) := by decide +kernel
theorem dX12_all_36 : decode cX12_all 36 = .ok (.getfield 179, 3) := by decide +kernel
theorem dX12_all_39 : decode cX12_all 39 = .ok (.iload 6, 2) := by decide +kernel
theorem dX12_all_41 : decode cX12_all 41 = .ok (.iaload, 1) := by decide +kernel
theorem dX12_all_42 : decode cX12_all 42 = .ok (.iconst 1, 1) := by decide +kernel
theorem dX12_all_43 : decode cX12_all 43 = .ok (.aload_n 0, 1) := by decide +kernel
theorem dX12_all_44 : decode cX12_all 44 = .ok (.iconst 1, 1) := by decide +kernel
theorem dX12_all_45 : decode cX12_all 45 = .ok (.invokevirtual 383, 3) := by decide +kernel
theorem dX12_all_48 : decode cX12_all 48 = .ok (.ishl, 1) := by decide +kernel
theorem dX12_all_49 : decode cX12_all 49 = .ok (.iconst 1, 1) := by decide +kernel
theorem dX12_all_50 : decode cX12_all 50 = .ok (.isub, 1) := by decide +kernel
theorem dX12_all_51 : decode cX12_all 51 = .ok (.if_icmp .ne 6, 3) := by decide +kernel
theorem dX12_all_54 : decode cX12_all 54 = .ok (.iload 6, 2) := by decide +kernel
theorem dX12_all_56 : decode cX12_all 56 = .ok (.ireturn, 1) := by decide +kernel
theorem dX12_all_57 : decode cX12_all 57 = .ok (.iinc 6 1, 3) := by decide +kernel
theorem dX12_all_60 : decode cX12_all 60 = .ok (.goto (-32), 3) := by decide +kernel
theorem dX12_all_63 : decode cX12_all 63 = .ok (.bipush (-2), 2) := by decide +kernel
theorem dX12_all_65 : decode cX12_all 65 = .ok (.ireturn, 1) := by decide +kernel
theorem dX12_knowFirst_0 : decode cX12_knowFirst 0 = .ok (.iconst 0, 1) := by decide +kernel
theorem dX12_knowFirst_1 : decode cX12_knowFirst 1 = .ok (.istore_n 2, 1) := by decide +kernel
theorem dX12_knowFirst_2 : decode cX12_knowFirst 2 = .ok (.iconst 0, 1) := by decide +kernel
theorem dX12_knowFirst_3 : decode cX12_knowFirst 3 = .ok (.istore_n 3, 1) := by decide +kernel
theorem dX12_knowFirst_4 : decode cX12_knowFirst 4 = .ok (.iload_n 3, 1) := by decide +kernel
theorem dX12_knowFirst_5 : decode cX12_knowFirst 5 = .ok (.aload_n 0, 1) := by decide +kernel
theorem dX12_knowFirst_6 : decode cX12_knowFirst 6 = .ok (.iconst 5, 1) := by decide +kernel
theorem dX12_knowFirst_7 : decode cX12_knowFirst 7 = .ok (.invokevirtual 383, 3) := by decide +kernel
theorem dX12_knowFirst_10 : decode cX12_knowFirst 10 = .ok (.if_icmp .ge 46, 3) := by decide +kernel
theorem dX12_knowFirst_13 : decode cX12_knowFirst 13 = .ok (.aload_n 0, 1) := by decide +kernel
theorem dX12_knowFirst_14 : decode cX12_knowFirst 14 = .ok (.getfield 85, 3) := by decide +kernel
theorem dX12_knowFirst_17 : decode cX12_knowFirst 17 = .ok (.bipush 12, 2) := by decide +kernel
theorem dX12_knowFirst_19 : decode cX12_knowFirst 19 = .ok (.aload_n 0, 1) := by decide +kernel
theorem dX12_knowFirst_20 : decode cX12_knowFirst 20 = .ok (.getfield 290, 3) := by decide +kernel
theorem dX12_knowFirst_23 : decode cX12_knowFirst 23 = .ok (.imul, 1) := by decide +kernel
theorem dX12_knowFirst_24 : decode cX12_knowFirst 24 = .ok (.iload_n 3, 1) := by decide +kernel
theorem dX12_knowFirst_25 : decode cX12_knowFirst 25 = .ok (.iadd, 1) := by decide +kernel
theorem dX12_knowFirst_26 : decode cX12_knowFirst 26 = .ok (.iaload, 1) := by decide +kernel
theorem dX12_knowFirst_27 : decode cX12_knowFirst 27 = .ok (.iload_n 1, 1) := by decide +kernel
theorem dX12_knowFirst_28 : decode cX12_knowFirst 28 = .ok (.if_icmp .ne 22, 3) := by decide +kernel
theorem dX12_knowFirst_31 : decode cX12_knowFirst 31 = .ok (.iload_n 2, 1) := by decide +kernel
theorem dX12_knowFirst_32 : decode cX12_knowFirst 32 = .ok (.iconst 1, 1) := by decide +kernel
theorem dX12_knowFirst_33 : decode cX12_knowFirst 33 = .ok (.aload_n 0, 1) := by decide +kernel
theorem dX12_knowFirst_34 : decode cX12_knowFirst 34 = .ok (.getfield 82, 3) := by decide +kernel
theorem dX12_knowFirst_37 : decode cX12_knowFirst 37 = .ok (.bipush 12, 2) := by decide +kernel
theorem dX12_knowFirst_39 : decode cX12_knowFirst 39 = .ok (.aload_n 0, 1) := by decide +kernel
theorem dX12_knowFirst_40 : decode cX12_knowFirst 40 = .ok (.getfield 290, 3) := by decide +kernel
theorem dX12_knowFirst_43 : decode cX12_knowFirst 43 = .ok (.imul, 1) := by decide +kernel
theorem dX12_knowFirst_44 : decode cX12_knowFirst 44 = .ok (.iload_n 3, 1) := by decide +kernel
theorem dX12_knowFirst_45 : decode cX12_knowFirst 45 = .ok (.iadd, 1) := by decide +kernel
theorem dX12_knowFirst_46 : decode cX12_knowFirst 46 = .ok (.iaload, 1) := by decide +kernel
theorem dX12_knowFirst_47 : decode cX12_knowFirst 47 = .ok (.ishl, 1) := by decide +kernel
theorem dX12_knowFirst_48 : decode cX12_knowFirst 48 = .ok (.ior, 1) := by decide +kernel
theorem dX12_knowFirst_49 : decode cX12_knowFirst 49 = .ok (.istore_n 2, 1) := by decide +kernel
theorem dX12_knowFirst_50 : decode cX12_knowFirst 50 = .ok (.iinc 3 1, 3) := by decide +kernel
theorem dX12_knowFirst_53 : decode cX12_knowFirst 53 = .ok (.goto (-49), 3) := by decide +kernel
theorem dX12_knowFirst_56 : decode cX12_knowFirst 56 = .ok (.iload_n 2, 1) := by decide +kernel
theorem dX12_knowFirst_57 : decode cX12_knowFirst 57 = .ok (.ireturn, 1) := by decide +kernel
theorem dX12_optionsAt_0 : decode cX12_optionsAt 0 = .ok (.aload_n 0, 1) := by decide +kernel
theorem dX12_optionsAt_1 : decode cX12_optionsAt 1 = .ok (.iconst 0, 1) := by decide +kernel
theorem dX12_optionsAt_2 : decode cX12_optionsAt 2 = .ok (.putfield 498, 3) := by decide +kernel
theorem dX12_optionsAt_5 : decode cX12_optionsAt 5 = .ok (.iconst 0, 1) := by decide +kernel
theorem dX12_optionsAt_6 : decode cX12_optionsAt 6 = .ok (.istore_n 3, 1) := by decide +kernel
theorem dX12_optionsAt_7 : decode cX12_optionsAt 7 = .ok (.iload_n 3, 1) := by decide +kernel
theorem dX12_optionsAt_8 : decode cX12_optionsAt 8 = .ok (.aload_n 0, 1) := by decide +kernel
theorem dX12_optionsAt_9 : decode cX12_optionsAt 9 = .ok (.iconst 1, 1) := by decide +kernel
theorem dX12_optionsAt_10 : decode cX12_optionsAt 10 = .ok (.invokevirtual 383, 3) := by decide +kernel
theorem dX12_optionsAt_13 : decode cX12_optionsAt 13 = .ok (.if_icmp .ge 63, 3) := by decide +kernel
theorem dX12_optionsAt_16 : decode cX12_optionsAt 16 = .ok (.iconst 0, 1) := by decide +kernel
theorem dX12_optionsAt_17 : decode cX12_optionsAt 17 = .ok (.istore 4, 2) := by decide +kernel
theorem dX12_optionsAt_19 : decode cX12_optionsAt 19 = .ok (.iload 4, 2) := by decide +kernel
theorem dX12_optionsAt_21 : decode cX12_optionsAt 21 = .ok (.aload_n 0, 1) := by decide +kernel
theorem dX12_optionsAt_22 : decode cX12_optionsAt 22 = .ok (.iconst 1, 1) := by decide +kernel
theorem dX12_optionsAt_23 : decode cX12_optionsAt 23 = .ok (.invokevirtual 383, 3) := by decide +kernel
theorem dX12_optionsAt_26 : decode cX12_optionsAt 26 = .ok (.if_icmp .ge 44, 3) := by decide +kernel
theorem dX12_optionsAt_29 : decode cX12_optionsAt 29 = .ok (.aload_n 0, 1) := by decide +kernel
theorem dX12_optionsAt_30 : decode cX12_optionsAt 30 = .ok (.iload_n 3, 1) := by decide +kernel
theorem dX12_optionsAt_31 : decode cX12_optionsAt 31 = .ok (.iload 4, 2) := by decide +kernel
theorem dX12_optionsAt_33 : decode cX12_optionsAt 33 = .ok (.iload_n 1, 1) := by decide +kernel
theorem dX12_optionsAt_34 : decode cX12_optionsAt 34 = .ok (.iconst 0, 1) := by decide +kernel
theorem dX12_optionsAt_35 : decode cX12_optionsAt 35 = .ok (.iconst 0, 1) := by decide +kernel
theorem dX12_optionsAt_36 : decode cX12_optionsAt 36 = .ok (.invokevirtual 427, 3) := by decide +kernel
theorem dX12_optionsAt_39 : decode cX12_optionsAt 39 = .ok (.ifCond .ne 6, 3) := by decide +kernel
theorem dX12_optionsAt_42 : decode cX12_optionsAt 42 = .ok (.goto 22, 3) := by decide +kernel
theorem dX12_optionsAt_45 : decode cX12_optionsAt 45 = .ok (.aload_n 0, 1) := by decide +kernel
theorem dX12_optionsAt_46 : decode cX12_optionsAt 46 = .ok (.iconst 0, 1) := by decide +kernel
theorem dX12_optionsAt_47 : decode cX12_optionsAt 47 = .ok (.iload_n 3, 1) := by decide +kernel
theorem dX12_optionsAt_48 : decode cX12_optionsAt 48 = .ok (.iload 4, 2) := by decide +kernel
theorem dX12_optionsAt_50 : decode cX12_optionsAt 50 = .ok (.aload_n 0, 1) := by decide +kernel
theorem dX12_optionsAt_51 : decode cX12_optionsAt 51 = .ok (.aload_n 0, 1) := by decide +kernel
theorem dX12_optionsAt_52 : decode cX12_optionsAt 52 = .ok (.iload_n 3, 1) := by decide +kernel
theorem dX12_optionsAt_53 : decode cX12_optionsAt 53 = .ok (.iload_n 1, 1) := by decide +kernel
theorem dX12_optionsAt_54 : decode cX12_optionsAt 54 = .ok (.invokevirtual 396, 3) := by decide +kernel
theorem dX12_optionsAt_57 : decode cX12_optionsAt 57 = .ok (.iload_n 1, 1) := by decide +kernel
theorem dX12_optionsAt_58 : decode cX12_optionsAt 58 = .ok (.invokevirtual 424, 3) := by decide +kernel
theorem dX12_optionsAt_61 : decode cX12_optionsAt 61 = .ok (.invokevirtual 501, 3) := by decide +kernel
theorem dX12_optionsAt_64 : decode cX12_optionsAt 64 = .ok (.iinc 4 1, 3) := by decide +kernel
theorem dX12_optionsAt_67 : decode cX12_optionsAt 67 = .ok (.goto (-48), 3) := by decide +kernel
theorem dX12_optionsAt_70 : decode cX12_optionsAt 70 = .ok (.iinc 3 1, 3) := by decide +kernel
theorem dX12_optionsAt_73 : decode cX12_optionsAt 73 = .ok (.goto (-66), 3) := by decide +kernel
theorem dX12_optionsAt_76 : decode cX12_optionsAt 76 = .ok (.iconst 0, 1) := by decide +kernel
theorem dX12_optionsAt_77 : decode cX12_optionsAt 77 = .ok (.istore_n 3, 1) := by decide +kernel
theorem dX12_optionsAt_78 : decode cX12_optionsAt 78 = .ok (.iload_n 3, 1) := by decide +kernel
theorem dX12_optionsAt_79 : decode cX12_optionsAt 79 = .ok (.aload_n 0, 1) := by decide +kernel
theorem dX12_optionsAt_80 : decode cX12_optionsAt 80 = .ok (.iconst 1, 1) := by decide +kernel
theorem dX12_optionsAt_81 : decode cX12_optionsAt 81 = .ok (.invokevirtual 383, 3) := by decide +kernel
theorem dX12_optionsAt_84 : decode cX12_optionsAt 84 = .ok (.if_icmp .ge 79, 3) := by decide +kernel
theorem dX12_optionsAt_87 : decode cX12_optionsAt 87 = .ok (.iconst 0, 1) := by decide +kernel
theorem dX12_optionsAt_88 : decode cX12_optionsAt 88 = .ok (.istore 4, 2) := by decide +kernel
theorem dX12_optionsAt_90 : decode cX12_optionsAt 90 = .ok (.iload 4, 2) := by decide +kernel
theorem dX12_optionsAt_92 : decode cX12_optionsAt 92 = .ok (.aload_n 0, 1) := by decide +kernel
theorem dX12_optionsAt_93 : decode cX12_optionsAt 93 = .ok (.bipush 7, 2) := by decide +kernel
theorem dX12_optionsAt_95 : decode cX12_optionsAt 95 = .ok (.invokevirtual 383, 3) := by decide +kernel
theorem dX12_optionsAt_98 : decode cX12_optionsAt 98 = .ok (.if_icmp .ge 59, 3) := by decide +kernel
theorem dX12_optionsAt_101 : decode cX12_optionsAt 101 = .ok (.aload_n 0, 1) := by decide +kernel
theorem dX12_optionsAt_102 : decode cX12_optionsAt 102 = .ok (.getfield 97, 3) := by decide +kernel
theorem dX12_optionsAt_105 : decode cX12_optionsAt 105 = .ok (.bipush 6, 2) := by decide +kernel
theorem dX12_optionsAt_107 : decode cX12_optionsAt 107 = .ok (.aload_n 0, 1) := by decide +kernel
theorem dX12_optionsAt_108 : decode cX12_optionsAt 108 = .ok (.getfield 290, 3) := by decide +kernel
theorem dX12_optionsAt_111 : decode cX12_optionsAt 111 = .ok (.imul, 1) := by decide +kernel
theorem dX12_optionsAt_112 : decode cX12_optionsAt 112 = .ok (.iload 4, 2) := by decide +kernel
theorem dX12_optionsAt_114 : decode cX12_optionsAt 114 = .ok (.iadd, 1) := by decide +kernel
theorem dX12_optionsAt_115 : decode cX12_optionsAt 115 = .ok (.iaload, 1) := by decide +kernel
theorem dX12_optionsAt_116 : decode cX12_optionsAt 116 = .ok (.iload_n 2, 1) := by decide +kernel
theorem dX12_optionsAt_117 : decode cX12_optionsAt 117 = .ok (.if_icmp .ne 34, 3) := by decide +kernel
theorem dX12_optionsAt_120 : decode cX12_optionsAt 120 = .ok (.aload_n 0, 1) := by decide +kernel
theorem dX12_optionsAt_121 : decode cX12_optionsAt 121 = .ok (.iload_n 3, 1) := by decide +kernel
theorem dX12_optionsAt_122 : decode cX12_optionsAt 122 = .ok (.iload_n 1, 1) := by decide +kernel
theorem dX12_optionsAt_123 : decode cX12_optionsAt 123 = .ok (.invokevirtual 396, 3) := by decide +kernel
theorem dX12_optionsAt_126 : decode cX12_optionsAt 126 = .ok (.ifCond .ge 6, 3) := by decide +kernel
theorem dX12_optionsAt_129 : decode cX12_optionsAt 129 = .ok (.goto 22, 3) := by decide +kernel
theorem dX12_optionsAt_132 : decode cX12_optionsAt 132 = .ok (.aload_n 0, 1) := by decide +kernel
theorem dX12_optionsAt_133 : decode cX12_optionsAt 133 = .ok (.iconst 1, 1) := by decide +kernel
theorem dX12_optionsAt_134 : decode cX12_optionsAt 134 = .ok (.iload_n 3, 1) := by decide +kernel
theorem dX12_optionsAt_135 : decode cX12_optionsAt 135 = .ok (.iload 4, 2) := by decide +kernel
theorem dX12_optionsAt_137 : decode cX12_optionsAt 137 = .ok (.aload_n 0, 1) := by decide +kernel
theorem dX12_optionsAt_138 : decode cX12_optionsAt 138 = .ok (.aload_n 0, 1) := by decide +kernel
theorem dX12_optionsAt_139 : decode cX12_optionsAt 139 = .ok (.iload_n 3, 1) := by decide +kernel
theorem dX12_optionsAt_140 : decode cX12_optionsAt 140 = .ok (.iload_n 1, 1) := by decide +kernel
theorem dX12_optionsAt_141 : decode cX12_optionsAt 141 = .ok (.invokevirtual 396, 3) := by decide +kernel
theorem dX12_optionsAt_144 : decode cX12_optionsAt 144 = .ok (.iload_n 1, 1) := by decide +kernel
theorem dX12_optionsAt_145 : decode cX12_optionsAt 145 = .ok (.invokevirtual 406, 3) := by decide +kernel
theorem dX12_optionsAt_148 : decode cX12_optionsAt 148 = .ok (.invokevirtual 501, 3) := by decide +kernel
theorem dX12_optionsAt_151 : decode cX12_optionsAt 151 = .ok (.iinc 4 1, 3) := by decide +kernel
theorem dX12_optionsAt_154 : decode cX12_optionsAt 154 = .ok (.goto (-64), 3) := by decide +kernel
theorem dX12_optionsAt_157 : decode cX12_optionsAt 157 = .ok (.iinc 3 1, 3) := by decide +kernel
theorem dX12_optionsAt_160 : decode cX12_optionsAt 160 = .ok (.goto (-82), 3) := by decide +kernel
theorem dX12_optionsAt_163 : decode cX12_optionsAt 163 = .ok (.return_, 1) := by decide +kernel
theorem dX12_option_0 : decode cX12_option 0 = .ok (.aload_n 0, 1) := by decide +kernel
theorem dX12_option_1 : decode cX12_option 1 = .ok (.getfield 185, 3) := by decide +kernel
theorem dX12_option_4 : decode cX12_option 4 = .ok (.aload_n 0, 1) := by decide +kernel
theorem dX12_option_5 : decode cX12_option 5 = .ok (.getfield 498, 3) := by decide +kernel
theorem dX12_option_8 : decode cX12_option 8 = .ok (.iload_n 1, 1) := by decide +kernel
theorem dX12_option_9 : decode cX12_option 9 = .ok (.iastore, 1) := by decide +kernel
theorem dX12_option_10 : decode cX12_option 10 = .ok (.aload_n 0, 1) := by decide +kernel
theorem dX12_option_11 : decode cX12_option 11 = .ok (.getfield 188, 3) := by decide +kernel
theorem dX12_option_14 : decode cX12_option 14 = .ok (.aload_n 0, 1) := by decide +kernel
theorem dX12_option_15 : decode cX12_option 15 = .ok (.getfield 498, 3) := by decide +kernel
theorem dX12_option_18 : decode cX12_option 18 = .ok (.iload_n 2, 1) := by decide +kernel
theorem dX12_option_19 : decode cX12_option 19 = .ok (.iastore, 1) := by decide +kernel
theorem dX12_option_20 : decode cX12_option 20 = .ok (.aload_n 0, 1) := by decide +kernel
theorem dX12_option_21 : decode cX12_option 21 = .ok (.getfield 191, 3) := by decide +kernel
theorem dX12_option_24 : decode cX12_option 24 = .ok (.aload_n 0, 1) := by decide +kernel
theorem dX12_option_25 : decode cX12_option 25 = .ok (.getfield 498, 3) := by decide +kernel
theorem dX12_option_28 : decode cX12_option 28 = .ok (.iload_n 3, 1) := by decide +kernel
theorem dX12_option_29 : decode cX12_option 29 = .ok (.iastore, 1) := by decide +kernel
theorem dX12_option_30 : decode cX12_option 30 = .ok (.aload_n 0, 1) := by decide +kernel
theorem dX12_option_31 : decode cX12_option 31 = .ok (.getfield 194, 3) := by decide +kernel
theorem dX12_option_34 : decode cX12_option 34 = .ok (.aload_n 0, 1) := by decide +kernel
theorem dX12_option_35 : decode cX12_option 35 = .ok (.getfield 498, 3) := by decide +kernel
theorem dX12_option_38 : decode cX12_option 38 = .ok (.iload 4, 2) := by decide +kernel
theorem dX12_option_40 : decode cX12_option 40 = .ok (.iastore, 1) := by decide +kernel
theorem dX12_option_41 : decode cX12_option 41 = .ok (.aload_n 0, 1) := by decide +kernel
theorem dX12_option_42 : decode cX12_option 42 = .ok (.dup, 1) := by decide +kernel
theorem dX12_option_43 : decode cX12_option 43 = .ok (.getfield 498, 3) := by decide +kernel
theorem dX12_option_46 : decode cX12_option 46 = .ok (.iconst 1, 1) := by decide +kernel
theorem dX12_option_47 : decode cX12_option 47 = .ok (.iadd, 1) := by decide +kernel
theorem dX12_option_48 : decode cX12_option 48 = .ok (.putfield 498, 3) := by decide +kernel
theorem dX12_option_51 : decode cX12_option 51 = .ok (.return_, 1) := by decide +kernel
theorem dX12_price_0 : decode cX12_price 0 = .ok (.sipush 1000, 3) := by decide +kernel
theorem dX12_price_3 : decode cX12_price 3 = .ok (.aload_n 0, 1) := by decide +kernel
theorem dX12_price_4 : decode cX12_price 4 = .ok (.aload_n 0, 1) := by decide +kernel
theorem dX12_price_5 : decode cX12_price 5 = .ok (.getfield 185, 3) := by decide +kernel
theorem dX12_price_8 : decode cX12_price 8 = .ok (.iload_n 1, 1) := by decide +kernel
theorem dX12_price_9 : decode cX12_price 9 = .ok (.iaload, 1) := by decide +kernel
theorem dX12_price_10 : decode cX12_price 10 = .ok (.aload_n 0, 1) := by decide +kernel
theorem dX12_price_11 : decode cX12_price 11 = .ok (.getfield 191, 3) := by decide +kernel
theorem dX12_price_14 : decode cX12_price 14 = .ok (.iload_n 1, 1) := by decide +kernel
theorem dX12_price_15 : decode cX12_price 15 = .ok (.iaload, 1) := by decide +kernel
theorem dX12_price_16 : decode cX12_price 16 = .ok (.invokevirtual 475, 3) := by decide +kernel
theorem dX12_price_19 : decode cX12_price 19 = .ok (.imul, 1) := by decide +kernel
theorem dX12_price_20 : decode cX12_price 20 = .ok (.iconst 1, 1) := by decide +kernel
theorem dX12_price_21 : decode cX12_price 21 = .ok (.iadd, 1) := by decide +kernel
theorem dX12_price_22 : decode cX12_price 22 = .ok (.ireturn, 1) := by decide +kernel
theorem dX12_canTake_0 : decode cX12_canTake 0 = .ok (.iload_n 2, 1) := by decide +kernel
theorem dX12_canTake_1 : decode cX12_canTake 1 = .ok (.aload_n 0, 1) := by decide +kernel
theorem dX12_canTake_2 : decode cX12_canTake 2 = .ok (.getfield 188, 3) := by decide +kernel
theorem dX12_canTake_5 : decode cX12_canTake 5 = .ok (.iload_n 1, 1) := by decide +kernel
theorem dX12_canTake_6 : decode cX12_canTake 6 = .ok (.iaload, 1) := by decide +kernel
theorem dX12_canTake_7 : decode cX12_canTake 7 = .ok (.ishr, 1) := by decide +kernel
theorem dX12_canTake_8 : decode cX12_canTake 8 = .ok (.iconst 1, 1) := by decide +kernel
theorem dX12_canTake_9 : decode cX12_canTake 9 = .ok (.iand, 1) := by decide +kernel
theorem dX12_canTake_10 : decode cX12_canTake 10 = .ok (.iconst 1, 1) := by decide +kernel
theorem dX12_canTake_11 : decode cX12_canTake 11 = .ok (.if_icmp .ne 7, 3) := by decide +kernel
theorem dX12_canTake_14 : decode cX12_canTake 14 = .ok (.iconst 1, 1) := by decide +kernel
theorem dX12_canTake_15 : decode cX12_canTake 15 = .ok (.goto 4, 3) := by decide +kernel
theorem dX12_canTake_18 : decode cX12_canTake 18 = .ok (.iconst 0, 1) := by decide +kernel
theorem dX12_canTake_19 : decode cX12_canTake 19 = .ok (.ireturn, 1) := by decide +kernel
theorem dX12_cheapens_0 : decode cX12_cheapens 0 = .ok (.aload_n 0, 1) := by decide +kernel
theorem dX12_cheapens_1 : decode cX12_cheapens 1 = .ok (.iconst 0, 1) := by decide +kernel
theorem dX12_cheapens_2 : decode cX12_cheapens 2 = .ok (.putfield 390, 3) := by decide +kernel
theorem dX12_cheapens_5 : decode cX12_cheapens 5 = .ok (.iconst 1, 1) := by decide +kernel
theorem dX12_cheapens_6 : decode cX12_cheapens 6 = .ok (.aload_n 0, 1) := by decide +kernel
theorem dX12_cheapens_7 : decode cX12_cheapens 7 = .ok (.iconst 1, 1) := by decide +kernel
theorem dX12_cheapens_8 : decode cX12_cheapens 8 = .ok (.invokevirtual 383, 3) := by decide +kernel
theorem dX12_cheapens_11 : decode cX12_cheapens 11 = .ok (.ishl, 1) := by decide +kernel
theorem dX12_cheapens_12 : decode cX12_cheapens 12 = .ok (.istore 4, 2) := by decide +kernel
theorem dX12_cheapens_14 : decode cX12_cheapens 14 = .ok (.bipush 24, 2) := by decide +kernel
theorem dX12_cheapens_16 : decode cX12_cheapens 16 = .ok (.istore 5, 2) := by decide +kernel
theorem dX12_cheapens_18 : decode cX12_cheapens 18 = .ok (.iload 5, 2) := by decide +kernel
theorem dX12_cheapens_20 : decode cX12_cheapens 20 = .ok (.iload_n 3, 1) := by decide +kernel
theorem dX12_cheapens_21 : decode cX12_cheapens 21 = .ok (.if_icmp .lt 213, 3) := by decide +kernel
theorem dX12_cheapens_24 : decode cX12_cheapens 24 = .ok (.iload 5, 2) := by decide +kernel
theorem dX12_cheapens_26 : decode cX12_cheapens 26 = .ok (.bipush 24, 2) := by decide +kernel
theorem dX12_cheapens_28 : decode cX12_cheapens 28 = .ok (.if_icmp .ge 10, 3) := by decide +kernel
theorem dX12_cheapens_31 : decode cX12_cheapens 31 = .ok (.aload_n 0, 1) := by decide +kernel
theorem dX12_cheapens_32 : decode cX12_cheapens 32 = .ok (.iload 5, 2) := by decide +kernel
theorem dX12_cheapens_34 : decode cX12_cheapens 34 = .ok (.iload_n 2, 1) := by decide +kernel
theorem dX12_cheapens_35 : decode cX12_cheapens 35 = .ok (.invokevirtual 505, 3) := by decide +kernel
theorem dX12_cheapens_38 : decode cX12_cheapens 38 = .ok (.iconst 0, 1) := by decide +kernel
theorem dX12_cheapens_39 : decode cX12_cheapens 39 = .ok (.istore 6, 2) := by decide +kernel
theorem dX12_cheapens_41 : decode cX12_cheapens 41 = .ok (.iload 6, 2) := by decide +kernel
theorem dX12_cheapens_43 : decode cX12_cheapens 43 = .ok (.iload 4, 2) := by decide +kernel
theorem dX12_cheapens_45 : decode cX12_cheapens 45 = .ok (.if_icmp .ge 183, 3) := by decide +kernel
theorem dX12_cheapens_48 : decode cX12_cheapens 48 = .ok (.iload 6, 2) := by decide +kernel
theorem dX12_cheapens_50 : decode cX12_cheapens 50 = .ok (.iload_n 1, 1) := by decide +kernel
theorem dX12_cheapens_51 : decode cX12_cheapens 51 = .ok (.ishr, 1) := by decide +kernel
theorem dX12_cheapens_52 : decode cX12_cheapens 52 = .ok (.iconst 1, 1) := by decide +kernel
theorem dX12_cheapens_53 : decode cX12_cheapens 53 = .ok (.iand, 1) := by decide +kernel
theorem dX12_cheapens_54 : decode cX12_cheapens 54 = .ok (.iconst 1, 1) := by decide +kernel
theorem dX12_cheapens_55 : decode cX12_cheapens 55 = .ok (.if_icmp .ne 7, 3) := by decide +kernel
theorem dX12_cheapens_58 : decode cX12_cheapens 58 = .ok (.iconst 0, 1) := by decide +kernel
theorem dX12_cheapens_59 : decode cX12_cheapens 59 = .ok (.goto 32, 3) := by decide +kernel
theorem dX12_cheapens_62 : decode cX12_cheapens 62 = .ok (.iload 5, 2) := by decide +kernel
theorem dX12_cheapens_64 : decode cX12_cheapens 64 = .ok (.bipush 24, 2) := by decide +kernel
theorem dX12_cheapens_66 : decode cX12_cheapens 66 = .ok (.if_icmp .ne 7, 3) := by decide +kernel
theorem dX12_cheapens_69 : decode cX12_cheapens 69 = .ok (.iconst (-1), 1) := by decide +kernel
theorem dX12_cheapens_70 : decode cX12_cheapens 70 = .ok (.goto 21, 3) := by decide +kernel
theorem dX12_cheapens_73 : decode cX12_cheapens 73 = .ok (.aload_n 0, 1) := by decide +kernel
theorem dX12_cheapens_74 : decode cX12_cheapens 74 = .ok (.getfield 182, 3) := by decide +kernel
theorem dX12_cheapens_77 : decode cX12_cheapens 77 = .ok (.sipush 1024, 3) := by decide +kernel
theorem dX12_cheapens_80 : decode cX12_cheapens 80 = .ok (.iload 5, 2) := by decide +kernel
theorem dX12_cheapens_82 : decode cX12_cheapens 82 = .ok (.imul, 1) := by decide +kernel
theorem dX12_cheapens_83 : decode cX12_cheapens 83 = .ok (.sipush 1024, 3) := by decide +kernel
theorem dX12_cheapens_86 : decode cX12_cheapens 86 = .ok (.iadd, 1) := by decide +kernel
theorem dX12_cheapens_87 : decode cX12_cheapens 87 = .ok (.iload 6, 2) := by decide +kernel
theorem dX12_cheapens_89 : decode cX12_cheapens 89 = .ok (.iadd, 1) := by decide +kernel
theorem dX12_cheapens_90 : decode cX12_cheapens 90 = .ok (.iaload, 1) := by decide +kernel
theorem dX12_cheapens_91 : decode cX12_cheapens 91 = .ok (.istore 7, 2) := by decide +kernel
theorem dX12_cheapens_93 : decode cX12_cheapens 93 = .ok (.iload 5, 2) := by decide +kernel
theorem dX12_cheapens_95 : decode cX12_cheapens 95 = .ok (.bipush 24, 2) := by decide +kernel
theorem dX12_cheapens_97 : decode cX12_cheapens 97 = .ok (.if_icmp .ge 109, 3) := by decide +kernel
theorem dX12_cheapens_100 : decode cX12_cheapens 100 = .ok (.iload 6, 2) := by decide +kernel
theorem dX12_cheapens_102 : decode cX12_cheapens 102 = .ok (.iload_n 1, 1) := by decide +kernel
theorem dX12_cheapens_103 : decode cX12_cheapens 103 = .ok (.ishr, 1) := by decide +kernel
theorem dX12_cheapens_104 : decode cX12_cheapens 104 = .ok (.iconst 1, 1) := by decide +kernel
theorem dX12_cheapens_105 : decode cX12_cheapens 105 = .ok (.iand, 1) := by decide +kernel
theorem dX12_cheapens_106 : decode cX12_cheapens 106 = .ok (.ifCond .ne 100, 3) := by decide +kernel
theorem dX12_cheapens_109 : decode cX12_cheapens 109 = .ok (.iconst 0, 1) := by decide +kernel
theorem dX12_cheapens_110 : decode cX12_cheapens 110 = .ok (.istore 8, 2) := by decide +kernel
theorem dX12_cheapens_112 : decode cX12_cheapens 112 = .ok (.iload 8, 2) := by decide +kernel
theorem dX12_cheapens_114 : decode cX12_cheapens 114 = .ok (.aload_n 0, 1) := by decide +kernel
theorem dX12_cheapens_115 : decode cX12_cheapens 115 = .ok (.getfield 498, 3) := by decide +kernel
theorem dX12_cheapens_118 : decode cX12_cheapens 118 = .ok (.if_icmp .ge 88, 3) := by decide +kernel
theorem dX12_cheapens_121 : decode cX12_cheapens 121 = .ok (.aload_n 0, 1) := by decide +kernel
theorem dX12_cheapens_122 : decode cX12_cheapens 122 = .ok (.iload 8, 2) := by decide +kernel
theorem dX12_cheapens_124 : decode cX12_cheapens 124 = .ok (.iload 6, 2) := by decide +kernel
theorem dX12_cheapens_126 : decode cX12_cheapens 126 = .ok (.invokevirtual 508, 3) := by decide +kernel
theorem dX12_cheapens_129 : decode cX12_cheapens 129 = .ok (.ifCond .ne 6, 3) := by decide +kernel
theorem dX12_cheapens_132 : decode cX12_cheapens 132 = .ok (.goto 68, 3) := by decide +kernel
theorem dX12_cheapens_135 : decode cX12_cheapens 135 = .ok (.aload_n 0, 1) := by decide +kernel
theorem dX12_cheapens_136 : decode cX12_cheapens 136 = .ok (.getfield 182, 3) := by decide +kernel
theorem dX12_cheapens_139 : decode cX12_cheapens 139 = .ok (.sipush 1024, 3) := by decide +kernel
theorem dX12_cheapens_142 : decode cX12_cheapens 142 = .ok (.iload 5, 2) := by decide +kernel
theorem dX12_cheapens_144 : decode cX12_cheapens 144 = .ok (.imul, 1) := by decide +kernel
theorem dX12_cheapens_145 : decode cX12_cheapens 145 = .ok (.sipush 1024, 3) := by decide +kernel
theorem dX12_cheapens_148 : decode cX12_cheapens 148 = .ok (.iadd, 1) := by decide +kernel
theorem dX12_cheapens_149 : decode cX12_cheapens 149 = .ok (.iload 6, 2) := by decide +kernel
theorem dX12_cheapens_151 : decode cX12_cheapens 151 = .ok (.aload_n 0, 1) := by decide +kernel
theorem dX12_cheapens_152 : decode cX12_cheapens 152 = .ok (.getfield 194, 3) := by decide +kernel
theorem dX12_cheapens_155 : decode cX12_cheapens 155 = .ok (.iload 8, 2) := by decide +kernel
theorem dX12_cheapens_157 : decode cX12_cheapens 157 = .ok (.iaload, 1) := by decide +kernel
theorem dX12_cheapens_158 : decode cX12_cheapens 158 = .ok (.ior, 1) := by decide +kernel
theorem dX12_cheapens_159 : decode cX12_cheapens 159 = .ok (.iadd, 1) := by decide +kernel
theorem dX12_cheapens_160 : decode cX12_cheapens 160 = .ok (.iaload, 1) := by decide +kernel
theorem dX12_cheapens_161 : decode cX12_cheapens 161 = .ok (.istore 9, 2) := by decide +kernel
theorem dX12_cheapens_163 : decode cX12_cheapens 163 = .ok (.iload 9, 2) := by decide +kernel
theorem dX12_cheapens_165 : decode cX12_cheapens 165 = .ok (.iconst (-1), 1) := by decide +kernel
theorem dX12_cheapens_166 : decode cX12_cheapens 166 = .ok (.if_icmp .eq 34, 3) := by decide +kernel
theorem dX12_cheapens_169 : decode cX12_cheapens 169 = .ok (.iload 7, 2) := by decide +kernel
theorem dX12_cheapens_171 : decode cX12_cheapens 171 = .ok (.iconst (-1), 1) := by decide +kernel
theorem dX12_cheapens_172 : decode cX12_cheapens 172 = .ok (.if_icmp .eq 17, 3) := by decide +kernel
theorem dX12_cheapens_175 : decode cX12_cheapens 175 = .ok (.iload 9, 2) := by decide +kernel
theorem dX12_cheapens_177 : decode cX12_cheapens 177 = .ok (.aload_n 0, 1) := by decide +kernel
theorem dX12_cheapens_178 : decode cX12_cheapens 178 = .ok (.iload 8, 2) := by decide +kernel
theorem dX12_cheapens_180 : decode cX12_cheapens 180 = .ok (.invokevirtual 511, 3) := by decide +kernel
theorem dX12_cheapens_183 : decode cX12_cheapens 183 = .ok (.iadd, 1) := by decide +kernel
theorem dX12_cheapens_184 : decode cX12_cheapens 184 = .ok (.iload 7, 2) := by decide +kernel
theorem dX12_cheapens_186 : decode cX12_cheapens 186 = .ok (.if_icmp .ge 14, 3) := by decide +kernel
theorem dX12_cheapens_189 : decode cX12_cheapens 189 = .ok (.iload 9, 2) := by decide +kernel
theorem dX12_cheapens_191 : decode cX12_cheapens 191 = .ok (.aload_n 0, 1) := by decide +kernel
theorem dX12_cheapens_192 : decode cX12_cheapens 192 = .ok (.iload 8, 2) := by decide +kernel
theorem dX12_cheapens_194 : decode cX12_cheapens 194 = .ok (.invokevirtual 511, 3) := by decide +kernel
theorem dX12_cheapens_197 : decode cX12_cheapens 197 = .ok (.iadd, 1) := by decide +kernel
theorem dX12_cheapens_198 : decode cX12_cheapens 198 = .ok (.istore 7, 2) := by decide +kernel
theorem dX12_cheapens_200 : decode cX12_cheapens 200 = .ok (.iinc 8 1, 3) := by decide +kernel
theorem dX12_cheapens_203 : decode cX12_cheapens 203 = .ok (.goto (-91), 3) := by decide +kernel
theorem dX12_cheapens_206 : decode cX12_cheapens 206 = .ok (.aload_n 0, 1) := by decide +kernel
theorem dX12_cheapens_207 : decode cX12_cheapens 207 = .ok (.getfield 182, 3) := by decide +kernel
theorem dX12_cheapens_210 : decode cX12_cheapens 210 = .ok (.sipush 1024, 3) := by decide +kernel
theorem dX12_cheapens_213 : decode cX12_cheapens 213 = .ok (.iload 5, 2) := by decide +kernel
theorem dX12_cheapens_215 : decode cX12_cheapens 215 = .ok (.imul, 1) := by decide +kernel
theorem dX12_cheapens_216 : decode cX12_cheapens 216 = .ok (.iload 6, 2) := by decide +kernel
theorem dX12_cheapens_218 : decode cX12_cheapens 218 = .ok (.iadd, 1) := by decide +kernel
theorem dX12_cheapens_219 : decode cX12_cheapens 219 = .ok (.iload 7, 2) := by decide +kernel
theorem dX12_cheapens_221 : decode cX12_cheapens 221 = .ok (.iastore, 1) := by decide +kernel
theorem dX12_cheapens_222 : decode cX12_cheapens 222 = .ok (.iinc 6 1, 3) := by decide +kernel
theorem dX12_cheapens_225 : decode cX12_cheapens 225 = .ok (.goto (-184), 3) := by decide +kernel
theorem dX12_cheapens_228 : decode cX12_cheapens 228 = .ok (.iinc 5 (-1), 3) := by decide +kernel
theorem dX12_cheapens_231 : decode cX12_cheapens 231 = .ok (.goto (-213), 3) := by decide +kernel
theorem dX12_cheapens_234 : decode cX12_cheapens 234 = .ok (.return_, 1) := by decide +kernel
theorem dX12_isCheap_0 : decode cX12_isCheap 0 = .ok (.aload_n 0, 1) := by decide +kernel
theorem dX12_isCheap_1 : decode cX12_isCheap 1 = .ok (.iload_n 1, 1) := by decide +kernel
theorem dX12_isCheap_2 : decode cX12_isCheap 2 = .ok (.invokevirtual 415, 3) := by decide +kernel
theorem dX12_isCheap_5 : decode cX12_isCheap 5 = .ok (.ifCond .eq 19, 3) := by decide +kernel
theorem dX12_isCheap_8 : decode cX12_isCheap 8 = .ok (.aload_n 0, 1) := by decide +kernel
theorem dX12_isCheap_9 : decode cX12_isCheap 9 = .ok (.iload_n 2, 1) := by decide +kernel
theorem dX12_isCheap_10 : decode cX12_isCheap 10 = .ok (.iload_n 3, 1) := by decide +kernel
theorem dX12_isCheap_11 : decode cX12_isCheap 11 = .ok (.iload 4, 2) := by decide +kernel
theorem dX12_isCheap_13 : decode cX12_isCheap 13 = .ok (.iconst 0, 1) := by decide +kernel
theorem dX12_isCheap_14 : decode cX12_isCheap 14 = .ok (.invokevirtual 487, 3) := by decide +kernel
theorem dX12_isCheap_17 : decode cX12_isCheap 17 = .ok (.ifCond .eq 7, 3) := by decide +kernel
theorem dX12_isCheap_20 : decode cX12_isCheap 20 = .ok (.iconst 1, 1) := by decide +kernel
theorem dX12_isCheap_21 : decode cX12_isCheap 21 = .ok (.goto 4, 3) := by decide +kernel
theorem dX12_isCheap_24 : decode cX12_isCheap 24 = .ok (.iconst 0, 1) := by decide +kernel
theorem dX12_isCheap_25 : decode cX12_isCheap 25 = .ok (.ireturn, 1) := by decide +kernel
theorem dX12_cheap_0 : decode cX12_cheap 0 = .ok (.aload_n 0, 1) := by decide +kernel
theorem dX12_cheap_1 : decode cX12_cheap 1 = .ok (.iload_n 1, 1) := by decide +kernel
theorem dX12_cheap_2 : decode cX12_cheap 2 = .ok (.iload_n 2, 1) := by decide +kernel
theorem dX12_cheap_3 : decode cX12_cheap 3 = .ok (.iload_n 3, 1) := by decide +kernel
theorem dX12_cheap_4 : decode cX12_cheap 4 = .ok (.iload 4, 2) := by decide +kernel
theorem dX12_cheap_6 : decode cX12_cheap 6 = .ok (.invokevirtual 514, 3) := by decide +kernel
theorem dX12_cheap_9 : decode cX12_cheap 9 = .ok (.ifCond .eq 13, 3) := by decide +kernel
theorem dX12_cheap_12 : decode cX12_cheap 12 = .ok (.iload 5, 2) := by decide +kernel
theorem dX12_cheap_14 : decode cX12_cheap 14 = .ok (.iconst 0, 1) := by decide +kernel
theorem dX12_cheap_15 : decode cX12_cheap 15 = .ok (.iconst 1, 1) := by decide +kernel
theorem dX12_cheap_16 : decode cX12_cheap 16 = .ok (.invokestatic 386, 3) := by decide +kernel
theorem dX12_cheap_19 : decode cX12_cheap 19 = .ok (.ifCond .ne 5, 3) := by decide +kernel
theorem dX12_cheap_22 : decode cX12_cheap 22 = .ok (.iconst (-1), 1) := by decide +kernel
theorem dX12_cheap_23 : decode cX12_cheap 23 = .ok (.ireturn, 1) := by decide +kernel
theorem dX12_cheap_24 : decode cX12_cheap 24 = .ok (.aload_n 0, 1) := by decide +kernel
theorem dX12_cheap_25 : decode cX12_cheap 25 = .ok (.iload_n 1, 1) := by decide +kernel
theorem dX12_cheap_26 : decode cX12_cheap 26 = .ok (.iload_n 2, 1) := by decide +kernel
theorem dX12_cheap_27 : decode cX12_cheap 27 = .ok (.iload 4, 2) := by decide +kernel
theorem dX12_cheap_29 : decode cX12_cheap 29 = .ok (.invokevirtual 517, 3) := by decide +kernel
theorem dX12_cheap_32 : decode cX12_cheap 32 = .ok (.aload_n 0, 1) := by decide +kernel
theorem dX12_cheap_33 : decode cX12_cheap 33 = .ok (.getfield 182, 3) := by decide +kernel
theorem dX12_cheap_36 : decode cX12_cheap 36 = .ok (.sipush 1024, 3) := by decide +kernel
theorem dX12_cheap_39 : decode cX12_cheap 39 = .ok (.iload 4, 2) := by decide +kernel
theorem dX12_cheap_41 : decode cX12_cheap 41 = .ok (.imul, 1) := by decide +kernel
theorem dX12_cheap_42 : decode cX12_cheap 42 = .ok (.iload_n 3, 1) := by decide +kernel
theorem dX12_cheap_43 : decode cX12_cheap 43 = .ok (.iadd, 1) := by decide +kernel
theorem dX12_cheap_44 : decode cX12_cheap 44 = .ok (.iaload, 1) := by decide +kernel
theorem dX12_cheap_45 : decode cX12_cheap 45 = .ok (.istore 6, 2) := by decide +kernel
theorem dX12_cheap_47 : decode cX12_cheap 47 = .ok (.iload 6, 2) := by decide +kernel
theorem dX12_cheap_49 : decode cX12_cheap 49 = .ok (.iconst (-1), 1) := by decide +kernel
theorem dX12_cheap_50 : decode cX12_cheap 50 = .ok (.if_icmp .ne 8, 3) := by decide +kernel
theorem dX12_cheap_53 : decode cX12_cheap 53 = .ok (.bipush (-2), 2) := by decide +kernel
theorem dX12_cheap_55 : decode cX12_cheap 55 = .ok (.goto 23, 3) := by decide +kernel
theorem dX12_cheap_58 : decode cX12_cheap 58 = .ok (.iload 5, 2) := by decide +kernel
theorem dX12_cheap_60 : decode cX12_cheap 60 = .ok (.ifCond .ne 12, 3) := by decide +kernel
theorem dX12_cheap_63 : decode cX12_cheap 63 = .ok (.iload 6, 2) := by decide +kernel
theorem dX12_cheap_65 : decode cX12_cheap 65 = .ok (.sipush 1000, 3) := by decide +kernel
theorem dX12_cheap_68 : decode cX12_cheap 68 = .ok (.idiv, 1) := by decide +kernel
theorem dX12_cheap_69 : decode cX12_cheap 69 = .ok (.goto 9, 3) := by decide +kernel
theorem dX12_cheap_72 : decode cX12_cheap 72 = .ok (.iload 6, 2) := by decide +kernel
theorem dX12_cheap_74 : decode cX12_cheap 74 = .ok (.sipush 1000, 3) := by decide +kernel
theorem dX12_cheap_77 : decode cX12_cheap 77 = .ok (.irem, 1) := by decide +kernel
theorem dX12_cheap_78 : decode cX12_cheap 78 = .ok (.ireturn, 1) := by decide +kernel
theorem dX12_cheapAt_0 : decode cX12_cheapAt 0 = .ok (.aload_n 0, 1) := by decide +kernel
theorem dX12_cheapAt_1 : decode cX12_cheapAt 1 = .ok (.iload_n 1, 1) := by decide +kernel
theorem dX12_cheapAt_2 : decode cX12_cheapAt 2 = .ok (.iload_n 2, 1) := by decide +kernel
theorem dX12_cheapAt_3 : decode cX12_cheapAt 3 = .ok (.iload_n 3, 1) := by decide +kernel
theorem dX12_cheapAt_4 : decode cX12_cheapAt 4 = .ok (.iload 4, 2) := by decide +kernel
theorem dX12_cheapAt_6 : decode cX12_cheapAt 6 = .ok (.invokevirtual 514, 3) := by decide +kernel
theorem dX12_cheapAt_9 : decode cX12_cheapAt 9 = .ok (.ifCond .eq 8, 3) := by decide +kernel
theorem dX12_cheapAt_12 : decode cX12_cheapAt 12 = .ok (.iload 5, 2) := by decide +kernel
theorem dX12_cheapAt_14 : decode cX12_cheapAt 14 = .ok (.ifCond .ge 5, 3) := by decide +kernel
theorem dX12_cheapAt_17 : decode cX12_cheapAt 17 = .ok (.iconst (-1), 1) := by decide +kernel
theorem dX12_cheapAt_18 : decode cX12_cheapAt 18 = .ok (.ireturn, 1) := by decide +kernel
theorem dX12_cheapAt_19 : decode cX12_cheapAt 19 = .ok (.aload_n 0, 1) := by decide +kernel
theorem dX12_cheapAt_20 : decode cX12_cheapAt 20 = .ok (.iload_n 1, 1) := by decide +kernel
theorem dX12_cheapAt_21 : decode cX12_cheapAt 21 = .ok (.iload_n 2, 1) := by decide +kernel
theorem dX12_cheapAt_22 : decode cX12_cheapAt 22 = .ok (.iload 4, 2) := by decide +kernel
theorem dX12_cheapAt_24 : decode cX12_cheapAt 24 = .ok (.invokevirtual 517, 3) := by decide +kernel
theorem dX12_cheapAt_27 : decode cX12_cheapAt 27 = .ok (.iload_n 3, 1) := by decide +kernel
theorem dX12_cheapAt_28 : decode cX12_cheapAt 28 = .ok (.istore 6, 2) := by decide +kernel
theorem dX12_cheapAt_30 : decode cX12_cheapAt 30 = .ok (.iload 5, 2) := by decide +kernel
theorem dX12_cheapAt_32 : decode cX12_cheapAt 32 = .ok (.istore 7, 2) := by decide +kernel
theorem dX12_cheapAt_34 : decode cX12_cheapAt 34 = .ok (.aload_n 0, 1) := by decide +kernel
theorem dX12_cheapAt_35 : decode cX12_cheapAt 35 = .ok (.getfield 182, 3) := by decide +kernel
theorem dX12_cheapAt_38 : decode cX12_cheapAt 38 = .ok (.sipush 1024, 3) := by decide +kernel
theorem dX12_cheapAt_41 : decode cX12_cheapAt 41 = .ok (.iload 4, 2) := by decide +kernel
theorem dX12_cheapAt_43 : decode cX12_cheapAt 43 = .ok (.imul, 1) := by decide +kernel
theorem dX12_cheapAt_44 : decode cX12_cheapAt 44 = .ok (.iload_n 3, 1) := by decide +kernel
theorem dX12_cheapAt_45 : decode cX12_cheapAt 45 = .ok (.iadd, 1) := by decide +kernel
theorem dX12_cheapAt_46 : decode cX12_cheapAt 46 = .ok (.iaload, 1) := by decide +kernel
theorem dX12_cheapAt_47 : decode cX12_cheapAt 47 = .ok (.iconst (-1), 1) := by decide +kernel
theorem dX12_cheapAt_48 : decode cX12_cheapAt 48 = .ok (.if_icmp .ne 5, 3) := by decide +kernel
theorem dX12_cheapAt_51 : decode cX12_cheapAt 51 = .ok (.iconst (-1), 1) := by decide +kernel
theorem dX12_cheapAt_52 : decode cX12_cheapAt 52 = .ok (.ireturn, 1) := by decide +kernel
theorem dX12_cheapAt_53 : decode cX12_cheapAt 53 = .ok (.iload 4, 2) := by decide +kernel
theorem dX12_cheapAt_55 : decode cX12_cheapAt 55 = .ok (.istore 8, 2) := by decide +kernel
theorem dX12_cheapAt_57 : decode cX12_cheapAt 57 = .ok (.iload 8, 2) := by decide +kernel
theorem dX12_cheapAt_59 : decode cX12_cheapAt 59 = .ok (.bipush 24, 2) := by decide +kernel
theorem dX12_cheapAt_61 : decode cX12_cheapAt 61 = .ok (.if_icmp .ge 197, 3) := by decide +kernel
theorem dX12_cheapAt_64 : decode cX12_cheapAt 64 = .ok (.iload 6, 2) := by decide +kernel
theorem dX12_cheapAt_66 : decode cX12_cheapAt 66 = .ok (.iload_n 1, 1) := by decide +kernel
theorem dX12_cheapAt_67 : decode cX12_cheapAt 67 = .ok (.ishr, 1) := by decide +kernel
theorem dX12_cheapAt_68 : decode cX12_cheapAt 68 = .ok (.iconst 1, 1) := by decide +kernel
theorem dX12_cheapAt_69 : decode cX12_cheapAt 69 = .ok (.iand, 1) := by decide +kernel
theorem dX12_cheapAt_70 : decode cX12_cheapAt 70 = .ok (.ifCond .ne 188, 3) := by decide +kernel
theorem dX12_cheapAt_73 : decode cX12_cheapAt 73 = .ok (.aload_n 0, 1) := by decide +kernel
theorem dX12_cheapAt_74 : decode cX12_cheapAt 74 = .ok (.iload 8, 2) := by decide +kernel
theorem dX12_cheapAt_76 : decode cX12_cheapAt 76 = .ok (.iload_n 2, 1) := by decide +kernel
theorem dX12_cheapAt_77 : decode cX12_cheapAt 77 = .ok (.invokevirtual 505, 3) := by decide +kernel
theorem dX12_cheapAt_80 : decode cX12_cheapAt 80 = .ok (.iconst (-1), 1) := by decide +kernel
theorem dX12_cheapAt_81 : decode cX12_cheapAt 81 = .ok (.istore 9, 2) := by decide +kernel
theorem dX12_cheapAt_83 : decode cX12_cheapAt 83 = .ok (.iconst 0, 1) := by decide +kernel
theorem dX12_cheapAt_84 : decode cX12_cheapAt 84 = .ok (.istore 10, 2) := by decide +kernel
theorem dX12_cheapAt_86 : decode cX12_cheapAt 86 = .ok (.iload 10, 2) := by decide +kernel
theorem dX12_cheapAt_88 : decode cX12_cheapAt 88 = .ok (.aload_n 0, 1) := by decide +kernel
theorem dX12_cheapAt_89 : decode cX12_cheapAt 89 = .ok (.getfield 498, 3) := by decide +kernel
theorem dX12_cheapAt_92 : decode cX12_cheapAt 92 = .ok (.if_icmp .ge 93, 3) := by decide +kernel
theorem dX12_cheapAt_95 : decode cX12_cheapAt 95 = .ok (.iload 9, 2) := by decide +kernel
theorem dX12_cheapAt_97 : decode cX12_cheapAt 97 = .ok (.iconst (-1), 1) := by decide +kernel
theorem dX12_cheapAt_98 : decode cX12_cheapAt 98 = .ok (.if_icmp .ne 87, 3) := by decide +kernel
theorem dX12_cheapAt_101 : decode cX12_cheapAt 101 = .ok (.aload_n 0, 1) := by decide +kernel
theorem dX12_cheapAt_102 : decode cX12_cheapAt 102 = .ok (.iload 10, 2) := by decide +kernel
theorem dX12_cheapAt_104 : decode cX12_cheapAt 104 = .ok (.iload 6, 2) := by decide +kernel
theorem dX12_cheapAt_106 : decode cX12_cheapAt 106 = .ok (.invokevirtual 508, 3) := by decide +kernel
theorem dX12_cheapAt_109 : decode cX12_cheapAt 109 = .ok (.ifCond .ne 6, 3) := by decide +kernel
theorem dX12_cheapAt_112 : decode cX12_cheapAt 112 = .ok (.goto 67, 3) := by decide +kernel
theorem dX12_cheapAt_115 : decode cX12_cheapAt 115 = .ok (.aload_n 0, 1) := by decide +kernel
theorem dX12_cheapAt_116 : decode cX12_cheapAt 116 = .ok (.getfield 182, 3) := by decide +kernel
theorem dX12_cheapAt_119 : decode cX12_cheapAt 119 = .ok (.sipush 1024, 3) := by decide +kernel
theorem dX12_cheapAt_122 : decode cX12_cheapAt 122 = .ok (.iload 8, 2) := by decide +kernel
theorem dX12_cheapAt_124 : decode cX12_cheapAt 124 = .ok (.imul, 1) := by decide +kernel
theorem dX12_cheapAt_125 : decode cX12_cheapAt 125 = .ok (.sipush 1024, 3) := by decide +kernel
theorem dX12_cheapAt_128 : decode cX12_cheapAt 128 = .ok (.iadd, 1) := by decide +kernel
theorem dX12_cheapAt_129 : decode cX12_cheapAt 129 = .ok (.iload 6, 2) := by decide +kernel
theorem dX12_cheapAt_131 : decode cX12_cheapAt 131 = .ok (.aload_n 0, 1) := by decide +kernel
theorem dX12_cheapAt_132 : decode cX12_cheapAt 132 = .ok (.getfield 194, 3) := by decide +kernel
theorem dX12_cheapAt_135 : decode cX12_cheapAt 135 = .ok (.iload 10, 2) := by decide +kernel
theorem dX12_cheapAt_137 : decode cX12_cheapAt 137 = .ok (.iaload, 1) := by decide +kernel
theorem dX12_cheapAt_138 : decode cX12_cheapAt 138 = .ok (.ior, 1) := by decide +kernel
theorem dX12_cheapAt_139 : decode cX12_cheapAt 139 = .ok (.iadd, 1) := by decide +kernel
theorem dX12_cheapAt_140 : decode cX12_cheapAt 140 = .ok (.iaload, 1) := by decide +kernel
theorem dX12_cheapAt_141 : decode cX12_cheapAt 141 = .ok (.istore 11, 2) := by decide +kernel
theorem dX12_cheapAt_143 : decode cX12_cheapAt 143 = .ok (.iload 11, 2) := by decide +kernel
theorem dX12_cheapAt_145 : decode cX12_cheapAt 145 = .ok (.iconst (-1), 1) := by decide +kernel
theorem dX12_cheapAt_146 : decode cX12_cheapAt 146 = .ok (.if_icmp .eq 33, 3) := by decide +kernel
theorem dX12_cheapAt_149 : decode cX12_cheapAt 149 = .ok (.iload 11, 2) := by decide +kernel
theorem dX12_cheapAt_151 : decode cX12_cheapAt 151 = .ok (.aload_n 0, 1) := by decide +kernel
theorem dX12_cheapAt_152 : decode cX12_cheapAt 152 = .ok (.iload 10, 2) := by decide +kernel
theorem dX12_cheapAt_154 : decode cX12_cheapAt 154 = .ok (.invokevirtual 511, 3) := by decide +kernel
theorem dX12_cheapAt_157 : decode cX12_cheapAt 157 = .ok (.iadd, 1) := by decide +kernel
theorem dX12_cheapAt_158 : decode cX12_cheapAt 158 = .ok (.aload_n 0, 1) := by decide +kernel
theorem dX12_cheapAt_159 : decode cX12_cheapAt 159 = .ok (.getfield 182, 3) := by decide +kernel
theorem dX12_cheapAt_162 : decode cX12_cheapAt 162 = .ok (.sipush 1024, 3) := by decide +kernel
theorem dX12_cheapAt_165 : decode cX12_cheapAt 165 = .ok (.iload 8, 2) := by decide +kernel
theorem dX12_cheapAt_167 : decode cX12_cheapAt 167 = .ok (.imul, 1) := by decide +kernel
theorem dX12_cheapAt_168 : decode cX12_cheapAt 168 = .ok (.iload 6, 2) := by decide +kernel
theorem dX12_cheapAt_170 : decode cX12_cheapAt 170 = .ok (.iadd, 1) := by decide +kernel
theorem dX12_cheapAt_171 : decode cX12_cheapAt 171 = .ok (.iaload, 1) := by decide +kernel
theorem dX12_cheapAt_172 : decode cX12_cheapAt 172 = .ok (.if_icmp .ne 7, 3) := by decide +kernel
theorem dX12_cheapAt_175 : decode cX12_cheapAt 175 = .ok (.iload 10, 2) := by decide +kernel
theorem dX12_cheapAt_177 : decode cX12_cheapAt 177 = .ok (.istore 9, 2) := by decide +kernel
theorem dX12_cheapAt_179 : decode cX12_cheapAt 179 = .ok (.iinc 10 1, 3) := by decide +kernel
theorem dX12_cheapAt_182 : decode cX12_cheapAt 182 = .ok (.goto (-96), 3) := by decide +kernel
theorem dX12_cheapAt_185 : decode cX12_cheapAt 185 = .ok (.iload 9, 2) := by decide +kernel
theorem dX12_cheapAt_187 : decode cX12_cheapAt 187 = .ok (.iconst (-1), 1) := by decide +kernel
theorem dX12_cheapAt_188 : decode cX12_cheapAt 188 = .ok (.if_icmp .ne 6, 3) := by decide +kernel
theorem dX12_cheapAt_191 : decode cX12_cheapAt 191 = .ok (.goto 61, 3) := by decide +kernel
theorem dX12_cheapAt_194 : decode cX12_cheapAt 194 = .ok (.iload 7, 2) := by decide +kernel
theorem dX12_cheapAt_196 : decode cX12_cheapAt 196 = .ok (.ifCond .ne 41, 3) := by decide +kernel
theorem dX12_cheapAt_199 : decode cX12_cheapAt 199 = .ok (.sipush 10000, 3) := by decide +kernel
theorem dX12_cheapAt_202 : decode cX12_cheapAt 202 = .ok (.iload 8, 2) := by decide +kernel
theorem dX12_cheapAt_204 : decode cX12_cheapAt 204 = .ok (.imul, 1) := by decide +kernel
theorem dX12_cheapAt_205 : decode cX12_cheapAt 205 = .ok (.sipush 1000, 3) := by decide +kernel
theorem dX12_cheapAt_208 : decode cX12_cheapAt 208 = .ok (.aload_n 0, 1) := by decide +kernel
theorem dX12_cheapAt_209 : decode cX12_cheapAt 209 = .ok (.getfield 185, 3) := by decide +kernel
theorem dX12_cheapAt_212 : decode cX12_cheapAt 212 = .ok (.iload 9, 2) := by decide +kernel
theorem dX12_cheapAt_214 : decode cX12_cheapAt 214 = .ok (.iaload, 1) := by decide +kernel
theorem dX12_cheapAt_215 : decode cX12_cheapAt 215 = .ok (.imul, 1) := by decide +kernel
theorem dX12_cheapAt_216 : decode cX12_cheapAt 216 = .ok (.iadd, 1) := by decide +kernel
theorem dX12_cheapAt_217 : decode cX12_cheapAt 217 = .ok (.bipush 20, 2) := by decide +kernel
theorem dX12_cheapAt_219 : decode cX12_cheapAt 219 = .ok (.aload_n 0, 1) := by decide +kernel
theorem dX12_cheapAt_220 : decode cX12_cheapAt 220 = .ok (.getfield 188, 3) := by decide +kernel
theorem dX12_cheapAt_223 : decode cX12_cheapAt 223 = .ok (.iload 9, 2) := by decide +kernel
theorem dX12_cheapAt_225 : decode cX12_cheapAt 225 = .ok (.iaload, 1) := by decide +kernel
theorem dX12_cheapAt_226 : decode cX12_cheapAt 226 = .ok (.imul, 1) := by decide +kernel
theorem dX12_cheapAt_227 : decode cX12_cheapAt 227 = .ok (.iadd, 1) := by decide +kernel
theorem dX12_cheapAt_228 : decode cX12_cheapAt 228 = .ok (.aload_n 0, 1) := by decide +kernel
theorem dX12_cheapAt_229 : decode cX12_cheapAt 229 = .ok (.getfield 191, 3) := by decide +kernel
theorem dX12_cheapAt_232 : decode cX12_cheapAt 232 = .ok (.iload 9, 2) := by decide +kernel
theorem dX12_cheapAt_234 : decode cX12_cheapAt 234 = .ok (.iaload, 1) := by decide +kernel
theorem dX12_cheapAt_235 : decode cX12_cheapAt 235 = .ok (.iadd, 1) := by decide +kernel
theorem dX12_cheapAt_236 : decode cX12_cheapAt 236 = .ok (.ireturn, 1) := by decide +kernel
theorem dX12_cheapAt_237 : decode cX12_cheapAt 237 = .ok (.iinc 7 (-1), 3) := by decide +kernel
theorem dX12_cheapAt_240 : decode cX12_cheapAt 240 = .ok (.iload 6, 2) := by decide +kernel
theorem dX12_cheapAt_242 : decode cX12_cheapAt 242 = .ok (.aload_n 0, 1) := by decide +kernel
