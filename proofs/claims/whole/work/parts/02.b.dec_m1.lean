theorem dX12_tell_534 : decode cX12_tell 534 = .ok (.getfield 263, 3) := by decide +kernel
theorem dX12_tell_537 : decode cX12_tell 537 = .ok (.iaload, 1) := by decide +kernel
theorem dX12_tell_538 : decode cX12_tell 538 = .ok (.bipush 30, 2) := by decide +kernel
theorem dX12_tell_540 : decode cX12_tell 540 = .ok (.isub, 1) := by decide +kernel
theorem dX12_tell_541 : decode cX12_tell 541 = .ok (.invokevirtual 351, 3) := by decide +kernel
theorem dX12_tell_544 : decode cX12_tell 544 = .ok (.goto 8, 3) := by decide +kernel
theorem dX12_tell_547 : decode cX12_tell 547 = .ok (.aload_n 0, 1) := by decide +kernel
theorem dX12_tell_548 : decode cX12_tell 548 = .ok (.iconst 1, 1) := by decide +kernel
theorem dX12_tell_549 : decode cX12_tell 549 = .ok (.invokevirtual 275, 3) := by decide +kernel
theorem dX12_tell_552 : decode cX12_tell 552 = .ok (.return_, 1) := by decide +kernel
theorem dX12_named_0 : decode cX12_named 0 = .ok (.aload_n 0, 1) := by decide +kernel
theorem dX12_named_1 : decode cX12_named 1 = .ok (.getfield 263, 3) := by decide +kernel
theorem dX12_named_4 : decode cX12_named 4 = .ok (.istore_n 1, 1) := by decide +kernel
theorem dX12_named_5 : decode cX12_named 5 = .ok (.aload_n 0, 1) := by decide +kernel
theorem dX12_named_6 : decode cX12_named 6 = .ok (.iconst 1, 1) := by decide +kernel
theorem dX12_named_7 : decode cX12_named 7 = .ok (.invokevirtual 314, 3) := by decide +kernel
theorem dX12_named_10 : decode cX12_named 10 = .ok (.iconst 0, 1) := by decide +kernel
theorem dX12_named_11 : decode cX12_named 11 = .ok (.istore_n 2, 1) := by decide +kernel
theorem dX12_named_12 : decode cX12_named 12 = .ok (.iload_n 2, 1) := by decide +kernel
theorem dX12_named_13 : decode cX12_named 13 = .ok (.aload_n 0, 1) := by decide +kernel
theorem dX12_named_14 : decode cX12_named 14 = .ok (.getfield 296, 3) := by decide +kernel
theorem dX12_named_17 : decode cX12_named 17 = .ok (.if_icmp .ge 38, 3) := by decide +kernel
theorem dX12_named_20 : decode cX12_named 20 = .ok (.aload_n 0, 1) := by decide +kernel
theorem dX12_named_21 : decode cX12_named 21 = .ok (.getfield 260, 3) := by decide +kernel
theorem dX12_named_24 : decode cX12_named 24 = .ok (.ifCond .ne 31, 3) := by decide +kernel
theorem dX12_named_27 : decode cX12_named 27 = .ok (.aload_n 0, 1) := by decide +kernel
theorem dX12_named_28 : decode cX12_named 28 = .ok (.getfield 40, 3) := by decide +kernel
theorem dX12_named_31 : decode cX12_named 31 = .ok (.iload_n 2, 1) := by decide +kernel
theorem dX12_named_32 : decode cX12_named 32 = .ok (.laload, 1) := by decide +kernel
theorem dX12_named_33 : decode cX12_named 33 = .ok (.aload_n 0, 1) := by decide +kernel
theorem dX12_named_34 : decode cX12_named 34 = .ok (.getfield 30, 3) := by decide +kernel
theorem dX12_named_37 : decode cX12_named 37 = .ok (.iload_n 1, 1) := by decide +kernel
theorem dX12_named_38 : decode cX12_named 38 = .ok (.laload, 1) := by decide +kernel
theorem dX12_named_39 : decode cX12_named 39 = .ok (.lcmp, 1) := by decide +kernel
theorem dX12_named_40 : decode cX12_named 40 = .ok (.ifCond .ne 9, 3) := by decide +kernel
theorem dX12_named_43 : decode cX12_named 43 = .ok (.aload_n 0, 1) := by decide +kernel
theorem dX12_named_44 : decode cX12_named 44 = .ok (.iconst 3, 1) := by decide +kernel
theorem dX12_named_45 : decode cX12_named 45 = .ok (.iload_n 1, 1) := by decide +kernel
theorem dX12_named_46 : decode cX12_named 46 = .ok (.invokevirtual 341, 3) := by decide +kernel
theorem dX12_named_49 : decode cX12_named 49 = .ok (.iinc 2 1, 3) := by decide +kernel
theorem dX12_named_52 : decode cX12_named 52 = .ok (.goto (-40), 3) := by decide +kernel
theorem dX12_named_55 : decode cX12_named 55 = .ok (.iload_n 1, 1) := by decide +kernel
theorem dX12_named_56 : decode cX12_named 56 = .ok (.ireturn, 1) := by decide +kernel
theorem dX12_notes_0 : decode cX12_notes 0 = .ok (.aload_n 0, 1) := by decide +kernel
theorem dX12_notes_1 : decode cX12_notes 1 = .ok (.getfield 260, 3) := by decide +kernel
theorem dX12_notes_4 : decode cX12_notes 4 = .ok (.ifCond .le 4, 3) := by decide +kernel
theorem dX12_notes_7 : decode cX12_notes 7 = .ok (.return_, 1) := by decide +kernel
theorem dX12_notes_8 : decode cX12_notes 8 = .ok (.aload_n 0, 1) := by decide +kernel
theorem dX12_notes_9 : decode cX12_notes 9 = .ok (.getfield 40, 3) := by decide +kernel
theorem dX12_notes_12 : decode cX12_notes 12 = .ok (.aload_n 0, 1) := by decide +kernel
theorem dX12_notes_13 : decode cX12_notes 13 = .ok (.getfield 296, 3) := by decide +kernel
theorem dX12_notes_16 : decode cX12_notes 16 = .ok (.aload_n 0, 1) := by decide +kernel
theorem dX12_notes_17 : decode cX12_notes 17 = .ok (.getfield 30, 3) := by decide +kernel
theorem dX12_notes_20 : decode cX12_notes 20 = .ok (.iload_n 1, 1) := by decide +kernel
theorem dX12_notes_21 : decode cX12_notes 21 = .ok (.laload, 1) := by decide +kernel
theorem dX12_notes_22 : decode cX12_notes 22 = .ok (.lastore, 1) := by decide +kernel
theorem dX12_notes_23 : decode cX12_notes 23 = .ok (.aload_n 0, 1) := by decide +kernel
theorem dX12_notes_24 : decode cX12_notes 24 = .ok (.getfield 43, 3) := by decide +kernel
theorem dX12_notes_27 : decode cX12_notes 27 = .ok (.aload_n 0, 1) := by decide +kernel
theorem dX12_notes_28 : decode cX12_notes 28 = .ok (.getfield 296, 3) := by decide +kernel
theorem dX12_notes_31 : decode cX12_notes 31 = .ok (.iload_n 2, 1) := by decide +kernel
theorem dX12_notes_32 : decode cX12_notes 32 = .ok (.iastore, 1) := by decide +kernel
theorem dX12_notes_33 : decode cX12_notes 33 = .ok (.aload_n 0, 1) := by decide +kernel
theorem dX12_notes_34 : decode cX12_notes 34 = .ok (.getfield 46, 3) := by decide +kernel
theorem dX12_notes_37 : decode cX12_notes 37 = .ok (.aload_n 0, 1) := by decide +kernel
theorem dX12_notes_38 : decode cX12_notes 38 = .ok (.getfield 296, 3) := by decide +kernel
theorem dX12_notes_41 : decode cX12_notes 41 = .ok (.iload_n 3, 1) := by decide +kernel
theorem dX12_notes_42 : decode cX12_notes 42 = .ok (.iastore, 1) := by decide +kernel
theorem dX12_notes_43 : decode cX12_notes 43 = .ok (.aload_n 0, 1) := by decide +kernel
theorem dX12_notes_44 : decode cX12_notes 44 = .ok (.dup, 1) := by decide +kernel
theorem dX12_notes_45 : decode cX12_notes 45 = .ok (.getfield 296, 3) := by decide +kernel
theorem dX12_notes_48 : decode cX12_notes 48 = .ok (.iconst 1, 1) := by decide +kernel
theorem dX12_notes_49 : decode cX12_notes 49 = .ok (.iadd, 1) := by decide +kernel
theorem dX12_notes_50 : decode cX12_notes 50 = .ok (.putfield 296, 3) := by decide +kernel
theorem dX12_notes_53 : decode cX12_notes 53 = .ok (.return_, 1) := by decide +kernel
theorem dX12_known_0 : decode cX12_known 0 = .ok (.aload_n 0, 1) := by decide +kernel
theorem dX12_known_1 : decode cX12_known 1 = .ok (.getfield 263, 3) := by decide +kernel
theorem dX12_known_4 : decode cX12_known 4 = .ok (.istore_n 2, 1) := by decide +kernel
theorem dX12_known_5 : decode cX12_known 5 = .ok (.aload_n 0, 1) := by decide +kernel
theorem dX12_known_6 : decode cX12_known 6 = .ok (.iconst 1, 1) := by decide +kernel
theorem dX12_known_7 : decode cX12_known 7 = .ok (.invokevirtual 314, 3) := by decide +kernel
theorem dX12_known_10 : decode cX12_known 10 = .ok (.aload_n 0, 1) := by decide +kernel
theorem dX12_known_11 : decode cX12_known 11 = .ok (.getfield 260, 3) := by decide +kernel
theorem dX12_known_14 : decode cX12_known 14 = .ok (.ifCond .le 5, 3) := by decide +kernel
theorem dX12_known_17 : decode cX12_known 17 = .ok (.iconst (-1), 1) := by decide +kernel
theorem dX12_known_18 : decode cX12_known 18 = .ok (.ireturn, 1) := by decide +kernel
theorem dX12_known_19 : decode cX12_known 19 = .ok (.iconst (-1), 1) := by decide +kernel
theorem dX12_known_20 : decode cX12_known 20 = .ok (.istore_n 3, 1) := by decide +kernel
theorem dX12_known_21 : decode cX12_known 21 = .ok (.iconst 0, 1) := by decide +kernel
theorem dX12_known_22 : decode cX12_known 22 = .ok (.istore 4, 2) := by decide +kernel
theorem dX12_known_24 : decode cX12_known 24 = .ok (.iload 4, 2) := by decide +kernel
theorem dX12_known_26 : decode cX12_known 26 = .ok (.aload_n 0, 1) := by decide +kernel
theorem dX12_known_27 : decode cX12_known 27 = .ok (.getfield 296, 3) := by decide +kernel
theorem dX12_known_30 : decode cX12_known 30 = .ok (.if_icmp .ge 50, 3) := by decide +kernel
theorem dX12_known_33 : decode cX12_known 33 = .ok (.iload_n 3, 1) := by decide +kernel
theorem dX12_known_34 : decode cX12_known 34 = .ok (.iconst (-1), 1) := by decide +kernel
theorem dX12_known_35 : decode cX12_known 35 = .ok (.if_icmp .ne 39, 3) := by decide +kernel
theorem dX12_known_38 : decode cX12_known 38 = .ok (.aload_n 0, 1) := by decide +kernel
theorem dX12_known_39 : decode cX12_known 39 = .ok (.getfield 40, 3) := by decide +kernel
theorem dX12_known_42 : decode cX12_known 42 = .ok (.iload 4, 2) := by decide +kernel
theorem dX12_known_44 : decode cX12_known 44 = .ok (.laload, 1) := by decide +kernel
theorem dX12_known_45 : decode cX12_known 45 = .ok (.aload_n 0, 1) := by decide +kernel
theorem dX12_known_46 : decode cX12_known 46 = .ok (.getfield 30, 3) := by decide +kernel
theorem dX12_known_49 : decode cX12_known 49 = .ok (.iload_n 2, 1) := by decide +kernel
theorem dX12_known_50 : decode cX12_known 50 = .ok (.laload, 1) := by decide +kernel
theorem dX12_known_51 : decode cX12_known 51 = .ok (.lcmp, 1) := by decide +kernel
theorem dX12_known_52 : decode cX12_known 52 = .ok (.ifCond .ne 22, 3) := by decide +kernel
theorem dX12_known_55 : decode cX12_known 55 = .ok (.aload_n 0, 1) := by decide +kernel
theorem dX12_known_56 : decode cX12_known 56 = .ok (.getfield 43, 3) := by decide +kernel
theorem dX12_known_59 : decode cX12_known 59 = .ok (.iload 4, 2) := by decide +kernel
theorem dX12_known_61 : decode cX12_known 61 = .ok (.iaload, 1) := by decide +kernel
theorem dX12_known_62 : decode cX12_known 62 = .ok (.iload_n 1, 1) := by decide +kernel
theorem dX12_known_63 : decode cX12_known 63 = .ok (.if_icmp .ne 11, 3) := by decide +kernel
theorem dX12_known_66 : decode cX12_known 66 = .ok (.aload_n 0, 1) := by decide +kernel
theorem dX12_known_67 : decode cX12_known 67 = .ok (.getfield 46, 3) := by decide +kernel
theorem dX12_known_70 : decode cX12_known 70 = .ok (.iload 4, 2) := by decide +kernel
theorem dX12_known_72 : decode cX12_known 72 = .ok (.iaload, 1) := by decide +kernel
theorem dX12_known_73 : decode cX12_known 73 = .ok (.istore_n 3, 1) := by decide +kernel
theorem dX12_known_74 : decode cX12_known 74 = .ok (.iinc 4 1, 3) := by decide +kernel
theorem dX12_known_77 : decode cX12_known 77 = .ok (.goto (-53), 3) := by decide +kernel
theorem dX12_known_80 : decode cX12_known 80 = .ok (.iload_n 3, 1) := by decide +kernel
theorem dX12_known_81 : decode cX12_known 81 = .ok (.iconst (-1), 1) := by decide +kernel
theorem dX12_known_82 : decode cX12_known 82 = .ok (.if_icmp .ne 9, 3) := by decide +kernel
theorem dX12_known_85 : decode cX12_known 85 = .ok (.aload_n 0, 1) := by decide +kernel
theorem dX12_known_86 : decode cX12_known 86 = .ok (.iconst 4, 1) := by decide +kernel
theorem dX12_known_87 : decode cX12_known 87 = .ok (.iload_n 2, 1) := by decide +kernel
theorem dX12_known_88 : decode cX12_known 88 = .ok (.invokevirtual 341, 3) := by decide +kernel
theorem dX12_known_91 : decode cX12_known 91 = .ok (.iload_n 3, 1) := by decide +kernel
theorem dX12_known_92 : decode cX12_known 92 = .ok (.ireturn, 1) := by decide +kernel
theorem dX12_bounded_0 : decode cX12_bounded 0 = .ok (.aload_n 0, 1) := by decide +kernel
theorem dX12_bounded_1 : decode cX12_bounded 1 = .ok (.getfield 260, 3) := by decide +kernel
theorem dX12_bounded_4 : decode cX12_bounded 4 = .ok (.ifCond .gt 11, 3) := by decide +kernel
theorem dX12_bounded_7 : decode cX12_bounded 7 = .ok (.aload_n 0, 1) := by decide +kernel
theorem dX12_bounded_8 : decode cX12_bounded 8 = .ok (.iconst 2, 1) := by decide +kernel
theorem dX12_bounded_9 : decode cX12_bounded 9 = .ok (.invokevirtual 278, 3) := by decide +kernel
theorem dX12_bounded_12 : decode cX12_bounded 12 = .ok (.ifCond .ne 10, 3) := by decide +kernel
theorem dX12_bounded_15 : decode cX12_bounded 15 = .ok (.aload_n 0, 1) := by decide +kernel
theorem dX12_bounded_16 : decode cX12_bounded 16 = .ok (.iconst 1, 1) := by decide +kernel
theorem dX12_bounded_17 : decode cX12_bounded 17 = .ok (.invokevirtual 275, 3) := by decide +kernel
theorem dX12_bounded_20 : decode cX12_bounded 20 = .ok (.iload_n 1, 1) := by decide +kernel
theorem dX12_bounded_21 : decode cX12_bounded 21 = .ok (.ireturn, 1) := by decide +kernel
theorem dX12_bounded_22 : decode cX12_bounded 22 = .ok (.aload_n 0, 1) := by decide +kernel
theorem dX12_bounded_23 : decode cX12_bounded 23 = .ok (.getfield 27, 3) := by decide +kernel
theorem dX12_bounded_26 : decode cX12_bounded 26 = .ok (.aload_n 0, 1) := by decide +kernel
theorem dX12_bounded_27 : decode cX12_bounded 27 = .ok (.getfield 263, 3) := by decide +kernel
theorem dX12_bounded_30 : decode cX12_bounded 30 = .ok (.iaload, 1) := by decide +kernel
theorem dX12_bounded_31 : decode cX12_bounded 31 = .ok (.istore_n 3, 1) := by decide +kernel
theorem dX12_bounded_32 : decode cX12_bounded 32 = .ok (.iload_n 3, 1) := by decide +kernel
theorem dX12_bounded_33 : decode cX12_bounded 33 = .ok (.iload_n 1, 1) := by decide +kernel
theorem dX12_bounded_34 : decode cX12_bounded 34 = .ok (.if_icmp .lt 8, 3) := by decide +kernel
theorem dX12_bounded_37 : decode cX12_bounded 37 = .ok (.iload_n 3, 1) := by decide +kernel
theorem dX12_bounded_38 : decode cX12_bounded 38 = .ok (.iload_n 2, 1) := by decide +kernel
theorem dX12_bounded_39 : decode cX12_bounded 39 = .ok (.if_icmp .le 12, 3) := by decide +kernel
theorem dX12_bounded_42 : decode cX12_bounded 42 = .ok (.aload_n 0, 1) := by decide +kernel
theorem dX12_bounded_43 : decode cX12_bounded 43 = .ok (.iconst 5, 1) := by decide +kernel
theorem dX12_bounded_44 : decode cX12_bounded 44 = .ok (.aload_n 0, 1) := by decide +kernel
theorem dX12_bounded_45 : decode cX12_bounded 45 = .ok (.getfield 263, 3) := by decide +kernel
theorem dX12_bounded_48 : decode cX12_bounded 48 = .ok (.invokevirtual 341, 3) := by decide +kernel
theorem dX12_bounded_51 : decode cX12_bounded 51 = .ok (.aload_n 0, 1) := by decide +kernel
theorem dX12_bounded_52 : decode cX12_bounded 52 = .ok (.invokevirtual 281, 3) := by decide +kernel
theorem dX12_bounded_55 : decode cX12_bounded 55 = .ok (.iload_n 3, 1) := by decide +kernel
theorem dX12_bounded_56 : decode cX12_bounded 56 = .ok (.ireturn, 1) := by decide +kernel
theorem dX12_tellPerson_0 : decode cX12_tellPerson 0 = .ok (.aload_n 0, 1) := by decide +kernel
theorem dX12_tellPerson_1 : decode cX12_tellPerson 1 = .ok (.iconst 1, 1) := by decide +kernel
theorem dX12_tellPerson_2 : decode cX12_tellPerson 2 = .ok (.invokevirtual 317, 3) := by decide +kernel
theorem dX12_tellPerson_5 : decode cX12_tellPerson 5 = .ok (.istore_n 1, 1) := by decide +kernel
theorem dX12_tellPerson_6 : decode cX12_tellPerson 6 = .ok (.aload_n 0, 1) := by decide +kernel
theorem dX12_tellPerson_7 : decode cX12_tellPerson 7 = .ok (.invokevirtual 320, 3) := by decide +kernel
theorem dX12_tellPerson_10 : decode cX12_tellPerson 10 = .ok (.istore_n 2, 1) := by decide +kernel
theorem dX12_tellPerson_11 : decode cX12_tellPerson 11 = .ok (.aload_n 0, 1) := by decide +kernel
theorem dX12_tellPerson_12 : decode cX12_tellPerson 12 = .ok (.iconst 0, 1) := by decide +kernel
theorem dX12_tellPerson_13 : decode cX12_tellPerson 13 = .ok (.bipush 99, 2) := by decide +kernel
theorem dX12_tellPerson_15 : decode cX12_tellPerson 15 = .ok (.invokevirtual 334, 3) := by decide +kernel
theorem dX12_tellPerson_18 : decode cX12_tellPerson 18 = .ok (.istore_n 3, 1) := by decide +kernel
theorem dX12_tellPerson_19 : decode cX12_tellPerson 19 = .ok (.bipush 99, 2) := by decide +kernel
theorem dX12_tellPerson_21 : decode cX12_tellPerson 21 = .ok (.istore 4, 2) := by decide +kernel
theorem dX12_tellPerson_23 : decode cX12_tellPerson 23 = .ok (.aload_n 0, 1) := by decide +kernel
theorem dX12_tellPerson_24 : decode cX12_tellPerson 24 = .ok (.getfield 260, 3) := by decide +kernel
theorem dX12_tellPerson_27 : decode cX12_tellPerson 27 = .ok (.ifCond .ne 25, 3) := by decide +kernel
theorem dX12_tellPerson_30 : decode cX12_tellPerson 30 = .ok (.aload_n 0, 1) := by decide +kernel
theorem dX12_tellPerson_31 : decode cX12_tellPerson 31 = .ok (.bipush 22, 2) := by decide +kernel
theorem dX12_tellPerson_33 : decode cX12_tellPerson 33 = .ok (.invokevirtual 278, 3) := by decide +kernel
theorem dX12_tellPerson_36 : decode cX12_tellPerson 36 = .ok (.ifCond .eq 16, 3) := by decide +kernel
theorem dX12_tellPerson_39 : decode cX12_tellPerson 39 = .ok (.aload_n 0, 1) := by decide +kernel
theorem dX12_tellPerson_40 : decode cX12_tellPerson 40 = .ok (.invokevirtual 281, 3) := by decide +kernel
theorem dX12_tellPerson_43 : decode cX12_tellPerson 43 = .ok (.aload_n 0, 1) := by decide +kernel
theorem dX12_tellPerson_44 : decode cX12_tellPerson 44 = .ok (.iconst 0, 1) := by decide +kernel
theorem dX12_tellPerson_45 : decode cX12_tellPerson 45 = .ok (.bipush 23, 2) := by decide +kernel
theorem dX12_tellPerson_47 : decode cX12_tellPerson 47 = .ok (.invokevirtual 334, 3) := by decide +kernel
theorem dX12_tellPerson_50 : decode cX12_tellPerson 50 = .ok (.istore 4, 2) := by decide +kernel
theorem dX12_tellPerson_52 : decode cX12_tellPerson 52 = .ok (.aload_n 0, 1) := by decide +kernel
theorem dX12_tellPerson_53 : decode cX12_tellPerson 53 = .ok (.iconst 1, 1) := by decide +kernel
theorem dX12_tellPerson_54 : decode cX12_tellPerson 54 = .ok (.invokevirtual 324, 3) := by decide +kernel
theorem dX12_tellPerson_57 : decode cX12_tellPerson 57 = .ok (.aload_n 0, 1) := by decide +kernel
theorem dX12_tellPerson_58 : decode cX12_tellPerson 58 = .ok (.iload_n 2, 1) := by decide +kernel
theorem dX12_tellPerson_59 : decode cX12_tellPerson 59 = .ok (.iconst 1, 1) := by decide +kernel
theorem dX12_tellPerson_60 : decode cX12_tellPerson 60 = .ok (.iload_n 1, 1) := by decide +kernel
theorem dX12_tellPerson_61 : decode cX12_tellPerson 61 = .ok (.invokevirtual 327, 3) := by decide +kernel
theorem dX12_tellPerson_64 : decode cX12_tellPerson 64 = .ok (.aload_n 0, 1) := by decide +kernel
theorem dX12_tellPerson_65 : decode cX12_tellPerson 65 = .ok (.getfield 260, 3) := by decide +kernel
theorem dX12_tellPerson_68 : decode cX12_tellPerson 68 = .ok (.ifCond .le 4, 3) := by decide +kernel
theorem dX12_tellPerson_71 : decode cX12_tellPerson 71 = .ok (.return_, 1) := by decide +kernel
theorem dX12_tellPerson_72 : decode cX12_tellPerson 72 = .ok (.aload_n 0, 1) := by decide +kernel
theorem dX12_tellPerson_73 : decode cX12_tellPerson 73 = .ok (.getfield 55, 3) := by decide +kernel
theorem dX12_tellPerson_76 : decode cX12_tellPerson 76 = .ok (.bipush 10, 2) := by decide +kernel
theorem dX12_tellPerson_78 : decode cX12_tellPerson 78 = .ok (.aload_n 0, 1) := by decide +kernel
theorem dX12_tellPerson_79 : decode cX12_tellPerson 79 = .ok (.getfield 293, 3) := by decide +kernel
theorem dX12_tellPerson_82 : decode cX12_tellPerson 82 = .ok (.imul, 1) := by decide +kernel
theorem dX12_tellPerson_83 : decode cX12_tellPerson 83 = .ok (.iload_n 1, 1) := by decide +kernel
theorem dX12_tellPerson_84 : decode cX12_tellPerson 84 = .ok (.iadd, 1) := by decide +kernel
theorem dX12_tellPerson_85 : decode cX12_tellPerson 85 = .ok (.iload_n 3, 1) := by decide +kernel
theorem dX12_tellPerson_86 : decode cX12_tellPerson 86 = .ok (.iastore, 1) := by decide +kernel
theorem dX12_tellPerson_87 : decode cX12_tellPerson 87 = .ok (.aload_n 0, 1) := by decide +kernel
theorem dX12_tellPerson_88 : decode cX12_tellPerson 88 = .ok (.getfield 58, 3) := by decide +kernel
theorem dX12_tellPerson_91 : decode cX12_tellPerson 91 = .ok (.bipush 10, 2) := by decide +kernel
theorem dX12_tellPerson_93 : decode cX12_tellPerson 93 = .ok (.aload_n 0, 1) := by decide +kernel
theorem dX12_tellPerson_94 : decode cX12_tellPerson 94 = .ok (.getfield 293, 3) := by decide +kernel
theorem dX12_tellPerson_97 : decode cX12_tellPerson 97 = .ok (.imul, 1) := by decide +kernel
theorem dX12_tellPerson_98 : decode cX12_tellPerson 98 = .ok (.iload_n 1, 1) := by decide +kernel
theorem dX12_tellPerson_99 : decode cX12_tellPerson 99 = .ok (.iadd, 1) := by decide +kernel
theorem dX12_tellPerson_100 : decode cX12_tellPerson 100 = .ok (.iload 4, 2) := by decide +kernel
theorem dX12_tellPerson_102 : decode cX12_tellPerson 102 = .ok (.iastore, 1) := by decide +kernel
theorem dX12_tellPerson_103 : decode cX12_tellPerson 103 = .ok (.return_, 1) := by decide +kernel
theorem dX12_tellStay_0 : decode cX12_tellStay 0 = .ok (.aload_n 0, 1) := by decide +kernel
theorem dX12_tellStay_1 : decode cX12_tellStay 1 = .ok (.iconst 4, 1) := by decide +kernel
theorem dX12_tellStay_2 : decode cX12_tellStay 2 = .ok (.invokevirtual 317, 3) := by decide +kernel
theorem dX12_tellStay_5 : decode cX12_tellStay 5 = .ok (.istore_n 1, 1) := by decide +kernel
theorem dX12_tellStay_6 : decode cX12_tellStay 6 = .ok (.aload_n 0, 1) := by decide +kernel
theorem dX12_tellStay_7 : decode cX12_tellStay 7 = .ok (.iconst 1, 1) := by decide +kernel
theorem dX12_tellStay_8 : decode cX12_tellStay 8 = .ok (.invokevirtual 338, 3) := by decide +kernel
theorem dX12_tellStay_11 : decode cX12_tellStay 11 = .ok (.istore_n 2, 1) := by decide +kernel
theorem dX12_tellStay_12 : decode cX12_tellStay 12 = .ok (.aload_n 0, 1) := by decide +kernel
theorem dX12_tellStay_13 : decode cX12_tellStay 13 = .ok (.iconst 0, 1) := by decide +kernel
theorem dX12_tellStay_14 : decode cX12_tellStay 14 = .ok (.invokevirtual 338, 3) := by decide +kernel
theorem dX12_tellStay_17 : decode cX12_tellStay 17 = .ok (.istore_n 3, 1) := by decide +kernel
theorem dX12_tellStay_18 : decode cX12_tellStay 18 = .ok (.aload_n 0, 1) := by decide +kernel
theorem dX12_tellStay_19 : decode cX12_tellStay 19 = .ok (.iconst 0, 1) := by decide +kernel
theorem dX12_tellStay_20 : decode cX12_tellStay 20 = .ok (.bipush 23, 2) := by decide +kernel
theorem dX12_tellStay_22 : decode cX12_tellStay 22 = .ok (.invokevirtual 334, 3) := by decide +kernel
theorem dX12_tellStay_25 : decode cX12_tellStay 25 = .ok (.istore 4, 2) := by decide +kernel
theorem dX12_tellStay_27 : decode cX12_tellStay 27 = .ok (.aload_n 0, 1) := by decide +kernel
theorem dX12_tellStay_28 : decode cX12_tellStay 28 = .ok (.iload 4, 2) := by decide +kernel
theorem dX12_tellStay_30 : decode cX12_tellStay 30 = .ok (.bipush 23, 2) := by decide +kernel
theorem dX12_tellStay_32 : decode cX12_tellStay 32 = .ok (.if_icmp .le 7, 3) := by decide +kernel
theorem dX12_tellStay_35 : decode cX12_tellStay 35 = .ok (.iconst 0, 1) := by decide +kernel
theorem dX12_tellStay_36 : decode cX12_tellStay 36 = .ok (.goto 5, 3) := by decide +kernel
theorem dX12_tellStay_39 : decode cX12_tellStay 39 = .ok (.iload 4, 2) := by decide +kernel
theorem dX12_tellStay_41 : decode cX12_tellStay 41 = .ok (.bipush 23, 2) := by decide +kernel
theorem dX12_tellStay_43 : decode cX12_tellStay 43 = .ok (.invokevirtual 334, 3) := by decide +kernel
theorem dX12_tellStay_46 : decode cX12_tellStay 46 = .ok (.istore 5, 2) := by decide +kernel
theorem dX12_tellStay_48 : decode cX12_tellStay 48 = .ok (.aload_n 0, 1) := by decide +kernel
theorem dX12_tellStay_49 : decode cX12_tellStay 49 = .ok (.iconst 4, 1) := by decide +kernel
theorem dX12_tellStay_50 : decode cX12_tellStay 50 = .ok (.invokevirtual 324, 3) := by decide +kernel
theorem dX12_tellStay_53 : decode cX12_tellStay 53 = .ok (.aload_n 0, 1) := by decide +kernel
theorem dX12_tellStay_54 : decode cX12_tellStay 54 = .ok (.getfield 260, 3) := by decide +kernel
theorem dX12_tellStay_57 : decode cX12_tellStay 57 = .ok (.ifCond .le 4, 3) := by decide +kernel
theorem dX12_tellStay_60 : decode cX12_tellStay 60 = .ok (.return_, 1) := by decide +kernel
theorem dX12_tellStay_61 : decode cX12_tellStay 61 = .ok (.aload_n 0, 1) := by decide +kernel
theorem dX12_tellStay_62 : decode cX12_tellStay 62 = .ok (.getfield 70, 3) := by decide +kernel
theorem dX12_tellStay_65 : decode cX12_tellStay 65 = .ok (.bipush 20, 2) := by decide +kernel
theorem dX12_tellStay_67 : decode cX12_tellStay 67 = .ok (.aload_n 0, 1) := by decide +kernel
theorem dX12_tellStay_68 : decode cX12_tellStay 68 = .ok (.getfield 293, 3) := by decide +kernel
theorem dX12_tellStay_71 : decode cX12_tellStay 71 = .ok (.imul, 1) := by decide +kernel
theorem dX12_tellStay_72 : decode cX12_tellStay 72 = .ok (.iload_n 1, 1) := by decide +kernel
theorem dX12_tellStay_73 : decode cX12_tellStay 73 = .ok (.iadd, 1) := by decide +kernel
theorem dX12_tellStay_74 : decode cX12_tellStay 74 = .ok (.iload_n 2, 1) := by decide +kernel
theorem dX12_tellStay_75 : decode cX12_tellStay 75 = .ok (.iastore, 1) := by decide +kernel
theorem dX12_tellStay_76 : decode cX12_tellStay 76 = .ok (.aload_n 0, 1) := by decide +kernel
theorem dX12_tellStay_77 : decode cX12_tellStay 77 = .ok (.getfield 73, 3) := by decide +kernel
theorem dX12_tellStay_80 : decode cX12_tellStay 80 = .ok (.bipush 20, 2) := by decide +kernel
theorem dX12_tellStay_82 : decode cX12_tellStay 82 = .ok (.aload_n 0, 1) := by decide +kernel
theorem dX12_tellStay_83 : decode cX12_tellStay 83 = .ok (.getfield 293, 3) := by decide +kernel
theorem dX12_tellStay_86 : decode cX12_tellStay 86 = .ok (.imul, 1) := by decide +kernel
theorem dX12_tellStay_87 : decode cX12_tellStay 87 = .ok (.iload_n 1, 1) := by decide +kernel
theorem dX12_tellStay_88 : decode cX12_tellStay 88 = .ok (.iadd, 1) := by decide +kernel
theorem dX12_tellStay_89 : decode cX12_tellStay 89 = .ok (.iload_n 3, 1) := by decide +kernel
theorem dX12_tellStay_90 : decode cX12_tellStay 90 = .ok (.iastore, 1) := by decide +kernel
theorem dX12_tellStay_91 : decode cX12_tellStay 91 = .ok (.aload_n 0, 1) := by decide +kernel
theorem dX12_tellStay_92 : decode cX12_tellStay 92 = .ok (.getfield 76, 3) := by decide +kernel
theorem dX12_tellStay_95 : decode cX12_tellStay 95 = .ok (.bipush 20, 2) := by decide +kernel
theorem dX12_tellStay_97 : decode cX12_tellStay 97 = .ok (.aload_n 0, 1) := by decide +kernel
theorem dX12_tellStay_98 : decode cX12_tellStay 98 = .ok (.getfield 293, 3) := by decide +kernel
theorem dX12_tellStay_101 : decode cX12_tellStay 101 = .ok (.imul, 1) := by decide +kernel
theorem dX12_tellStay_102 : decode cX12_tellStay 102 = .ok (.iload_n 1, 1) := by decide +kernel
theorem dX12_tellStay_103 : decode cX12_tellStay 103 = .ok (.iadd, 1) := by decide +kernel
theorem dX12_tellStay_104 : decode cX12_tellStay 104 = .ok (.iload 4, 2) := by decide +kernel
theorem dX12_tellStay_106 : decode cX12_tellStay 106 = .ok (.iastore, 1) := by decide +kernel
theorem dX12_tellStay_107 : decode cX12_tellStay 107 = .ok (.aload_n 0, 1) := by decide +kernel
theorem dX12_tellStay_108 : decode cX12_tellStay 108 = .ok (.getfield 79, 3) := by decide +kernel
theorem dX12_tellStay_111 : decode cX12_tellStay 111 = .ok (.bipush 20, 2) := by decide +kernel
theorem dX12_tellStay_113 : decode cX12_tellStay 113 = .ok (.aload_n 0, 1) := by decide +kernel
theorem dX12_tellStay_114 : decode cX12_tellStay 114 = .ok (.getfield 293, 3) := by decide +kernel
theorem dX12_tellStay_117 : decode cX12_tellStay 117 = .ok (.imul, 1) := by decide +kernel
theorem dX12_tellStay_118 : decode cX12_tellStay 118 = .ok (.iload_n 1, 1) := by decide +kernel
theorem dX12_tellStay_119 : decode cX12_tellStay 119 = .ok (.iadd, 1) := by decide +kernel
theorem dX12_tellStay_120 : decode cX12_tellStay 120 = .ok (.iload 5, 2) := by decide +kernel
theorem dX12_tellStay_122 : decode cX12_tellStay 122 = .ok (.iastore, 1) := by decide +kernel
theorem dX12_tellStay_123 : decode cX12_tellStay 123 = .ok (.return_, 1) := by decide +kernel
theorem dX12_tellTask_0 : decode cX12_tellTask 0 = .ok (.aload_n 0, 1) := by decide +kernel
theorem dX12_tellTask_1 : decode cX12_tellTask 1 = .ok (.invokevirtual 281, 3) := by decide +kernel
theorem dX12_tellTask_4 : decode cX12_tellTask 4 = .ok (.aload_n 0, 1) := by decide +kernel
theorem dX12_tellTask_5 : decode cX12_tellTask 5 = .ok (.invokevirtual 320, 3) := by decide +kernel
theorem dX12_tellTask_8 : decode cX12_tellTask 8 = .ok (.istore_n 1, 1) := by decide +kernel
theorem dX12_tellTask_9 : decode cX12_tellTask 9 = .ok (.iconst 0, 1) := by decide +kernel
theorem dX12_tellTask_10 : decode cX12_tellTask 10 = .ok (.istore_n 2, 1) := by decide +kernel
theorem dX12_tellTask_11 : decode cX12_tellTask 11 = .ok (.aload_n 0, 1) := by decide +kernel
theorem dX12_tellTask_12 : decode cX12_tellTask 12 = .ok (.getfield 260, 3) := by decide +kernel
theorem dX12_tellTask_15 : decode cX12_tellTask 15 = .ok (.ifCond .ne 7, 3) := by decide +kernel
theorem dX12_tellTask_18 : decode cX12_tellTask 18 = .ok (.iconst 1, 1) := by decide +kernel
theorem dX12_tellTask_19 : decode cX12_tellTask 19 = .ok (.goto 4, 3) := by decide +kernel
theorem dX12_tellTask_22 : decode cX12_tellTask 22 = .ok (.iconst 0, 1) := by decide +kernel
theorem dX12_tellTask_23 : decode cX12_tellTask 23 = .ok (.istore_n 3, 1) := by decide +kernel
theorem dX12_tellTask_24 : decode cX12_tellTask 24 = .ok (.iload_n 3, 1) := by decide +kernel
theorem dX12_tellTask_25 : decode cX12_tellTask 25 = .ok (.ifCond .eq 94, 3) := by decide +kernel
theorem dX12_tellTask_28 : decode cX12_tellTask 28 = .ok (.aload_n 0, 1) := by decide +kernel
theorem dX12_tellTask_29 : decode cX12_tellTask 29 = .ok (.getfield 263, 3) := by decide +kernel
theorem dX12_tellTask_32 : decode cX12_tellTask 32 = .ok (.istore 4, 2) := by decide +kernel
theorem dX12_tellTask_34 : decode cX12_tellTask 34 = .ok (.aload_n 0, 1) := by decide +kernel
theorem dX12_tellTask_35 : decode cX12_tellTask 35 = .ok (.iconst 2, 1) := by decide +kernel
theorem dX12_tellTask_36 : decode cX12_tellTask 36 = .ok (.invokevirtual 338, 3) := by decide +kernel
theorem dX12_tellTask_39 : decode cX12_tellTask 39 = .ok (.istore 5, 2) := by decide +kernel
theorem dX12_tellTask_41 : decode cX12_tellTask 41 = .ok (.aload_n 0, 1) := by decide +kernel
theorem dX12_tellTask_42 : decode cX12_tellTask 42 = .ok (.getfield 260, 3) := by decide +kernel
theorem dX12_tellTask_45 : decode cX12_tellTask 45 = .ok (.ifCond .le 4, 3) := by decide +kernel
theorem dX12_tellTask_48 : decode cX12_tellTask 48 = .ok (.return_, 1) := by decide +kernel
theorem dX12_tellTask_49 : decode cX12_tellTask 49 = .ok (.iload 5, 2) := by decide +kernel
theorem dX12_tellTask_51 : decode cX12_tellTask 51 = .ok (.iconst (-1), 1) := by decide +kernel
theorem dX12_tellTask_52 : decode cX12_tellTask 52 = .ok (.if_icmp .eq 20, 3) := by decide +kernel
theorem dX12_tellTask_55 : decode cX12_tellTask 55 = .ok (.iload_n 2, 1) := by decide +kernel
theorem dX12_tellTask_56 : decode cX12_tellTask 56 = .ok (.iload 5, 2) := by decide +kernel
theorem dX12_tellTask_58 : decode cX12_tellTask 58 = .ok (.ishr, 1) := by decide +kernel
theorem dX12_tellTask_59 : decode cX12_tellTask 59 = .ok (.iconst 1, 1) := by decide +kernel
theorem dX12_tellTask_60 : decode cX12_tellTask 60 = .ok (.iand, 1) := by decide +kernel
theorem dX12_tellTask_61 : decode cX12_tellTask 61 = .ok (.iconst 1, 1) := by decide +kernel
theorem dX12_tellTask_62 : decode cX12_tellTask 62 = .ok (.if_icmp .ne 10, 3) := by decide +kernel
theorem dX12_tellTask_65 : decode cX12_tellTask 65 = .ok (.aload_n 0, 1) := by decide +kernel
theorem dX12_tellTask_66 : decode cX12_tellTask 66 = .ok (.iconst 3, 1) := by decide +kernel
theorem dX12_tellTask_67 : decode cX12_tellTask 67 = .ok (.iload 4, 2) := by decide +kernel
theorem dX12_tellTask_69 : decode cX12_tellTask 69 = .ok (.invokevirtual 341, 3) := by decide +kernel
theorem dX12_tellTask_72 : decode cX12_tellTask 72 = .ok (.iload 5, 2) := by decide +kernel
theorem dX12_tellTask_74 : decode cX12_tellTask 74 = .ok (.iconst (-1), 1) := by decide +kernel
theorem dX12_tellTask_75 : decode cX12_tellTask 75 = .ok (.if_icmp .eq 10, 3) := by decide +kernel
theorem dX12_tellTask_78 : decode cX12_tellTask 78 = .ok (.iload_n 2, 1) := by decide +kernel
theorem dX12_tellTask_79 : decode cX12_tellTask 79 = .ok (.iconst 1, 1) := by decide +kernel
theorem dX12_tellTask_80 : decode cX12_tellTask 80 = .ok (.iload 5, 2) := by decide +kernel
theorem dX12_tellTask_82 : decode cX12_tellTask 82 = .ok (.ishl, 1) := by decide +kernel
theorem dX12_tellTask_83 : decode cX12_tellTask 83 = .ok (.ior, 1) := by decide +kernel
theorem dX12_tellTask_84 : decode cX12_tellTask 84 = .ok (.istore_n 2, 1) := by decide +kernel
theorem dX12_tellTask_85 : decode cX12_tellTask 85 = .ok (.aload_n 0, 1) := by decide +kernel
theorem dX12_tellTask_86 : decode cX12_tellTask 86 = .ok (.iconst 5, 1) := by decide +kernel
theorem dX12_tellTask_87 : decode cX12_tellTask 87 = .ok (.invokevirtual 278, 3) := by decide +kernel
theorem dX12_tellTask_90 : decode cX12_tellTask 90 = .ok (.istore_n 3, 1) := by decide +kernel
theorem dX12_tellTask_91 : decode cX12_tellTask 91 = .ok (.iload_n 3, 1) := by decide +kernel
theorem dX12_tellTask_92 : decode cX12_tellTask 92 = .ok (.ifCond .eq 7, 3) := by decide +kernel
theorem dX12_tellTask_95 : decode cX12_tellTask 95 = .ok (.aload_n 0, 1) := by decide +kernel
theorem dX12_tellTask_96 : decode cX12_tellTask 96 = .ok (.invokevirtual 281, 3) := by decide +kernel
theorem dX12_tellTask_99 : decode cX12_tellTask 99 = .ok (.iload_n 3, 1) := by decide +kernel
theorem dX12_tellTask_100 : decode cX12_tellTask 100 = .ok (.ifCond .eq 14, 3) := by decide +kernel
theorem dX12_tellTask_103 : decode cX12_tellTask 103 = .ok (.aload_n 0, 1) := by decide +kernel
theorem dX12_tellTask_104 : decode cX12_tellTask 104 = .ok (.getfield 260, 3) := by decide +kernel
theorem dX12_tellTask_107 : decode cX12_tellTask 107 = .ok (.ifCond .ne 7, 3) := by decide +kernel
theorem dX12_tellTask_110 : decode cX12_tellTask 110 = .ok (.iconst 1, 1) := by decide +kernel
theorem dX12_tellTask_111 : decode cX12_tellTask 111 = .ok (.goto 4, 3) := by decide +kernel
theorem dX12_tellTask_114 : decode cX12_tellTask 114 = .ok (.iconst 0, 1) := by decide +kernel
theorem dX12_tellTask_115 : decode cX12_tellTask 115 = .ok (.istore_n 3, 1) := by decide +kernel
theorem dX12_tellTask_116 : decode cX12_tellTask 116 = .ok (.goto (-92), 3) := by decide +kernel
theorem dX12_tellTask_119 : decode cX12_tellTask 119 = .ok (.aload_n 0, 1) := by decide +kernel
theorem dX12_tellTask_120 : decode cX12_tellTask 120 = .ok (.iconst 4, 1) := by decide +kernel
theorem dX12_tellTask_121 : decode cX12_tellTask 121 = .ok (.invokevirtual 314, 3) := by decide +kernel
theorem dX12_tellTask_124 : decode cX12_tellTask 124 = .ok (.aload_n 0, 1) := by decide +kernel
theorem dX12_tellTask_125 : decode cX12_tellTask 125 = .ok (.getfield 260, 3) := by decide +kernel
theorem dX12_tellTask_128 : decode cX12_tellTask 128 = .ok (.ifCond .le 4, 3) := by decide +kernel
theorem dX12_tellTask_131 : decode cX12_tellTask 131 = .ok (.return_, 1) := by decide +kernel
theorem dX12_tellTask_132 : decode cX12_tellTask 132 = .ok (.aload_n 0, 1) := by decide +kernel
theorem dX12_tellTask_133 : decode cX12_tellTask 133 = .ok (.iload_n 1, 1) := by decide +kernel
theorem dX12_tellTask_134 : decode cX12_tellTask 134 = .ok (.iconst 3, 1) := by decide +kernel
theorem dX12_tellTask_135 : decode cX12_tellTask 135 = .ok (.aload_n 0, 1) := by decide +kernel
theorem dX12_tellTask_136 : decode cX12_tellTask 136 = .ok (.getfield 52, 3) := by decide +kernel
theorem dX12_tellTask_139 : decode cX12_tellTask 139 = .ok (.aload_n 0, 1) := by decide +kernel
theorem dX12_tellTask_140 : decode cX12_tellTask 140 = .ok (.getfield 293, 3) := by decide +kernel
theorem dX12_tellTask_143 : decode cX12_tellTask 143 = .ok (.iaload, 1) := by decide +kernel
theorem dX12_tellTask_144 : decode cX12_tellTask 144 = .ok (.invokevirtual 327, 3) := by decide +kernel
theorem dX12_tellTask_147 : decode cX12_tellTask 147 = .ok (.aload_n 0, 1) := by decide +kernel
theorem dX12_tellTask_148 : decode cX12_tellTask 148 = .ok (.getfield 103, 3) := by decide +kernel
theorem dX12_tellTask_151 : decode cX12_tellTask 151 = .ok (.iconst 4, 1) := by decide +kernel
theorem dX12_tellTask_152 : decode cX12_tellTask 152 = .ok (.aload_n 0, 1) := by decide +kernel
theorem dX12_tellTask_153 : decode cX12_tellTask 153 = .ok (.getfield 293, 3) := by decide +kernel
theorem dX12_tellTask_156 : decode cX12_tellTask 156 = .ok (.imul, 1) := by decide +kernel
theorem dX12_tellTask_157 : decode cX12_tellTask 157 = .ok (.aload_n 0, 1) := by decide +kernel
theorem dX12_tellTask_158 : decode cX12_tellTask 158 = .ok (.getfield 52, 3) := by decide +kernel
theorem dX12_tellTask_161 : decode cX12_tellTask 161 = .ok (.aload_n 0, 1) := by decide +kernel
theorem dX12_tellTask_162 : decode cX12_tellTask 162 = .ok (.getfield 293, 3) := by decide +kernel
theorem dX12_tellTask_165 : decode cX12_tellTask 165 = .ok (.iaload, 1) := by decide +kernel
theorem dX12_tellTask_166 : decode cX12_tellTask 166 = .ok (.iadd, 1) := by decide +kernel
theorem dX12_tellTask_167 : decode cX12_tellTask 167 = .ok (.iload_n 2, 1) := by decide +kernel
theorem dX12_tellTask_168 : decode cX12_tellTask 168 = .ok (.iastore, 1) := by decide +kernel
theorem dX12_tellTask_169 : decode cX12_tellTask 169 = .ok (.aload_n 0, 1) := by decide +kernel
theorem dX12_tellTask_170 : decode cX12_tellTask 170 = .ok (.getfield 52, 3) := by decide +kernel
theorem dX12_tellTask_173 : decode cX12_tellTask 173 = .ok (.aload_n 0, 1) := by decide +kernel
theorem dX12_tellTask_174 : decode cX12_tellTask 174 = .ok (.getfield 293, 3) := by decide +kernel
theorem dX12_tellTask_177 : decode cX12_tellTask 177 = .ok (.dup2, 1) := by decide +kernel
theorem dX12_tellTask_178 : decode cX12_tellTask 178 = .ok (.iaload, 1) := by decide +kernel
theorem dX12_tellTask_179 : decode cX12_tellTask 179 = .ok (.iconst 1, 1) := by decide +kernel
theorem dX12_tellTask_180 : decode cX12_tellTask 180 = .ok (.iadd, 1) := by decide +kernel
theorem dX12_tellTask_181 : decode cX12_tellTask 181 = .ok (.iastore, 1) := by decide +kernel
theorem dX12_tellTask_182 : decode cX12_tellTask 182 = .ok (.return_, 1) := by decide +kernel
theorem dX12_tellLaw_0 : decode cX12_tellLaw 0 = .ok (.aload_n 0, 1) := by decide +kernel
theorem dX12_tellLaw_1 : decode cX12_tellLaw 1 = .ok (.getfield 106, 3) := by decide +kernel
theorem dX12_tellLaw_4 : decode cX12_tellLaw 4 = .ok (.iconst 2, 1) := by decide +kernel
theorem dX12_tellLaw_5 : decode cX12_tellLaw 5 = .ok (.aload_n 0, 1) := by decide +kernel
theorem dX12_tellLaw_6 : decode cX12_tellLaw 6 = .ok (.getfield 293, 3) := by decide +kernel
theorem dX12_tellLaw_9 : decode cX12_tellLaw 9 = .ok (.imul, 1) := by decide +kernel
theorem dX12_tellLaw_10 : decode cX12_tellLaw 10 = .ok (.iload_n 1, 1) := by decide +kernel
theorem dX12_tellLaw_11 : decode cX12_tellLaw 11 = .ok (.iadd, 1) := by decide +kernel
theorem dX12_tellLaw_12 : decode cX12_tellLaw 12 = .ok (.iaload, 1) := by decide +kernel
theorem dX12_tellLaw_13 : decode cX12_tellLaw 13 = .ok (.iconst 4, 1) := by decide +kernel
theorem dX12_tellLaw_14 : decode cX12_tellLaw 14 = .ok (.if_icmp .ne 8, 3) := by decide +kernel
theorem dX12_tellLaw_17 : decode cX12_tellLaw 17 = .ok (.aload_n 0, 1) := by decide +kernel
theorem dX12_tellLaw_18 : decode cX12_tellLaw 18 = .ok (.iconst 2, 1) := by decide +kernel
theorem dX12_tellLaw_19 : decode cX12_tellLaw 19 = .ok (.invokevirtual 275, 3) := by decide +kernel
theorem dX12_tellLaw_22 : decode cX12_tellLaw 22 = .ok (.aload_n 0, 1) := by decide +kernel
theorem dX12_tellLaw_23 : decode cX12_tellLaw 23 = .ok (.getfield 260, 3) := by decide +kernel
theorem dX12_tellLaw_26 : decode cX12_tellLaw 26 = .ok (.ifCond .le 4, 3) := by decide +kernel
theorem dX12_tellLaw_29 : decode cX12_tellLaw 29 = .ok (.return_, 1) := by decide +kernel
theorem dX12_tellLaw_30 : decode cX12_tellLaw 30 = .ok (.bipush 8, 2) := by decide +kernel
theorem dX12_tellLaw_32 : decode cX12_tellLaw 32 = .ok (.aload_n 0, 1) := by decide +kernel
theorem dX12_tellLaw_33 : decode cX12_tellLaw 33 = .ok (.getfield 293, 3) := by decide +kernel
theorem dX12_tellLaw_36 : decode cX12_tellLaw 36 = .ok (.imul, 1) := by decide +kernel
theorem dX12_tellLaw_37 : decode cX12_tellLaw 37 = .ok (.iconst 4, 1) := by decide +kernel
theorem dX12_tellLaw_38 : decode cX12_tellLaw 38 = .ok (.iload_n 1, 1) := by decide +kernel
theorem dX12_tellLaw_39 : decode cX12_tellLaw 39 = .ok (.imul, 1) := by decide +kernel
theorem dX12_tellLaw_40 : decode cX12_tellLaw 40 = .ok (.iadd, 1) := by decide +kernel
theorem dX12_tellLaw_41 : decode cX12_tellLaw 41 = .ok (.aload_n 0, 1) := by decide +kernel
theorem dX12_tellLaw_42 : decode cX12_tellLaw 42 = .ok (.getfield 106, 3) := by decide +kernel
theorem dX12_tellLaw_45 : decode cX12_tellLaw 45 = .ok (.iconst 2, 1) := by decide +kernel
theorem dX12_tellLaw_46 : decode cX12_tellLaw 46 = .ok (.aload_n 0, 1) := by decide +kernel
theorem dX12_tellLaw_47 : decode cX12_tellLaw 47 = .ok (.getfield 293, 3) := by decide +kernel
theorem dX12_tellLaw_50 : decode cX12_tellLaw 50 = .ok (.imul, 1) := by decide +kernel
theorem dX12_tellLaw_51 : decode cX12_tellLaw 51 = .ok (.iload_n 1, 1) := by decide +kernel
theorem dX12_tellLaw_52 : decode cX12_tellLaw 52 = .ok (.iadd, 1) := by decide +kernel
theorem dX12_tellLaw_53 : decode cX12_tellLaw 53 = .ok (.iaload, 1) := by decide +kernel
theorem dX12_tellLaw_54 : decode cX12_tellLaw 54 = .ok (.iadd, 1) := by decide +kernel
theorem dX12_tellLaw_55 : decode cX12_tellLaw 55 = .ok (.istore_n 2, 1) := by decide +kernel
theorem dX12_tellLaw_56 : decode cX12_tellLaw 56 = .ok (.aload_n 0, 1) := by decide +kernel
theorem dX12_tellLaw_57 : decode cX12_tellLaw 57 = .ok (.invokevirtual 281, 3) := by decide +kernel
theorem dX12_tellLaw_60 : decode cX12_tellLaw 60 = .ok (.aload_n 0, 1) := by decide +kernel
theorem dX12_tellLaw_61 : decode cX12_tellLaw 61 = .ok (.getfield 109, 3) := by decide +kernel
theorem dX12_tellLaw_64 : decode cX12_tellLaw 64 = .ok (.iload_n 2, 1) := by decide +kernel
theorem dX12_tellLaw_65 : decode cX12_tellLaw 65 = .ok (.aload_n 0, 1) := by decide +kernel
theorem dX12_tellLaw_66 : decode cX12_tellLaw 66 = .ok (.getfield 299, 3) := by decide +kernel
theorem dX12_tellLaw_69 : decode cX12_tellLaw 69 = .ok (.iastore, 1) := by decide +kernel
theorem dX12_tellLaw_70 : decode cX12_tellLaw 70 = .ok (.aload_n 0, 1) := by decide +kernel
theorem dX12_tellLaw_71 : decode cX12_tellLaw 71 = .ok (.bipush 32, 2) := by decide +kernel
theorem dX12_tellLaw_73 : decode cX12_tellLaw 73 = .ok (.invokevirtual 314, 3) := by decide +kernel
theorem dX12_tellLaw_76 : decode cX12_tellLaw 76 = .ok (.iconst 1, 1) := by decide +kernel
theorem dX12_tellLaw_77 : decode cX12_tellLaw 77 = .ok (.istore_n 3, 1) := by decide +kernel
theorem dX12_tellLaw_78 : decode cX12_tellLaw 78 = .ok (.aload_n 0, 1) := by decide +kernel
theorem dX12_tellLaw_79 : decode cX12_tellLaw 79 = .ok (.getfield 260, 3) := by decide +kernel
theorem dX12_tellLaw_82 : decode cX12_tellLaw 82 = .ok (.ifCond .ne 7, 3) := by decide +kernel
theorem dX12_tellLaw_85 : decode cX12_tellLaw 85 = .ok (.iconst 1, 1) := by decide +kernel
theorem dX12_tellLaw_86 : decode cX12_tellLaw 86 = .ok (.goto 4, 3) := by decide +kernel
theorem dX12_tellLaw_89 : decode cX12_tellLaw 89 = .ok (.iconst 0, 1) := by decide +kernel
theorem dX12_tellLaw_90 : decode cX12_tellLaw 90 = .ok (.istore 4, 2) := by decide +kernel
theorem dX12_tellLaw_92 : decode cX12_tellLaw 92 = .ok (.iload 4, 2) := by decide +kernel
theorem dX12_tellLaw_94 : decode cX12_tellLaw 94 = .ok (.ifCond .eq 54, 3) := by decide +kernel
theorem dX12_tellLaw_97 : decode cX12_tellLaw 97 = .ok (.aload_n 0, 1) := by decide +kernel
theorem dX12_tellLaw_98 : decode cX12_tellLaw 98 = .ok (.getfield 260, 3) := by decide +kernel
theorem dX12_tellLaw_101 : decode cX12_tellLaw 101 = .ok (.ifCond .ne 47, 3) := by decide +kernel
theorem dX12_tellLaw_104 : decode cX12_tellLaw 104 = .ok (.aload_n 0, 1) := by decide +kernel
theorem dX12_tellLaw_105 : decode cX12_tellLaw 105 = .ok (.iload_n 3, 1) := by decide +kernel
theorem dX12_tellLaw_106 : decode cX12_tellLaw 106 = .ok (.invokevirtual 354, 3) := by decide +kernel
theorem dX12_tellLaw_109 : decode cX12_tellLaw 109 = .ok (.aload_n 0, 1) := by decide +kernel
theorem dX12_tellLaw_110 : decode cX12_tellLaw 110 = .ok (.bipush 33, 2) := by decide +kernel
theorem dX12_tellLaw_112 : decode cX12_tellLaw 112 = .ok (.invokevirtual 278, 3) := by decide +kernel
theorem dX12_tellLaw_115 : decode cX12_tellLaw 115 = .ok (.istore_n 3, 1) := by decide +kernel
theorem dX12_tellLaw_116 : decode cX12_tellLaw 116 = .ok (.iload_n 3, 1) := by decide +kernel
theorem dX12_tellLaw_117 : decode cX12_tellLaw 117 = .ok (.ifCond .ne 12, 3) := by decide +kernel
theorem dX12_tellLaw_120 : decode cX12_tellLaw 120 = .ok (.aload_n 0, 1) := by decide +kernel
theorem dX12_tellLaw_121 : decode cX12_tellLaw 121 = .ok (.bipush 34, 2) := by decide +kernel
theorem dX12_tellLaw_123 : decode cX12_tellLaw 123 = .ok (.invokevirtual 278, 3) := by decide +kernel
theorem dX12_tellLaw_126 : decode cX12_tellLaw 126 = .ok (.ifCond .eq 7, 3) := by decide +kernel
theorem dX12_tellLaw_129 : decode cX12_tellLaw 129 = .ok (.iconst 1, 1) := by decide +kernel
theorem dX12_tellLaw_130 : decode cX12_tellLaw 130 = .ok (.goto 4, 3) := by decide +kernel
theorem dX12_tellLaw_133 : decode cX12_tellLaw 133 = .ok (.iconst 0, 1) := by decide +kernel
theorem dX12_tellLaw_134 : decode cX12_tellLaw 134 = .ok (.istore 4, 2) := by decide +kernel
theorem dX12_tellLaw_136 : decode cX12_tellLaw 136 = .ok (.iload 4, 2) := by decide +kernel
theorem dX12_tellLaw_138 : decode cX12_tellLaw 138 = .ok (.ifCond .eq (-46), 3) := by decide +kernel
theorem dX12_tellLaw_141 : decode cX12_tellLaw 141 = .ok (.aload_n 0, 1) := by decide +kernel
theorem dX12_tellLaw_142 : decode cX12_tellLaw 142 = .ok (.invokevirtual 281, 3) := by decide +kernel
theorem dX12_tellLaw_145 : decode cX12_tellLaw 145 = .ok (.goto (-53), 3) := by decide +kernel
theorem dX12_tellLaw_148 : decode cX12_tellLaw 148 = .ok (.aload_n 0, 1) := by decide +kernel
theorem dX12_tellLaw_149 : decode cX12_tellLaw 149 = .ok (.getfield 112, 3) := by decide +kernel
theorem dX12_tellLaw_152 : decode cX12_tellLaw 152 = .ok (.iload_n 2, 1) := by decide +kernel
theorem dX12_tellLaw_153 : decode cX12_tellLaw 153 = .ok (.aload_n 0, 1) := by decide +kernel
theorem dX12_tellLaw_154 : decode cX12_tellLaw 154 = .ok (.getfield 299, 3) := by decide +kernel
theorem dX12_tellLaw_157 : decode cX12_tellLaw 157 = .ok (.iastore, 1) := by decide +kernel
theorem dX12_tellLaw_158 : decode cX12_tellLaw 158 = .ok (.aload_n 0, 1) := by decide +kernel
theorem dX12_tellLaw_159 : decode cX12_tellLaw 159 = .ok (.iconst 4, 1) := by decide +kernel
theorem dX12_tellLaw_160 : decode cX12_tellLaw 160 = .ok (.invokevirtual 314, 3) := by decide +kernel
theorem dX12_tellLaw_163 : decode cX12_tellLaw 163 = .ok (.aload_n 0, 1) := by decide +kernel
theorem dX12_tellLaw_164 : decode cX12_tellLaw 164 = .ok (.getfield 260, 3) := by decide +kernel
theorem dX12_tellLaw_167 : decode cX12_tellLaw 167 = .ok (.ifCond .ne 20, 3) := by decide +kernel
theorem dX12_tellLaw_170 : decode cX12_tellLaw 170 = .ok (.aload_n 0, 1) := by decide +kernel
theorem dX12_tellLaw_171 : decode cX12_tellLaw 171 = .ok (.getfield 106, 3) := by decide +kernel
theorem dX12_tellLaw_174 : decode cX12_tellLaw 174 = .ok (.iconst 2, 1) := by decide +kernel
theorem dX12_tellLaw_175 : decode cX12_tellLaw 175 = .ok (.aload_n 0, 1) := by decide +kernel
theorem dX12_tellLaw_176 : decode cX12_tellLaw 176 = .ok (.getfield 293, 3) := by decide +kernel
theorem dX12_tellLaw_179 : decode cX12_tellLaw 179 = .ok (.imul, 1) := by decide +kernel
theorem dX12_tellLaw_180 : decode cX12_tellLaw 180 = .ok (.iload_n 1, 1) := by decide +kernel
theorem dX12_tellLaw_181 : decode cX12_tellLaw 181 = .ok (.iadd, 1) := by decide +kernel
theorem dX12_tellLaw_182 : decode cX12_tellLaw 182 = .ok (.dup2, 1) := by decide +kernel
theorem dX12_tellLaw_183 : decode cX12_tellLaw 183 = .ok (.iaload, 1) := by decide +kernel
theorem dX12_tellLaw_184 : decode cX12_tellLaw 184 = .ok (.iconst 1, 1) := by decide +kernel
theorem dX12_tellLaw_185 : decode cX12_tellLaw 185 = .ok (.iadd, 1) := by decide +kernel
theorem dX12_tellLaw_186 : decode cX12_tellLaw 186 = .ok (.iastore, 1) := by decide +kernel
theorem dX12_tellLaw_187 : decode cX12_tellLaw 187 = .ok (.return_, 1) := by decide +kernel
theorem dX12_literal_0 : decode cX12_literal 0 = .ok (.iconst 0, 1) := by decide +kernel
theorem dX12_literal_1 : decode cX12_literal 1 = .ok (.istore_n 2, 1) := by decide +kernel
theorem dX12_literal_2 : decode cX12_literal 2 = .ok (.aload_n 0, 1) := by decide +kernel
theorem dX12_literal_3 : decode cX12_literal 3 = .ok (.bipush 35, 2) := by decide +kernel
theorem dX12_literal_5 : decode cX12_literal 5 = .ok (.invokevirtual 278, 3) := by decide +kernel
theorem dX12_literal_8 : decode cX12_literal 8 = .ok (.ifCond .eq 20, 3) := by decide +kernel
theorem dX12_literal_11 : decode cX12_literal 11 = .ok (.iload_n 2, 1) := by decide +kernel
theorem dX12_literal_12 : decode cX12_literal 12 = .ok (.ifCond .ne 7, 3) := by decide +kernel
theorem dX12_literal_15 : decode cX12_literal 15 = .ok (.iconst 1, 1) := by decide +kernel
theorem dX12_literal_16 : decode cX12_literal 16 = .ok (.goto 4, 3) := by decide +kernel
theorem dX12_literal_19 : decode cX12_literal 19 = .ok (.iconst 0, 1) := by decide +kernel
theorem dX12_literal_20 : decode cX12_literal 20 = .ok (.istore_n 2, 1) := by decide +kernel
theorem dX12_literal_21 : decode cX12_literal 21 = .ok (.aload_n 0, 1) := by decide +kernel
theorem dX12_literal_22 : decode cX12_literal 22 = .ok (.invokevirtual 281, 3) := by decide +kernel
theorem dX12_literal_25 : decode cX12_literal 25 = .ok (.goto (-23), 3) := by decide +kernel
theorem dX12_literal_28 : decode cX12_literal 28 = .ok (.aload_n 0, 1) := by decide +kernel
theorem dX12_literal_29 : decode cX12_literal 29 = .ok (.getfield 302, 3) := by decide +kernel
theorem dX12_literal_32 : decode cX12_literal 32 = .ok (.istore_n 3, 1) := by decide +kernel
theorem dX12_literal_33 : decode cX12_literal 33 = .ok (.aload_n 0, 1) := by decide +kernel
theorem dX12_literal_34 : decode cX12_literal 34 = .ok (.invokevirtual 358, 3) := by decide +kernel
theorem dX12_literal_37 : decode cX12_literal 37 = .ok (.aload_n 0, 1) := by decide +kernel
theorem dX12_literal_38 : decode cX12_literal 38 = .ok (.getfield 260, 3) := by decide +kernel
theorem dX12_literal_41 : decode cX12_literal 41 = .ok (.ifCond .le 7, 3) := by decide +kernel
theorem dX12_literal_44 : decode cX12_literal 44 = .ok (.iconst 0, 1) := by decide +kernel
theorem dX12_literal_45 : decode cX12_literal 45 = .ok (.goto 15, 3) := by decide +kernel
theorem dX12_literal_48 : decode cX12_literal 48 = .ok (.aload_n 0, 1) := by decide +kernel
theorem dX12_literal_49 : decode cX12_literal 49 = .ok (.getfield 20, 3) := by decide +kernel
theorem dX12_literal_52 : decode cX12_literal 52 = .ok (.aload_n 0, 1) := by decide +kernel
theorem dX12_literal_53 : decode cX12_literal 53 = .ok (.getfield 263, 3) := by decide +kernel
theorem dX12_literal_56 : decode cX12_literal 56 = .ok (.iaload, 1) := by decide +kernel
theorem dX12_literal_57 : decode cX12_literal 57 = .ok (.bipush 11, 2) := by decide +kernel
theorem dX12_literal_59 : decode cX12_literal 59 = .ok (.isub, 1) := by decide +kernel
theorem dX12_literal_60 : decode cX12_literal 60 = .ok (.istore 4, 2) := by decide +kernel
theorem dX12_literal_62 : decode cX12_literal 62 = .ok (.aload_n 0, 1) := by decide +kernel
theorem dX12_literal_63 : decode cX12_literal 63 = .ok (.getfield 260, 3) := by decide +kernel
theorem dX12_literal_66 : decode cX12_literal 66 = .ok (.ifCond .ne 19, 3) := by decide +kernel
theorem dX12_literal_69 : decode cX12_literal 69 = .ok (.iload 4, 2) := by decide +kernel
theorem dX12_literal_71 : decode cX12_literal 71 = .ok (.ifCond .lt 9, 3) := by decide +kernel
theorem dX12_literal_74 : decode cX12_literal 74 = .ok (.iload 4, 2) := by decide +kernel
theorem dX12_literal_76 : decode cX12_literal 76 = .ok (.iconst 3, 1) := by decide +kernel
theorem dX12_literal_77 : decode cX12_literal 77 = .ok (.if_icmp .le 8, 3) := by decide +kernel
theorem dX12_literal_80 : decode cX12_literal 80 = .ok (.aload_n 0, 1) := by decide +kernel
theorem dX12_literal_81 : decode cX12_literal 81 = .ok (.iconst 1, 1) := by decide +kernel
theorem dX12_literal_82 : decode cX12_literal 82 = .ok (.invokevirtual 275, 3) := by decide +kernel
theorem dX12_literal_85 : decode cX12_literal 85 = .ok (.aload_n 0, 1) := by decide +kernel
theorem dX12_literal_86 : decode cX12_literal 86 = .ok (.invokevirtual 281, 3) := by decide +kernel
theorem dX12_literal_89 : decode cX12_literal 89 = .ok (.aload_n 0, 1) := by decide +kernel
theorem dX12_literal_90 : decode cX12_literal 90 = .ok (.getfield 302, 3) := by decide +kernel
theorem dX12_literal_93 : decode cX12_literal 93 = .ok (.istore 5, 2) := by decide +kernel
theorem dX12_literal_95 : decode cX12_literal 95 = .ok (.aload_n 0, 1) := by decide +kernel
theorem dX12_literal_96 : decode cX12_literal 96 = .ok (.invokevirtual 358, 3) := by decide +kernel
theorem dX12_literal_99 : decode cX12_literal 99 = .ok (.aload_n 0, 1) := by decide +kernel
theorem dX12_literal_100 : decode cX12_literal 100 = .ok (.getfield 260, 3) := by decide +kernel
theorem dX12_literal_103 : decode cX12_literal 103 = .ok (.ifCond .le 4, 3) := by decide +kernel
theorem dX12_literal_106 : decode cX12_literal 106 = .ok (.return_, 1) := by decide +kernel
theorem dX12_literal_107 : decode cX12_literal 107 = .ok (.aload_n 0, 1) := by decide +kernel
theorem dX12_literal_108 : decode cX12_literal 108 = .ok (.getfield 115, 3) := by decide +kernel
theorem dX12_literal_111 : decode cX12_literal 111 = .ok (.aload_n 0, 1) := by decide +kernel
theorem dX12_literal_112 : decode cX12_literal 112 = .ok (.getfield 299, 3) := by decide +kernel
theorem dX12_literal_115 : decode cX12_literal 115 = .ok (.iload 4, 2) := by decide +kernel
theorem dX12_literal_117 : decode cX12_literal 117 = .ok (.iastore, 1) := by decide +kernel
theorem dX12_literal_118 : decode cX12_literal 118 = .ok (.aload_n 0, 1) := by decide +kernel
theorem dX12_literal_119 : decode cX12_literal 119 = .ok (.getfield 118, 3) := by decide +kernel
theorem dX12_literal_122 : decode cX12_literal 122 = .ok (.aload_n 0, 1) := by decide +kernel
theorem dX12_literal_123 : decode cX12_literal 123 = .ok (.getfield 299, 3) := by decide +kernel
theorem dX12_literal_126 : decode cX12_literal 126 = .ok (.iload_n 2, 1) := by decide +kernel
theorem dX12_literal_127 : decode cX12_literal 127 = .ok (.bastore, 1) := by decide +kernel
theorem dX12_literal_128 : decode cX12_literal 128 = .ok (.aload_n 0, 1) := by decide +kernel
theorem dX12_literal_129 : decode cX12_literal 129 = .ok (.getfield 122, 3) := by decide +kernel
theorem dX12_literal_132 : decode cX12_literal 132 = .ok (.aload_n 0, 1) := by decide +kernel
theorem dX12_literal_133 : decode cX12_literal 133 = .ok (.getfield 299, 3) := by decide +kernel
theorem dX12_literal_136 : decode cX12_literal 136 = .ok (.iload_n 1, 1) := by decide +kernel
theorem dX12_literal_137 : decode cX12_literal 137 = .ok (.bastore, 1) := by decide +kernel
theorem dX12_literal_138 : decode cX12_literal 138 = .ok (.aload_n 0, 1) := by decide +kernel
theorem dX12_literal_139 : decode cX12_literal 139 = .ok (.getfield 125, 3) := by decide +kernel
theorem dX12_literal_142 : decode cX12_literal 142 = .ok (.aload_n 0, 1) := by decide +kernel
theorem dX12_literal_143 : decode cX12_literal 143 = .ok (.getfield 299, 3) := by decide +kernel
theorem dX12_literal_146 : decode cX12_literal 146 = .ok (.iload_n 3, 1) := by decide +kernel
theorem dX12_literal_147 : decode cX12_literal 147 = .ok (.iastore, 1) := by decide +kernel
theorem dX12_literal_148 : decode cX12_literal 148 = .ok (.aload_n 0, 1) := by decide +kernel
theorem dX12_literal_149 : decode cX12_literal 149 = .ok (.getfield 128, 3) := by decide +kernel
theorem dX12_literal_152 : decode cX12_literal 152 = .ok (.aload_n 0, 1) := by decide +kernel
theorem dX12_literal_153 : decode cX12_literal 153 = .ok (.getfield 299, 3) := by decide +kernel
theorem dX12_literal_156 : decode cX12_literal 156 = .ok (.iload 5, 2) := by decide +kernel
theorem dX12_literal_158 : decode cX12_literal 158 = .ok (.iastore, 1) := by decide +kernel
theorem dX12_literal_159 : decode cX12_literal 159 = .ok (.aload_n 0, 1) := by decide +kernel
theorem dX12_literal_160 : decode cX12_literal 160 = .ok (.getfield 131, 3) := by decide +kernel
theorem dX12_literal_163 : decode cX12_literal 163 = .ok (.aload_n 0, 1) := by decide +kernel
theorem dX12_literal_164 : decode cX12_literal 164 = .ok (.getfield 299, 3) := by decide +kernel
theorem dX12_literal_167 : decode cX12_literal 167 = .ok (.aload_n 0, 1) := by decide +kernel
theorem dX12_literal_168 : decode cX12_literal 168 = .ok (.getfield 302, 3) := by decide +kernel
theorem dX12_literal_171 : decode cX12_literal 171 = .ok (.iastore, 1) := by decide +kernel
theorem dX12_literal_172 : decode cX12_literal 172 = .ok (.aload_n 0, 1) := by decide +kernel
theorem dX12_literal_173 : decode cX12_literal 173 = .ok (.dup, 1) := by decide +kernel
theorem dX12_literal_174 : decode cX12_literal 174 = .ok (.getfield 299, 3) := by decide +kernel
theorem dX12_literal_177 : decode cX12_literal 177 = .ok (.iconst 1, 1) := by decide +kernel
theorem dX12_literal_178 : decode cX12_literal 178 = .ok (.iadd, 1) := by decide +kernel
theorem dX12_literal_179 : decode cX12_literal 179 = .ok (.putfield 299, 3) := by decide +kernel
theorem dX12_literal_182 : decode cX12_literal 182 = .ok (.return_, 1) := by decide +kernel
theorem dX12_emit_0 : decode cX12_emit 0 = .ok (.aload_n 0, 1) := by decide +kernel
theorem dX12_emit_1 : decode cX12_emit 1 = .ok (.getfield 134, 3) := by decide +kernel
theorem dX12_emit_4 : decode cX12_emit 4 = .ok (.aload_n 0, 1) := by decide +kernel
theorem dX12_emit_5 : decode cX12_emit 5 = .ok (.getfield 302, 3) := by decide +kernel
theorem dX12_emit_8 : decode cX12_emit 8 = .ok (.iload_n 1, 1) := by decide +kernel
theorem dX12_emit_9 : decode cX12_emit 9 = .ok (.iastore, 1) := by decide +kernel
theorem dX12_emit_10 : decode cX12_emit 10 = .ok (.aload_n 0, 1) := by decide +kernel
theorem dX12_emit_11 : decode cX12_emit 11 = .ok (.getfield 137, 3) := by decide +kernel
theorem dX12_emit_14 : decode cX12_emit 14 = .ok (.aload_n 0, 1) := by decide +kernel
theorem dX12_emit_15 : decode cX12_emit 15 = .ok (.getfield 302, 3) := by decide +kernel
theorem dX12_emit_18 : decode cX12_emit 18 = .ok (.iload_n 2, 1) := by decide +kernel
theorem dX12_emit_19 : decode cX12_emit 19 = .ok (.iastore, 1) := by decide +kernel
theorem dX12_emit_20 : decode cX12_emit 20 = .ok (.aload_n 0, 1) := by decide +kernel
theorem dX12_emit_21 : decode cX12_emit 21 = .ok (.dup, 1) := by decide +kernel
theorem dX12_emit_22 : decode cX12_emit 22 = .ok (.getfield 302, 3) := by decide +kernel
theorem dX12_emit_25 : decode cX12_emit 25 = .ok (.iconst 1, 1) := by decide +kernel
theorem dX12_emit_26 : decode cX12_emit 26 = .ok (.iadd, 1) := by decide +kernel
theorem dX12_emit_27 : decode cX12_emit 27 = .ok (.putfield 302, 3) := by decide +kernel
theorem dX12_emit_30 : decode cX12_emit 30 = .ok (.return_, 1) := by decide +kernel
theorem dX12_comesOut_0 : decode cX12_comesOut 0 = .ok (.aload_n 0, 1) := by decide +kernel
theorem dX12_comesOut_1 : decode cX12_comesOut 1 = .ok (.getfield 361, 3) := by decide +kernel
theorem dX12_comesOut_4 : decode cX12_comesOut 4 = .ok (.ifCond .le 87, 3) := by decide +kernel
theorem dX12_comesOut_7 : decode cX12_comesOut 7 = .ok (.aload_n 0, 1) := by decide +kernel
theorem dX12_comesOut_8 : decode cX12_comesOut 8 = .ok (.getfield 140, 3) := by decide +kernel
theorem dX12_comesOut_11 : decode cX12_comesOut 11 = .ok (.aload_n 0, 1) := by decide +kernel
theorem dX12_comesOut_12 : decode cX12_comesOut 12 = .ok (.getfield 361, 3) := by decide +kernel
theorem dX12_comesOut_15 : decode cX12_comesOut 15 = .ok (.iconst 1, 1) := by decide +kernel
theorem dX12_comesOut_16 : decode cX12_comesOut 16 = .ok (.isub, 1) := by decide +kernel
theorem dX12_comesOut_17 : decode cX12_comesOut 17 = .ok (.iaload, 1) := by decide +kernel
theorem dX12_comesOut_18 : decode cX12_comesOut 18 = .ok (.istore_n 2, 1) := by decide +kernel
theorem dX12_comesOut_19 : decode cX12_comesOut 19 = .ok (.iload_n 2, 1) := by decide +kernel
theorem dX12_comesOut_20 : decode cX12_comesOut 20 = .ok (.bipush 6, 2) := by decide +kernel
theorem dX12_comesOut_22 : decode cX12_comesOut 22 = .ok (.if_icmp .eq 19, 3) := by decide +kernel
theorem dX12_comesOut_25 : decode cX12_comesOut 25 = .ok (.iload_n 1, 1) := by decide +kernel
theorem dX12_comesOut_26 : decode cX12_comesOut 26 = .ok (.ifCond .eq 16, 3) := by decide +kernel
theorem dX12_comesOut_29 : decode cX12_comesOut 29 = .ok (.iload_n 2, 1) := by decide +kernel
theorem dX12_comesOut_30 : decode cX12_comesOut 30 = .ok (.bipush 8, 2) := by decide +kernel
theorem dX12_comesOut_32 : decode cX12_comesOut 32 = .ok (.if_icmp .eq 9, 3) := by decide +kernel
theorem dX12_comesOut_35 : decode cX12_comesOut 35 = .ok (.iload_n 2, 1) := by decide +kernel
theorem dX12_comesOut_36 : decode cX12_comesOut 36 = .ok (.bipush 9, 2) := by decide +kernel
theorem dX12_comesOut_38 : decode cX12_comesOut 38 = .ok (.if_icmp .ne 4, 3) := by decide +kernel
theorem dX12_comesOut_41 : decode cX12_comesOut 41 = .ok (.return_, 1) := by decide +kernel
theorem dX12_comesOut_42 : decode cX12_comesOut 42 = .ok (.aload_n 0, 1) := by decide +kernel
theorem dX12_comesOut_43 : decode cX12_comesOut 43 = .ok (.dup, 1) := by decide +kernel
theorem dX12_comesOut_44 : decode cX12_comesOut 44 = .ok (.getfield 361, 3) := by decide +kernel
theorem dX12_comesOut_47 : decode cX12_comesOut 47 = .ok (.iconst 1, 1) := by decide +kernel
theorem dX12_comesOut_48 : decode cX12_comesOut 48 = .ok (.isub, 1) := by decide +kernel
theorem dX12_comesOut_49 : decode cX12_comesOut 49 = .ok (.putfield 361, 3) := by decide +kernel
theorem dX12_comesOut_52 : decode cX12_comesOut 52 = .ok (.aload_n 0, 1) := by decide +kernel
theorem dX12_comesOut_53 : decode cX12_comesOut 53 = .ok (.iload_n 2, 1) := by decide +kernel
theorem dX12_comesOut_54 : decode cX12_comesOut 54 = .ok (.bipush 8, 2) := by decide +kernel
theorem dX12_comesOut_56 : decode cX12_comesOut 56 = .ok (.if_icmp .ne 7, 3) := by decide +kernel
theorem dX12_comesOut_59 : decode cX12_comesOut 59 = .ok (.iconst 2, 1) := by decide +kernel
theorem dX12_comesOut_60 : decode cX12_comesOut 60 = .ok (.goto 24, 3) := by decide +kernel
theorem dX12_comesOut_63 : decode cX12_comesOut 63 = .ok (.iload_n 2, 1) := by decide +kernel
theorem dX12_comesOut_64 : decode cX12_comesOut 64 = .ok (.bipush 9, 2) := by decide +kernel
theorem dX12_comesOut_66 : decode cX12_comesOut 66 = .ok (.if_icmp .ne 7, 3) := by decide +kernel
theorem dX12_comesOut_69 : decode cX12_comesOut 69 = .ok (.iconst 3, 1) := by decide +kernel
theorem dX12_comesOut_70 : decode cX12_comesOut 70 = .ok (.goto 14, 3) := by decide +kernel
theorem dX12_comesOut_73 : decode cX12_comesOut 73 = .ok (.iload_n 2, 1) := by decide +kernel
theorem dX12_comesOut_74 : decode cX12_comesOut 74 = .ok (.bipush 10, 2) := by decide +kernel
theorem dX12_comesOut_76 : decode cX12_comesOut 76 = .ok (.if_icmp .ne 7, 3) := by decide +kernel
theorem dX12_comesOut_79 : decode cX12_comesOut 79 = .ok (.iconst 4, 1) := by decide +kernel
theorem dX12_comesOut_80 : decode cX12_comesOut 80 = .ok (.goto 4, 3) := by decide +kernel
theorem dX12_comesOut_83 : decode cX12_comesOut 83 = .ok (.iconst 5, 1) := by decide +kernel
theorem dX12_comesOut_84 : decode cX12_comesOut 84 = .ok (.iconst 0, 1) := by decide +kernel
theorem dX12_comesOut_85 : decode cX12_comesOut 85 = .ok (.invokevirtual 364, 3) := by decide +kernel
theorem dX12_comesOut_88 : decode cX12_comesOut 88 = .ok (.goto (-88), 3) := by decide +kernel
theorem dX12_comesOut_91 : decode cX12_comesOut 91 = .ok (.return_, 1) := by decide +kernel
theorem dX12_expression_0 : decode cX12_expression 0 = .ok (.aload_n 0, 1) := by decide +kernel
theorem dX12_expression_1 : decode cX12_expression 1 = .ok (.iconst 0, 1) := by decide +kernel
theorem dX12_expression_2 : decode cX12_expression 2 = .ok (.putfield 361, 3) := by decide +kernel
theorem dX12_expression_5 : decode cX12_expression 5 = .ok (.aload_n 0, 1) := by decide +kernel
theorem dX12_expression_6 : decode cX12_expression 6 = .ok (.getfield 287, 3) := by decide +kernel
theorem dX12_expression_9 : decode cX12_expression 9 = .ok (.istore_n 1, 1) := by decide +kernel
theorem dX12_expression_10 : decode cX12_expression 10 = .ok (.iconst 1, 1) := by decide +kernel
theorem dX12_expression_11 : decode cX12_expression 11 = .ok (.istore_n 2, 1) := by decide +kernel
theorem dX12_expression_12 : decode cX12_expression 12 = .ok (.iload_n 2, 1) := by decide +kernel
theorem dX12_expression_13 : decode cX12_expression 13 = .ok (.ifCond .eq 259, 3) := by decide +kernel
theorem dX12_expression_16 : decode cX12_expression 16 = .ok (.aload_n 0, 1) := by decide +kernel
theorem dX12_expression_17 : decode cX12_expression 17 = .ok (.getfield 260, 3) := by decide +kernel
theorem dX12_expression_20 : decode cX12_expression 20 = .ok (.ifCond .ne 252, 3) := by decide +kernel
theorem dX12_expression_23 : decode cX12_expression 23 = .ok (.aload_n 0, 1) := by decide +kernel
theorem dX12_expression_24 : decode cX12_expression 24 = .ok (.bipush 6, 2) := by decide +kernel
theorem dX12_expression_26 : decode cX12_expression 26 = .ok (.invokevirtual 278, 3) := by decide +kernel
theorem dX12_expression_29 : decode cX12_expression 29 = .ok (.ifCond .eq 55, 3) := by decide +kernel
theorem dX12_expression_32 : decode cX12_expression 32 = .ok (.aload_n 0, 1) := by decide +kernel
theorem dX12_expression_33 : decode cX12_expression 33 = .ok (.getfield 287, 3) := by decide +kernel
theorem dX12_expression_36 : decode cX12_expression 36 = .ok (.bipush 6, 2) := by decide +kernel
theorem dX12_expression_38 : decode cX12_expression 38 = .ok (.if_icmp .ne 8, 3) := by decide +kernel
theorem dX12_expression_41 : decode cX12_expression 41 = .ok (.aload_n 0, 1) := by decide +kernel
theorem dX12_expression_42 : decode cX12_expression 42 = .ok (.iconst 2, 1) := by decide +kernel
theorem dX12_expression_43 : decode cX12_expression 43 = .ok (.invokevirtual 275, 3) := by decide +kernel
theorem dX12_expression_46 : decode cX12_expression 46 = .ok (.aload_n 0, 1) := by decide +kernel
theorem dX12_expression_47 : decode cX12_expression 47 = .ok (.dup, 1) := by decide +kernel
theorem dX12_expression_48 : decode cX12_expression 48 = .ok (.getfield 287, 3) := by decide +kernel
theorem dX12_expression_51 : decode cX12_expression 51 = .ok (.iconst 1, 1) := by decide +kernel
theorem dX12_expression_52 : decode cX12_expression 52 = .ok (.iadd, 1) := by decide +kernel
theorem dX12_expression_53 : decode cX12_expression 53 = .ok (.putfield 287, 3) := by decide +kernel
theorem dX12_expression_56 : decode cX12_expression 56 = .ok (.aload_n 0, 1) := by decide +kernel
theorem dX12_expression_57 : decode cX12_expression 57 = .ok (.invokevirtual 281, 3) := by decide +kernel
theorem dX12_expression_60 : decode cX12_expression 60 = .ok (.aload_n 0, 1) := by decide +kernel
theorem dX12_expression_61 : decode cX12_expression 61 = .ok (.getfield 140, 3) := by decide +kernel
theorem dX12_expression_64 : decode cX12_expression 64 = .ok (.aload_n 0, 1) := by decide +kernel
theorem dX12_expression_65 : decode cX12_expression 65 = .ok (.getfield 361, 3) := by decide +kernel
theorem dX12_expression_68 : decode cX12_expression 68 = .ok (.bipush 6, 2) := by decide +kernel
theorem dX12_expression_70 : decode cX12_expression 70 = .ok (.iastore, 1) := by decide +kernel
theorem dX12_expression_71 : decode cX12_expression 71 = .ok (.aload_n 0, 1) := by decide +kernel
theorem dX12_expression_72 : decode cX12_expression 72 = .ok (.dup, 1) := by decide +kernel
theorem dX12_expression_73 : decode cX12_expression 73 = .ok (.getfield 361, 3) := by decide +kernel
theorem dX12_expression_76 : decode cX12_expression 76 = .ok (.iconst 1, 1) := by decide +kernel
theorem dX12_expression_77 : decode cX12_expression 77 = .ok (.iadd, 1) := by decide +kernel
theorem dX12_expression_78 : decode cX12_expression 78 = .ok (.putfield 361, 3) := by decide +kernel
theorem dX12_expression_81 : decode cX12_expression 81 = .ok (.goto (-58), 3) := by decide +kernel
theorem dX12_expression_84 : decode cX12_expression 84 = .ok (.aload_n 0, 1) := by decide +kernel
theorem dX12_expression_85 : decode cX12_expression 85 = .ok (.invokevirtual 367, 3) := by decide +kernel
theorem dX12_expression_88 : decode cX12_expression 88 = .ok (.aload_n 0, 1) := by decide +kernel
theorem dX12_expression_89 : decode cX12_expression 89 = .ok (.getfield 260, 3) := by decide +kernel
theorem dX12_expression_92 : decode cX12_expression 92 = .ok (.ifCond .le 4, 3) := by decide +kernel
theorem dX12_expression_95 : decode cX12_expression 95 = .ok (.return_, 1) := by decide +kernel
theorem dX12_expression_96 : decode cX12_expression 96 = .ok (.aload_n 0, 1) := by decide +kernel
theorem dX12_expression_97 : decode cX12_expression 97 = .ok (.bipush 7, 2) := by decide +kernel
theorem dX12_expression_99 : decode cX12_expression 99 = .ok (.invokevirtual 278, 3) := by decide +kernel
theorem dX12_expression_102 : decode cX12_expression 102 = .ok (.ifCond .eq 43, 3) := by decide +kernel
theorem dX12_expression_105 : decode cX12_expression 105 = .ok (.aload_n 0, 1) := by decide +kernel
theorem dX12_expression_106 : decode cX12_expression 106 = .ok (.getfield 287, 3) := by decide +kernel
theorem dX12_expression_109 : decode cX12_expression 109 = .ok (.iload_n 1, 1) := by decide +kernel
theorem dX12_expression_110 : decode cX12_expression 110 = .ok (.if_icmp .le 35, 3) := by decide +kernel
theorem dX12_expression_113 : decode cX12_expression 113 = .ok (.aload_n 0, 1) := by decide +kernel
theorem dX12_expression_114 : decode cX12_expression 114 = .ok (.iconst 0, 1) := by decide +kernel
theorem dX12_expression_115 : decode cX12_expression 115 = .ok (.invokevirtual 370, 3) := by decide +kernel
theorem dX12_expression_118 : decode cX12_expression 118 = .ok (.aload_n 0, 1) := by decide +kernel
theorem dX12_expression_119 : decode cX12_expression 119 = .ok (.dup, 1) := by decide +kernel
theorem dX12_expression_120 : decode cX12_expression 120 = .ok (.getfield 361, 3) := by decide +kernel
theorem dX12_expression_123 : decode cX12_expression 123 = .ok (.iconst 1, 1) := by decide +kernel
theorem dX12_expression_124 : decode cX12_expression 124 = .ok (.isub, 1) := by decide +kernel
theorem dX12_expression_125 : decode cX12_expression 125 = .ok (.putfield 361, 3) := by decide +kernel
theorem dX12_expression_128 : decode cX12_expression 128 = .ok (.aload_n 0, 1) := by decide +kernel
theorem dX12_expression_129 : decode cX12_expression 129 = .ok (.dup, 1) := by decide +kernel
theorem dX12_expression_130 : decode cX12_expression 130 = .ok (.getfield 287, 3) := by decide +kernel
theorem dX12_expression_133 : decode cX12_expression 133 = .ok (.iconst 1, 1) := by decide +kernel
theorem dX12_expression_134 : decode cX12_expression 134 = .ok (.isub, 1) := by decide +kernel
theorem dX12_expression_135 : decode cX12_expression 135 = .ok (.putfield 287, 3) := by decide +kernel
theorem dX12_expression_138 : decode cX12_expression 138 = .ok (.aload_n 0, 1) := by decide +kernel
theorem dX12_expression_139 : decode cX12_expression 139 = .ok (.invokevirtual 281, 3) := by decide +kernel
theorem dX12_expression_142 : decode cX12_expression 142 = .ok (.goto (-46), 3) := by decide +kernel
theorem dX12_expression_145 : decode cX12_expression 145 = .ok (.aload_n 0, 1) := by decide +kernel
theorem dX12_expression_146 : decode cX12_expression 146 = .ok (.bipush 8, 2) := by decide +kernel
theorem dX12_expression_148 : decode cX12_expression 148 = .ok (.invokevirtual 278, 3) := by decide +kernel
theorem dX12_expression_151 : decode cX12_expression 151 = .ok (.ifCond .ne 30, 3) := by decide +kernel
theorem dX12_expression_154 : decode cX12_expression 154 = .ok (.aload_n 0, 1) := by decide +kernel
theorem dX12_expression_155 : decode cX12_expression 155 = .ok (.bipush 9, 2) := by decide +kernel
theorem dX12_expression_157 : decode cX12_expression 157 = .ok (.invokevirtual 278, 3) := by decide +kernel
theorem dX12_expression_160 : decode cX12_expression 160 = .ok (.ifCond .ne 21, 3) := by decide +kernel
theorem dX12_expression_163 : decode cX12_expression 163 = .ok (.aload_n 0, 1) := by decide +kernel
theorem dX12_expression_164 : decode cX12_expression 164 = .ok (.bipush 10, 2) := by decide +kernel
theorem dX12_expression_166 : decode cX12_expression 166 = .ok (.invokevirtual 278, 3) := by decide +kernel
theorem dX12_expression_169 : decode cX12_expression 169 = .ok (.ifCond .ne 12, 3) := by decide +kernel
theorem dX12_expression_172 : decode cX12_expression 172 = .ok (.aload_n 0, 1) := by decide +kernel
theorem dX12_expression_173 : decode cX12_expression 173 = .ok (.bipush 15, 2) := by decide +kernel
theorem dX12_expression_175 : decode cX12_expression 175 = .ok (.invokevirtual 278, 3) := by decide +kernel
theorem dX12_expression_178 : decode cX12_expression 178 = .ok (.ifCond .eq 7, 3) := by decide +kernel
theorem dX12_expression_181 : decode cX12_expression 181 = .ok (.iconst 1, 1) := by decide +kernel
theorem dX12_expression_182 : decode cX12_expression 182 = .ok (.goto 4, 3) := by decide +kernel
theorem dX12_expression_185 : decode cX12_expression 185 = .ok (.iconst 0, 1) := by decide +kernel
theorem dX12_expression_186 : decode cX12_expression 186 = .ok (.istore_n 2, 1) := by decide +kernel
theorem dX12_expression_187 : decode cX12_expression 187 = .ok (.iload_n 2, 1) := by decide +kernel
theorem dX12_expression_188 : decode cX12_expression 188 = .ok (.ifCond .ne 22, 3) := by decide +kernel
theorem dX12_expression_191 : decode cX12_expression 191 = .ok (.aload_n 0, 1) := by decide +kernel
theorem dX12_expression_192 : decode cX12_expression 192 = .ok (.getfield 287, 3) := by decide +kernel
theorem dX12_expression_195 : decode cX12_expression 195 = .ok (.iload_n 1, 1) := by decide +kernel
theorem dX12_expression_196 : decode cX12_expression 196 = .ok (.if_icmp .le 8, 3) := by decide +kernel
theorem dX12_expression_199 : decode cX12_expression 199 = .ok (.aload_n 0, 1) := by decide +kernel
theorem dX12_expression_200 : decode cX12_expression 200 = .ok (.iconst 1, 1) := by decide +kernel
theorem dX12_expression_201 : decode cX12_expression 201 = .ok (.invokevirtual 275, 3) := by decide +kernel
theorem dX12_expression_204 : decode cX12_expression 204 = .ok (.aload_n 0, 1) := by decide +kernel
theorem dX12_expression_205 : decode cX12_expression 205 = .ok (.iconst 0, 1) := by decide +kernel
theorem dX12_expression_206 : decode cX12_expression 206 = .ok (.invokevirtual 370, 3) := by decide +kernel
theorem dX12_expression_209 : decode cX12_expression 209 = .ok (.return_, 1) := by decide +kernel
theorem dX12_expression_210 : decode cX12_expression 210 = .ok (.aload_n 0, 1) := by decide +kernel
theorem dX12_expression_211 : decode cX12_expression 211 = .ok (.aload_n 0, 1) := by decide +kernel
theorem dX12_expression_212 : decode cX12_expression 212 = .ok (.bipush 10, 2) := by decide +kernel
theorem dX12_expression_214 : decode cX12_expression 214 = .ok (.invokevirtual 278, 3) := by decide +kernel
theorem dX12_expression_217 : decode cX12_expression 217 = .ok (.ifCond .ne 12, 3) := by decide +kernel
theorem dX12_expression_220 : decode cX12_expression 220 = .ok (.aload_n 0, 1) := by decide +kernel
theorem dX12_expression_221 : decode cX12_expression 221 = .ok (.bipush 15, 2) := by decide +kernel
theorem dX12_expression_223 : decode cX12_expression 223 = .ok (.invokevirtual 278, 3) := by decide +kernel
theorem dX12_expression_226 : decode cX12_expression 226 = .ok (.ifCond .eq 7, 3) := by decide +kernel
theorem dX12_expression_229 : decode cX12_expression 229 = .ok (.iconst 1, 1) := by decide +kernel
theorem dX12_expression_230 : decode cX12_expression 230 = .ok (.goto 4, 3) := by decide +kernel
theorem dX12_expression_233 : decode cX12_expression 233 = .ok (.iconst 0, 1) := by decide +kernel
theorem dX12_expression_234 : decode cX12_expression 234 = .ok (.invokevirtual 370, 3) := by decide +kernel
theorem dX12_expression_237 : decode cX12_expression 237 = .ok (.aload_n 0, 1) := by decide +kernel
theorem dX12_expression_238 : decode cX12_expression 238 = .ok (.getfield 140, 3) := by decide +kernel
theorem dX12_expression_241 : decode cX12_expression 241 = .ok (.aload_n 0, 1) := by decide +kernel
theorem dX12_expression_242 : decode cX12_expression 242 = .ok (.getfield 361, 3) := by decide +kernel
theorem dX12_expression_245 : decode cX12_expression 245 = .ok (.aload_n 0, 1) := by decide +kernel
theorem dX12_expression_246 : decode cX12_expression 246 = .ok (.getfield 20, 3) := by decide +kernel
theorem dX12_expression_249 : decode cX12_expression 249 = .ok (.aload_n 0, 1) := by decide +kernel
theorem dX12_expression_250 : decode cX12_expression 250 = .ok (.getfield 263, 3) := by decide +kernel
theorem dX12_expression_253 : decode cX12_expression 253 = .ok (.iaload, 1) := by decide +kernel
theorem dX12_expression_254 : decode cX12_expression 254 = .ok (.iastore, 1) := by decide +kernel
theorem dX12_expression_255 : decode cX12_expression 255 = .ok (.aload_n 0, 1) := by decide +kernel
theorem dX12_expression_256 : decode cX12_expression 256 = .ok (.dup, 1) := by decide +kernel
theorem dX12_expression_257 : decode cX12_expression 257 = .ok (.getfield 361, 3) := by decide +kernel
theorem dX12_expression_260 : decode cX12_expression 260 = .ok (.iconst 1, 1) := by decide +kernel
theorem dX12_expression_261 : decode cX12_expression 261 = .ok (.iadd, 1) := by decide +kernel
theorem dX12_expression_262 : decode cX12_expression 262 = .ok (.putfield 361, 3) := by decide +kernel
theorem dX12_expression_265 : decode cX12_expression 265 = .ok (.aload_n 0, 1) := by decide +kernel
theorem dX12_expression_266 : decode cX12_expression 266 = .ok (.invokevirtual 281, 3) := by decide +kernel
theorem dX12_expression_269 : decode cX12_expression 269 = .ok (.goto (-257), 3) := by decide +kernel
theorem dX12_expression_272 : decode cX12_expression 272 = .ok (.return_, 1) := by decide +kernel
theorem dX12_unit_0 : decode cX12_unit 0 = .ok (.aload_n 0, 1) := by decide +kernel
theorem dX12_unit_1 : decode cX12_unit 1 = .ok (.iconst 2, 1) := by decide +kernel
theorem dX12_unit_2 : decode cX12_unit 2 = .ok (.invokevirtual 278, 3) := by decide +kernel
theorem dX12_unit_5 : decode cX12_unit 5 = .ok (.ifCond .eq 24, 3) := by decide +kernel
theorem dX12_unit_8 : decode cX12_unit 8 = .ok (.aload_n 0, 1) := by decide +kernel
theorem dX12_unit_9 : decode cX12_unit 9 = .ok (.iconst 0, 1) := by decide +kernel
theorem dX12_unit_10 : decode cX12_unit 10 = .ok (.aload_n 0, 1) := by decide +kernel
theorem dX12_unit_11 : decode cX12_unit 11 = .ok (.getfield 27, 3) := by decide +kernel
theorem dX12_unit_14 : decode cX12_unit 14 = .ok (.aload_n 0, 1) := by decide +kernel
theorem dX12_unit_15 : decode cX12_unit 15 = .ok (.getfield 263, 3) := by decide +kernel
theorem dX12_unit_18 : decode cX12_unit 18 = .ok (.iaload, 1) := by decide +kernel
theorem dX12_unit_19 : decode cX12_unit 19 = .ok (.invokevirtual 364, 3) := by decide +kernel
theorem dX12_unit_22 : decode cX12_unit 22 = .ok (.aload_n 0, 1) := by decide +kernel
theorem dX12_unit_23 : decode cX12_unit 23 = .ok (.invokevirtual 281, 3) := by decide +kernel
theorem dX12_unit_26 : decode cX12_unit 26 = .ok (.goto 67, 3) := by decide +kernel
theorem dX12_unit_29 : decode cX12_unit 29 = .ok (.aload_n 0, 1) := by decide +kernel
theorem dX12_unit_30 : decode cX12_unit 30 = .ok (.getfield 260, 3) := by decide +kernel
theorem dX12_unit_33 : decode cX12_unit 33 = .ok (.ifCond .ne 55, 3) := by decide +kernel
theorem dX12_unit_36 : decode cX12_unit 36 = .ok (.aload_n 0, 1) := by decide +kernel
theorem dX12_unit_37 : decode cX12_unit 37 = .ok (.getfield 20, 3) := by decide +kernel
theorem dX12_unit_40 : decode cX12_unit 40 = .ok (.aload_n 0, 1) := by decide +kernel
theorem dX12_unit_41 : decode cX12_unit 41 = .ok (.getfield 263, 3) := by decide +kernel
theorem dX12_unit_44 : decode cX12_unit 44 = .ok (.iaload, 1) := by decide +kernel
theorem dX12_unit_45 : decode cX12_unit 45 = .ok (.bipush 36, 2) := by decide +kernel
theorem dX12_unit_47 : decode cX12_unit 47 = .ok (.if_icmp .lt 41, 3) := by decide +kernel
theorem dX12_unit_50 : decode cX12_unit 50 = .ok (.aload_n 0, 1) := by decide +kernel
theorem dX12_unit_51 : decode cX12_unit 51 = .ok (.getfield 20, 3) := by decide +kernel
theorem dX12_unit_54 : decode cX12_unit 54 = .ok (.aload_n 0, 1) := by decide +kernel
theorem dX12_unit_55 : decode cX12_unit 55 = .ok (.getfield 263, 3) := by decide +kernel
theorem dX12_unit_58 : decode cX12_unit 58 = .ok (.iaload, 1) := by decide +kernel
theorem dX12_unit_59 : decode cX12_unit 59 = .ok (.bipush 39, 2) := by decide +kernel
theorem dX12_unit_61 : decode cX12_unit 61 = .ok (.if_icmp .gt 27, 3) := by decide +kernel
theorem dX12_unit_64 : decode cX12_unit 64 = .ok (.aload_n 0, 1) := by decide +kernel
theorem dX12_unit_65 : decode cX12_unit 65 = .ok (.iconst 1, 1) := by decide +kernel
theorem dX12_unit_66 : decode cX12_unit 66 = .ok (.aload_n 0, 1) := by decide +kernel
theorem dX12_unit_67 : decode cX12_unit 67 = .ok (.getfield 20, 3) := by decide +kernel
theorem dX12_unit_70 : decode cX12_unit 70 = .ok (.aload_n 0, 1) := by decide +kernel
theorem dX12_unit_71 : decode cX12_unit 71 = .ok (.getfield 263, 3) := by decide +kernel
theorem dX12_unit_74 : decode cX12_unit 74 = .ok (.iaload, 1) := by decide +kernel
theorem dX12_unit_75 : decode cX12_unit 75 = .ok (.bipush 36, 2) := by decide +kernel
theorem dX12_unit_77 : decode cX12_unit 77 = .ok (.isub, 1) := by decide +kernel
theorem dX12_unit_78 : decode cX12_unit 78 = .ok (.invokevirtual 364, 3) := by decide +kernel
theorem dX12_unit_81 : decode cX12_unit 81 = .ok (.aload_n 0, 1) := by decide +kernel
theorem dX12_unit_82 : decode cX12_unit 82 = .ok (.invokevirtual 281, 3) := by decide +kernel
theorem dX12_unit_85 : decode cX12_unit 85 = .ok (.goto 8, 3) := by decide +kernel
theorem dX12_unit_88 : decode cX12_unit 88 = .ok (.aload_n 0, 1) := by decide +kernel
theorem dX12_unit_89 : decode cX12_unit 89 = .ok (.iconst 1, 1) := by decide +kernel
theorem dX12_unit_90 : decode cX12_unit 90 = .ok (.invokevirtual 275, 3) := by decide +kernel
theorem dX12_unit_93 : decode cX12_unit 93 = .ok (.return_, 1) := by decide +kernel
theorem dX12_termOf_0 : decode cX12_termOf 0 = .ok (.iconst 0, 1) := by decide +kernel
theorem dX12_termOf_1 : decode cX12_termOf 1 = .ok (.istore_n 3, 1) := by decide +kernel
theorem dX12_termOf_2 : decode cX12_termOf 2 = .ok (.aload_n 0, 1) := by decide +kernel
theorem dX12_termOf_3 : decode cX12_termOf 3 = .ok (.iconst 0, 1) := by decide +kernel
theorem dX12_termOf_4 : decode cX12_termOf 4 = .ok (.putfield 373, 3) := by decide +kernel
theorem dX12_termOf_7 : decode cX12_termOf 7 = .ok (.iload_n 1, 1) := by decide +kernel
theorem dX12_termOf_8 : decode cX12_termOf 8 = .ok (.istore 4, 2) := by decide +kernel
theorem dX12_termOf_10 : decode cX12_termOf 10 = .ok (.iload 4, 2) := by decide +kernel
theorem dX12_termOf_12 : decode cX12_termOf 12 = .ok (.iload_n 2, 1) := by decide +kernel
theorem dX12_termOf_13 : decode cX12_termOf 13 = .ok (.if_icmp .ge 157, 3) := by decide +kernel
theorem dX12_termOf_16 : decode cX12_termOf 16 = .ok (.aload_n 0, 1) := by decide +kernel
theorem dX12_termOf_17 : decode cX12_termOf 17 = .ok (.getfield 134, 3) := by decide +kernel
theorem dX12_termOf_20 : decode cX12_termOf 20 = .ok (.iload 4, 2) := by decide +kernel
theorem dX12_termOf_22 : decode cX12_termOf 22 = .ok (.iaload, 1) := by decide +kernel
theorem dX12_termOf_23 : decode cX12_termOf 23 = .ok (.istore 5, 2) := by decide +kernel
theorem dX12_termOf_25 : decode cX12_termOf 25 = .ok (.iload 5, 2) := by decide +kernel
theorem dX12_termOf_27 : decode cX12_termOf 27 = .ok (.iconst 2, 1) := by decide +kernel
theorem dX12_termOf_28 : decode cX12_termOf 28 = .ok (.if_icmp .ge 42, 3) := by decide +kernel
theorem dX12_termOf_31 : decode cX12_termOf 31 = .ok (.aload_n 0, 1) := by decide +kernel
theorem dX12_termOf_32 : decode cX12_termOf 32 = .ok (.getfield 146, 3) := by decide +kernel
theorem dX12_termOf_35 : decode cX12_termOf 35 = .ok (.iload_n 3, 1) := by decide +kernel
theorem dX12_termOf_36 : decode cX12_termOf 36 = .ok (.iload 5, 2) := by decide +kernel
theorem dX12_termOf_38 : decode cX12_termOf 38 = .ok (.ifCond .ne 13, 3) := by decide +kernel
theorem dX12_termOf_41 : decode cX12_termOf 41 = .ok (.aload_n 0, 1) := by decide +kernel
theorem dX12_termOf_42 : decode cX12_termOf 42 = .ok (.getfield 137, 3) := by decide +kernel
theorem dX12_termOf_45 : decode cX12_termOf 45 = .ok (.iload 4, 2) := by decide +kernel
theorem dX12_termOf_47 : decode cX12_termOf 47 = .ok (.iaload, 1) := by decide +kernel
theorem dX12_termOf_48 : decode cX12_termOf 48 = .ok (.goto 15, 3) := by decide +kernel
theorem dX12_termOf_51 : decode cX12_termOf 51 = .ok (.aload_n 0, 1) := by decide +kernel
theorem dX12_termOf_52 : decode cX12_termOf 52 = .ok (.getfield 143, 3) := by decide +kernel
theorem dX12_termOf_55 : decode cX12_termOf 55 = .ok (.aload_n 0, 1) := by decide +kernel
theorem dX12_termOf_56 : decode cX12_termOf 56 = .ok (.getfield 137, 3) := by decide +kernel
theorem dX12_termOf_59 : decode cX12_termOf 59 = .ok (.iload 4, 2) := by decide +kernel
theorem dX12_termOf_61 : decode cX12_termOf 61 = .ok (.iaload, 1) := by decide +kernel
theorem dX12_termOf_62 : decode cX12_termOf 62 = .ok (.iaload, 1) := by decide +kernel
theorem dX12_termOf_63 : decode cX12_termOf 63 = .ok (.iastore, 1) := by decide +kernel
theorem dX12_termOf_64 : decode cX12_termOf 64 = .ok (.iinc 3 1, 3) := by decide +kernel
theorem dX12_termOf_67 : decode cX12_termOf 67 = .ok (.goto 97, 3) := by decide +kernel
theorem dX12_termOf_70 : decode cX12_termOf 70 = .ok (.iinc 3 (-1), 3) := by decide +kernel
theorem dX12_termOf_73 : decode cX12_termOf 73 = .ok (.aload_n 0, 1) := by decide +kernel
theorem dX12_termOf_74 : decode cX12_termOf 74 = .ok (.getfield 146, 3) := by decide +kernel
theorem dX12_termOf_77 : decode cX12_termOf 77 = .ok (.iload_n 3, 1) := by decide +kernel
theorem dX12_termOf_78 : decode cX12_termOf 78 = .ok (.iconst 1, 1) := by decide +kernel
theorem dX12_termOf_79 : decode cX12_termOf 79 = .ok (.isub, 1) := by decide +kernel
theorem dX12_termOf_80 : decode cX12_termOf 80 = .ok (.iaload, 1) := by decide +kernel
theorem dX12_termOf_81 : decode cX12_termOf 81 = .ok (.istore 6, 2) := by decide +kernel
theorem dX12_termOf_83 : decode cX12_termOf 83 = .ok (.aload_n 0, 1) := by decide +kernel
theorem dX12_termOf_84 : decode cX12_termOf 84 = .ok (.getfield 146, 3) := by decide +kernel
theorem dX12_termOf_87 : decode cX12_termOf 87 = .ok (.iload_n 3, 1) := by decide +kernel
theorem dX12_termOf_88 : decode cX12_termOf 88 = .ok (.iaload, 1) := by decide +kernel
theorem dX12_termOf_89 : decode cX12_termOf 89 = .ok (.istore 7, 2) := by decide +kernel
theorem dX12_termOf_91 : decode cX12_termOf 91 = .ok (.iload 5, 2) := by decide +kernel
theorem dX12_termOf_93 : decode cX12_termOf 93 = .ok (.iconst 5, 1) := by decide +kernel
theorem dX12_termOf_94 : decode cX12_termOf 94 = .ok (.if_icmp .ne 15, 3) := by decide +kernel
theorem dX12_termOf_97 : decode cX12_termOf 97 = .ok (.iload 7, 2) := by decide +kernel
theorem dX12_termOf_99 : decode cX12_termOf 99 = .ok (.ifCond .ne 10, 3) := by decide +kernel
theorem dX12_termOf_102 : decode cX12_termOf 102 = .ok (.aload_n 0, 1) := by decide +kernel
theorem dX12_termOf_103 : decode cX12_termOf 103 = .ok (.iconst 1, 1) := by decide +kernel
theorem dX12_termOf_104 : decode cX12_termOf 104 = .ok (.putfield 373, 3) := by decide +kernel
theorem dX12_termOf_107 : decode cX12_termOf 107 = .ok (.iconst 0, 1) := by decide +kernel
theorem dX12_termOf_108 : decode cX12_termOf 108 = .ok (.ireturn, 1) := by decide +kernel
theorem dX12_termOf_109 : decode cX12_termOf 109 = .ok (.aload_n 0, 1) := by decide +kernel
theorem dX12_termOf_110 : decode cX12_termOf 110 = .ok (.getfield 146, 3) := by decide +kernel
theorem dX12_termOf_113 : decode cX12_termOf 113 = .ok (.iload_n 3, 1) := by decide +kernel
theorem dX12_termOf_114 : decode cX12_termOf 114 = .ok (.iconst 1, 1) := by decide +kernel
theorem dX12_termOf_115 : decode cX12_termOf 115 = .ok (.isub, 1) := by decide +kernel
theorem dX12_termOf_116 : decode cX12_termOf 116 = .ok (.iload 5, 2) := by decide +kernel
theorem dX12_termOf_118 : decode cX12_termOf 118 = .ok (.iconst 2, 1) := by decide +kernel
theorem dX12_termOf_119 : decode cX12_termOf 119 = .ok (.if_icmp .ne 11, 3) := by decide +kernel
theorem dX12_termOf_122 : decode cX12_termOf 122 = .ok (.iload 6, 2) := by decide +kernel
theorem dX12_termOf_124 : decode cX12_termOf 124 = .ok (.iload 7, 2) := by decide +kernel
theorem dX12_termOf_126 : decode cX12_termOf 126 = .ok (.iadd, 1) := by decide +kernel
theorem dX12_termOf_127 : decode cX12_termOf 127 = .ok (.goto 36, 3) := by decide +kernel
theorem dX12_termOf_130 : decode cX12_termOf 130 = .ok (.iload 5, 2) := by decide +kernel
theorem dX12_termOf_132 : decode cX12_termOf 132 = .ok (.iconst 3, 1) := by decide +kernel
theorem dX12_termOf_133 : decode cX12_termOf 133 = .ok (.if_icmp .ne 11, 3) := by decide +kernel
theorem dX12_termOf_136 : decode cX12_termOf 136 = .ok (.iload 6, 2) := by decide +kernel
theorem dX12_termOf_138 : decode cX12_termOf 138 = .ok (.iload 7, 2) := by decide +kernel
theorem dX12_termOf_140 : decode cX12_termOf 140 = .ok (.isub, 1) := by decide +kernel
theorem dX12_termOf_141 : decode cX12_termOf 141 = .ok (.goto 22, 3) := by decide +kernel
theorem dX12_termOf_144 : decode cX12_termOf 144 = .ok (.iload 5, 2) := by decide +kernel
theorem dX12_termOf_146 : decode cX12_termOf 146 = .ok (.iconst 4, 1) := by decide +kernel
theorem dX12_termOf_147 : decode cX12_termOf 147 = .ok (.if_icmp .ne 11, 3) := by decide +kernel
theorem dX12_termOf_150 : decode cX12_termOf 150 = .ok (.iload 6, 2) := by decide +kernel
theorem dX12_termOf_152 : decode cX12_termOf 152 = .ok (.iload 7, 2) := by decide +kernel
theorem dX12_termOf_154 : decode cX12_termOf 154 = .ok (.imul, 1) := by decide +kernel
theorem dX12_termOf_155 : decode cX12_termOf 155 = .ok (.goto 8, 3) := by decide +kernel
theorem dX12_termOf_158 : decode cX12_termOf 158 = .ok (.iload 6, 2) := by decide +kernel
theorem dX12_termOf_160 : decode cX12_termOf 160 = .ok (.iload 7, 2) := by decide +kernel
theorem dX12_termOf_162 : decode cX12_termOf 162 = .ok (.idiv, 1) := by decide +kernel
theorem dX12_termOf_163 : decode cX12_termOf 163 = .ok (.iastore, 1) := by decide +kernel
theorem dX12_termOf_164 : decode cX12_termOf 164 = .ok (.iinc 4 1, 3) := by decide +kernel
theorem dX12_termOf_167 : decode cX12_termOf 167 = .ok (.goto (-157), 3) := by decide +kernel
theorem dX12_termOf_170 : decode cX12_termOf 170 = .ok (.aload_n 0, 1) := by decide +kernel
theorem dX12_termOf_171 : decode cX12_termOf 171 = .ok (.getfield 146, 3) := by decide +kernel
theorem dX12_termOf_174 : decode cX12_termOf 174 = .ok (.iconst 0, 1) := by decide +kernel
theorem dX12_termOf_175 : decode cX12_termOf 175 = .ok (.iaload, 1) := by decide +kernel
theorem dX12_termOf_176 : decode cX12_termOf 176 = .ok (.ireturn, 1) := by decide +kernel
theorem dX12_isTrue_0 : decode cX12_isTrue 0 = .ok (.aload_n 0, 1) := by decide +kernel
theorem dX12_isTrue_1 : decode cX12_isTrue 1 = .ok (.aload_n 0, 1) := by decide +kernel
theorem dX12_isTrue_2 : decode cX12_isTrue 2 = .ok (.getfield 125, 3) := by decide +kernel
theorem dX12_isTrue_5 : decode cX12_isTrue 5 = .ok (.iload_n 1, 1) := by decide +kernel
theorem dX12_isTrue_6 : decode cX12_isTrue 6 = .ok (.iaload, 1) := by decide +kernel
theorem dX12_isTrue_7 : decode cX12_isTrue 7 = .ok (.aload_n 0, 1) := by decide +kernel
theorem dX12_isTrue_8 : decode cX12_isTrue 8 = .ok (.getfield 128, 3) := by decide +kernel
theorem dX12_isTrue_11 : decode cX12_isTrue 11 = .ok (.iload_n 1, 1) := by decide +kernel
theorem dX12_isTrue_12 : decode cX12_isTrue 12 = .ok (.iaload, 1) := by decide +kernel
theorem dX12_isTrue_13 : decode cX12_isTrue 13 = .ok (.invokevirtual 377, 3) := by decide +kernel
theorem dX12_isTrue_16 : decode cX12_isTrue 16 = .ok (.istore_n 2, 1) := by decide +kernel
theorem dX12_isTrue_17 : decode cX12_isTrue 17 = .ok (.aload_n 0, 1) := by decide +kernel
theorem dX12_isTrue_18 : decode cX12_isTrue 18 = .ok (.getfield 373, 3) := by decide +kernel
theorem dX12_isTrue_21 : decode cX12_isTrue 21 = .ok (.istore_n 3, 1) := by decide +kernel
theorem dX12_isTrue_22 : decode cX12_isTrue 22 = .ok (.aload_n 0, 1) := by decide +kernel
theorem dX12_isTrue_23 : decode cX12_isTrue 23 = .ok (.aload_n 0, 1) := by decide +kernel
theorem dX12_isTrue_24 : decode cX12_isTrue 24 = .ok (.getfield 128, 3) := by decide +kernel
theorem dX12_isTrue_27 : decode cX12_isTrue 27 = .ok (.iload_n 1, 1) := by decide +kernel
theorem dX12_isTrue_28 : decode cX12_isTrue 28 = .ok (.iaload, 1) := by decide +kernel
theorem dX12_isTrue_29 : decode cX12_isTrue 29 = .ok (.aload_n 0, 1) := by decide +kernel
theorem dX12_isTrue_30 : decode cX12_isTrue 30 = .ok (.getfield 131, 3) := by decide +kernel
theorem dX12_isTrue_33 : decode cX12_isTrue 33 = .ok (.iload_n 1, 1) := by decide +kernel
theorem dX12_isTrue_34 : decode cX12_isTrue 34 = .ok (.iaload, 1) := by decide +kernel
theorem dX12_isTrue_35 : decode cX12_isTrue 35 = .ok (.invokevirtual 377, 3) := by decide +kernel
theorem dX12_isTrue_38 : decode cX12_isTrue 38 = .ok (.istore 4, 2) := by decide +kernel
theorem dX12_isTrue_40 : decode cX12_isTrue 40 = .ok (.iload_n 3, 1) := by decide +kernel
theorem dX12_isTrue_41 : decode cX12_isTrue 41 = .ok (.ifCond .ne 10, 3) := by decide +kernel
theorem dX12_isTrue_44 : decode cX12_isTrue 44 = .ok (.aload_n 0, 1) := by decide +kernel
theorem dX12_isTrue_45 : decode cX12_isTrue 45 = .ok (.getfield 373, 3) := by decide +kernel
theorem dX12_isTrue_48 : decode cX12_isTrue 48 = .ok (.ifCond .eq 7, 3) := by decide +kernel
theorem dX12_isTrue_51 : decode cX12_isTrue 51 = .ok (.iconst 1, 1) := by decide +kernel
theorem dX12_isTrue_52 : decode cX12_isTrue 52 = .ok (.goto 4, 3) := by decide +kernel
theorem dX12_isTrue_55 : decode cX12_isTrue 55 = .ok (.iconst 0, 1) := by decide +kernel
theorem dX12_isTrue_56 : decode cX12_isTrue 56 = .ok (.istore_n 3, 1) := by decide +kernel
theorem dX12_isTrue_57 : decode cX12_isTrue 57 = .ok (.aload_n 0, 1) := by decide +kernel
theorem dX12_isTrue_58 : decode cX12_isTrue 58 = .ok (.getfield 115, 3) := by decide +kernel
theorem dX12_isTrue_61 : decode cX12_isTrue 61 = .ok (.iload_n 1, 1) := by decide +kernel
theorem dX12_isTrue_62 : decode cX12_isTrue 62 = .ok (.iaload, 1) := by decide +kernel
theorem dX12_isTrue_63 : decode cX12_isTrue 63 = .ok (.ifCond .ne 17, 3) := by decide +kernel
theorem dX12_isTrue_66 : decode cX12_isTrue 66 = .ok (.iload_n 2, 1) := by decide +kernel
theorem dX12_isTrue_67 : decode cX12_isTrue 67 = .ok (.iload 4, 2) := by decide +kernel
theorem dX12_isTrue_69 : decode cX12_isTrue 69 = .ok (.if_icmp .ne 7, 3) := by decide +kernel
theorem dX12_isTrue_72 : decode cX12_isTrue 72 = .ok (.iconst 1, 1) := by decide +kernel
theorem dX12_isTrue_73 : decode cX12_isTrue 73 = .ok (.goto 66, 3) := by decide +kernel
theorem dX12_isTrue_76 : decode cX12_isTrue 76 = .ok (.iconst 0, 1) := by decide +kernel
theorem dX12_isTrue_77 : decode cX12_isTrue 77 = .ok (.goto 62, 3) := by decide +kernel
theorem dX12_isTrue_80 : decode cX12_isTrue 80 = .ok (.aload_n 0, 1) := by decide +kernel
theorem dX12_isTrue_81 : decode cX12_isTrue 81 = .ok (.getfield 115, 3) := by decide +kernel
theorem dX12_isTrue_84 : decode cX12_isTrue 84 = .ok (.iload_n 1, 1) := by decide +kernel
theorem dX12_isTrue_85 : decode cX12_isTrue 85 = .ok (.iaload, 1) := by decide +kernel
theorem dX12_isTrue_86 : decode cX12_isTrue 86 = .ok (.iconst 1, 1) := by decide +kernel
theorem dX12_isTrue_87 : decode cX12_isTrue 87 = .ok (.if_icmp .ne 17, 3) := by decide +kernel
theorem dX12_isTrue_90 : decode cX12_isTrue 90 = .ok (.iload_n 2, 1) := by decide +kernel
theorem dX12_isTrue_91 : decode cX12_isTrue 91 = .ok (.iload 4, 2) := by decide +kernel
theorem dX12_isTrue_93 : decode cX12_isTrue 93 = .ok (.if_icmp .eq 7, 3) := by decide +kernel
theorem dX12_isTrue_96 : decode cX12_isTrue 96 = .ok (.iconst 1, 1) := by decide +kernel
theorem dX12_isTrue_97 : decode cX12_isTrue 97 = .ok (.goto 42, 3) := by decide +kernel
theorem dX12_isTrue_100 : decode cX12_isTrue 100 = .ok (.iconst 0, 1) := by decide +kernel
theorem dX12_isTrue_101 : decode cX12_isTrue 101 = .ok (.goto 38, 3) := by decide +kernel
theorem dX12_isTrue_104 : decode cX12_isTrue 104 = .ok (.aload_n 0, 1) := by decide +kernel
theorem dX12_isTrue_105 : decode cX12_isTrue 105 = .ok (.getfield 115, 3) := by decide +kernel
theorem dX12_isTrue_108 : decode cX12_isTrue 108 = .ok (.iload_n 1, 1) := by decide +kernel
theorem dX12_isTrue_109 : decode cX12_isTrue 109 = .ok (.iaload, 1) := by decide +kernel
theorem dX12_isTrue_110 : decode cX12_isTrue 110 = .ok (.iconst 2, 1) := by decide +kernel
theorem dX12_isTrue_111 : decode cX12_isTrue 111 = .ok (.if_icmp .ne 17, 3) := by decide +kernel
theorem dX12_isTrue_114 : decode cX12_isTrue 114 = .ok (.iload_n 2, 1) := by decide +kernel
theorem dX12_isTrue_115 : decode cX12_isTrue 115 = .ok (.iload 4, 2) := by decide +kernel
theorem dX12_isTrue_117 : decode cX12_isTrue 117 = .ok (.if_icmp .ge 7, 3) := by decide +kernel
theorem dX12_isTrue_120 : decode cX12_isTrue 120 = .ok (.iconst 1, 1) := by decide +kernel
theorem dX12_isTrue_121 : decode cX12_isTrue 121 = .ok (.goto 18, 3) := by decide +kernel
theorem dX12_isTrue_124 : decode cX12_isTrue 124 = .ok (.iconst 0, 1) := by decide +kernel
theorem dX12_isTrue_125 : decode cX12_isTrue 125 = .ok (.goto 14, 3) := by decide +kernel
theorem dX12_isTrue_128 : decode cX12_isTrue 128 = .ok (.iload_n 2, 1) := by decide +kernel
theorem dX12_isTrue_129 : decode cX12_isTrue 129 = .ok (.iload 4, 2) := by decide +kernel
theorem dX12_isTrue_131 : decode cX12_isTrue 131 = .ok (.if_icmp .gt 7, 3) := by decide +kernel
theorem dX12_isTrue_134 : decode cX12_isTrue 134 = .ok (.iconst 1, 1) := by decide +kernel
theorem dX12_isTrue_135 : decode cX12_isTrue 135 = .ok (.goto 4, 3) := by decide +kernel
theorem dX12_isTrue_138 : decode cX12_isTrue 138 = .ok (.iconst 0, 1) := by decide +kernel
theorem dX12_isTrue_139 : decode cX12_isTrue 139 = .ok (.istore 5, 2) := by decide +kernel
theorem dX12_isTrue_141 : decode cX12_isTrue 141 = .ok (.iload 5, 2) := by decide +kernel
theorem dX12_isTrue_143 : decode cX12_isTrue 143 = .ok (.ifCond .eq 11, 3) := by decide +kernel
theorem dX12_isTrue_146 : decode cX12_isTrue 146 = .ok (.iload_n 3, 1) := by decide +kernel
theorem dX12_isTrue_147 : decode cX12_isTrue 147 = .ok (.ifCond .ne 7, 3) := by decide +kernel
theorem dX12_isTrue_150 : decode cX12_isTrue 150 = .ok (.iconst 1, 1) := by decide +kernel
theorem dX12_isTrue_151 : decode cX12_isTrue 151 = .ok (.goto 4, 3) := by decide +kernel
theorem dX12_isTrue_154 : decode cX12_isTrue 154 = .ok (.iconst 0, 1) := by decide +kernel
theorem dX12_isTrue_155 : decode cX12_isTrue 155 = .ok (.aload_n 0, 1) := by decide +kernel
theorem dX12_isTrue_156 : decode cX12_isTrue 156 = .ok (.getfield 118, 3) := by decide +kernel
theorem dX12_isTrue_159 : decode cX12_isTrue 159 = .ok (.iload_n 1, 1) := by decide +kernel
theorem dX12_isTrue_160 : decode cX12_isTrue 160 = .ok (.baload, 1) := by decide +kernel
theorem dX12_isTrue_161 : decode cX12_isTrue 161 = .ok (.if_icmp .eq 7, 3) := by decide +kernel
theorem dX12_isTrue_164 : decode cX12_isTrue 164 = .ok (.iconst 1, 1) := by decide +kernel
theorem dX12_isTrue_165 : decode cX12_isTrue 165 = .ok (.goto 4, 3) := by decide +kernel
theorem dX12_isTrue_168 : decode cX12_isTrue 168 = .ok (.iconst 0, 1) := by decide +kernel
theorem dX12_isTrue_169 : decode cX12_isTrue 169 = .ok (.ireturn, 1) := by decide +kernel
theorem dX12_holdsRule_0 : decode cX12_holdsRule 0 = .ok (.iconst 0, 1) := by decide +kernel
theorem dX12_holdsRule_1 : decode cX12_holdsRule 1 = .ok (.istore_n 2, 1) := by decide +kernel
theorem dX12_holdsRule_2 : decode cX12_holdsRule 2 = .ok (.aload_n 0, 1) := by decide +kernel
theorem dX12_holdsRule_3 : decode cX12_holdsRule 3 = .ok (.getfield 109, 3) := by decide +kernel
theorem dX12_holdsRule_6 : decode cX12_holdsRule 6 = .ok (.iload_n 1, 1) := by decide +kernel
theorem dX12_holdsRule_7 : decode cX12_holdsRule 7 = .ok (.iaload, 1) := by decide +kernel
theorem dX12_holdsRule_8 : decode cX12_holdsRule 8 = .ok (.istore_n 3, 1) := by decide +kernel
theorem dX12_holdsRule_9 : decode cX12_holdsRule 9 = .ok (.iload_n 3, 1) := by decide +kernel
theorem dX12_holdsRule_10 : decode cX12_holdsRule 10 = .ok (.aload_n 0, 1) := by decide +kernel
theorem dX12_holdsRule_11 : decode cX12_holdsRule 11 = .ok (.getfield 112, 3) := by decide +kernel
theorem dX12_holdsRule_14 : decode cX12_holdsRule 14 = .ok (.iload_n 1, 1) := by decide +kernel
theorem dX12_holdsRule_15 : decode cX12_holdsRule 15 = .ok (.iaload, 1) := by decide +kernel
theorem dX12_holdsRule_16 : decode cX12_holdsRule 16 = .ok (.if_icmp .ge 53, 3) := by decide +kernel
theorem dX12_holdsRule_19 : decode cX12_holdsRule 19 = .ok (.aload_n 0, 1) := by decide +kernel
theorem dX12_holdsRule_20 : decode cX12_holdsRule 20 = .ok (.getfield 122, 3) := by decide +kernel
theorem dX12_holdsRule_23 : decode cX12_holdsRule 23 = .ok (.iload_n 3, 1) := by decide +kernel
theorem dX12_holdsRule_24 : decode cX12_holdsRule 24 = .ok (.baload, 1) := by decide +kernel
theorem dX12_holdsRule_25 : decode cX12_holdsRule 25 = .ok (.ifCond .eq 9, 3) := by decide +kernel
theorem dX12_holdsRule_28 : decode cX12_holdsRule 28 = .ok (.iload_n 2, 1) := by decide +kernel
theorem dX12_holdsRule_29 : decode cX12_holdsRule 29 = .ok (.ifCond .eq 5, 3) := by decide +kernel
theorem dX12_holdsRule_32 : decode cX12_holdsRule 32 = .ok (.iconst 1, 1) := by decide +kernel
theorem dX12_holdsRule_33 : decode cX12_holdsRule 33 = .ok (.ireturn, 1) := by decide +kernel
theorem dX12_holdsRule_34 : decode cX12_holdsRule 34 = .ok (.aload_n 0, 1) := by decide +kernel
theorem dX12_holdsRule_35 : decode cX12_holdsRule 35 = .ok (.getfield 122, 3) := by decide +kernel
theorem dX12_holdsRule_38 : decode cX12_holdsRule 38 = .ok (.iload_n 3, 1) := by decide +kernel
theorem dX12_holdsRule_39 : decode cX12_holdsRule 39 = .ok (.baload, 1) := by decide +kernel
theorem dX12_holdsRule_40 : decode cX12_holdsRule 40 = .ok (.ifCond .eq 5, 3) := by decide +kernel
theorem dX12_holdsRule_43 : decode cX12_holdsRule 43 = .ok (.iconst 1, 1) := by decide +kernel
theorem dX12_holdsRule_44 : decode cX12_holdsRule 44 = .ok (.istore_n 2, 1) := by decide +kernel
theorem dX12_holdsRule_45 : decode cX12_holdsRule 45 = .ok (.iload_n 2, 1) := by decide +kernel
theorem dX12_holdsRule_46 : decode cX12_holdsRule 46 = .ok (.ifCond .eq 15, 3) := by decide +kernel
theorem dX12_holdsRule_49 : decode cX12_holdsRule 49 = .ok (.aload_n 0, 1) := by decide +kernel
theorem dX12_holdsRule_50 : decode cX12_holdsRule 50 = .ok (.iload_n 3, 1) := by decide +kernel
theorem dX12_holdsRule_51 : decode cX12_holdsRule 51 = .ok (.invokevirtual 380, 3) := by decide +kernel
theorem dX12_holdsRule_54 : decode cX12_holdsRule 54 = .ok (.ifCond .eq 7, 3) := by decide +kernel
theorem dX12_holdsRule_57 : decode cX12_holdsRule 57 = .ok (.iconst 1, 1) := by decide +kernel
theorem dX12_holdsRule_58 : decode cX12_holdsRule 58 = .ok (.goto 4, 3) := by decide +kernel
theorem dX12_holdsRule_61 : decode cX12_holdsRule 61 = .ok (.iconst 0, 1) := by decide +kernel
theorem dX12_holdsRule_62 : decode cX12_holdsRule 62 = .ok (.istore_n 2, 1) := by decide +kernel
theorem dX12_holdsRule_63 : decode cX12_holdsRule 63 = .ok (.iinc 3 1, 3) := by decide +kernel
theorem dX12_holdsRule_66 : decode cX12_holdsRule 66 = .ok (.goto (-57), 3) := by decide +kernel
theorem dX12_holdsRule_69 : decode cX12_holdsRule 69 = .ok (.iload_n 2, 1) := by decide +kernel
theorem dX12_holdsRule_70 : decode cX12_holdsRule 70 = .ok (.ireturn, 1) := by decide +kernel
theorem dX12_in_0 : decode cX12_in 0 = .ok (.iload_n 0, 1) := by decide +kernel
theorem dX12_in_1 : decode cX12_in 1 = .ok (.iload_n 1, 1) := by decide +kernel
theorem dX12_in_2 : decode cX12_in 2 = .ok (.if_icmp .lt 12, 3) := by decide +kernel
theorem dX12_in_5 : decode cX12_in 5 = .ok (.iload_n 0, 1) := by decide +kernel
theorem dX12_in_6 : decode cX12_in 6 = .ok (.iload_n 2, 1) := by decide +kernel
theorem dX12_in_7 : decode cX12_in 7 = .ok (.if_icmp .gt 7, 3) := by decide +kernel
theorem dX12_in_10 : decode cX12_in 10 = .ok (.iconst 1, 1) := by decide +kernel
theorem dX12_in_11 : decode cX12_in 11 = .ok (.goto 4, 3) := by decide +kernel
theorem dX12_in_14 : decode cX12_in 14 = .ok (.iconst 0, 1) := by decide +kernel
theorem dX12_in_15 : decode cX12_in 15 = .ok (.ireturn, 1) := by decide +kernel
theorem dX12_has_0 : decode cX12_has 0 = .ok (.aload_n 0, 1) := by decide +kernel
theorem dX12_has_1 : decode cX12_has 1 = .ok (.getfield 49, 3) := by decide +kernel
theorem dX12_has_4 : decode cX12_has 4 = .ok (.bipush 8, 2) := by decide +kernel
theorem dX12_has_6 : decode cX12_has 6 = .ok (.aload_n 0, 1) := by decide +kernel
theorem dX12_has_7 : decode cX12_has 7 = .ok (.getfield 290, 3) := by decide +kernel
theorem dX12_has_10 : decode cX12_has 10 = .ok (.imul, 1) := by decide +kernel
theorem dX12_has_11 : decode cX12_has 11 = .ok (.iload_n 1, 1) := by decide +kernel
theorem dX12_has_12 : decode cX12_has 12 = .ok (.iadd, 1) := by decide +kernel
theorem dX12_has_13 : decode cX12_has 13 = .ok (.iaload, 1) := by decide +kernel
theorem dX12_has_14 : decode cX12_has 14 = .ok (.ireturn, 1) := by decide +kernel
theorem dX12_isPerson_0 : decode cX12_isPerson 0 = .ok (.iload_n 1, 1) := by decide +kernel
theorem dX12_isPerson_1 : decode cX12_isPerson 1 = .ok (.iconst 0, 1) := by decide +kernel
theorem dX12_isPerson_2 : decode cX12_isPerson 2 = .ok (.aload_n 0, 1) := by decide +kernel
theorem dX12_isPerson_3 : decode cX12_isPerson 3 = .ok (.iconst 1, 1) := by decide +kernel
theorem dX12_isPerson_4 : decode cX12_isPerson 4 = .ok (.invokevirtual 383, 3) := by decide +kernel
theorem dX12_isPerson_7 : decode cX12_isPerson 7 = .ok (.iconst 1, 1) := by decide +kernel
theorem dX12_isPerson_8 : decode cX12_isPerson 8 = .ok (.isub, 1) := by decide +kernel
theorem dX12_isPerson_9 : decode cX12_isPerson 9 = .ok (.invokestatic 386, 3) := by decide +kernel
theorem dX12_isPerson_12 : decode cX12_isPerson 12 = .ok (.ireturn, 1) := by decide +kernel
theorem dX12_isThing_0 : decode cX12_isThing 0 = .ok (.iload_n 1, 1) := by decide +kernel
theorem dX12_isThing_1 : decode cX12_isThing 1 = .ok (.iconst 0, 1) := by decide +kernel
theorem dX12_isThing_2 : decode cX12_isThing 2 = .ok (.aload_n 0, 1) := by decide +kernel
theorem dX12_isThing_3 : decode cX12_isThing 3 = .ok (.iconst 2, 1) := by decide +kernel
theorem dX12_isThing_4 : decode cX12_isThing 4 = .ok (.invokevirtual 383, 3) := by decide +kernel
theorem dX12_isThing_7 : decode cX12_isThing 7 = .ok (.iconst 1, 1) := by decide +kernel
theorem dX12_isThing_8 : decode cX12_isThing 8 = .ok (.isub, 1) := by decide +kernel
theorem dX12_isThing_9 : decode cX12_isThing 9 = .ok (.invokestatic 386, 3) := by decide +kernel
theorem dX12_isThing_12 : decode cX12_isThing 12 = .ok (.ireturn, 1) := by decide +kernel
theorem dX12_isPlace_0 : decode cX12_isPlace 0 = .ok (.iload_n 1, 1) := by decide +kernel
theorem dX12_isPlace_1 : decode cX12_isPlace 1 = .ok (.iconst 0, 1) := by decide +kernel
theorem dX12_isPlace_2 : decode cX12_isPlace 2 = .ok (.aload_n 0, 1) := by decide +kernel
theorem dX12_isPlace_3 : decode cX12_isPlace 3 = .ok (.iconst 0, 1) := by decide +kernel
theorem dX12_isPlace_4 : decode cX12_isPlace 4 = .ok (.invokevirtual 383, 3) := by decide +kernel
theorem dX12_isPlace_7 : decode cX12_isPlace 7 = .ok (.iconst 1, 1) := by decide +kernel
theorem dX12_isPlace_8 : decode cX12_isPlace 8 = .ok (.isub, 1) := by decide +kernel
theorem dX12_isPlace_9 : decode cX12_isPlace 9 = .ok (.invokestatic 386, 3) := by decide +kernel
theorem dX12_isPlace_12 : decode cX12_isPlace 12 = .ok (.ireturn, 1) := by decide +kernel
theorem dX12_isAct_0 : decode cX12_isAct 0 = .ok (.iload_n 1, 1) := by decide +kernel
theorem dX12_isAct_1 : decode cX12_isAct 1 = .ok (.iconst 0, 1) := by decide +kernel
theorem dX12_isAct_2 : decode cX12_isAct 2 = .ok (.aload_n 0, 1) := by decide +kernel
theorem dX12_isAct_3 : decode cX12_isAct 3 = .ok (.bipush 7, 2) := by decide +kernel
theorem dX12_isAct_5 : decode cX12_isAct 5 = .ok (.invokevirtual 383, 3) := by decide +kernel
theorem dX12_isAct_8 : decode cX12_isAct 8 = .ok (.iconst 1, 1) := by decide +kernel
theorem dX12_isAct_9 : decode cX12_isAct 9 = .ok (.isub, 1) := by decide +kernel
theorem dX12_isAct_10 : decode cX12_isAct 10 = .ok (.invokestatic 386, 3) := by decide +kernel
theorem dX12_isAct_13 : decode cX12_isAct 13 = .ok (.ireturn, 1) := by decide +kernel
theorem dX12_isHour_0 : decode cX12_isHour 0 = .ok (.iload_n 0, 1) := by decide +kernel
theorem dX12_isHour_1 : decode cX12_isHour 1 = .ok (.iconst 0, 1) := by decide +kernel
theorem dX12_isHour_2 : decode cX12_isHour 2 = .ok (.bipush 23, 2) := by decide +kernel
theorem dX12_isHour_4 : decode cX12_isHour 4 = .ok (.invokestatic 386, 3) := by decide +kernel
theorem dX12_isHour_7 : decode cX12_isHour 7 = .ok (.ireturn, 1) := by decide +kernel
theorem dX12_ageAt_0 : decode cX12_ageAt 0 = .ok (.aload_n 0, 1) := by decide +kernel
theorem dX12_ageAt_1 : decode cX12_ageAt 1 = .ok (.getfield 55, 3) := by decide +kernel
theorem dX12_ageAt_4 : decode cX12_ageAt 4 = .ok (.bipush 10, 2) := by decide +kernel
theorem dX12_ageAt_6 : decode cX12_ageAt 6 = .ok (.aload_n 0, 1) := by decide +kernel
theorem dX12_ageAt_7 : decode cX12_ageAt 7 = .ok (.getfield 290, 3) := by decide +kernel
theorem dX12_ageAt_10 : decode cX12_ageAt 10 = .ok (.imul, 1) := by decide +kernel
theorem dX12_ageAt_11 : decode cX12_ageAt 11 = .ok (.iload_n 1, 1) := by decide +kernel
theorem dX12_ageAt_12 : decode cX12_ageAt 12 = .ok (.iadd, 1) := by decide +kernel
theorem dX12_ageAt_13 : decode cX12_ageAt 13 = .ok (.iaload, 1) := by decide +kernel
theorem dX12_ageAt_14 : decode cX12_ageAt 14 = .ok (.iload_n 2, 1) := by decide +kernel
theorem dX12_ageAt_15 : decode cX12_ageAt 15 = .ok (.aload_n 0, 1) := by decide +kernel
theorem dX12_ageAt_16 : decode cX12_ageAt 16 = .ok (.getfield 58, 3) := by decide +kernel
theorem dX12_ageAt_19 : decode cX12_ageAt 19 = .ok (.bipush 10, 2) := by decide +kernel
theorem dX12_ageAt_21 : decode cX12_ageAt 21 = .ok (.aload_n 0, 1) := by decide +kernel
theorem dX12_ageAt_22 : decode cX12_ageAt 22 = .ok (.getfield 290, 3) := by decide +kernel
theorem dX12_ageAt_25 : decode cX12_ageAt 25 = .ok (.imul, 1) := by decide +kernel
theorem dX12_ageAt_26 : decode cX12_ageAt 26 = .ok (.iload_n 1, 1) := by decide +kernel
theorem dX12_ageAt_27 : decode cX12_ageAt 27 = .ok (.iadd, 1) := by decide +kernel
theorem dX12_ageAt_28 : decode cX12_ageAt 28 = .ok (.iaload, 1) := by decide +kernel
theorem dX12_ageAt_29 : decode cX12_ageAt 29 = .ok (.if_icmp .lt 7, 3) := by decide +kernel
theorem dX12_ageAt_32 : decode cX12_ageAt 32 = .ok (.iconst 1, 1) := by decide +kernel
theorem dX12_ageAt_33 : decode cX12_ageAt 33 = .ok (.goto 4, 3) := by decide +kernel
theorem dX12_ageAt_36 : decode cX12_ageAt 36 = .ok (.iconst 0, 1) := by decide +kernel
theorem dX12_ageAt_37 : decode cX12_ageAt 37 = .ok (.iadd, 1) := by decide +kernel
theorem dX12_ageAt_38 : decode cX12_ageAt 38 = .ok (.ireturn, 1) := by decide +kernel
theorem dX12_isDead_0 : decode cX12_isDead 0 = .ok (.aload_n 0, 1) := by decide +kernel
theorem dX12_isDead_1 : decode cX12_isDead 1 = .ok (.getfield 390, 3) := by decide +kernel
theorem dX12_isDead_4 : decode cX12_isDead 4 = .ok (.iload_n 1, 1) := by decide +kernel
theorem dX12_isDead_5 : decode cX12_isDead 5 = .ok (.ishr, 1) := by decide +kernel
theorem dX12_isDead_6 : decode cX12_isDead 6 = .ok (.iconst 1, 1) := by decide +kernel
theorem dX12_isDead_7 : decode cX12_isDead 7 = .ok (.iand, 1) := by decide +kernel
theorem dX12_isDead_8 : decode cX12_isDead 8 = .ok (.iconst 1, 1) := by decide +kernel
theorem dX12_isDead_9 : decode cX12_isDead 9 = .ok (.if_icmp .ne 7, 3) := by decide +kernel
theorem dX12_isDead_12 : decode cX12_isDead 12 = .ok (.iconst 1, 1) := by decide +kernel
theorem dX12_isDead_13 : decode cX12_isDead 13 = .ok (.goto 4, 3) := by decide +kernel
theorem dX12_isDead_16 : decode cX12_isDead 16 = .ok (.iconst 0, 1) := by decide +kernel
theorem dX12_isDead_17 : decode cX12_isDead 17 = .ok (.ireturn, 1) := by decide +kernel
theorem dX12_placeOf_0 : decode cX12_placeOf 0 = .ok (.aload_n 0, 1) := by decide +kernel
theorem dX12_placeOf_1 : decode cX12_placeOf 1 = .ok (.iload_n 1, 1) := by decide +kernel
theorem dX12_placeOf_2 : decode cX12_placeOf 2 = .ok (.invokevirtual 393, 3) := by decide +kernel
theorem dX12_placeOf_5 : decode cX12_placeOf 5 = .ok (.ifCond .ne 11, 3) := by decide +kernel
theorem dX12_placeOf_8 : decode cX12_placeOf 8 = .ok (.aload_n 0, 1) := by decide +kernel
theorem dX12_placeOf_9 : decode cX12_placeOf 9 = .ok (.iconst 0, 1) := by decide +kernel
theorem dX12_placeOf_10 : decode cX12_placeOf 10 = .ok (.invokevirtual 383, 3) := by decide +kernel
theorem dX12_placeOf_13 : decode cX12_placeOf 13 = .ok (.ifCond .ne 6, 3) := by decide +kernel
theorem dX12_placeOf_16 : decode cX12_placeOf 16 = .ok (.bipush (-2), 2) := by decide +kernel
theorem dX12_placeOf_18 : decode cX12_placeOf 18 = .ok (.ireturn, 1) := by decide +kernel
theorem dX12_placeOf_19 : decode cX12_placeOf 19 = .ok (.iconst 0, 1) := by decide +kernel
theorem dX12_placeOf_20 : decode cX12_placeOf 20 = .ok (.istore_n 3, 1) := by decide +kernel
theorem dX12_placeOf_21 : decode cX12_placeOf 21 = .ok (.iconst 0, 1) := by decide +kernel
theorem dX12_placeOf_22 : decode cX12_placeOf 22 = .ok (.istore 4, 2) := by decide +kernel
theorem dX12_placeOf_24 : decode cX12_placeOf 24 = .ok (.iload 4, 2) := by decide +kernel
theorem dX12_placeOf_26 : decode cX12_placeOf 26 = .ok (.aload_n 0, 1) := by decide +kernel
theorem dX12_placeOf_27 : decode cX12_placeOf 27 = .ok (.iconst 4, 1) := by decide +kernel
theorem dX12_placeOf_28 : decode cX12_placeOf 28 = .ok (.invokevirtual 383, 3) := by decide +kernel
theorem dX12_placeOf_31 : decode cX12_placeOf 31 = .ok (.if_icmp .ge 61, 3) := by decide +kernel
theorem dX12_placeOf_34 : decode cX12_placeOf 34 = .ok (.bipush 20, 2) := by decide +kernel
theorem dX12_placeOf_36 : decode cX12_placeOf 36 = .ok (.aload_n 0, 1) := by decide +kernel
theorem dX12_placeOf_37 : decode cX12_placeOf 37 = .ok (.getfield 290, 3) := by decide +kernel
theorem dX12_placeOf_40 : decode cX12_placeOf 40 = .ok (.imul, 1) := by decide +kernel
theorem dX12_placeOf_41 : decode cX12_placeOf 41 = .ok (.iload 4, 2) := by decide +kernel
theorem dX12_placeOf_43 : decode cX12_placeOf 43 = .ok (.iadd, 1) := by decide +kernel
theorem dX12_placeOf_44 : decode cX12_placeOf 44 = .ok (.istore 5, 2) := by decide +kernel
theorem dX12_placeOf_46 : decode cX12_placeOf 46 = .ok (.aload_n 0, 1) := by decide +kernel
theorem dX12_placeOf_47 : decode cX12_placeOf 47 = .ok (.getfield 70, 3) := by decide +kernel
theorem dX12_placeOf_50 : decode cX12_placeOf 50 = .ok (.iload 5, 2) := by decide +kernel
theorem dX12_placeOf_52 : decode cX12_placeOf 52 = .ok (.iaload, 1) := by decide +kernel
theorem dX12_placeOf_53 : decode cX12_placeOf 53 = .ok (.iload_n 1, 1) := by decide +kernel
theorem dX12_placeOf_54 : decode cX12_placeOf 54 = .ok (.if_icmp .ne 32, 3) := by decide +kernel
theorem dX12_placeOf_57 : decode cX12_placeOf 57 = .ok (.iload_n 2, 1) := by decide +kernel
theorem dX12_placeOf_58 : decode cX12_placeOf 58 = .ok (.aload_n 0, 1) := by decide +kernel
theorem dX12_placeOf_59 : decode cX12_placeOf 59 = .ok (.getfield 76, 3) := by decide +kernel
theorem dX12_placeOf_62 : decode cX12_placeOf 62 = .ok (.iload 5, 2) := by decide +kernel
theorem dX12_placeOf_64 : decode cX12_placeOf 64 = .ok (.iaload, 1) := by decide +kernel
theorem dX12_placeOf_65 : decode cX12_placeOf 65 = .ok (.aload_n 0, 1) := by decide +kernel
theorem dX12_placeOf_66 : decode cX12_placeOf 66 = .ok (.getfield 79, 3) := by decide +kernel
theorem dX12_placeOf_69 : decode cX12_placeOf 69 = .ok (.iload 5, 2) := by decide +kernel
theorem dX12_placeOf_71 : decode cX12_placeOf 71 = .ok (.iaload, 1) := by decide +kernel
theorem dX12_placeOf_72 : decode cX12_placeOf 72 = .ok (.invokestatic 386, 3) := by decide +kernel
theorem dX12_placeOf_75 : decode cX12_placeOf 75 = .ok (.ifCond .eq 11, 3) := by decide +kernel
theorem dX12_placeOf_78 : decode cX12_placeOf 78 = .ok (.aload_n 0, 1) := by decide +kernel
theorem dX12_placeOf_79 : decode cX12_placeOf 79 = .ok (.getfield 73, 3) := by decide +kernel
theorem dX12_placeOf_82 : decode cX12_placeOf 82 = .ok (.iload 5, 2) := by decide +kernel
theorem dX12_placeOf_84 : decode cX12_placeOf 84 = .ok (.iaload, 1) := by decide +kernel
theorem dX12_placeOf_85 : decode cX12_placeOf 85 = .ok (.istore_n 3, 1) := by decide +kernel
theorem dX12_placeOf_86 : decode cX12_placeOf 86 = .ok (.iinc 4 1, 3) := by decide +kernel
theorem dX12_placeOf_89 : decode cX12_placeOf 89 = .ok (.goto (-65), 3) := by decide +kernel
theorem dX12_placeOf_92 : decode cX12_placeOf 92 = .ok (.iload_n 3, 1) := by decide +kernel
theorem dX12_placeOf_93 : decode cX12_placeOf 93 = .ok (.ireturn, 1) := by decide +kernel
theorem dX12_crowdAt_0 : decode cX12_crowdAt 0 = .ok (.iconst 0, 1) := by decide +kernel
theorem dX12_crowdAt_1 : decode cX12_crowdAt 1 = .ok (.istore_n 3, 1) := by decide +kernel
theorem dX12_crowdAt_2 : decode cX12_crowdAt 2 = .ok (.iconst 0, 1) := by decide +kernel
theorem dX12_crowdAt_3 : decode cX12_crowdAt 3 = .ok (.istore 4, 2) := by decide +kernel
theorem dX12_crowdAt_5 : decode cX12_crowdAt 5 = .ok (.iload 4, 2) := by decide +kernel
theorem dX12_crowdAt_7 : decode cX12_crowdAt 7 = .ok (.aload_n 0, 1) := by decide +kernel
theorem dX12_crowdAt_8 : decode cX12_crowdAt 8 = .ok (.iconst 1, 1) := by decide +kernel
theorem dX12_crowdAt_9 : decode cX12_crowdAt 9 = .ok (.invokevirtual 383, 3) := by decide +kernel
theorem dX12_crowdAt_12 : decode cX12_crowdAt 12 = .ok (.if_icmp .ge 27, 3) := by decide +kernel
theorem dX12_crowdAt_15 : decode cX12_crowdAt 15 = .ok (.aload_n 0, 1) := by decide +kernel
theorem dX12_crowdAt_16 : decode cX12_crowdAt 16 = .ok (.iload 4, 2) := by decide +kernel
theorem dX12_crowdAt_18 : decode cX12_crowdAt 18 = .ok (.iload_n 2, 1) := by decide +kernel
theorem dX12_crowdAt_19 : decode cX12_crowdAt 19 = .ok (.invokevirtual 396, 3) := by decide +kernel
theorem dX12_crowdAt_22 : decode cX12_crowdAt 22 = .ok (.iload_n 1, 1) := by decide +kernel
theorem dX12_crowdAt_23 : decode cX12_crowdAt 23 = .ok (.if_icmp .ne 10, 3) := by decide +kernel
theorem dX12_crowdAt_26 : decode cX12_crowdAt 26 = .ok (.iload_n 3, 1) := by decide +kernel
theorem dX12_crowdAt_27 : decode cX12_crowdAt 27 = .ok (.iconst 1, 1) := by decide +kernel
theorem dX12_crowdAt_28 : decode cX12_crowdAt 28 = .ok (.iload 4, 2) := by decide +kernel
theorem dX12_crowdAt_30 : decode cX12_crowdAt 30 = .ok (.ishl, 1) := by decide +kernel
theorem dX12_crowdAt_31 : decode cX12_crowdAt 31 = .ok (.ior, 1) := by decide +kernel
theorem dX12_crowdAt_32 : decode cX12_crowdAt 32 = .ok (.istore_n 3, 1) := by decide +kernel
theorem dX12_crowdAt_33 : decode cX12_crowdAt 33 = .ok (.iinc 4 1, 3) := by decide +kernel
theorem dX12_crowdAt_36 : decode cX12_crowdAt 36 = .ok (.goto (-31), 3) := by decide +kernel
theorem dX12_crowdAt_39 : decode cX12_crowdAt 39 = .ok (.iload_n 3, 1) := by decide +kernel
theorem dX12_crowdAt_40 : decode cX12_crowdAt 40 = .ok (.ireturn, 1) := by decide +kernel
theorem dX12_isThin_0 : decode cX12_isThin 0 = .ok (.iconst 0, 1) := by decide +kernel
theorem dX12_isThin_1 : decode cX12_isThin 1 = .ok (.istore_n 3, 1) := by decide +kernel
theorem dX12_isThin_2 : decode cX12_isThin 2 = .ok (.iload_n 3, 1) := by decide +kernel
theorem dX12_isThin_3 : decode cX12_isThin 3 = .ok (.aload_n 0, 1) := by decide +kernel
theorem dX12_isThin_4 : decode cX12_isThin 4 = .ok (.iconst 3, 1) := by decide +kernel
theorem dX12_isThin_5 : decode cX12_isThin 5 = .ok (.invokevirtual 383, 3) := by decide +kernel
theorem dX12_isThin_8 : decode cX12_isThin 8 = .ok (.if_icmp .ge 66, 3) := by decide +kernel
theorem dX12_isThin_11 : decode cX12_isThin 11 = .ok (.bipush 8, 2) := by decide +kernel
theorem dX12_isThin_13 : decode cX12_isThin 13 = .ok (.aload_n 0, 1) := by decide +kernel
theorem dX12_isThin_14 : decode cX12_isThin 14 = .ok (.getfield 290, 3) := by decide +kernel
theorem dX12_isThin_17 : decode cX12_isThin 17 = .ok (.imul, 1) := by decide +kernel
theorem dX12_isThin_18 : decode cX12_isThin 18 = .ok (.iload_n 3, 1) := by decide +kernel
theorem dX12_isThin_19 : decode cX12_isThin 19 = .ok (.iadd, 1) := by decide +kernel
theorem dX12_isThin_20 : decode cX12_isThin 20 = .ok (.istore 4, 2) := by decide +kernel
theorem dX12_isThin_22 : decode cX12_isThin 22 = .ok (.aload_n 0, 1) := by decide +kernel
theorem dX12_isThin_23 : decode cX12_isThin 23 = .ok (.getfield 64, 3) := by decide +kernel
theorem dX12_isThin_26 : decode cX12_isThin 26 = .ok (.iload 4, 2) := by decide +kernel
theorem dX12_isThin_28 : decode cX12_isThin 28 = .ok (.iaload, 1) := by decide +kernel
theorem dX12_isThin_29 : decode cX12_isThin 29 = .ok (.iload_n 1, 1) := by decide +kernel
theorem dX12_isThin_30 : decode cX12_isThin 30 = .ok (.if_icmp .ne 14, 3) := by decide +kernel
theorem dX12_isThin_33 : decode cX12_isThin 33 = .ok (.aload_n 0, 1) := by decide +kernel
theorem dX12_isThin_34 : decode cX12_isThin 34 = .ok (.getfield 67, 3) := by decide +kernel
theorem dX12_isThin_37 : decode cX12_isThin 37 = .ok (.iload 4, 2) := by decide +kernel
theorem dX12_isThin_39 : decode cX12_isThin 39 = .ok (.iaload, 1) := by decide +kernel
theorem dX12_isThin_40 : decode cX12_isThin 40 = .ok (.iload_n 2, 1) := by decide +kernel
theorem dX12_isThin_41 : decode cX12_isThin 41 = .ok (.if_icmp .eq 25, 3) := by decide +kernel
theorem dX12_isThin_44 : decode cX12_isThin 44 = .ok (.aload_n 0, 1) := by decide +kernel
theorem dX12_isThin_45 : decode cX12_isThin 45 = .ok (.getfield 64, 3) := by decide +kernel
theorem dX12_isThin_48 : decode cX12_isThin 48 = .ok (.iload 4, 2) := by decide +kernel
theorem dX12_isThin_50 : decode cX12_isThin 50 = .ok (.iaload, 1) := by decide +kernel
theorem dX12_isThin_51 : decode cX12_isThin 51 = .ok (.iload_n 2, 1) := by decide +kernel
theorem dX12_isThin_52 : decode cX12_isThin 52 = .ok (.if_icmp .ne 16, 3) := by decide +kernel
theorem dX12_isThin_55 : decode cX12_isThin 55 = .ok (.aload_n 0, 1) := by decide +kernel
theorem dX12_isThin_56 : decode cX12_isThin 56 = .ok (.getfield 67, 3) := by decide +kernel
theorem dX12_isThin_59 : decode cX12_isThin 59 = .ok (.iload 4, 2) := by decide +kernel
theorem dX12_isThin_61 : decode cX12_isThin 61 = .ok (.iaload, 1) := by decide +kernel
theorem dX12_isThin_62 : decode cX12_isThin 62 = .ok (.iload_n 1, 1) := by decide +kernel
theorem dX12_isThin_63 : decode cX12_isThin 63 = .ok (.if_icmp .ne 5, 3) := by decide +kernel
theorem dX12_isThin_66 : decode cX12_isThin 66 = .ok (.iconst 1, 1) := by decide +kernel
theorem dX12_isThin_67 : decode cX12_isThin 67 = .ok (.ireturn, 1) := by decide +kernel
theorem dX12_isThin_68 : decode cX12_isThin 68 = .ok (.iinc 3 1, 3) := by decide +kernel
theorem dX12_isThin_71 : decode cX12_isThin 71 = .ok (.goto (-69), 3) := by decide +kernel
theorem dX12_isThin_74 : decode cX12_isThin 74 = .ok (.iconst 0, 1) := by decide +kernel
theorem dX12_isThin_75 : decode cX12_isThin 75 = .ok (.ireturn, 1) := by decide +kernel
theorem dX12_earshotOf_0 : decode cX12_earshotOf 0 = .ok (.iconst 0, 1) := by decide +kernel
theorem dX12_earshotOf_1 : decode cX12_earshotOf 1 = .ok (.istore_n 3, 1) := by decide +kernel
theorem dX12_earshotOf_2 : decode cX12_earshotOf 2 = .ok (.iconst 0, 1) := by decide +kernel
theorem dX12_earshotOf_3 : decode cX12_earshotOf 3 = .ok (.istore 4, 2) := by decide +kernel
theorem dX12_earshotOf_5 : decode cX12_earshotOf 5 = .ok (.iload 4, 2) := by decide +kernel
theorem dX12_earshotOf_7 : decode cX12_earshotOf 7 = .ok (.aload_n 0, 1) := by decide +kernel
theorem dX12_earshotOf_8 : decode cX12_earshotOf 8 = .ok (.iconst 1, 1) := by decide +kernel
theorem dX12_earshotOf_9 : decode cX12_earshotOf 9 = .ok (.invokevirtual 383, 3) := by decide +kernel
theorem dX12_earshotOf_12 : decode cX12_earshotOf 12 = .ok (.if_icmp .ge 46, 3) := by decide +kernel
theorem dX12_earshotOf_15 : decode cX12_earshotOf 15 = .ok (.aload_n 0, 1) := by decide +kernel
theorem dX12_earshotOf_16 : decode cX12_earshotOf 16 = .ok (.iload 4, 2) := by decide +kernel
theorem dX12_earshotOf_18 : decode cX12_earshotOf 18 = .ok (.iload_n 2, 1) := by decide +kernel
theorem dX12_earshotOf_19 : decode cX12_earshotOf 19 = .ok (.invokevirtual 396, 3) := by decide +kernel
theorem dX12_earshotOf_22 : decode cX12_earshotOf 22 = .ok (.istore 5, 2) := by decide +kernel
theorem dX12_earshotOf_24 : decode cX12_earshotOf 24 = .ok (.iload 5, 2) := by decide +kernel
theorem dX12_earshotOf_26 : decode cX12_earshotOf 26 = .ok (.ifCond .lt 26, 3) := by decide +kernel
theorem dX12_earshotOf_29 : decode cX12_earshotOf 29 = .ok (.iload 5, 2) := by decide +kernel
theorem dX12_earshotOf_31 : decode cX12_earshotOf 31 = .ok (.iload_n 1, 1) := by decide +kernel
theorem dX12_earshotOf_32 : decode cX12_earshotOf 32 = .ok (.if_icmp .eq 13, 3) := by decide +kernel
theorem dX12_earshotOf_35 : decode cX12_earshotOf 35 = .ok (.aload_n 0, 1) := by decide +kernel
theorem dX12_earshotOf_36 : decode cX12_earshotOf 36 = .ok (.iload 5, 2) := by decide +kernel
theorem dX12_earshotOf_38 : decode cX12_earshotOf 38 = .ok (.iload_n 1, 1) := by decide +kernel
theorem dX12_earshotOf_39 : decode cX12_earshotOf 39 = .ok (.invokevirtual 399, 3) := by decide +kernel
theorem dX12_earshotOf_42 : decode cX12_earshotOf 42 = .ok (.ifCond .eq 10, 3) := by decide +kernel
theorem dX12_earshotOf_45 : decode cX12_earshotOf 45 = .ok (.iload_n 3, 1) := by decide +kernel
theorem dX12_earshotOf_46 : decode cX12_earshotOf 46 = .ok (.iconst 1, 1) := by decide +kernel
theorem dX12_earshotOf_47 : decode cX12_earshotOf 47 = .ok (.iload 4, 2) := by decide +kernel
theorem dX12_earshotOf_49 : decode cX12_earshotOf 49 = .ok (.ishl, 1) := by decide +kernel
theorem dX12_earshotOf_50 : decode cX12_earshotOf 50 = .ok (.ior, 1) := by decide +kernel
theorem dX12_earshotOf_51 : decode cX12_earshotOf 51 = .ok (.istore_n 3, 1) := by decide +kernel
theorem dX12_earshotOf_52 : decode cX12_earshotOf 52 = .ok (.iinc 4 1, 3) := by decide +kernel
theorem dX12_earshotOf_55 : decode cX12_earshotOf 55 = .ok (.goto (-50), 3) := by decide +kernel
theorem dX12_earshotOf_58 : decode cX12_earshotOf 58 = .ok (.iload_n 3, 1) := by decide +kernel
theorem dX12_earshotOf_59 : decode cX12_earshotOf 59 = .ok (.ireturn, 1) := by decide +kernel
theorem dX12_bits_0 : decode cX12_bits 0 = .ok (.iconst 0, 1) := by decide +kernel
theorem dX12_bits_1 : decode cX12_bits 1 = .ok (.istore_n 1, 1) := by decide +kernel
theorem dX12_bits_2 : decode cX12_bits 2 = .ok (.iconst 0, 1) := by decide +kernel
theorem dX12_bits_3 : decode cX12_bits 3 = .ok (.istore_n 2, 1) := by decide +kernel
theorem dX12_bits_4 : decode cX12_bits 4 = .ok (.iload_n 2, 1) := by decide +kernel
theorem dX12_bits_5 : decode cX12_bits 5 = .ok (.bipush 10, 2) := by decide +kernel
theorem dX12_bits_7 : decode cX12_bits 7 = .ok (.if_icmp .ge 17, 3) := by decide +kernel
theorem dX12_bits_10 : decode cX12_bits 10 = .ok (.iload_n 1, 1) := by decide +kernel
theorem dX12_bits_11 : decode cX12_bits 11 = .ok (.iload_n 0, 1) := by decide +kernel
theorem dX12_bits_12 : decode cX12_bits 12 = .ok (.iload_n 2, 1) := by decide +kernel
theorem dX12_bits_13 : decode cX12_bits 13 = .ok (.ishr, 1) := by decide +kernel
theorem dX12_bits_14 : decode cX12_bits 14 = .ok (.iconst 1, 1) := by decide +kernel
theorem dX12_bits_15 : decode cX12_bits 15 = .ok (.iand, 1) := by decide +kernel
theorem dX12_bits_16 : decode cX12_bits 16 = .ok (.iadd, 1) := by decide +kernel
theorem dX12_bits_17 : decode cX12_bits 17 = .ok (.istore_n 1, 1) := by decide +kernel
theorem dX12_bits_18 : decode cX12_bits 18 = .ok (.iinc 2 1, 3) := by decide +kernel
theorem dX12_bits_21 : decode cX12_bits 21 = .ok (.goto (-17), 3) := by decide +kernel
theorem dX12_bits_24 : decode cX12_bits 24 = .ok (.iload_n 1, 1) := by decide +kernel
theorem dX12_bits_25 : decode cX12_bits 25 = .ok (.ireturn, 1) := by decide +kernel
theorem dX12_mayBy_0 : decode cX12_mayBy 0 = .ok (.aload_n 0, 1) := by decide +kernel
theorem dX12_mayBy_1 : decode cX12_mayBy 1 = .ok (.iload_n 1, 1) := by decide +kernel
theorem dX12_mayBy_2 : decode cX12_mayBy 2 = .ok (.iload_n 3, 1) := by decide +kernel
theorem dX12_mayBy_3 : decode cX12_mayBy 3 = .ok (.invokevirtual 396, 3) := by decide +kernel
theorem dX12_mayBy_6 : decode cX12_mayBy 6 = .ok (.istore 6, 2) := by decide +kernel
theorem dX12_mayBy_8 : decode cX12_mayBy 8 = .ok (.iload_n 1, 1) := by decide +kernel
theorem dX12_mayBy_9 : decode cX12_mayBy 9 = .ok (.iload_n 2, 1) := by decide +kernel
theorem dX12_mayBy_10 : decode cX12_mayBy 10 = .ok (.if_icmp .eq 25, 3) := by decide +kernel
theorem dX12_mayBy_13 : decode cX12_mayBy 13 = .ok (.iload 5, 2) := by decide +kernel
theorem dX12_mayBy_15 : decode cX12_mayBy 15 = .ok (.iconst 3, 1) := by decide +kernel
theorem dX12_mayBy_16 : decode cX12_mayBy 16 = .ok (.if_icmp .eq 19, 3) := by decide +kernel
theorem dX12_mayBy_19 : decode cX12_mayBy 19 = .ok (.iload 6, 2) := by decide +kernel
theorem dX12_mayBy_21 : decode cX12_mayBy 21 = .ok (.ifCond .lt 14, 3) := by decide +kernel
theorem dX12_mayBy_24 : decode cX12_mayBy 24 = .ok (.aload_n 0, 1) := by decide +kernel
theorem dX12_mayBy_25 : decode cX12_mayBy 25 = .ok (.iload_n 2, 1) := by decide +kernel
theorem dX12_mayBy_26 : decode cX12_mayBy 26 = .ok (.iload_n 3, 1) := by decide +kernel
theorem dX12_mayBy_27 : decode cX12_mayBy 27 = .ok (.invokevirtual 396, 3) := by decide +kernel
theorem dX12_mayBy_30 : decode cX12_mayBy 30 = .ok (.iload 6, 2) := by decide +kernel
theorem dX12_mayBy_32 : decode cX12_mayBy 32 = .ok (.if_icmp .eq 5, 3) := by decide +kernel
theorem dX12_mayBy_35 : decode cX12_mayBy 35 = .ok (.iconst 0, 1) := by decide +kernel
theorem dX12_mayBy_36 : decode cX12_mayBy 36 = .ok (.ireturn, 1) := by decide +kernel
theorem dX12_mayBy_37 : decode cX12_mayBy 37 = .ok (.iload 5, 2) := by decide +kernel
theorem dX12_mayBy_39 : decode cX12_mayBy 39 = .ok (.iconst 2, 1) := by decide +kernel
theorem dX12_mayBy_40 : decode cX12_mayBy 40 = .ok (.if_icmp .ne 5, 3) := by decide +kernel
theorem dX12_mayBy_43 : decode cX12_mayBy 43 = .ok (.iconst 1, 1) := by decide +kernel
theorem dX12_mayBy_44 : decode cX12_mayBy 44 = .ok (.ireturn, 1) := by decide +kernel
theorem dX12_mayBy_45 : decode cX12_mayBy 45 = .ok (.aload_n 0, 1) := by decide +kernel
theorem dX12_mayBy_46 : decode cX12_mayBy 46 = .ok (.iload_n 1, 1) := by decide +kernel
theorem dX12_mayBy_47 : decode cX12_mayBy 47 = .ok (.iload_n 3, 1) := by decide +kernel
theorem dX12_mayBy_48 : decode cX12_mayBy 48 = .ok (.invokevirtual 403, 3) := by decide +kernel
theorem dX12_mayBy_51 : decode cX12_mayBy 51 = .ok (.istore 7, 2) := by decide +kernel
theorem dX12_mayBy_53 : decode cX12_mayBy 53 = .ok (.aload_n 0, 1) := by decide +kernel
theorem dX12_mayBy_54 : decode cX12_mayBy 54 = .ok (.iload_n 2, 1) := by decide +kernel
theorem dX12_mayBy_55 : decode cX12_mayBy 55 = .ok (.iload_n 3, 1) := by decide +kernel
theorem dX12_mayBy_56 : decode cX12_mayBy 56 = .ok (.invokevirtual 403, 3) := by decide +kernel
theorem dX12_mayBy_59 : decode cX12_mayBy 59 = .ok (.istore 8, 2) := by decide +kernel
theorem dX12_mayBy_61 : decode cX12_mayBy 61 = .ok (.iload 5, 2) := by decide +kernel
theorem dX12_mayBy_63 : decode cX12_mayBy 63 = .ok (.iconst 1, 1) := by decide +kernel
theorem dX12_mayBy_64 : decode cX12_mayBy 64 = .ok (.if_icmp .ne 16, 3) := by decide +kernel
theorem dX12_mayBy_67 : decode cX12_mayBy 67 = .ok (.iload 8, 2) := by decide +kernel
theorem dX12_mayBy_69 : decode cX12_mayBy 69 = .ok (.iload 7, 2) := by decide +kernel
theorem dX12_mayBy_71 : decode cX12_mayBy 71 = .ok (.if_icmp .gt 7, 3) := by decide +kernel
theorem dX12_mayBy_74 : decode cX12_mayBy 74 = .ok (.iconst 1, 1) := by decide +kernel
theorem dX12_mayBy_75 : decode cX12_mayBy 75 = .ok (.goto 4, 3) := by decide +kernel
theorem dX12_mayBy_78 : decode cX12_mayBy 78 = .ok (.iconst 0, 1) := by decide +kernel
theorem dX12_mayBy_79 : decode cX12_mayBy 79 = .ok (.ireturn, 1) := by decide +kernel
theorem dX12_mayBy_80 : decode cX12_mayBy 80 = .ok (.aload_n 0, 1) := by decide +kernel
theorem dX12_mayBy_81 : decode cX12_mayBy 81 = .ok (.getfield 106, 3) := by decide +kernel
theorem dX12_mayBy_84 : decode cX12_mayBy 84 = .ok (.iconst 2, 1) := by decide +kernel
theorem dX12_mayBy_85 : decode cX12_mayBy 85 = .ok (.aload_n 0, 1) := by decide +kernel
theorem dX12_mayBy_86 : decode cX12_mayBy 86 = .ok (.getfield 290, 3) := by decide +kernel
theorem dX12_mayBy_89 : decode cX12_mayBy 89 = .ok (.imul, 1) := by decide +kernel
theorem dX12_mayBy_90 : decode cX12_mayBy 90 = .ok (.iload 4, 2) := by decide +kernel
theorem dX12_mayBy_92 : decode cX12_mayBy 92 = .ok (.iadd, 1) := by decide +kernel
theorem dX12_mayBy_93 : decode cX12_mayBy 93 = .ok (.iaload, 1) := by decide +kernel
theorem dX12_mayBy_94 : decode cX12_mayBy 94 = .ok (.ifCond .ne 22, 3) := by decide +kernel
theorem dX12_mayBy_97 : decode cX12_mayBy 97 = .ok (.iload 4, 2) := by decide +kernel
theorem dX12_mayBy_99 : decode cX12_mayBy 99 = .ok (.iconst 1, 1) := by decide +kernel
theorem dX12_mayBy_100 : decode cX12_mayBy 100 = .ok (.if_icmp .eq 10, 3) := by decide +kernel
theorem dX12_mayBy_103 : decode cX12_mayBy 103 = .ok (.iload 7, 2) := by decide +kernel
theorem dX12_mayBy_105 : decode cX12_mayBy 105 = .ok (.iload 8, 2) := by decide +kernel
theorem dX12_mayBy_107 : decode cX12_mayBy 107 = .ok (.if_icmp .gt 7, 3) := by decide +kernel
theorem dX12_mayBy_110 : decode cX12_mayBy 110 = .ok (.iconst 1, 1) := by decide +kernel
theorem dX12_mayBy_111 : decode cX12_mayBy 111 = .ok (.goto 4, 3) := by decide +kernel
theorem dX12_mayBy_114 : decode cX12_mayBy 114 = .ok (.iconst 0, 1) := by decide +kernel
theorem dX12_mayBy_115 : decode cX12_mayBy 115 = .ok (.ireturn, 1) := by decide +kernel
theorem dX12_mayBy_116 : decode cX12_mayBy 116 = .ok (.aload_n 0, 1) := by decide +kernel
theorem dX12_mayBy_117 : decode cX12_mayBy 117 = .ok (.getfield 143, 3) := by decide +kernel
theorem dX12_mayBy_120 : decode cX12_mayBy 120 = .ok (.iconst 0, 1) := by decide +kernel
theorem dX12_mayBy_121 : decode cX12_mayBy 121 = .ok (.iload 7, 2) := by decide +kernel
theorem dX12_mayBy_123 : decode cX12_mayBy 123 = .ok (.iastore, 1) := by decide +kernel
theorem dX12_mayBy_124 : decode cX12_mayBy 124 = .ok (.aload_n 0, 1) := by decide +kernel
theorem dX12_mayBy_125 : decode cX12_mayBy 125 = .ok (.getfield 143, 3) := by decide +kernel
theorem dX12_mayBy_128 : decode cX12_mayBy 128 = .ok (.iconst 1, 1) := by decide +kernel
theorem dX12_mayBy_129 : decode cX12_mayBy 129 = .ok (.iload 8, 2) := by decide +kernel
theorem dX12_mayBy_131 : decode cX12_mayBy 131 = .ok (.iastore, 1) := by decide +kernel
theorem dX12_mayBy_132 : decode cX12_mayBy 132 = .ok (.aload_n 0, 1) := by decide +kernel
theorem dX12_mayBy_133 : decode cX12_mayBy 133 = .ok (.getfield 143, 3) := by decide +kernel
theorem dX12_mayBy_136 : decode cX12_mayBy 136 = .ok (.iconst 2, 1) := by decide +kernel
theorem dX12_mayBy_137 : decode cX12_mayBy 137 = .ok (.iload_n 3, 1) := by decide +kernel
theorem dX12_mayBy_138 : decode cX12_mayBy 138 = .ok (.iastore, 1) := by decide +kernel
theorem dX12_mayBy_139 : decode cX12_mayBy 139 = .ok (.aload_n 0, 1) := by decide +kernel
theorem dX12_mayBy_140 : decode cX12_mayBy 140 = .ok (.getfield 143, 3) := by decide +kernel
theorem dX12_mayBy_143 : decode cX12_mayBy 143 = .ok (.iconst 3, 1) := by decide +kernel
theorem dX12_mayBy_144 : decode cX12_mayBy 144 = .ok (.aload_n 0, 1) := by decide +kernel
theorem dX12_mayBy_145 : decode cX12_mayBy 145 = .ok (.iload 6, 2) := by decide +kernel
theorem dX12_mayBy_147 : decode cX12_mayBy 147 = .ok (.iload_n 3, 1) := by decide +kernel
theorem dX12_mayBy_148 : decode cX12_mayBy 148 = .ok (.invokevirtual 406, 3) := by decide +kernel
theorem dX12_mayBy_151 : decode cX12_mayBy 151 = .ok (.invokestatic 409, 3) := by decide +kernel
theorem dX12_mayBy_154 : decode cX12_mayBy 154 = .ok (.iastore, 1) := by decide +kernel
theorem dX12_mayBy_155 : decode cX12_mayBy 155 = .ok (.iconst 0, 1) := by decide +kernel
theorem dX12_mayBy_156 : decode cX12_mayBy 156 = .ok (.istore 9, 2) := by decide +kernel
theorem dX12_mayBy_158 : decode cX12_mayBy 158 = .ok (.iload 9, 2) := by decide +kernel
theorem dX12_mayBy_160 : decode cX12_mayBy 160 = .ok (.aload_n 0, 1) := by decide +kernel
theorem dX12_mayBy_161 : decode cX12_mayBy 161 = .ok (.getfield 106, 3) := by decide +kernel
theorem dX12_mayBy_164 : decode cX12_mayBy 164 = .ok (.iconst 2, 1) := by decide +kernel
theorem dX12_mayBy_165 : decode cX12_mayBy 165 = .ok (.aload_n 0, 1) := by decide +kernel
theorem dX12_mayBy_166 : decode cX12_mayBy 166 = .ok (.getfield 290, 3) := by decide +kernel
theorem dX12_mayBy_169 : decode cX12_mayBy 169 = .ok (.imul, 1) := by decide +kernel
theorem dX12_mayBy_170 : decode cX12_mayBy 170 = .ok (.iload 4, 2) := by decide +kernel
theorem dX12_mayBy_172 : decode cX12_mayBy 172 = .ok (.iadd, 1) := by decide +kernel
theorem dX12_mayBy_173 : decode cX12_mayBy 173 = .ok (.iaload, 1) := by decide +kernel
theorem dX12_mayBy_174 : decode cX12_mayBy 174 = .ok (.if_icmp .ge 33, 3) := by decide +kernel
theorem dX12_mayBy_177 : decode cX12_mayBy 177 = .ok (.aload_n 0, 1) := by decide +kernel
theorem dX12_mayBy_178 : decode cX12_mayBy 178 = .ok (.bipush 8, 2) := by decide +kernel
theorem dX12_mayBy_180 : decode cX12_mayBy 180 = .ok (.aload_n 0, 1) := by decide +kernel
theorem dX12_mayBy_181 : decode cX12_mayBy 181 = .ok (.getfield 290, 3) := by decide +kernel
theorem dX12_mayBy_184 : decode cX12_mayBy 184 = .ok (.imul, 1) := by decide +kernel
theorem dX12_mayBy_185 : decode cX12_mayBy 185 = .ok (.iconst 4, 1) := by decide +kernel
theorem dX12_mayBy_186 : decode cX12_mayBy 186 = .ok (.iload 4, 2) := by decide +kernel
theorem dX12_mayBy_188 : decode cX12_mayBy 188 = .ok (.imul, 1) := by decide +kernel
theorem dX12_mayBy_189 : decode cX12_mayBy 189 = .ok (.iadd, 1) := by decide +kernel
theorem dX12_mayBy_190 : decode cX12_mayBy 190 = .ok (.iload 9, 2) := by decide +kernel
theorem dX12_mayBy_192 : decode cX12_mayBy 192 = .ok (.iadd, 1) := by decide +kernel
theorem dX12_mayBy_193 : decode cX12_mayBy 193 = .ok (.invokevirtual 412, 3) := by decide +kernel
theorem dX12_mayBy_196 : decode cX12_mayBy 196 = .ok (.ifCond .eq 5, 3) := by decide +kernel
theorem dX12_mayBy_199 : decode cX12_mayBy 199 = .ok (.iconst 1, 1) := by decide +kernel
theorem dX12_mayBy_200 : decode cX12_mayBy 200 = .ok (.ireturn, 1) := by decide +kernel
theorem dX12_mayBy_201 : decode cX12_mayBy 201 = .ok (.iinc 9 1, 3) := by decide +kernel
theorem dX12_mayBy_204 : decode cX12_mayBy 204 = .ok (.goto (-46), 3) := by decide +kernel
theorem dX12_mayBy_207 : decode cX12_mayBy 207 = .ok (.iconst 0, 1) := by decide +kernel
theorem dX12_mayBy_208 : decode cX12_mayBy 208 = .ok (.ireturn, 1) := by decide +kernel
theorem dX12_age_0 : decode cX12_age 0 = .ok (.aload_n 0, 1) := by decide +kernel
theorem dX12_age_1 : decode cX12_age 1 = .ok (.iload_n 1, 1) := by decide +kernel
theorem dX12_age_2 : decode cX12_age 2 = .ok (.invokevirtual 415, 3) := by decide +kernel
theorem dX12_age_5 : decode cX12_age 5 = .ok (.ifCond .eq 19, 3) := by decide +kernel
theorem dX12_age_8 : decode cX12_age 8 = .ok (.iload_n 2, 1) := by decide +kernel
theorem dX12_age_9 : decode cX12_age 9 = .ok (.invokestatic 418, 3) := by decide +kernel
theorem dX12_age_12 : decode cX12_age 12 = .ok (.ifCond .eq 12, 3) := by decide +kernel
theorem dX12_age_15 : decode cX12_age 15 = .ok (.aload_n 0, 1) := by decide +kernel
theorem dX12_age_16 : decode cX12_age 16 = .ok (.iload_n 1, 1) := by decide +kernel
theorem dX12_age_17 : decode cX12_age 17 = .ok (.iload_n 2, 1) := by decide +kernel
theorem dX12_age_18 : decode cX12_age 18 = .ok (.invokevirtual 403, 3) := by decide +kernel
theorem dX12_age_21 : decode cX12_age 21 = .ok (.goto 4, 3) := by decide +kernel
theorem dX12_age_24 : decode cX12_age 24 = .ok (.iconst (-1), 1) := by decide +kernel
theorem dX12_age_25 : decode cX12_age 25 = .ok (.ireturn, 1) := by decide +kernel
theorem dX12_where_0 : decode cX12_where 0 = .ok (.aload_n 0, 1) := by decide +kernel
theorem dX12_where_1 : decode cX12_where 1 = .ok (.iload_n 1, 1) := by decide +kernel
theorem dX12_where_2 : decode cX12_where 2 = .ok (.invokevirtual 415, 3) := by decide +kernel
theorem dX12_where_5 : decode cX12_where 5 = .ok (.ifCond .eq 19, 3) := by decide +kernel
theorem dX12_where_8 : decode cX12_where 8 = .ok (.iload_n 2, 1) := by decide +kernel
theorem dX12_where_9 : decode cX12_where 9 = .ok (.invokestatic 418, 3) := by decide +kernel
theorem dX12_where_12 : decode cX12_where 12 = .ok (.ifCond .eq 12, 3) := by decide +kernel
theorem dX12_where_15 : decode cX12_where 15 = .ok (.aload_n 0, 1) := by decide +kernel
theorem dX12_where_16 : decode cX12_where 16 = .ok (.iload_n 1, 1) := by decide +kernel
theorem dX12_where_17 : decode cX12_where 17 = .ok (.iload_n 2, 1) := by decide +kernel
theorem dX12_where_18 : decode cX12_where 18 = .ok (.invokevirtual 396, 3) := by decide +kernel
theorem dX12_where_21 : decode cX12_where 21 = .ok (.goto 4, 3) := by decide +kernel
theorem dX12_where_24 : decode cX12_where 24 = .ok (.iconst (-1), 1) := by decide +kernel
theorem dX12_where_25 : decode cX12_where 25 = .ok (.ireturn, 1) := by decide +kernel
theorem dX12_earshot_0 : decode cX12_earshot 0 = .ok (.aload_n 0, 1) := by decide +kernel
theorem dX12_earshot_1 : decode cX12_earshot 1 = .ok (.iload_n 1, 1) := by decide +kernel
theorem dX12_earshot_2 : decode cX12_earshot 2 = .ok (.invokevirtual 421, 3) := by decide +kernel
theorem dX12_earshot_5 : decode cX12_earshot 5 = .ok (.ifCond .eq 19, 3) := by decide +kernel
theorem dX12_earshot_8 : decode cX12_earshot 8 = .ok (.iload_n 2, 1) := by decide +kernel
theorem dX12_earshot_9 : decode cX12_earshot 9 = .ok (.invokestatic 418, 3) := by decide +kernel
theorem dX12_earshot_12 : decode cX12_earshot 12 = .ok (.ifCond .eq 12, 3) := by decide +kernel
theorem dX12_earshot_15 : decode cX12_earshot 15 = .ok (.aload_n 0, 1) := by decide +kernel
theorem dX12_earshot_16 : decode cX12_earshot 16 = .ok (.iload_n 1, 1) := by decide +kernel
theorem dX12_earshot_17 : decode cX12_earshot 17 = .ok (.iload_n 2, 1) := by decide +kernel
theorem dX12_earshot_18 : decode cX12_earshot 18 = .ok (.invokevirtual 424, 3) := by decide +kernel
theorem dX12_earshot_21 : decode cX12_earshot 21 = .ok (.goto 4, 3) := by decide +kernel
theorem dX12_earshot_24 : decode cX12_earshot 24 = .ok (.iconst (-1), 1) := by decide +kernel
theorem dX12_earshot_25 : decode cX12_earshot 25 = .ok (.ireturn, 1) := by decide +kernel
theorem dX12_may_0 : decode cX12_may 0 = .ok (.aload_n 0, 1) := by decide +kernel
theorem dX12_may_1 : decode cX12_may 1 = .ok (.iload_n 1, 1) := by decide +kernel
theorem dX12_may_2 : decode cX12_may 2 = .ok (.invokevirtual 415, 3) := by decide +kernel
theorem dX12_may_5 : decode cX12_may 5 = .ok (.ifCond .eq 52, 3) := by decide +kernel
theorem dX12_may_8 : decode cX12_may 8 = .ok (.aload_n 0, 1) := by decide +kernel
theorem dX12_may_9 : decode cX12_may 9 = .ok (.iload_n 2, 1) := by decide +kernel
theorem dX12_may_10 : decode cX12_may 10 = .ok (.invokevirtual 415, 3) := by decide +kernel
theorem dX12_may_13 : decode cX12_may 13 = .ok (.ifCond .eq 44, 3) := by decide +kernel
theorem dX12_may_16 : decode cX12_may 16 = .ok (.iload_n 1, 1) := by decide +kernel
theorem dX12_may_17 : decode cX12_may 17 = .ok (.iload_n 2, 1) := by decide +kernel
theorem dX12_may_18 : decode cX12_may 18 = .ok (.if_icmp .eq 39, 3) := by decide +kernel
theorem dX12_may_21 : decode cX12_may 21 = .ok (.iload_n 3, 1) := by decide +kernel
theorem dX12_may_22 : decode cX12_may 22 = .ok (.invokestatic 418, 3) := by decide +kernel
theorem dX12_may_25 : decode cX12_may 25 = .ok (.ifCond .eq 32, 3) := by decide +kernel
theorem dX12_may_28 : decode cX12_may 28 = .ok (.aload_n 0, 1) := by decide +kernel
theorem dX12_may_29 : decode cX12_may 29 = .ok (.iload_n 1, 1) := by decide +kernel
theorem dX12_may_30 : decode cX12_may 30 = .ok (.iload_n 2, 1) := by decide +kernel
theorem dX12_may_31 : decode cX12_may 31 = .ok (.iload_n 3, 1) := by decide +kernel
theorem dX12_may_32 : decode cX12_may 32 = .ok (.iload 4, 2) := by decide +kernel
theorem dX12_may_34 : decode cX12_may 34 = .ok (.ifCond .eq 7, 3) := by decide +kernel
theorem dX12_may_37 : decode cX12_may 37 = .ok (.iconst 1, 1) := by decide +kernel
theorem dX12_may_38 : decode cX12_may 38 = .ok (.goto 4, 3) := by decide +kernel
theorem dX12_may_41 : decode cX12_may 41 = .ok (.iconst 0, 1) := by decide +kernel
theorem dX12_may_42 : decode cX12_may 42 = .ok (.iconst 0, 1) := by decide +kernel
theorem dX12_may_43 : decode cX12_may 43 = .ok (.invokevirtual 427, 3) := by decide +kernel
theorem dX12_may_46 : decode cX12_may 46 = .ok (.ifCond .eq 7, 3) := by decide +kernel
theorem dX12_may_49 : decode cX12_may 49 = .ok (.iconst 1, 1) := by decide +kernel
theorem dX12_may_50 : decode cX12_may 50 = .ok (.goto 8, 3) := by decide +kernel
theorem dX12_may_53 : decode cX12_may 53 = .ok (.iconst 0, 1) := by decide +kernel
theorem dX12_may_54 : decode cX12_may 54 = .ok (.goto 4, 3) := by decide +kernel
theorem dX12_may_57 : decode cX12_may 57 = .ok (.iconst (-1), 1) := by decide +kernel
theorem dX12_may_58 : decode cX12_may 58 = .ok (.ireturn, 1) := by decide +kernel
theorem dX12_plans_0 : decode cX12_plans 0 = .ok (.aload_n 0, 1) := by decide +kernel
theorem dX12_plans_1 : decode cX12_plans 1 = .ok (.getfield 149, 3) := by decide +kernel
theorem dX12_plans_4 : decode cX12_plans 4 = .ok (.aload_n 0, 1) := by decide +kernel
theorem dX12_plans_5 : decode cX12_plans 5 = .ok (.getfield 308, 3) := by decide +kernel
theorem dX12_plans_8 : decode cX12_plans 8 = .ok (.iload_n 1, 1) := by decide +kernel
theorem dX12_plans_9 : decode cX12_plans 9 = .ok (.iastore, 1) := by decide +kernel
theorem dX12_plans_10 : decode cX12_plans 10 = .ok (.aload_n 0, 1) := by decide +kernel
theorem dX12_plans_11 : decode cX12_plans 11 = .ok (.getfield 152, 3) := by decide +kernel
theorem dX12_plans_14 : decode cX12_plans 14 = .ok (.aload_n 0, 1) := by decide +kernel
theorem dX12_plans_15 : decode cX12_plans 15 = .ok (.getfield 308, 3) := by decide +kernel
theorem dX12_plans_18 : decode cX12_plans 18 = .ok (.iload_n 2, 1) := by decide +kernel
theorem dX12_plans_19 : decode cX12_plans 19 = .ok (.iastore, 1) := by decide +kernel
theorem dX12_plans_20 : decode cX12_plans 20 = .ok (.aload_n 0, 1) := by decide +kernel
theorem dX12_plans_21 : decode cX12_plans 21 = .ok (.getfield 155, 3) := by decide +kernel
theorem dX12_plans_24 : decode cX12_plans 24 = .ok (.aload_n 0, 1) := by decide +kernel
theorem dX12_plans_25 : decode cX12_plans 25 = .ok (.getfield 308, 3) := by decide +kernel
theorem dX12_plans_28 : decode cX12_plans 28 = .ok (.iload_n 3, 1) := by decide +kernel
theorem dX12_plans_29 : decode cX12_plans 29 = .ok (.iastore, 1) := by decide +kernel
theorem dX12_plans_30 : decode cX12_plans 30 = .ok (.aload_n 0, 1) := by decide +kernel
theorem dX12_plans_31 : decode cX12_plans 31 = .ok (.getfield 158, 3) := by decide +kernel
theorem dX12_plans_34 : decode cX12_plans 34 = .ok (.aload_n 0, 1) := by decide +kernel
theorem dX12_plans_35 : decode cX12_plans 35 = .ok (.getfield 308, 3) := by decide +kernel
theorem dX12_plans_38 : decode cX12_plans 38 = .ok (.iload 4, 2) := by decide +kernel
theorem dX12_plans_40 : decode cX12_plans 40 = .ok (.iastore, 1) := by decide +kernel
theorem dX12_plans_41 : decode cX12_plans 41 = .ok (.aload_n 0, 1) := by decide +kernel
theorem dX12_plans_42 : decode cX12_plans 42 = .ok (.getfield 161, 3) := by decide +kernel
theorem dX12_plans_45 : decode cX12_plans 45 = .ok (.aload_n 0, 1) := by decide +kernel
theorem dX12_plans_46 : decode cX12_plans 46 = .ok (.getfield 308, 3) := by decide +kernel
theorem dX12_plans_49 : decode cX12_plans 49 = .ok (.iload 5, 2) := by decide +kernel
theorem dX12_plans_51 : decode cX12_plans 51 = .ok (.iastore, 1) := by decide +kernel
theorem dX12_plans_52 : decode cX12_plans 52 = .ok (.aload_n 0, 1) := by decide +kernel
theorem dX12_plans_53 : decode cX12_plans 53 = .ok (.dup, 1) := by decide +kernel
theorem dX12_plans_54 : decode cX12_plans 54 = .ok (.getfield 308, 3) := by decide +kernel
theorem dX12_plans_57 : decode cX12_plans 57 = .ok (.iconst 1, 1) := by decide +kernel
theorem dX12_plans_58 : decode cX12_plans 58 = .ok (.iadd, 1) := by decide +kernel
theorem dX12_plans_59 : decode cX12_plans 59 = .ok (.putfield 308, 3) := by decide +kernel
theorem dX12_plans_62 : decode cX12_plans 62 = .ok (.aload_n 0, 1) := by decide +kernel
theorem dX12_plans_63 : decode cX12_plans 63 = .ok (.getfield 308, 3) := by decide +kernel
theorem dX12_plans_66 : decode cX12_plans 66 = .ok (.iconst 1, 1) := by decide +kernel
theorem dX12_plans_67 : decode cX12_plans 67 = .ok (.isub, 1) := by decide +kernel
theorem dX12_plans_68 : decode cX12_plans 68 = .ok (.ireturn, 1) := by decide +kernel
theorem dX12_canPlan_0 : decode cX12_canPlan 0 = .ok (.aload_n 0, 1) := by decide +kernel
theorem dX12_canPlan_1 : decode cX12_canPlan 1 = .ok (.getfield 308, 3) := by decide +kernel
theorem dX12_canPlan_4 : decode cX12_canPlan 4 = .ok (.bipush 30, 2) := by decide +kernel
theorem dX12_canPlan_6 : decode cX12_canPlan 6 = .ok (.if_icmp .ge 22, 3) := by decide +kernel
theorem dX12_canPlan_9 : decode cX12_canPlan 9 = .ok (.iload_n 1, 1) := by decide +kernel
theorem dX12_canPlan_10 : decode cX12_canPlan 10 = .ok (.invokestatic 418, 3) := by decide +kernel
theorem dX12_canPlan_13 : decode cX12_canPlan 13 = .ok (.ifCond .eq 15, 3) := by decide +kernel
theorem dX12_canPlan_16 : decode cX12_canPlan 16 = .ok (.aload_n 0, 1) := by decide +kernel
theorem dX12_canPlan_17 : decode cX12_canPlan 17 = .ok (.iload_n 2, 1) := by decide +kernel
theorem dX12_canPlan_18 : decode cX12_canPlan 18 = .ok (.invokevirtual 415, 3) := by decide +kernel
theorem dX12_canPlan_21 : decode cX12_canPlan 21 = .ok (.ifCond .eq 7, 3) := by decide +kernel
theorem dX12_canPlan_24 : decode cX12_canPlan 24 = .ok (.iconst 1, 1) := by decide +kernel
theorem dX12_canPlan_25 : decode cX12_canPlan 25 = .ok (.goto 4, 3) := by decide +kernel
theorem dX12_canPlan_28 : decode cX12_canPlan 28 = .ok (.iconst 0, 1) := by decide +kernel
theorem dX12_canPlan_29 : decode cX12_canPlan 29 = .ok (.ireturn, 1) := by decide +kernel
theorem dX12_say_0 : decode cX12_say 0 = .ok (.aload_n 0, 1) := by decide +kernel
theorem dX12_say_1 : decode cX12_say 1 = .ok (.iload_n 1, 1) := by decide +kernel
theorem dX12_say_2 : decode cX12_say 2 = .ok (.iload_n 2, 1) := by decide +kernel
theorem dX12_say_3 : decode cX12_say 3 = .ok (.invokevirtual 431, 3) := by decide +kernel
theorem dX12_say_6 : decode cX12_say 6 = .ok (.ifCond .eq 38, 3) := by decide +kernel
theorem dX12_say_9 : decode cX12_say 9 = .ok (.aload_n 0, 1) := by decide +kernel
theorem dX12_say_10 : decode cX12_say 10 = .ok (.iload_n 3, 1) := by decide +kernel
theorem dX12_say_11 : decode cX12_say 11 = .ok (.invokevirtual 415, 3) := by decide +kernel
theorem dX12_say_14 : decode cX12_say 14 = .ok (.ifCond .eq 30, 3) := by decide +kernel
theorem dX12_say_17 : decode cX12_say 17 = .ok (.iload_n 2, 1) := by decide +kernel
theorem dX12_say_18 : decode cX12_say 18 = .ok (.iload_n 3, 1) := by decide +kernel
theorem dX12_say_19 : decode cX12_say 19 = .ok (.if_icmp .eq 25, 3) := by decide +kernel
theorem dX12_say_22 : decode cX12_say 22 = .ok (.aload_n 0, 1) := by decide +kernel
theorem dX12_say_23 : decode cX12_say 23 = .ok (.iload 4, 2) := by decide +kernel
theorem dX12_say_25 : decode cX12_say 25 = .ok (.invokevirtual 434, 3) := by decide +kernel
theorem dX12_say_28 : decode cX12_say 28 = .ok (.ifCond .eq 16, 3) := by decide +kernel
theorem dX12_say_31 : decode cX12_say 31 = .ok (.aload_n 0, 1) := by decide +kernel
theorem dX12_say_32 : decode cX12_say 32 = .ok (.iconst 0, 1) := by decide +kernel
theorem dX12_say_33 : decode cX12_say 33 = .ok (.iload_n 1, 1) := by decide +kernel
theorem dX12_say_34 : decode cX12_say 34 = .ok (.iload_n 2, 1) := by decide +kernel
theorem dX12_say_35 : decode cX12_say 35 = .ok (.iload_n 3, 1) := by decide +kernel
theorem dX12_say_36 : decode cX12_say 36 = .ok (.iload 4, 2) := by decide +kernel
theorem dX12_say_38 : decode cX12_say 38 = .ok (.invokevirtual 437, 3) := by decide +kernel
theorem dX12_say_41 : decode cX12_say 41 = .ok (.goto 4, 3) := by decide +kernel
theorem dX12_say_44 : decode cX12_say 44 = .ok (.iconst (-1), 1) := by decide +kernel
theorem dX12_say_45 : decode cX12_say 45 = .ok (.ireturn, 1) := by decide +kernel
theorem dX12_show_0 : decode cX12_show 0 = .ok (.aload_n 0, 1) := by decide +kernel
theorem dX12_show_1 : decode cX12_show 1 = .ok (.iload_n 1, 1) := by decide +kernel
theorem dX12_show_2 : decode cX12_show 2 = .ok (.iload_n 2, 1) := by decide +kernel
theorem dX12_show_3 : decode cX12_show 3 = .ok (.invokevirtual 431, 3) := by decide +kernel
theorem dX12_show_6 : decode cX12_show 6 = .ok (.ifCond .eq 36, 3) := by decide +kernel
theorem dX12_show_9 : decode cX12_show 9 = .ok (.aload_n 0, 1) := by decide +kernel
theorem dX12_show_10 : decode cX12_show 10 = .ok (.iload_n 3, 1) := by decide +kernel
theorem dX12_show_11 : decode cX12_show 11 = .ok (.invokevirtual 441, 3) := by decide +kernel
theorem dX12_show_14 : decode cX12_show 14 = .ok (.ifCond .eq 28, 3) := by decide +kernel
theorem dX12_show_17 : decode cX12_show 17 = .ok (.aload_n 0, 1) := by decide +kernel
theorem dX12_show_18 : decode cX12_show 18 = .ok (.iconst 1, 1) := by decide +kernel
theorem dX12_show_19 : decode cX12_show 19 = .ok (.iload_n 1, 1) := by decide +kernel
theorem dX12_show_20 : decode cX12_show 20 = .ok (.iload_n 2, 1) := by decide +kernel
theorem dX12_show_21 : decode cX12_show 21 = .ok (.iload_n 3, 1) := by decide +kernel
theorem dX12_show_22 : decode cX12_show 22 = .ok (.aload_n 0, 1) := by decide +kernel
theorem dX12_show_23 : decode cX12_show 23 = .ok (.getfield 97, 3) := by decide +kernel
theorem dX12_show_26 : decode cX12_show 26 = .ok (.bipush 6, 2) := by decide +kernel
theorem dX12_show_28 : decode cX12_show 28 = .ok (.aload_n 0, 1) := by decide +kernel
theorem dX12_show_29 : decode cX12_show 29 = .ok (.getfield 290, 3) := by decide +kernel
theorem dX12_show_32 : decode cX12_show 32 = .ok (.imul, 1) := by decide +kernel
theorem dX12_show_33 : decode cX12_show 33 = .ok (.iload_n 3, 1) := by decide +kernel
theorem dX12_show_34 : decode cX12_show 34 = .ok (.iadd, 1) := by decide +kernel
theorem dX12_show_35 : decode cX12_show 35 = .ok (.iaload, 1) := by decide +kernel
theorem dX12_show_36 : decode cX12_show 36 = .ok (.invokevirtual 437, 3) := by decide +kernel
theorem dX12_show_39 : decode cX12_show 39 = .ok (.goto 4, 3) := by decide +kernel
theorem dX12_show_42 : decode cX12_show 42 = .ok (.iconst (-1), 1) := by decide +kernel
theorem dX12_show_43 : decode cX12_show 43 = .ok (.ireturn, 1) := by decide +kernel
theorem dX12_leave_0 : decode cX12_leave 0 = .ok (.aload_n 0, 1) := by decide +kernel
theorem dX12_leave_1 : decode cX12_leave 1 = .ok (.iload_n 1, 1) := by decide +kernel
theorem dX12_leave_2 : decode cX12_leave 2 = .ok (.iload_n 2, 1) := by decide +kernel
theorem dX12_leave_3 : decode cX12_leave 3 = .ok (.invokevirtual 431, 3) := by decide +kernel
theorem dX12_leave_6 : decode cX12_leave 6 = .ok (.ifCond .eq 23, 3) := by decide +kernel
theorem dX12_leave_9 : decode cX12_leave 9 = .ok (.aload_n 0, 1) := by decide +kernel
theorem dX12_leave_10 : decode cX12_leave 10 = .ok (.iload_n 3, 1) := by decide +kernel
theorem dX12_leave_11 : decode cX12_leave 11 = .ok (.invokevirtual 434, 3) := by decide +kernel
theorem dX12_leave_14 : decode cX12_leave 14 = .ok (.ifCond .eq 15, 3) := by decide +kernel
theorem dX12_leave_17 : decode cX12_leave 17 = .ok (.aload_n 0, 1) := by decide +kernel
theorem dX12_leave_18 : decode cX12_leave 18 = .ok (.iconst 2, 1) := by decide +kernel
