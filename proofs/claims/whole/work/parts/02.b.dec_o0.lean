theorem dX0_init_0 : decode cX0_init 0 = .ok (.aload_n 0, 1) := by decide +kernel
theorem dX0_init_1 : decode cX0_init 1 = .ok (.invokespecial 3, 3) := by decide +kernel
theorem dX0_init_4 : decode cX0_init 4 = .ok (.aload_n 0, 1) := by decide +kernel
theorem dX0_init_5 : decode cX0_init 5 = .ok (.iconst (-1), 1) := by decide +kernel
theorem dX0_init_6 : decode cX0_init 6 = .ok (.putfield 9, 3) := by decide +kernel
theorem dX0_init_9 : decode cX0_init 9 = .ok (.aload_n 0, 1) := by decide +kernel
theorem dX0_init_10 : decode cX0_init 10 = .ok (.iconst (-1), 1) := by decide +kernel
theorem dX0_init_11 : decode cX0_init 11 = .ok (.putfield 15, 3) := by decide +kernel
theorem dX0_init_14 : decode cX0_init 14 = .ok (.aload_n 0, 1) := by decide +kernel
theorem dX0_init_15 : decode cX0_init 15 = .ok (.iconst 0, 1) := by decide +kernel
theorem dX0_init_16 : decode cX0_init 16 = .ok (.newarray .int, 2) := by decide +kernel
theorem dX0_init_18 : decode cX0_init 18 = .ok (.putfield 18, 3) := by decide +kernel
theorem dX0_init_21 : decode cX0_init 21 = .ok (.return_, 1) := by decide +kernel
theorem dX0_forget_0 : decode cX0_forget 0 = .ok (.aload_n 0, 1) := by decide +kernel
theorem dX0_forget_1 : decode cX0_forget 1 = .ok (.iconst (-1), 1) := by decide +kernel
theorem dX0_forget_2 : decode cX0_forget 2 = .ok (.putfield 9, 3) := by decide +kernel
theorem dX0_forget_5 : decode cX0_forget 5 = .ok (.return_, 1) := by decide +kernel
theorem dX0_aim_0 : decode cX0_aim 0 = .ok (.aload_n 0, 1) := by decide +kernel
theorem dX0_aim_1 : decode cX0_aim 1 = .ok (.getfield 18, 3) := by decide +kernel
theorem dX0_aim_4 : decode cX0_aim 4 = .ok (.arraylength, 1) := by decide +kernel
theorem dX0_aim_5 : decode cX0_aim 5 = .ok (.ifCond .ne 12, 3) := by decide +kernel
theorem dX0_aim_8 : decode cX0_aim 8 = .ok (.aload_n 0, 1) := by decide +kernel
theorem dX0_aim_9 : decode cX0_aim 9 = .ok (.sipush 24576, 3) := by decide +kernel
theorem dX0_aim_12 : decode cX0_aim 12 = .ok (.newarray .int, 2) := by decide +kernel
theorem dX0_aim_14 : decode cX0_aim 14 = .ok (.putfield 18, 3) := by decide +kernel
theorem dX0_aim_17 : decode cX0_aim 17 = .ok (.iload_n 1, 1) := by decide +kernel
theorem dX0_aim_18 : decode cX0_aim 18 = .ok (.aload_n 0, 1) := by decide +kernel
theorem dX0_aim_19 : decode cX0_aim 19 = .ok (.getfield 9, 3) := by decide +kernel
theorem dX0_aim_22 : decode cX0_aim 22 = .ok (.if_icmp .ne 11, 3) := by decide +kernel
theorem dX0_aim_25 : decode cX0_aim 25 = .ok (.iload_n 2, 1) := by decide +kernel
theorem dX0_aim_26 : decode cX0_aim 26 = .ok (.aload_n 0, 1) := by decide +kernel
theorem dX0_aim_27 : decode cX0_aim 27 = .ok (.getfield 15, 3) := by decide +kernel
theorem dX0_aim_30 : decode cX0_aim 30 = .ok (.if_icmp .eq 21, 3) := by decide +kernel
theorem dX0_aim_33 : decode cX0_aim 33 = .ok (.aload_n 0, 1) := by decide +kernel
theorem dX0_aim_34 : decode cX0_aim 34 = .ok (.iload_n 1, 1) := by decide +kernel
theorem dX0_aim_35 : decode cX0_aim 35 = .ok (.putfield 9, 3) := by decide +kernel
theorem dX0_aim_38 : decode cX0_aim 38 = .ok (.aload_n 0, 1) := by decide +kernel
theorem dX0_aim_39 : decode cX0_aim 39 = .ok (.iload_n 2, 1) := by decide +kernel
theorem dX0_aim_40 : decode cX0_aim 40 = .ok (.putfield 15, 3) := by decide +kernel
theorem dX0_aim_43 : decode cX0_aim 43 = .ok (.aload_n 0, 1) := by decide +kernel
theorem dX0_aim_44 : decode cX0_aim 44 = .ok (.getfield 18, 3) := by decide +kernel
theorem dX0_aim_47 : decode cX0_aim 47 = .ok (.iconst (-1), 1) := by decide +kernel
theorem dX0_aim_48 : decode cX0_aim 48 = .ok (.invokestatic 22, 3) := by decide +kernel
theorem dX0_aim_51 : decode cX0_aim 51 = .ok (.return_, 1) := by decide +kernel
theorem dX0_leastWay_0 : decode cX0_leastWay 0 = .ok (.aload_n 0, 1) := by decide +kernel
theorem dX0_leastWay_1 : decode cX0_leastWay 1 = .ok (.aload_n 1, 1) := by decide +kernel
theorem dX0_leastWay_2 : decode cX0_leastWay 2 = .ok (.iload_n 2, 1) := by decide +kernel
theorem dX0_leastWay_3 : decode cX0_leastWay 3 = .ok (.iload_n 3, 1) := by decide +kernel
theorem dX0_leastWay_4 : decode cX0_leastWay 4 = .ok (.invokevirtual 28, 3) := by decide +kernel
theorem dX0_leastWay_7 : decode cX0_leastWay 7 = .ok (.ireturn, 1) := by decide +kernel
theorem dX0_least_0 : decode cX0_least 0 = .ok (.iload_n 3, 1) := by decide +kernel
theorem dX0_least_1 : decode cX0_least 1 = .ok (.aload_n 0, 1) := by decide +kernel
theorem dX0_least_2 : decode cX0_least 2 = .ok (.getfield 9, 3) := by decide +kernel
theorem dX0_least_5 : decode cX0_least 5 = .ok (.invokestatic 32, 3) := by decide +kernel
theorem dX0_least_8 : decode cX0_least 8 = .ok (.ifCond .eq 5, 3) := by decide +kernel
theorem dX0_least_11 : decode cX0_least 11 = .ok (.iconst 0, 1) := by decide +kernel
theorem dX0_least_12 : decode cX0_least 12 = .ok (.ireturn, 1) := by decide +kernel
theorem dX0_least_13 : decode cX0_least 13 = .ok (.iload_n 2, 1) := by decide +kernel
theorem dX0_least_14 : decode cX0_least 14 = .ok (.bipush 24, 2) := by decide +kernel
theorem dX0_least_16 : decode cX0_least 16 = .ok (.if_icmp .lt 8, 3) := by decide +kernel
theorem dX0_least_19 : decode cX0_least 19 = .ok (.ldc 36, 2) := by decide +kernel
theorem dX0_least_21 : decode cX0_least 21 = .ok (.goto 14, 3) := by decide +kernel
theorem dX0_least_24 : decode cX0_least 24 = .ok (.aload_n 0, 1) := by decide +kernel
theorem dX0_least_25 : decode cX0_least 25 = .ok (.aload_n 1, 1) := by decide +kernel
theorem dX0_least_26 : decode cX0_least 26 = .ok (.iload_n 2, 1) := by decide +kernel
theorem dX0_least_27 : decode cX0_least 27 = .ok (.iload_n 3, 1) := by decide +kernel
theorem dX0_least_28 : decode cX0_least 28 = .ok (.invokevirtual 37, 3) := by decide +kernel
theorem dX0_least_31 : decode cX0_least 31 = .ok (.sipush 2048, 3) := by decide +kernel
theorem dX0_least_34 : decode cX0_least 34 = .ok (.idiv, 1) := by decide +kernel
theorem dX0_least_35 : decode cX0_least 35 = .ok (.ireturn, 1) := by decide +kernel
theorem dX0_entry_0 : decode cX0_entry 0 = .ok (.iload_n 2, 1) := by decide +kernel
theorem dX0_entry_1 : decode cX0_entry 1 = .ok (.sipush 1024, 3) := by decide +kernel
theorem dX0_entry_4 : decode cX0_entry 4 = .ok (.imul, 1) := by decide +kernel
theorem dX0_entry_5 : decode cX0_entry 5 = .ok (.iload_n 3, 1) := by decide +kernel
theorem dX0_entry_6 : decode cX0_entry 6 = .ok (.iadd, 1) := by decide +kernel
theorem dX0_entry_7 : decode cX0_entry 7 = .ok (.istore 4, 2) := by decide +kernel
theorem dX0_entry_9 : decode cX0_entry 9 = .ok (.iload 4, 2) := by decide +kernel
theorem dX0_entry_11 : decode cX0_entry 11 = .ok (.ifCond .lt 13, 3) := by decide +kernel
theorem dX0_entry_14 : decode cX0_entry 14 = .ok (.iload 4, 2) := by decide +kernel
theorem dX0_entry_16 : decode cX0_entry 16 = .ok (.aload_n 0, 1) := by decide +kernel
theorem dX0_entry_17 : decode cX0_entry 17 = .ok (.getfield 18, 3) := by decide +kernel
theorem dX0_entry_20 : decode cX0_entry 20 = .ok (.arraylength, 1) := by decide +kernel
theorem dX0_entry_21 : decode cX0_entry 21 = .ok (.if_icmp .lt 6, 3) := by decide +kernel
theorem dX0_entry_24 : decode cX0_entry 24 = .ok (.ldc 40, 2) := by decide +kernel
theorem dX0_entry_26 : decode cX0_entry 26 = .ok (.ireturn, 1) := by decide +kernel
theorem dX0_entry_27 : decode cX0_entry 27 = .ok (.aload_n 0, 1) := by decide +kernel
theorem dX0_entry_28 : decode cX0_entry 28 = .ok (.getfield 18, 3) := by decide +kernel
theorem dX0_entry_31 : decode cX0_entry 31 = .ok (.iload 4, 2) := by decide +kernel
theorem dX0_entry_33 : decode cX0_entry 33 = .ok (.iaload, 1) := by decide +kernel
theorem dX0_entry_34 : decode cX0_entry 34 = .ok (.iconst (-1), 1) := by decide +kernel
theorem dX0_entry_35 : decode cX0_entry 35 = .ok (.if_icmp .ne 76, 3) := by decide +kernel
theorem dX0_entry_38 : decode cX0_entry 38 = .ok (.aload_n 0, 1) := by decide +kernel
theorem dX0_entry_39 : decode cX0_entry 39 = .ok (.aload_n 1, 1) := by decide +kernel
theorem dX0_entry_40 : decode cX0_entry 40 = .ok (.iload_n 2, 1) := by decide +kernel
theorem dX0_entry_41 : decode cX0_entry 41 = .ok (.iconst 1, 1) := by decide +kernel
theorem dX0_entry_42 : decode cX0_entry 42 = .ok (.iadd, 1) := by decide +kernel
theorem dX0_entry_43 : decode cX0_entry 43 = .ok (.iload_n 3, 1) := by decide +kernel
theorem dX0_entry_44 : decode cX0_entry 44 = .ok (.invokevirtual 28, 3) := by decide +kernel
theorem dX0_entry_47 : decode cX0_entry 47 = .ok (.sipush 2048, 3) := by decide +kernel
theorem dX0_entry_50 : decode cX0_entry 50 = .ok (.imul, 1) := by decide +kernel
theorem dX0_entry_51 : decode cX0_entry 51 = .ok (.sipush 2047, 3) := by decide +kernel
theorem dX0_entry_54 : decode cX0_entry 54 = .ok (.iadd, 1) := by decide +kernel
theorem dX0_entry_55 : decode cX0_entry 55 = .ok (.istore 5, 2) := by decide +kernel
theorem dX0_entry_57 : decode cX0_entry 57 = .ok (.iconst 0, 1) := by decide +kernel
theorem dX0_entry_58 : decode cX0_entry 58 = .ok (.istore 6, 2) := by decide +kernel
theorem dX0_entry_60 : decode cX0_entry 60 = .ok (.iload 6, 2) := by decide +kernel
theorem dX0_entry_62 : decode cX0_entry 62 = .ok (.aload_n 1, 1) := by decide +kernel
theorem dX0_entry_63 : decode cX0_entry 63 = .ok (.getfield 41, 3) := by decide +kernel
theorem dX0_entry_66 : decode cX0_entry 66 = .ok (.iconst 1, 1) := by decide +kernel
theorem dX0_entry_67 : decode cX0_entry 67 = .ok (.iaload, 1) := by decide +kernel
theorem dX0_entry_68 : decode cX0_entry 68 = .ok (.if_icmp .ge 34, 3) := by decide +kernel
theorem dX0_entry_71 : decode cX0_entry 71 = .ok (.iload_n 3, 1) := by decide +kernel
theorem dX0_entry_72 : decode cX0_entry 72 = .ok (.iload 6, 2) := by decide +kernel
theorem dX0_entry_74 : decode cX0_entry 74 = .ok (.invokestatic 32, 3) := by decide +kernel
theorem dX0_entry_77 : decode cX0_entry 77 = .ok (.ifCond .eq 19, 3) := by decide +kernel
theorem dX0_entry_80 : decode cX0_entry 80 = .ok (.iload 5, 2) := by decide +kernel
theorem dX0_entry_82 : decode cX0_entry 82 = .ok (.aload_n 0, 1) := by decide +kernel
theorem dX0_entry_83 : decode cX0_entry 83 = .ok (.aload_n 1, 1) := by decide +kernel
theorem dX0_entry_84 : decode cX0_entry 84 = .ok (.iload_n 2, 1) := by decide +kernel
theorem dX0_entry_85 : decode cX0_entry 85 = .ok (.iload_n 3, 1) := by decide +kernel
theorem dX0_entry_86 : decode cX0_entry 86 = .ok (.iload 6, 2) := by decide +kernel
theorem dX0_entry_88 : decode cX0_entry 88 = .ok (.invokevirtual 46, 3) := by decide +kernel
theorem dX0_entry_91 : decode cX0_entry 91 = .ok (.invokestatic 50, 3) := by decide +kernel
theorem dX0_entry_94 : decode cX0_entry 94 = .ok (.istore 5, 2) := by decide +kernel
theorem dX0_entry_96 : decode cX0_entry 96 = .ok (.iinc 6 1, 3) := by decide +kernel
theorem dX0_entry_99 : decode cX0_entry 99 = .ok (.goto (-39), 3) := by decide +kernel
theorem dX0_entry_102 : decode cX0_entry 102 = .ok (.aload_n 0, 1) := by decide +kernel
theorem dX0_entry_103 : decode cX0_entry 103 = .ok (.getfield 18, 3) := by decide +kernel
theorem dX0_entry_106 : decode cX0_entry 106 = .ok (.iload 4, 2) := by decide +kernel
theorem dX0_entry_108 : decode cX0_entry 108 = .ok (.iload 5, 2) := by decide +kernel
theorem dX0_entry_110 : decode cX0_entry 110 = .ok (.iastore, 1) := by decide +kernel
theorem dX0_entry_111 : decode cX0_entry 111 = .ok (.aload_n 0, 1) := by decide +kernel
theorem dX0_entry_112 : decode cX0_entry 112 = .ok (.getfield 18, 3) := by decide +kernel
theorem dX0_entry_115 : decode cX0_entry 115 = .ok (.iload 4, 2) := by decide +kernel
theorem dX0_entry_117 : decode cX0_entry 117 = .ok (.iaload, 1) := by decide +kernel
theorem dX0_entry_118 : decode cX0_entry 118 = .ok (.ireturn, 1) := by decide +kernel
theorem dX0_entryBy_0 : decode cX0_entryBy 0 = .ok (.aload_n 1, 1) := by decide +kernel
theorem dX0_entryBy_1 : decode cX0_entryBy 1 = .ok (.iload 4, 2) := by decide +kernel
theorem dX0_entryBy_3 : decode cX0_entryBy 3 = .ok (.iload_n 2, 1) := by decide +kernel
theorem dX0_entryBy_4 : decode cX0_entryBy 4 = .ok (.invokevirtual 56, 3) := by decide +kernel
theorem dX0_entryBy_7 : decode cX0_entryBy 7 = .ok (.istore 5, 2) := by decide +kernel
theorem dX0_entryBy_9 : decode cX0_entryBy 9 = .ok (.ldc 40, 2) := by decide +kernel
theorem dX0_entryBy_11 : decode cX0_entryBy 11 = .ok (.istore 6, 2) := by decide +kernel
theorem dX0_entryBy_13 : decode cX0_entryBy 13 = .ok (.aload_n 1, 1) := by decide +kernel
theorem dX0_entryBy_14 : decode cX0_entryBy 14 = .ok (.iload 4, 2) := by decide +kernel
theorem dX0_entryBy_16 : decode cX0_entryBy 16 = .ok (.iload_n 2, 1) := by decide +kernel
theorem dX0_entryBy_17 : decode cX0_entryBy 17 = .ok (.invokevirtual 59, 3) := by decide +kernel
theorem dX0_entryBy_20 : decode cX0_entryBy 20 = .ok (.istore 7, 2) := by decide +kernel
theorem dX0_entryBy_22 : decode cX0_entryBy 22 = .ok (.iload_n 3, 1) := by decide +kernel
theorem dX0_entryBy_23 : decode cX0_entryBy 23 = .ok (.aload_n 1, 1) := by decide +kernel
theorem dX0_entryBy_24 : decode cX0_entryBy 24 = .ok (.iload 5, 2) := by decide +kernel
theorem dX0_entryBy_26 : decode cX0_entryBy 26 = .ok (.iload_n 2, 1) := by decide +kernel
theorem dX0_entryBy_27 : decode cX0_entryBy 27 = .ok (.invokevirtual 62, 3) := by decide +kernel
theorem dX0_entryBy_30 : decode cX0_entryBy 30 = .ok (.ior, 1) := by decide +kernel
theorem dX0_entryBy_31 : decode cX0_entryBy 31 = .ok (.istore 8, 2) := by decide +kernel
theorem dX0_entryBy_33 : decode cX0_entryBy 33 = .ok (.iload 7, 2) := by decide +kernel
theorem dX0_entryBy_35 : decode cX0_entryBy 35 = .ok (.ifCond .eq 51, 3) := by decide +kernel
theorem dX0_entryBy_38 : decode cX0_entryBy 38 = .ok (.iload 8, 2) := by decide +kernel
theorem dX0_entryBy_40 : decode cX0_entryBy 40 = .ok (.iload_n 3, 1) := by decide +kernel
theorem dX0_entryBy_41 : decode cX0_entryBy 41 = .ok (.if_icmp .eq 45, 3) := by decide +kernel
theorem dX0_entryBy_44 : decode cX0_entryBy 44 = .ok (.aload_n 0, 1) := by decide +kernel
theorem dX0_entryBy_45 : decode cX0_entryBy 45 = .ok (.aload_n 1, 1) := by decide +kernel
theorem dX0_entryBy_46 : decode cX0_entryBy 46 = .ok (.iload_n 2, 1) := by decide +kernel
theorem dX0_entryBy_47 : decode cX0_entryBy 47 = .ok (.iconst 1, 1) := by decide +kernel
theorem dX0_entryBy_48 : decode cX0_entryBy 48 = .ok (.iadd, 1) := by decide +kernel
theorem dX0_entryBy_49 : decode cX0_entryBy 49 = .ok (.iload 8, 2) := by decide +kernel
theorem dX0_entryBy_51 : decode cX0_entryBy 51 = .ok (.invokevirtual 28, 3) := by decide +kernel
theorem dX0_entryBy_54 : decode cX0_entryBy 54 = .ok (.bipush 32, 2) := by decide +kernel
theorem dX0_entryBy_56 : decode cX0_entryBy 56 = .ok (.iadd, 1) := by decide +kernel
theorem dX0_entryBy_57 : decode cX0_entryBy 57 = .ok (.iconst 1, 1) := by decide +kernel
theorem dX0_entryBy_58 : decode cX0_entryBy 58 = .ok (.iadd, 1) := by decide +kernel
theorem dX0_entryBy_59 : decode cX0_entryBy 59 = .ok (.istore 9, 2) := by decide +kernel
theorem dX0_entryBy_61 : decode cX0_entryBy 61 = .ok (.iload 6, 2) := by decide +kernel
theorem dX0_entryBy_63 : decode cX0_entryBy 63 = .ok (.iload 9, 2) := by decide +kernel
theorem dX0_entryBy_65 : decode cX0_entryBy 65 = .ok (.sipush 2048, 3) := by decide +kernel
theorem dX0_entryBy_68 : decode cX0_entryBy 68 = .ok (.imul, 1) := by decide +kernel
theorem dX0_entryBy_69 : decode cX0_entryBy 69 = .ok (.bipush 20, 2) := by decide +kernel
theorem dX0_entryBy_71 : decode cX0_entryBy 71 = .ok (.iload 4, 2) := by decide +kernel
theorem dX0_entryBy_73 : decode cX0_entryBy 73 = .ok (.imul, 1) := by decide +kernel
theorem dX0_entryBy_74 : decode cX0_entryBy 74 = .ok (.iadd, 1) := by decide +kernel
theorem dX0_entryBy_75 : decode cX0_entryBy 75 = .ok (.iload 7, 2) := by decide +kernel
theorem dX0_entryBy_77 : decode cX0_entryBy 77 = .ok (.invokestatic 65, 3) := by decide +kernel
theorem dX0_entryBy_80 : decode cX0_entryBy 80 = .ok (.iadd, 1) := by decide +kernel
theorem dX0_entryBy_81 : decode cX0_entryBy 81 = .ok (.invokestatic 50, 3) := by decide +kernel
theorem dX0_entryBy_84 : decode cX0_entryBy 84 = .ok (.istore 6, 2) := by decide +kernel
theorem dX0_entryBy_86 : decode cX0_entryBy 86 = .ok (.iload_n 3, 1) := by decide +kernel
theorem dX0_entryBy_87 : decode cX0_entryBy 87 = .ok (.aload_n 1, 1) := by decide +kernel
theorem dX0_entryBy_88 : decode cX0_entryBy 88 = .ok (.iload 5, 2) := by decide +kernel
theorem dX0_entryBy_90 : decode cX0_entryBy 90 = .ok (.iload_n 2, 1) := by decide +kernel
theorem dX0_entryBy_91 : decode cX0_entryBy 91 = .ok (.invokevirtual 71, 3) := by decide +kernel
theorem dX0_entryBy_94 : decode cX0_entryBy 94 = .ok (.ior, 1) := by decide +kernel
theorem dX0_entryBy_95 : decode cX0_entryBy 95 = .ok (.istore 9, 2) := by decide +kernel
theorem dX0_entryBy_97 : decode cX0_entryBy 97 = .ok (.iconst 0, 1) := by decide +kernel
theorem dX0_entryBy_98 : decode cX0_entryBy 98 = .ok (.istore 10, 2) := by decide +kernel
theorem dX0_entryBy_100 : decode cX0_entryBy 100 = .ok (.iload 10, 2) := by decide +kernel
theorem dX0_entryBy_102 : decode cX0_entryBy 102 = .ok (.aload_n 1, 1) := by decide +kernel
theorem dX0_entryBy_103 : decode cX0_entryBy 103 = .ok (.getfield 41, 3) := by decide +kernel
theorem dX0_entryBy_106 : decode cX0_entryBy 106 = .ok (.bipush 7, 2) := by decide +kernel
theorem dX0_entryBy_108 : decode cX0_entryBy 108 = .ok (.iaload, 1) := by decide +kernel
theorem dX0_entryBy_109 : decode cX0_entryBy 109 = .ok (.if_icmp .ge 80, 3) := by decide +kernel
theorem dX0_entryBy_112 : decode cX0_entryBy 112 = .ok (.iload 9, 2) := by decide +kernel
theorem dX0_entryBy_114 : decode cX0_entryBy 114 = .ok (.iload_n 3, 1) := by decide +kernel
theorem dX0_entryBy_115 : decode cX0_entryBy 115 = .ok (.if_icmp .eq 74, 3) := by decide +kernel
theorem dX0_entryBy_118 : decode cX0_entryBy 118 = .ok (.aload_n 1, 1) := by decide +kernel
theorem dX0_entryBy_119 : decode cX0_entryBy 119 = .ok (.getfield 74, 3) := by decide +kernel
theorem dX0_entryBy_122 : decode cX0_entryBy 122 = .ok (.iload 10, 2) := by decide +kernel
theorem dX0_entryBy_124 : decode cX0_entryBy 124 = .ok (.iaload, 1) := by decide +kernel
theorem dX0_entryBy_125 : decode cX0_entryBy 125 = .ok (.aload_n 0, 1) := by decide +kernel
theorem dX0_entryBy_126 : decode cX0_entryBy 126 = .ok (.getfield 15, 3) := by decide +kernel
theorem dX0_entryBy_129 : decode cX0_entryBy 129 = .ok (.if_icmp .ne 54, 3) := by decide +kernel
theorem dX0_entryBy_132 : decode cX0_entryBy 132 = .ok (.aload_n 0, 1) := by decide +kernel
theorem dX0_entryBy_133 : decode cX0_entryBy 133 = .ok (.aload_n 1, 1) := by decide +kernel
theorem dX0_entryBy_134 : decode cX0_entryBy 134 = .ok (.iload_n 2, 1) := by decide +kernel
theorem dX0_entryBy_135 : decode cX0_entryBy 135 = .ok (.iconst 1, 1) := by decide +kernel
theorem dX0_entryBy_136 : decode cX0_entryBy 136 = .ok (.iadd, 1) := by decide +kernel
theorem dX0_entryBy_137 : decode cX0_entryBy 137 = .ok (.iload 9, 2) := by decide +kernel
theorem dX0_entryBy_139 : decode cX0_entryBy 139 = .ok (.invokevirtual 28, 3) := by decide +kernel
theorem dX0_entryBy_142 : decode cX0_entryBy 142 = .ok (.aload_n 1, 1) := by decide +kernel
theorem dX0_entryBy_143 : decode cX0_entryBy 143 = .ok (.getfield 77, 3) := by decide +kernel
theorem dX0_entryBy_146 : decode cX0_entryBy 146 = .ok (.iload 10, 2) := by decide +kernel
theorem dX0_entryBy_148 : decode cX0_entryBy 148 = .ok (.iaload, 1) := by decide +kernel
theorem dX0_entryBy_149 : decode cX0_entryBy 149 = .ok (.bipush 32, 2) := by decide +kernel
theorem dX0_entryBy_151 : decode cX0_entryBy 151 = .ok (.imul, 1) := by decide +kernel
theorem dX0_entryBy_152 : decode cX0_entryBy 152 = .ok (.iadd, 1) := by decide +kernel
theorem dX0_entryBy_153 : decode cX0_entryBy 153 = .ok (.iconst 1, 1) := by decide +kernel
theorem dX0_entryBy_154 : decode cX0_entryBy 154 = .ok (.iadd, 1) := by decide +kernel
theorem dX0_entryBy_155 : decode cX0_entryBy 155 = .ok (.istore 11, 2) := by decide +kernel
theorem dX0_entryBy_157 : decode cX0_entryBy 157 = .ok (.iload 6, 2) := by decide +kernel
theorem dX0_entryBy_159 : decode cX0_entryBy 159 = .ok (.iload 11, 2) := by decide +kernel
theorem dX0_entryBy_161 : decode cX0_entryBy 161 = .ok (.sipush 2048, 3) := by decide +kernel
theorem dX0_entryBy_164 : decode cX0_entryBy 164 = .ok (.imul, 1) := by decide +kernel
theorem dX0_entryBy_165 : decode cX0_entryBy 165 = .ok (.sipush 1000, 3) := by decide +kernel
theorem dX0_entryBy_168 : decode cX0_entryBy 168 = .ok (.iadd, 1) := by decide +kernel
theorem dX0_entryBy_169 : decode cX0_entryBy 169 = .ok (.bipush 20, 2) := by decide +kernel
theorem dX0_entryBy_171 : decode cX0_entryBy 171 = .ok (.iload 4, 2) := by decide +kernel
theorem dX0_entryBy_173 : decode cX0_entryBy 173 = .ok (.imul, 1) := by decide +kernel
theorem dX0_entryBy_174 : decode cX0_entryBy 174 = .ok (.iadd, 1) := by decide +kernel
theorem dX0_entryBy_175 : decode cX0_entryBy 175 = .ok (.iload 10, 2) := by decide +kernel
theorem dX0_entryBy_177 : decode cX0_entryBy 177 = .ok (.iadd, 1) := by decide +kernel
theorem dX0_entryBy_178 : decode cX0_entryBy 178 = .ok (.invokestatic 50, 3) := by decide +kernel
theorem dX0_entryBy_181 : decode cX0_entryBy 181 = .ok (.istore 6, 2) := by decide +kernel
theorem dX0_entryBy_183 : decode cX0_entryBy 183 = .ok (.iinc 10 1, 3) := by decide +kernel
theorem dX0_entryBy_186 : decode cX0_entryBy 186 = .ok (.goto (-86), 3) := by decide +kernel
theorem dX0_entryBy_189 : decode cX0_entryBy 189 = .ok (.iload 6, 2) := by decide +kernel
theorem dX0_entryBy_191 : decode cX0_entryBy 191 = .ok (.ireturn, 1) := by decide +kernel
theorem dX0_step_0 : decode cX0_step 0 = .ok (.aload_n 0, 1) := by decide +kernel
theorem dX0_step_1 : decode cX0_step 1 = .ok (.aload_n 1, 1) := by decide +kernel
theorem dX0_step_2 : decode cX0_step 2 = .ok (.iload_n 2, 1) := by decide +kernel
theorem dX0_step_3 : decode cX0_step 3 = .ok (.iload_n 3, 1) := by decide +kernel
theorem dX0_step_4 : decode cX0_step 4 = .ok (.invokevirtual 28, 3) := by decide +kernel
theorem dX0_step_7 : decode cX0_step 7 = .ok (.ldc 36, 2) := by decide +kernel
theorem dX0_step_9 : decode cX0_step 9 = .ok (.if_icmp .ne 5, 3) := by decide +kernel
theorem dX0_step_12 : decode cX0_step 12 = .ok (.iconst (-1), 1) := by decide +kernel
theorem dX0_step_13 : decode cX0_step 13 = .ok (.ireturn, 1) := by decide +kernel
theorem dX0_step_14 : decode cX0_step 14 = .ok (.iload_n 3, 1) := by decide +kernel
theorem dX0_step_15 : decode cX0_step 15 = .ok (.istore 5, 2) := by decide +kernel
theorem dX0_step_17 : decode cX0_step 17 = .ok (.iconst 0, 1) := by decide +kernel
theorem dX0_step_18 : decode cX0_step 18 = .ok (.istore 6, 2) := by decide +kernel
theorem dX0_step_20 : decode cX0_step 20 = .ok (.iload_n 2, 1) := by decide +kernel
theorem dX0_step_21 : decode cX0_step 21 = .ok (.istore 7, 2) := by decide +kernel
theorem dX0_step_23 : decode cX0_step 23 = .ok (.iload 7, 2) := by decide +kernel
theorem dX0_step_25 : decode cX0_step 25 = .ok (.bipush 24, 2) := by decide +kernel
theorem dX0_step_27 : decode cX0_step 27 = .ok (.if_icmp .ge 113, 3) := by decide +kernel
theorem dX0_step_30 : decode cX0_step 30 = .ok (.iload 5, 2) := by decide +kernel
theorem dX0_step_32 : decode cX0_step 32 = .ok (.aload_n 0, 1) := by decide +kernel
theorem dX0_step_33 : decode cX0_step 33 = .ok (.getfield 9, 3) := by decide +kernel
theorem dX0_step_36 : decode cX0_step 36 = .ok (.invokestatic 32, 3) := by decide +kernel
theorem dX0_step_39 : decode cX0_step 39 = .ok (.ifCond .ne 101, 3) := by decide +kernel
theorem dX0_step_42 : decode cX0_step 42 = .ok (.aload_n 0, 1) := by decide +kernel
theorem dX0_step_43 : decode cX0_step 43 = .ok (.aload_n 1, 1) := by decide +kernel
theorem dX0_step_44 : decode cX0_step 44 = .ok (.iload 7, 2) := by decide +kernel
theorem dX0_step_46 : decode cX0_step 46 = .ok (.iload 5, 2) := by decide +kernel
theorem dX0_step_48 : decode cX0_step 48 = .ok (.invokevirtual 37, 3) := by decide +kernel
theorem dX0_step_51 : decode cX0_step 51 = .ok (.sipush 2048, 3) := by decide +kernel
theorem dX0_step_54 : decode cX0_step 54 = .ok (.irem, 1) := by decide +kernel
theorem dX0_step_55 : decode cX0_step 55 = .ok (.istore 8, 2) := by decide +kernel
theorem dX0_step_57 : decode cX0_step 57 = .ok (.iload 8, 2) := by decide +kernel
theorem dX0_step_59 : decode cX0_step 59 = .ok (.sipush 2047, 3) := by decide +kernel
theorem dX0_step_62 : decode cX0_step 62 = .ok (.if_icmp .eq 72, 3) := by decide +kernel
theorem dX0_step_65 : decode cX0_step 65 = .ok (.iload 6, 2) := by decide +kernel
theorem dX0_step_67 : decode cX0_step 67 = .ok (.iload 4, 2) := by decide +kernel
theorem dX0_step_69 : decode cX0_step 69 = .ok (.if_icmp .ne 13, 3) := by decide +kernel
theorem dX0_step_72 : decode cX0_step 72 = .ok (.sipush 10000, 3) := by decide +kernel
theorem dX0_step_75 : decode cX0_step 75 = .ok (.iload 7, 2) := by decide +kernel
theorem dX0_step_77 : decode cX0_step 77 = .ok (.imul, 1) := by decide +kernel
theorem dX0_step_78 : decode cX0_step 78 = .ok (.iload 8, 2) := by decide +kernel
theorem dX0_step_80 : decode cX0_step 80 = .ok (.iadd, 1) := by decide +kernel
theorem dX0_step_81 : decode cX0_step 81 = .ok (.ireturn, 1) := by decide +kernel
theorem dX0_step_82 : decode cX0_step 82 = .ok (.iinc 6 1, 3) := by decide +kernel
theorem dX0_step_85 : decode cX0_step 85 = .ok (.aload_n 1, 1) := by decide +kernel
theorem dX0_step_86 : decode cX0_step 86 = .ok (.iload 8, 2) := by decide +kernel
theorem dX0_step_88 : decode cX0_step 88 = .ok (.sipush 1000, 3) := by decide +kernel
theorem dX0_step_91 : decode cX0_step 91 = .ok (.irem, 1) := by decide +kernel
theorem dX0_step_92 : decode cX0_step 92 = .ok (.bipush 20, 2) := by decide +kernel
theorem dX0_step_94 : decode cX0_step 94 = .ok (.idiv, 1) := by decide +kernel
theorem dX0_step_95 : decode cX0_step 95 = .ok (.iload 7, 2) := by decide +kernel
theorem dX0_step_97 : decode cX0_step 97 = .ok (.invokevirtual 56, 3) := by decide +kernel
theorem dX0_step_100 : decode cX0_step 100 = .ok (.istore 9, 2) := by decide +kernel
theorem dX0_step_102 : decode cX0_step 102 = .ok (.iload 5, 2) := by decide +kernel
theorem dX0_step_104 : decode cX0_step 104 = .ok (.iload 8, 2) := by decide +kernel
theorem dX0_step_106 : decode cX0_step 106 = .ok (.sipush 1000, 3) := by decide +kernel
theorem dX0_step_109 : decode cX0_step 109 = .ok (.if_icmp .ge 14, 3) := by decide +kernel
theorem dX0_step_112 : decode cX0_step 112 = .ok (.aload_n 1, 1) := by decide +kernel
theorem dX0_step_113 : decode cX0_step 113 = .ok (.iload 9, 2) := by decide +kernel
theorem dX0_step_115 : decode cX0_step 115 = .ok (.iload 7, 2) := by decide +kernel
theorem dX0_step_117 : decode cX0_step 117 = .ok (.invokevirtual 62, 3) := by decide +kernel
theorem dX0_step_120 : decode cX0_step 120 = .ok (.goto 11, 3) := by decide +kernel
theorem dX0_step_123 : decode cX0_step 123 = .ok (.aload_n 1, 1) := by decide +kernel
theorem dX0_step_124 : decode cX0_step 124 = .ok (.iload 9, 2) := by decide +kernel
theorem dX0_step_126 : decode cX0_step 126 = .ok (.iload 7, 2) := by decide +kernel
theorem dX0_step_128 : decode cX0_step 128 = .ok (.invokevirtual 71, 3) := by decide +kernel
theorem dX0_step_131 : decode cX0_step 131 = .ok (.ior, 1) := by decide +kernel
theorem dX0_step_132 : decode cX0_step 132 = .ok (.istore 5, 2) := by decide +kernel
theorem dX0_step_134 : decode cX0_step 134 = .ok (.iinc 7 1, 3) := by decide +kernel
theorem dX0_step_137 : decode cX0_step 137 = .ok (.goto (-114), 3) := by decide +kernel
theorem dX0_step_140 : decode cX0_step 140 = .ok (.iconst (-1), 1) := by decide +kernel
theorem dX0_step_141 : decode cX0_step 141 = .ok (.ireturn, 1) := by decide +kernel
theorem dX1_init_0 : decode cX1_init 0 = .ok (.aload_n 0, 1) := by decide +kernel
theorem dX1_init_1 : decode cX1_init 1 = .ok (.invokespecial 3, 3) := by decide +kernel
theorem dX1_init_4 : decode cX1_init 4 = .ok (.aload_n 0, 1) := by decide +kernel
theorem dX1_init_5 : decode cX1_init 5 = .ok (.new 9, 3) := by decide +kernel
theorem dX1_init_8 : decode cX1_init 8 = .ok (.dup, 1) := by decide +kernel
theorem dX1_init_9 : decode cX1_init 9 = .ok (.invokespecial 11, 3) := by decide +kernel
theorem dX1_init_12 : decode cX1_init 12 = .ok (.putfield 12, 3) := by decide +kernel
theorem dX1_init_15 : decode cX1_init 15 = .ok (.aload_n 0, 1) := by decide +kernel
theorem dX1_init_16 : decode cX1_init 16 = .ok (.sipush 600, 3) := by decide +kernel
theorem dX1_init_19 : decode cX1_init 19 = .ok (.newarray .int, 2) := by decide +kernel
theorem dX1_init_21 : decode cX1_init 21 = .ok (.putfield 18, 3) := by decide +kernel
theorem dX1_init_24 : decode cX1_init 24 = .ok (.aload_n 0, 1) := by decide +kernel
theorem dX1_init_25 : decode cX1_init 25 = .ok (.bipush 30, 2) := by decide +kernel
theorem dX1_init_27 : decode cX1_init 27 = .ok (.newarray .int, 2) := by decide +kernel
theorem dX1_init_29 : decode cX1_init 29 = .ok (.putfield 22, 3) := by decide +kernel
theorem dX1_init_32 : decode cX1_init 32 = .ok (.aload_n 0, 1) := by decide +kernel
theorem dX1_init_33 : decode cX1_init 33 = .ok (.bipush 10, 2) := by decide +kernel
theorem dX1_init_35 : decode cX1_init 35 = .ok (.newarray .int, 2) := by decide +kernel
theorem dX1_init_37 : decode cX1_init 37 = .ok (.putfield 25, 3) := by decide +kernel
theorem dX1_init_40 : decode cX1_init 40 = .ok (.aload_n 0, 1) := by decide +kernel
theorem dX1_init_41 : decode cX1_init 41 = .ok (.iconst 0, 1) := by decide +kernel
theorem dX1_init_42 : decode cX1_init 42 = .ok (.putfield 28, 3) := by decide +kernel
theorem dX1_init_45 : decode cX1_init 45 = .ok (.aload_n 0, 1) := by decide +kernel
theorem dX1_init_46 : decode cX1_init 46 = .ok (.iconst 0, 1) := by decide +kernel
theorem dX1_init_47 : decode cX1_init 47 = .ok (.putfield 32, 3) := by decide +kernel
theorem dX1_init_50 : decode cX1_init 50 = .ok (.return_, 1) := by decide +kernel
theorem dX1_nobodyDies_0 : decode cX1_nobodyDies 0 = .ok (.aload_n 0, 1) := by decide +kernel
theorem dX1_nobodyDies_1 : decode cX1_nobodyDies 1 = .ok (.getfield 25, 3) := by decide +kernel
theorem dX1_nobodyDies_4 : decode cX1_nobodyDies 4 = .ok (.bipush 99, 2) := by decide +kernel
theorem dX1_nobodyDies_6 : decode cX1_nobodyDies 6 = .ok (.invokestatic 35, 3) := by decide +kernel
theorem dX1_nobodyDies_9 : decode cX1_nobodyDies 9 = .ok (.return_, 1) := by decide +kernel
theorem dX1_drawDeaths_0 : decode cX1_drawDeaths 0 = .ok (.aload_n 0, 1) := by decide +kernel
theorem dX1_drawDeaths_1 : decode cX1_drawDeaths 1 = .ok (.invokevirtual 41, 3) := by decide +kernel
theorem dX1_drawDeaths_4 : decode cX1_drawDeaths 4 = .ok (.iconst 0, 1) := by decide +kernel
theorem dX1_drawDeaths_5 : decode cX1_drawDeaths 5 = .ok (.istore 4, 2) := by decide +kernel
theorem dX1_drawDeaths_7 : decode cX1_drawDeaths 7 = .ok (.iload 4, 2) := by decide +kernel
theorem dX1_drawDeaths_9 : decode cX1_drawDeaths 9 = .ok (.iload_n 3, 1) := by decide +kernel
theorem dX1_drawDeaths_10 : decode cX1_drawDeaths 10 = .ok (.if_icmp .ge 71, 3) := by decide +kernel
theorem dX1_drawDeaths_13 : decode cX1_drawDeaths 13 = .ok (.iload 4, 2) := by decide +kernel
theorem dX1_drawDeaths_15 : decode cX1_drawDeaths 15 = .ok (.bipush 10, 2) := by decide +kernel
theorem dX1_drawDeaths_17 : decode cX1_drawDeaths 17 = .ok (.if_icmp .ge 64, 3) := by decide +kernel
theorem dX1_drawDeaths_20 : decode cX1_drawDeaths 20 = .ok (.iconst 1, 1) := by decide +kernel
theorem dX1_drawDeaths_21 : decode cX1_drawDeaths 21 = .ok (.istore 5, 2) := by decide +kernel
theorem dX1_drawDeaths_23 : decode cX1_drawDeaths 23 = .ok (.iload 5, 2) := by decide +kernel
theorem dX1_drawDeaths_25 : decode cX1_drawDeaths 25 = .ok (.bipush 24, 2) := by decide +kernel
theorem dX1_drawDeaths_27 : decode cX1_drawDeaths 27 = .ok (.if_icmp .ge 48, 3) := by decide +kernel
theorem dX1_drawDeaths_30 : decode cX1_drawDeaths 30 = .ok (.aload_n 0, 1) := by decide +kernel
theorem dX1_drawDeaths_31 : decode cX1_drawDeaths 31 = .ok (.getfield 25, 3) := by decide +kernel
theorem dX1_drawDeaths_34 : decode cX1_drawDeaths 34 = .ok (.iload 4, 2) := by decide +kernel
theorem dX1_drawDeaths_36 : decode cX1_drawDeaths 36 = .ok (.iaload, 1) := by decide +kernel
theorem dX1_drawDeaths_37 : decode cX1_drawDeaths 37 = .ok (.bipush 99, 2) := by decide +kernel
theorem dX1_drawDeaths_39 : decode cX1_drawDeaths 39 = .ok (.if_icmp .ne 36, 3) := by decide +kernel
theorem dX1_drawDeaths_42 : decode cX1_drawDeaths 42 = .ok (.bipush 100, 2) := by decide +kernel
theorem dX1_drawDeaths_44 : decode cX1_drawDeaths 44 = .ok (.iload_n 1, 1) := by decide +kernel
theorem dX1_drawDeaths_45 : decode cX1_drawDeaths 45 = .ok (.bipush 100, 2) := by decide +kernel
theorem dX1_drawDeaths_47 : decode cX1_drawDeaths 47 = .ok (.iload 5, 2) := by decide +kernel
theorem dX1_drawDeaths_49 : decode cX1_drawDeaths 49 = .ok (.imul, 1) := by decide +kernel
theorem dX1_drawDeaths_50 : decode cX1_drawDeaths 50 = .ok (.iload 4, 2) := by decide +kernel
theorem dX1_drawDeaths_52 : decode cX1_drawDeaths 52 = .ok (.iadd, 1) := by decide +kernel
theorem dX1_drawDeaths_53 : decode cX1_drawDeaths 53 = .ok (.invokestatic 44, 3) := by decide +kernel
theorem dX1_drawDeaths_56 : decode cX1_drawDeaths 56 = .ok (.iload_n 2, 1) := by decide +kernel
theorem dX1_drawDeaths_57 : decode cX1_drawDeaths 57 = .ok (.if_icmp .ge 12, 3) := by decide +kernel
theorem dX1_drawDeaths_60 : decode cX1_drawDeaths 60 = .ok (.aload_n 0, 1) := by decide +kernel
theorem dX1_drawDeaths_61 : decode cX1_drawDeaths 61 = .ok (.getfield 25, 3) := by decide +kernel
theorem dX1_drawDeaths_64 : decode cX1_drawDeaths 64 = .ok (.iload 4, 2) := by decide +kernel
theorem dX1_drawDeaths_66 : decode cX1_drawDeaths 66 = .ok (.iload 5, 2) := by decide +kernel
theorem dX1_drawDeaths_68 : decode cX1_drawDeaths 68 = .ok (.iastore, 1) := by decide +kernel
theorem dX1_drawDeaths_69 : decode cX1_drawDeaths 69 = .ok (.iinc 5 1, 3) := by decide +kernel
theorem dX1_drawDeaths_72 : decode cX1_drawDeaths 72 = .ok (.goto (-49), 3) := by decide +kernel
theorem dX1_drawDeaths_75 : decode cX1_drawDeaths 75 = .ok (.iinc 4 1, 3) := by decide +kernel
theorem dX1_drawDeaths_78 : decode cX1_drawDeaths 78 = .ok (.goto (-71), 3) := by decide +kernel
theorem dX1_drawDeaths_81 : decode cX1_drawDeaths 81 = .ok (.return_, 1) := by decide +kernel
theorem dX1_aliveAt_0 : decode cX1_aliveAt 0 = .ok (.iconst 0, 1) := by decide +kernel
theorem dX1_aliveAt_1 : decode cX1_aliveAt 1 = .ok (.istore_n 3, 1) := by decide +kernel
theorem dX1_aliveAt_2 : decode cX1_aliveAt 2 = .ok (.iconst 0, 1) := by decide +kernel
theorem dX1_aliveAt_3 : decode cX1_aliveAt 3 = .ok (.istore 4, 2) := by decide +kernel
theorem dX1_aliveAt_5 : decode cX1_aliveAt 5 = .ok (.iload 4, 2) := by decide +kernel
theorem dX1_aliveAt_7 : decode cX1_aliveAt 7 = .ok (.aload_n 2, 1) := by decide +kernel
theorem dX1_aliveAt_8 : decode cX1_aliveAt 8 = .ok (.getfield 48, 3) := by decide +kernel
theorem dX1_aliveAt_11 : decode cX1_aliveAt 11 = .ok (.iconst 1, 1) := by decide +kernel
theorem dX1_aliveAt_12 : decode cX1_aliveAt 12 = .ok (.iaload, 1) := by decide +kernel
theorem dX1_aliveAt_13 : decode cX1_aliveAt 13 = .ok (.if_icmp .ge 27, 3) := by decide +kernel
theorem dX1_aliveAt_16 : decode cX1_aliveAt 16 = .ok (.aload_n 0, 1) := by decide +kernel
theorem dX1_aliveAt_17 : decode cX1_aliveAt 17 = .ok (.getfield 25, 3) := by decide +kernel
theorem dX1_aliveAt_20 : decode cX1_aliveAt 20 = .ok (.iload 4, 2) := by decide +kernel
theorem dX1_aliveAt_22 : decode cX1_aliveAt 22 = .ok (.iaload, 1) := by decide +kernel
theorem dX1_aliveAt_23 : decode cX1_aliveAt 23 = .ok (.iload_n 1, 1) := by decide +kernel
theorem dX1_aliveAt_24 : decode cX1_aliveAt 24 = .ok (.if_icmp .le 10, 3) := by decide +kernel
theorem dX1_aliveAt_27 : decode cX1_aliveAt 27 = .ok (.iload_n 3, 1) := by decide +kernel
theorem dX1_aliveAt_28 : decode cX1_aliveAt 28 = .ok (.iconst 1, 1) := by decide +kernel
theorem dX1_aliveAt_29 : decode cX1_aliveAt 29 = .ok (.iload 4, 2) := by decide +kernel
theorem dX1_aliveAt_31 : decode cX1_aliveAt 31 = .ok (.ishl, 1) := by decide +kernel
theorem dX1_aliveAt_32 : decode cX1_aliveAt 32 = .ok (.ior, 1) := by decide +kernel
theorem dX1_aliveAt_33 : decode cX1_aliveAt 33 = .ok (.istore_n 3, 1) := by decide +kernel
theorem dX1_aliveAt_34 : decode cX1_aliveAt 34 = .ok (.iinc 4 1, 3) := by decide +kernel
theorem dX1_aliveAt_37 : decode cX1_aliveAt 37 = .ok (.goto (-32), 3) := by decide +kernel
theorem dX1_aliveAt_40 : decode cX1_aliveAt 40 = .ok (.iload_n 3, 1) := by decide +kernel
theorem dX1_aliveAt_41 : decode cX1_aliveAt 41 = .ok (.ireturn, 1) := by decide +kernel
theorem dX1_go_0 : decode cX1_go 0 = .ok (.aload_n 0, 1) := by decide +kernel
theorem dX1_go_1 : decode cX1_go 1 = .ok (.getfield 12, 3) := by decide +kernel
theorem dX1_go_4 : decode cX1_go 4 = .ok (.aload_n 1, 1) := by decide +kernel
theorem dX1_go_5 : decode cX1_go 5 = .ok (.invokevirtual 53, 3) := by decide +kernel
theorem dX1_go_8 : decode cX1_go 8 = .ok (.aload_n 0, 1) := by decide +kernel
theorem dX1_go_9 : decode cX1_go 9 = .ok (.getfield 18, 3) := by decide +kernel
theorem dX1_go_12 : decode cX1_go 12 = .ok (.bipush 99, 2) := by decide +kernel
theorem dX1_go_14 : decode cX1_go 14 = .ok (.invokestatic 35, 3) := by decide +kernel
theorem dX1_go_17 : decode cX1_go 17 = .ok (.aload_n 0, 1) := by decide +kernel
theorem dX1_go_18 : decode cX1_go 18 = .ok (.iconst 0, 1) := by decide +kernel
theorem dX1_go_19 : decode cX1_go 19 = .ok (.putfield 28, 3) := by decide +kernel
theorem dX1_go_22 : decode cX1_go 22 = .ok (.aload_n 0, 1) := by decide +kernel
theorem dX1_go_23 : decode cX1_go 23 = .ok (.iconst 0, 1) := by decide +kernel
theorem dX1_go_24 : decode cX1_go 24 = .ok (.putfield 32, 3) := by decide +kernel
theorem dX1_go_27 : decode cX1_go 27 = .ok (.iconst 0, 1) := by decide +kernel
theorem dX1_go_28 : decode cX1_go 28 = .ok (.istore_n 3, 1) := by decide +kernel
theorem dX1_go_29 : decode cX1_go 29 = .ok (.iload_n 3, 1) := by decide +kernel
theorem dX1_go_30 : decode cX1_go 30 = .ok (.bipush 24, 2) := by decide +kernel
theorem dX1_go_32 : decode cX1_go 32 = .ok (.if_icmp .ge 106, 3) := by decide +kernel
theorem dX1_go_35 : decode cX1_go 35 = .ok (.aload_n 0, 1) := by decide +kernel
theorem dX1_go_36 : decode cX1_go 36 = .ok (.iload_n 3, 1) := by decide +kernel
theorem dX1_go_37 : decode cX1_go 37 = .ok (.aload_n 1, 1) := by decide +kernel
theorem dX1_go_38 : decode cX1_go 38 = .ok (.invokevirtual 57, 3) := by decide +kernel
theorem dX1_go_41 : decode cX1_go 41 = .ok (.istore 4, 2) := by decide +kernel
theorem dX1_go_43 : decode cX1_go 43 = .ok (.iconst 0, 1) := by decide +kernel
theorem dX1_go_44 : decode cX1_go 44 = .ok (.istore 5, 2) := by decide +kernel
theorem dX1_go_46 : decode cX1_go 46 = .ok (.iload 5, 2) := by decide +kernel
theorem dX1_go_48 : decode cX1_go 48 = .ok (.aload_n 2, 1) := by decide +kernel
theorem dX1_go_49 : decode cX1_go 49 = .ok (.getfield 61, 3) := by decide +kernel
theorem dX1_go_52 : decode cX1_go 52 = .ok (.if_icmp .ge 80, 3) := by decide +kernel
theorem dX1_go_55 : decode cX1_go 55 = .ok (.aload_n 2, 1) := by decide +kernel
theorem dX1_go_56 : decode cX1_go 56 = .ok (.iload 5, 2) := by decide +kernel
theorem dX1_go_58 : decode cX1_go 58 = .ok (.invokevirtual 66, 3) := by decide +kernel
theorem dX1_go_61 : decode cX1_go 61 = .ok (.iload_n 3, 1) := by decide +kernel
theorem dX1_go_62 : decode cX1_go 62 = .ok (.if_icmp .ne 43, 3) := by decide +kernel
theorem dX1_go_65 : decode cX1_go 65 = .ok (.aload_n 0, 1) := by decide +kernel
theorem dX1_go_66 : decode cX1_go 66 = .ok (.getfield 22, 3) := by decide +kernel
theorem dX1_go_69 : decode cX1_go 69 = .ok (.iload 5, 2) := by decide +kernel
theorem dX1_go_71 : decode cX1_go 71 = .ok (.aload_n 0, 1) := by decide +kernel
theorem dX1_go_72 : decode cX1_go 72 = .ok (.aload_n 1, 1) := by decide +kernel
theorem dX1_go_73 : decode cX1_go 73 = .ok (.aload_n 2, 1) := by decide +kernel
theorem dX1_go_74 : decode cX1_go 74 = .ok (.iload 5, 2) := by decide +kernel
theorem dX1_go_76 : decode cX1_go 76 = .ok (.iload 4, 2) := by decide +kernel
theorem dX1_go_78 : decode cX1_go 78 = .ok (.invokevirtual 70, 3) := by decide +kernel
theorem dX1_go_81 : decode cX1_go 81 = .ok (.iastore, 1) := by decide +kernel
theorem dX1_go_82 : decode cX1_go 82 = .ok (.aload_n 0, 1) := by decide +kernel
theorem dX1_go_83 : decode cX1_go 83 = .ok (.getfield 22, 3) := by decide +kernel
theorem dX1_go_86 : decode cX1_go 86 = .ok (.iload 5, 2) := by decide +kernel
theorem dX1_go_88 : decode cX1_go 88 = .ok (.iaload, 1) := by decide +kernel
theorem dX1_go_89 : decode cX1_go 89 = .ok (.ifCond .ne 37, 3) := by decide +kernel
theorem dX1_go_92 : decode cX1_go 92 = .ok (.aload_n 0, 1) := by decide +kernel
theorem dX1_go_93 : decode cX1_go 93 = .ok (.aload_n 1, 1) := by decide +kernel
theorem dX1_go_94 : decode cX1_go 94 = .ok (.aload_n 2, 1) := by decide +kernel
theorem dX1_go_95 : decode cX1_go 95 = .ok (.iload 5, 2) := by decide +kernel
theorem dX1_go_97 : decode cX1_go 97 = .ok (.iload 4, 2) := by decide +kernel
theorem dX1_go_99 : decode cX1_go 99 = .ok (.invokevirtual 74, 3) := by decide +kernel
theorem dX1_go_102 : decode cX1_go 102 = .ok (.goto 24, 3) := by decide +kernel
theorem dX1_go_105 : decode cX1_go 105 = .ok (.aload_n 2, 1) := by decide +kernel
theorem dX1_go_106 : decode cX1_go 106 = .ok (.iload 5, 2) := by decide +kernel
theorem dX1_go_108 : decode cX1_go 108 = .ok (.invokevirtual 66, 3) := by decide +kernel
theorem dX1_go_111 : decode cX1_go 111 = .ok (.iload_n 3, 1) := by decide +kernel
theorem dX1_go_112 : decode cX1_go 112 = .ok (.if_icmp .ge 14, 3) := by decide +kernel
theorem dX1_go_115 : decode cX1_go 115 = .ok (.aload_n 0, 1) := by decide +kernel
theorem dX1_go_116 : decode cX1_go 116 = .ok (.aload_n 1, 1) := by decide +kernel
theorem dX1_go_117 : decode cX1_go 117 = .ok (.aload_n 2, 1) := by decide +kernel
theorem dX1_go_118 : decode cX1_go 118 = .ok (.iload 5, 2) := by decide +kernel
theorem dX1_go_120 : decode cX1_go 120 = .ok (.iload_n 3, 1) := by decide +kernel
theorem dX1_go_121 : decode cX1_go 121 = .ok (.iload 4, 2) := by decide +kernel
theorem dX1_go_123 : decode cX1_go 123 = .ok (.invokevirtual 78, 3) := by decide +kernel
theorem dX1_go_126 : decode cX1_go 126 = .ok (.iinc 5 1, 3) := by decide +kernel
theorem dX1_go_129 : decode cX1_go 129 = .ok (.goto (-83), 3) := by decide +kernel
theorem dX1_go_132 : decode cX1_go 132 = .ok (.iinc 3 1, 3) := by decide +kernel
theorem dX1_go_135 : decode cX1_go 135 = .ok (.goto (-106), 3) := by decide +kernel
theorem dX1_go_138 : decode cX1_go 138 = .ok (.return_, 1) := by decide +kernel
theorem dX1_whyNot_0 : decode cX1_whyNot 0 = .ok (.aload_n 2, 1) := by decide +kernel
theorem dX1_whyNot_1 : decode cX1_whyNot 1 = .ok (.iload_n 3, 1) := by decide +kernel
theorem dX1_whyNot_2 : decode cX1_whyNot 2 = .ok (.invokevirtual 82, 3) := by decide +kernel
theorem dX1_whyNot_5 : decode cX1_whyNot 5 = .ok (.istore 5, 2) := by decide +kernel
theorem dX1_whyNot_7 : decode cX1_whyNot 7 = .ok (.aload_n 2, 1) := by decide +kernel
theorem dX1_whyNot_8 : decode cX1_whyNot 8 = .ok (.iload_n 3, 1) := by decide +kernel
theorem dX1_whyNot_9 : decode cX1_whyNot 9 = .ok (.invokevirtual 66, 3) := by decide +kernel
theorem dX1_whyNot_12 : decode cX1_whyNot 12 = .ok (.istore 6, 2) := by decide +kernel
theorem dX1_whyNot_14 : decode cX1_whyNot 14 = .ok (.aload_n 2, 1) := by decide +kernel
theorem dX1_whyNot_15 : decode cX1_whyNot 15 = .ok (.iload_n 3, 1) := by decide +kernel
theorem dX1_whyNot_16 : decode cX1_whyNot 16 = .ok (.invokevirtual 85, 3) := by decide +kernel
theorem dX1_whyNot_19 : decode cX1_whyNot 19 = .ok (.istore 7, 2) := by decide +kernel
theorem dX1_whyNot_21 : decode cX1_whyNot 21 = .ok (.iload 4, 2) := by decide +kernel
theorem dX1_whyNot_23 : decode cX1_whyNot 23 = .ok (.iload 5, 2) := by decide +kernel
theorem dX1_whyNot_25 : decode cX1_whyNot 25 = .ok (.invokestatic 88, 3) := by decide +kernel
theorem dX1_whyNot_28 : decode cX1_whyNot 28 = .ok (.ifCond .ne 5, 3) := by decide +kernel
theorem dX1_whyNot_31 : decode cX1_whyNot 31 = .ok (.iconst 5, 1) := by decide +kernel
theorem dX1_whyNot_32 : decode cX1_whyNot 32 = .ok (.ireturn, 1) := by decide +kernel
theorem dX1_whyNot_33 : decode cX1_whyNot 33 = .ok (.aload_n 2, 1) := by decide +kernel
theorem dX1_whyNot_34 : decode cX1_whyNot 34 = .ok (.iload_n 3, 1) := by decide +kernel
theorem dX1_whyNot_35 : decode cX1_whyNot 35 = .ok (.invokevirtual 92, 3) := by decide +kernel
theorem dX1_whyNot_38 : decode cX1_whyNot 38 = .ok (.ifCond .eq 5, 3) := by decide +kernel
theorem dX1_whyNot_41 : decode cX1_whyNot 41 = .ok (.iconst 1, 1) := by decide +kernel
theorem dX1_whyNot_42 : decode cX1_whyNot 42 = .ok (.ireturn, 1) := by decide +kernel
theorem dX1_whyNot_43 : decode cX1_whyNot 43 = .ok (.iload 7, 2) := by decide +kernel
theorem dX1_whyNot_45 : decode cX1_whyNot 45 = .ok (.ifCond .eq 9, 3) := by decide +kernel
theorem dX1_whyNot_48 : decode cX1_whyNot 48 = .ok (.iload 7, 2) := by decide +kernel
theorem dX1_whyNot_50 : decode cX1_whyNot 50 = .ok (.iconst 3, 1) := by decide +kernel
theorem dX1_whyNot_51 : decode cX1_whyNot 51 = .ok (.if_icmp .ne 7, 3) := by decide +kernel
theorem dX1_whyNot_54 : decode cX1_whyNot 54 = .ok (.iconst 1, 1) := by decide +kernel
theorem dX1_whyNot_55 : decode cX1_whyNot 55 = .ok (.goto 4, 3) := by decide +kernel
theorem dX1_whyNot_58 : decode cX1_whyNot 58 = .ok (.iconst 0, 1) := by decide +kernel
theorem dX1_whyNot_59 : decode cX1_whyNot 59 = .ok (.istore 8, 2) := by decide +kernel
theorem dX1_whyNot_61 : decode cX1_whyNot 61 = .ok (.aload_n 1, 1) := by decide +kernel
theorem dX1_whyNot_62 : decode cX1_whyNot 62 = .ok (.aload_n 1, 1) := by decide +kernel
theorem dX1_whyNot_63 : decode cX1_whyNot 63 = .ok (.iload 5, 2) := by decide +kernel
theorem dX1_whyNot_65 : decode cX1_whyNot 65 = .ok (.iload 6, 2) := by decide +kernel
theorem dX1_whyNot_67 : decode cX1_whyNot 67 = .ok (.invokevirtual 96, 3) := by decide +kernel
theorem dX1_whyNot_70 : decode cX1_whyNot 70 = .ok (.iload 6, 2) := by decide +kernel
theorem dX1_whyNot_72 : decode cX1_whyNot 72 = .ok (.invokevirtual 100, 3) := by decide +kernel
theorem dX1_whyNot_75 : decode cX1_whyNot 75 = .ok (.iload 4, 2) := by decide +kernel
theorem dX1_whyNot_77 : decode cX1_whyNot 77 = .ok (.iand, 1) := by decide +kernel
theorem dX1_whyNot_78 : decode cX1_whyNot 78 = .ok (.istore 9, 2) := by decide +kernel
theorem dX1_whyNot_80 : decode cX1_whyNot 80 = .ok (.iload 9, 2) := by decide +kernel
theorem dX1_whyNot_82 : decode cX1_whyNot 82 = .ok (.ifCond .eq 21, 3) := by decide +kernel
theorem dX1_whyNot_85 : decode cX1_whyNot 85 = .ok (.iload 8, 2) := by decide +kernel
theorem dX1_whyNot_87 : decode cX1_whyNot 87 = .ok (.ifCond .eq 18, 3) := by decide +kernel
theorem dX1_whyNot_90 : decode cX1_whyNot 90 = .ok (.iload 9, 2) := by decide +kernel
theorem dX1_whyNot_92 : decode cX1_whyNot 92 = .ok (.aload_n 2, 1) := by decide +kernel
theorem dX1_whyNot_93 : decode cX1_whyNot 93 = .ok (.iload_n 3, 1) := by decide +kernel
theorem dX1_whyNot_94 : decode cX1_whyNot 94 = .ok (.invokevirtual 103, 3) := by decide +kernel
theorem dX1_whyNot_97 : decode cX1_whyNot 97 = .ok (.invokestatic 88, 3) := by decide +kernel
theorem dX1_whyNot_100 : decode cX1_whyNot 100 = .ok (.ifCond .ne 5, 3) := by decide +kernel
theorem dX1_whyNot_103 : decode cX1_whyNot 103 = .ok (.iconst 2, 1) := by decide +kernel
theorem dX1_whyNot_104 : decode cX1_whyNot 104 = .ok (.ireturn, 1) := by decide +kernel
theorem dX1_whyNot_105 : decode cX1_whyNot 105 = .ok (.iload 7, 2) := by decide +kernel
theorem dX1_whyNot_107 : decode cX1_whyNot 107 = .ok (.iconst 3, 1) := by decide +kernel
theorem dX1_whyNot_108 : decode cX1_whyNot 108 = .ok (.if_icmp .eq 24, 3) := by decide +kernel
theorem dX1_whyNot_111 : decode cX1_whyNot 111 = .ok (.aload_n 0, 1) := by decide +kernel
theorem dX1_whyNot_112 : decode cX1_whyNot 112 = .ok (.getfield 12, 3) := by decide +kernel
theorem dX1_whyNot_115 : decode cX1_whyNot 115 = .ok (.iload 5, 2) := by decide +kernel
theorem dX1_whyNot_117 : decode cX1_whyNot 117 = .ok (.aload_n 2, 1) := by decide +kernel
theorem dX1_whyNot_118 : decode cX1_whyNot 118 = .ok (.iload_n 3, 1) := by decide +kernel
theorem dX1_whyNot_119 : decode cX1_whyNot 119 = .ok (.invokevirtual 106, 3) := by decide +kernel
theorem dX1_whyNot_122 : decode cX1_whyNot 122 = .ok (.iload 6, 2) := by decide +kernel
theorem dX1_whyNot_124 : decode cX1_whyNot 124 = .ok (.invokevirtual 109, 3) := by decide +kernel
theorem dX1_whyNot_127 : decode cX1_whyNot 127 = .ok (.ifCond .ne 5, 3) := by decide +kernel
theorem dX1_whyNot_130 : decode cX1_whyNot 130 = .ok (.iconst 3, 1) := by decide +kernel
theorem dX1_whyNot_131 : decode cX1_whyNot 131 = .ok (.ireturn, 1) := by decide +kernel
theorem dX1_whyNot_132 : decode cX1_whyNot 132 = .ok (.iload 8, 2) := by decide +kernel
theorem dX1_whyNot_134 : decode cX1_whyNot 134 = .ok (.ifCond .eq 34, 3) := by decide +kernel
theorem dX1_whyNot_137 : decode cX1_whyNot 137 = .ok (.aload_n 1, 1) := by decide +kernel
theorem dX1_whyNot_138 : decode cX1_whyNot 138 = .ok (.iload 5, 2) := by decide +kernel
theorem dX1_whyNot_140 : decode cX1_whyNot 140 = .ok (.aload_n 2, 1) := by decide +kernel
theorem dX1_whyNot_141 : decode cX1_whyNot 141 = .ok (.iload_n 3, 1) := by decide +kernel
theorem dX1_whyNot_142 : decode cX1_whyNot 142 = .ok (.invokevirtual 103, 3) := by decide +kernel
theorem dX1_whyNot_145 : decode cX1_whyNot 145 = .ok (.iload 6, 2) := by decide +kernel
theorem dX1_whyNot_147 : decode cX1_whyNot 147 = .ok (.iload 7, 2) := by decide +kernel
theorem dX1_whyNot_149 : decode cX1_whyNot 149 = .ok (.iconst 3, 1) := by decide +kernel
theorem dX1_whyNot_150 : decode cX1_whyNot 150 = .ok (.if_icmp .ne 7, 3) := by decide +kernel
theorem dX1_whyNot_153 : decode cX1_whyNot 153 = .ok (.iconst 1, 1) := by decide +kernel
theorem dX1_whyNot_154 : decode cX1_whyNot 154 = .ok (.goto 4, 3) := by decide +kernel
theorem dX1_whyNot_157 : decode cX1_whyNot 157 = .ok (.iconst 0, 1) := by decide +kernel
theorem dX1_whyNot_158 : decode cX1_whyNot 158 = .ok (.iload 4, 2) := by decide +kernel
theorem dX1_whyNot_160 : decode cX1_whyNot 160 = .ok (.invokevirtual 113, 3) := by decide +kernel
theorem dX1_whyNot_163 : decode cX1_whyNot 163 = .ok (.ifCond .ne 5, 3) := by decide +kernel
theorem dX1_whyNot_166 : decode cX1_whyNot 166 = .ok (.iconst 4, 1) := by decide +kernel
theorem dX1_whyNot_167 : decode cX1_whyNot 167 = .ok (.ireturn, 1) := by decide +kernel
theorem dX1_whyNot_168 : decode cX1_whyNot 168 = .ok (.iconst 0, 1) := by decide +kernel
theorem dX1_whyNot_169 : decode cX1_whyNot 169 = .ok (.ireturn, 1) := by decide +kernel
theorem dX1_carryOut_0 : decode cX1_carryOut 0 = .ok (.aload_n 2, 1) := by decide +kernel
theorem dX1_carryOut_1 : decode cX1_carryOut 1 = .ok (.iload_n 3, 1) := by decide +kernel
theorem dX1_carryOut_2 : decode cX1_carryOut 2 = .ok (.invokevirtual 82, 3) := by decide +kernel
theorem dX1_carryOut_5 : decode cX1_carryOut 5 = .ok (.istore 5, 2) := by decide +kernel
theorem dX1_carryOut_7 : decode cX1_carryOut 7 = .ok (.aload_n 2, 1) := by decide +kernel
theorem dX1_carryOut_8 : decode cX1_carryOut 8 = .ok (.iload_n 3, 1) := by decide +kernel
theorem dX1_carryOut_9 : decode cX1_carryOut 9 = .ok (.invokevirtual 103, 3) := by decide +kernel
theorem dX1_carryOut_12 : decode cX1_carryOut 12 = .ok (.istore 6, 2) := by decide +kernel
theorem dX1_carryOut_14 : decode cX1_carryOut 14 = .ok (.aload_n 2, 1) := by decide +kernel
theorem dX1_carryOut_15 : decode cX1_carryOut 15 = .ok (.iload_n 3, 1) := by decide +kernel
theorem dX1_carryOut_16 : decode cX1_carryOut 16 = .ok (.invokevirtual 106, 3) := by decide +kernel
theorem dX1_carryOut_19 : decode cX1_carryOut 19 = .ok (.istore 7, 2) := by decide +kernel
theorem dX1_carryOut_21 : decode cX1_carryOut 21 = .ok (.aload_n 2, 1) := by decide +kernel
theorem dX1_carryOut_22 : decode cX1_carryOut 22 = .ok (.iload_n 3, 1) := by decide +kernel
theorem dX1_carryOut_23 : decode cX1_carryOut 23 = .ok (.invokevirtual 66, 3) := by decide +kernel
theorem dX1_carryOut_26 : decode cX1_carryOut 26 = .ok (.istore 8, 2) := by decide +kernel
theorem dX1_carryOut_28 : decode cX1_carryOut 28 = .ok (.aload_n 1, 1) := by decide +kernel
theorem dX1_carryOut_29 : decode cX1_carryOut 29 = .ok (.aload_n 1, 1) := by decide +kernel
theorem dX1_carryOut_30 : decode cX1_carryOut 30 = .ok (.iload 5, 2) := by decide +kernel
theorem dX1_carryOut_32 : decode cX1_carryOut 32 = .ok (.iload 8, 2) := by decide +kernel
theorem dX1_carryOut_34 : decode cX1_carryOut 34 = .ok (.invokevirtual 96, 3) := by decide +kernel
theorem dX1_carryOut_37 : decode cX1_carryOut 37 = .ok (.iload 8, 2) := by decide +kernel
theorem dX1_carryOut_39 : decode cX1_carryOut 39 = .ok (.invokevirtual 117, 3) := by decide +kernel
theorem dX1_carryOut_42 : decode cX1_carryOut 42 = .ok (.iload 4, 2) := by decide +kernel
theorem dX1_carryOut_44 : decode cX1_carryOut 44 = .ok (.iand, 1) := by decide +kernel
theorem dX1_carryOut_45 : decode cX1_carryOut 45 = .ok (.istore 9, 2) := by decide +kernel
theorem dX1_carryOut_47 : decode cX1_carryOut 47 = .ok (.aload_n 0, 1) := by decide +kernel
theorem dX1_carryOut_48 : decode cX1_carryOut 48 = .ok (.dup, 1) := by decide +kernel
theorem dX1_carryOut_49 : decode cX1_carryOut 49 = .ok (.getfield 32, 3) := by decide +kernel
theorem dX1_carryOut_52 : decode cX1_carryOut 52 = .ok (.iconst 1, 1) := by decide +kernel
theorem dX1_carryOut_53 : decode cX1_carryOut 53 = .ok (.iadd, 1) := by decide +kernel
theorem dX1_carryOut_54 : decode cX1_carryOut 54 = .ok (.putfield 32, 3) := by decide +kernel
theorem dX1_carryOut_57 : decode cX1_carryOut 57 = .ok (.aload_n 2, 1) := by decide +kernel
theorem dX1_carryOut_58 : decode cX1_carryOut 58 = .ok (.iload_n 3, 1) := by decide +kernel
theorem dX1_carryOut_59 : decode cX1_carryOut 59 = .ok (.invokevirtual 85, 3) := by decide +kernel
theorem dX1_carryOut_62 : decode cX1_carryOut 62 = .ok (.tableswitch 120 0 2 #[26, 54, 107], 26) := by decide +kernel
theorem dX1_carryOut_88 : decode cX1_carryOut 88 = .ok (.aload_n 0, 1) := by decide +kernel
theorem dX1_carryOut_89 : decode cX1_carryOut 89 = .ok (.getfield 12, 3) := by decide +kernel
theorem dX1_carryOut_92 : decode cX1_carryOut 92 = .ok (.iload 9, 2) := by decide +kernel
theorem dX1_carryOut_94 : decode cX1_carryOut 94 = .ok (.iload 7, 2) := by decide +kernel
theorem dX1_carryOut_96 : decode cX1_carryOut 96 = .ok (.iload 8, 2) := by decide +kernel
theorem dX1_carryOut_98 : decode cX1_carryOut 98 = .ok (.iconst 1, 1) := by decide +kernel
theorem dX1_carryOut_99 : decode cX1_carryOut 99 = .ok (.iadd, 1) := by decide +kernel
theorem dX1_carryOut_100 : decode cX1_carryOut 100 = .ok (.invokevirtual 120, 3) := by decide +kernel
theorem dX1_carryOut_103 : decode cX1_carryOut 103 = .ok (.aload_n 0, 1) := by decide +kernel
theorem dX1_carryOut_104 : decode cX1_carryOut 104 = .ok (.dup, 1) := by decide +kernel
theorem dX1_carryOut_105 : decode cX1_carryOut 105 = .ok (.getfield 28, 3) := by decide +kernel
theorem dX1_carryOut_108 : decode cX1_carryOut 108 = .ok (.iconst 1, 1) := by decide +kernel
theorem dX1_carryOut_109 : decode cX1_carryOut 109 = .ok (.iadd, 1) := by decide +kernel
theorem dX1_carryOut_110 : decode cX1_carryOut 110 = .ok (.putfield 28, 3) := by decide +kernel
theorem dX1_carryOut_113 : decode cX1_carryOut 113 = .ok (.goto 156, 3) := by decide +kernel
theorem dX1_carryOut_116 : decode cX1_carryOut 116 = .ok (.aload_n 1, 1) := by decide +kernel
theorem dX1_carryOut_117 : decode cX1_carryOut 117 = .ok (.aload_n 1, 1) := by decide +kernel
theorem dX1_carryOut_118 : decode cX1_carryOut 118 = .ok (.iload 5, 2) := by decide +kernel
theorem dX1_carryOut_120 : decode cX1_carryOut 120 = .ok (.iload 8, 2) := by decide +kernel
theorem dX1_carryOut_122 : decode cX1_carryOut 122 = .ok (.invokevirtual 96, 3) := by decide +kernel
theorem dX1_carryOut_125 : decode cX1_carryOut 125 = .ok (.iload 8, 2) := by decide +kernel
theorem dX1_carryOut_127 : decode cX1_carryOut 127 = .ok (.invokevirtual 100, 3) := by decide +kernel
theorem dX1_carryOut_130 : decode cX1_carryOut 130 = .ok (.iload 4, 2) := by decide +kernel
theorem dX1_carryOut_132 : decode cX1_carryOut 132 = .ok (.iand, 1) := by decide +kernel
theorem dX1_carryOut_133 : decode cX1_carryOut 133 = .ok (.istore 10, 2) := by decide +kernel
theorem dX1_carryOut_135 : decode cX1_carryOut 135 = .ok (.aload_n 0, 1) := by decide +kernel
theorem dX1_carryOut_136 : decode cX1_carryOut 136 = .ok (.getfield 12, 3) := by decide +kernel
theorem dX1_carryOut_139 : decode cX1_carryOut 139 = .ok (.iload 10, 2) := by decide +kernel
theorem dX1_carryOut_141 : decode cX1_carryOut 141 = .ok (.iload 7, 2) := by decide +kernel
theorem dX1_carryOut_143 : decode cX1_carryOut 143 = .ok (.iload 8, 2) := by decide +kernel
theorem dX1_carryOut_145 : decode cX1_carryOut 145 = .ok (.iconst 1, 1) := by decide +kernel
theorem dX1_carryOut_146 : decode cX1_carryOut 146 = .ok (.iadd, 1) := by decide +kernel
theorem dX1_carryOut_147 : decode cX1_carryOut 147 = .ok (.invokevirtual 120, 3) := by decide +kernel
theorem dX1_carryOut_150 : decode cX1_carryOut 150 = .ok (.aload_n 0, 1) := by decide +kernel
theorem dX1_carryOut_151 : decode cX1_carryOut 151 = .ok (.dup, 1) := by decide +kernel
theorem dX1_carryOut_152 : decode cX1_carryOut 152 = .ok (.getfield 28, 3) := by decide +kernel
theorem dX1_carryOut_155 : decode cX1_carryOut 155 = .ok (.aload_n 1, 1) := by decide +kernel
theorem dX1_carryOut_156 : decode cX1_carryOut 156 = .ok (.getfield 124, 3) := by decide +kernel
theorem dX1_carryOut_159 : decode cX1_carryOut 159 = .ok (.iload 6, 2) := by decide +kernel
theorem dX1_carryOut_161 : decode cX1_carryOut 161 = .ok (.iaload, 1) := by decide +kernel
theorem dX1_carryOut_162 : decode cX1_carryOut 162 = .ok (.iadd, 1) := by decide +kernel
theorem dX1_carryOut_163 : decode cX1_carryOut 163 = .ok (.putfield 28, 3) := by decide +kernel
theorem dX1_carryOut_166 : decode cX1_carryOut 166 = .ok (.goto 103, 3) := by decide +kernel
theorem dX1_carryOut_169 : decode cX1_carryOut 169 = .ok (.aload_n 0, 1) := by decide +kernel
theorem dX1_carryOut_170 : decode cX1_carryOut 170 = .ok (.dup, 1) := by decide +kernel
theorem dX1_carryOut_171 : decode cX1_carryOut 171 = .ok (.getfield 28, 3) := by decide +kernel
theorem dX1_carryOut_174 : decode cX1_carryOut 174 = .ok (.iconst 5, 1) := by decide +kernel
theorem dX1_carryOut_175 : decode cX1_carryOut 175 = .ok (.iadd, 1) := by decide +kernel
theorem dX1_carryOut_176 : decode cX1_carryOut 176 = .ok (.putfield 28, 3) := by decide +kernel
theorem dX1_carryOut_179 : decode cX1_carryOut 179 = .ok (.goto 90, 3) := by decide +kernel
theorem dX1_carryOut_182 : decode cX1_carryOut 182 = .ok (.aload_n 0, 1) := by decide +kernel
theorem dX1_carryOut_183 : decode cX1_carryOut 183 = .ok (.getfield 12, 3) := by decide +kernel
theorem dX1_carryOut_186 : decode cX1_carryOut 186 = .ok (.iload 6, 2) := by decide +kernel
theorem dX1_carryOut_188 : decode cX1_carryOut 188 = .ok (.iload 7, 2) := by decide +kernel
theorem dX1_carryOut_190 : decode cX1_carryOut 190 = .ok (.iload 8, 2) := by decide +kernel
theorem dX1_carryOut_192 : decode cX1_carryOut 192 = .ok (.invokevirtual 109, 3) := by decide +kernel
theorem dX1_carryOut_195 : decode cX1_carryOut 195 = .ok (.ifCond .eq 34, 3) := by decide +kernel
theorem dX1_carryOut_198 : decode cX1_carryOut 198 = .ok (.aload_n 1, 1) := by decide +kernel
theorem dX1_carryOut_199 : decode cX1_carryOut 199 = .ok (.iload 6, 2) := by decide +kernel
theorem dX1_carryOut_201 : decode cX1_carryOut 201 = .ok (.iload 5, 2) := by decide +kernel
theorem dX1_carryOut_203 : decode cX1_carryOut 203 = .ok (.iload 8, 2) := by decide +kernel
theorem dX1_carryOut_205 : decode cX1_carryOut 205 = .ok (.iconst 0, 1) := by decide +kernel
theorem dX1_carryOut_206 : decode cX1_carryOut 206 = .ok (.iload 4, 2) := by decide +kernel
theorem dX1_carryOut_208 : decode cX1_carryOut 208 = .ok (.invokevirtual 113, 3) := by decide +kernel
theorem dX1_carryOut_211 : decode cX1_carryOut 211 = .ok (.ifCond .eq 18, 3) := by decide +kernel
theorem dX1_carryOut_214 : decode cX1_carryOut 214 = .ok (.aload_n 0, 1) := by decide +kernel
theorem dX1_carryOut_215 : decode cX1_carryOut 215 = .ok (.getfield 12, 3) := by decide +kernel
theorem dX1_carryOut_218 : decode cX1_carryOut 218 = .ok (.iload 9, 2) := by decide +kernel
theorem dX1_carryOut_220 : decode cX1_carryOut 220 = .ok (.iload 7, 2) := by decide +kernel
theorem dX1_carryOut_222 : decode cX1_carryOut 222 = .ok (.iload 8, 2) := by decide +kernel
theorem dX1_carryOut_224 : decode cX1_carryOut 224 = .ok (.iconst 1, 1) := by decide +kernel
theorem dX1_carryOut_225 : decode cX1_carryOut 225 = .ok (.iadd, 1) := by decide +kernel
theorem dX1_carryOut_226 : decode cX1_carryOut 226 = .ok (.invokevirtual 120, 3) := by decide +kernel
theorem dX1_carryOut_229 : decode cX1_carryOut 229 = .ok (.aload_n 0, 1) := by decide +kernel
theorem dX1_carryOut_230 : decode cX1_carryOut 230 = .ok (.getfield 12, 3) := by decide +kernel
theorem dX1_carryOut_233 : decode cX1_carryOut 233 = .ok (.iload 5, 2) := by decide +kernel
theorem dX1_carryOut_235 : decode cX1_carryOut 235 = .ok (.iload 7, 2) := by decide +kernel
theorem dX1_carryOut_237 : decode cX1_carryOut 237 = .ok (.iload 8, 2) := by decide +kernel
theorem dX1_carryOut_239 : decode cX1_carryOut 239 = .ok (.invokevirtual 109, 3) := by decide +kernel
theorem dX1_carryOut_242 : decode cX1_carryOut 242 = .ok (.ifCond .ne 17, 3) := by decide +kernel
theorem dX1_carryOut_245 : decode cX1_carryOut 245 = .ok (.aload_n 0, 1) := by decide +kernel
theorem dX1_carryOut_246 : decode cX1_carryOut 246 = .ok (.iload 9, 2) := by decide +kernel
theorem dX1_carryOut_248 : decode cX1_carryOut 248 = .ok (.iload 5, 2) := by decide +kernel
theorem dX1_carryOut_250 : decode cX1_carryOut 250 = .ok (.iload 7, 2) := by decide +kernel
theorem dX1_carryOut_252 : decode cX1_carryOut 252 = .ok (.iload 8, 2) := by decide +kernel
theorem dX1_carryOut_254 : decode cX1_carryOut 254 = .ok (.iconst 1, 1) := by decide +kernel
theorem dX1_carryOut_255 : decode cX1_carryOut 255 = .ok (.iadd, 1) := by decide +kernel
theorem dX1_carryOut_256 : decode cX1_carryOut 256 = .ok (.invokevirtual 127, 3) := by decide +kernel
theorem dX1_carryOut_259 : decode cX1_carryOut 259 = .ok (.aload_n 0, 1) := by decide +kernel
theorem dX1_carryOut_260 : decode cX1_carryOut 260 = .ok (.dup, 1) := by decide +kernel
theorem dX1_carryOut_261 : decode cX1_carryOut 261 = .ok (.getfield 28, 3) := by decide +kernel
theorem dX1_carryOut_264 : decode cX1_carryOut 264 = .ok (.iconst 1, 1) := by decide +kernel
theorem dX1_carryOut_265 : decode cX1_carryOut 265 = .ok (.iadd, 1) := by decide +kernel
theorem dX1_carryOut_266 : decode cX1_carryOut 266 = .ok (.putfield 28, 3) := by decide +kernel
theorem dX1_carryOut_269 : decode cX1_carryOut 269 = .ok (.return_, 1) := by decide +kernel
theorem dX1_readWriting_0 : decode cX1_readWriting 0 = .ok (.aload_n 2, 1) := by decide +kernel
theorem dX1_readWriting_1 : decode cX1_readWriting 1 = .ok (.iload_n 3, 1) := by decide +kernel
theorem dX1_readWriting_2 : decode cX1_readWriting 2 = .ok (.invokevirtual 85, 3) := by decide +kernel
theorem dX1_readWriting_5 : decode cX1_readWriting 5 = .ok (.iconst 2, 1) := by decide +kernel
theorem dX1_readWriting_6 : decode cX1_readWriting 6 = .ok (.if_icmp .ne 55, 3) := by decide +kernel
theorem dX1_readWriting_9 : decode cX1_readWriting 9 = .ok (.aload_n 0, 1) := by decide +kernel
theorem dX1_readWriting_10 : decode cX1_readWriting 10 = .ok (.getfield 22, 3) := by decide +kernel
theorem dX1_readWriting_13 : decode cX1_readWriting 13 = .ok (.iload_n 3, 1) := by decide +kernel
theorem dX1_readWriting_14 : decode cX1_readWriting 14 = .ok (.iaload, 1) := by decide +kernel
theorem dX1_readWriting_15 : decode cX1_readWriting 15 = .ok (.ifCond .ne 46, 3) := by decide +kernel
theorem dX1_readWriting_18 : decode cX1_readWriting 18 = .ok (.aload_n 1, 1) := by decide +kernel
theorem dX1_readWriting_19 : decode cX1_readWriting 19 = .ok (.aload_n 2, 1) := by decide +kernel
theorem dX1_readWriting_20 : decode cX1_readWriting 20 = .ok (.iload_n 3, 1) := by decide +kernel
theorem dX1_readWriting_21 : decode cX1_readWriting 21 = .ok (.invokevirtual 82, 3) := by decide +kernel
theorem dX1_readWriting_24 : decode cX1_readWriting 24 = .ok (.aload_n 2, 1) := by decide +kernel
theorem dX1_readWriting_25 : decode cX1_readWriting 25 = .ok (.iload_n 3, 1) := by decide +kernel
theorem dX1_readWriting_26 : decode cX1_readWriting 26 = .ok (.invokevirtual 66, 3) := by decide +kernel
theorem dX1_readWriting_29 : decode cX1_readWriting 29 = .ok (.invokevirtual 96, 3) := by decide +kernel
theorem dX1_readWriting_32 : decode cX1_readWriting 32 = .ok (.istore 6, 2) := by decide +kernel
theorem dX1_readWriting_34 : decode cX1_readWriting 34 = .ok (.aload_n 0, 1) := by decide +kernel
theorem dX1_readWriting_35 : decode cX1_readWriting 35 = .ok (.getfield 12, 3) := by decide +kernel
theorem dX1_readWriting_38 : decode cX1_readWriting 38 = .ok (.aload_n 1, 1) := by decide +kernel
theorem dX1_readWriting_39 : decode cX1_readWriting 39 = .ok (.iload 6, 2) := by decide +kernel
theorem dX1_readWriting_41 : decode cX1_readWriting 41 = .ok (.iload 4, 2) := by decide +kernel
theorem dX1_readWriting_43 : decode cX1_readWriting 43 = .ok (.invokevirtual 100, 3) := by decide +kernel
theorem dX1_readWriting_46 : decode cX1_readWriting 46 = .ok (.iload 5, 2) := by decide +kernel
theorem dX1_readWriting_48 : decode cX1_readWriting 48 = .ok (.iand, 1) := by decide +kernel
theorem dX1_readWriting_49 : decode cX1_readWriting 49 = .ok (.aload_n 2, 1) := by decide +kernel
theorem dX1_readWriting_50 : decode cX1_readWriting 50 = .ok (.iload_n 3, 1) := by decide +kernel
theorem dX1_readWriting_51 : decode cX1_readWriting 51 = .ok (.invokevirtual 106, 3) := by decide +kernel
theorem dX1_readWriting_54 : decode cX1_readWriting 54 = .ok (.iload 4, 2) := by decide +kernel
theorem dX1_readWriting_56 : decode cX1_readWriting 56 = .ok (.iconst 1, 1) := by decide +kernel
theorem dX1_readWriting_57 : decode cX1_readWriting 57 = .ok (.iadd, 1) := by decide +kernel
theorem dX1_readWriting_58 : decode cX1_readWriting 58 = .ok (.invokevirtual 120, 3) := by decide +kernel
theorem dX1_readWriting_61 : decode cX1_readWriting 61 = .ok (.return_, 1) := by decide +kernel
theorem dX1_see_0 : decode cX1_see 0 = .ok (.iconst 0, 1) := by decide +kernel
theorem dX1_see_1 : decode cX1_see 1 = .ok (.istore 5, 2) := by decide +kernel
theorem dX1_see_3 : decode cX1_see 3 = .ok (.iload 5, 2) := by decide +kernel
theorem dX1_see_5 : decode cX1_see 5 = .ok (.bipush 10, 2) := by decide +kernel
theorem dX1_see_7 : decode cX1_see 7 = .ok (.if_icmp .ge 59, 3) := by decide +kernel
theorem dX1_see_10 : decode cX1_see 10 = .ok (.iload 5, 2) := by decide +kernel
theorem dX1_see_12 : decode cX1_see 12 = .ok (.bipush 10, 2) := by decide +kernel
theorem dX1_see_14 : decode cX1_see 14 = .ok (.imul, 1) := by decide +kernel
theorem dX1_see_15 : decode cX1_see 15 = .ok (.iload_n 2, 1) := by decide +kernel
theorem dX1_see_16 : decode cX1_see 16 = .ok (.iadd, 1) := by decide +kernel
theorem dX1_see_17 : decode cX1_see 17 = .ok (.bipush 6, 2) := by decide +kernel
theorem dX1_see_19 : decode cX1_see 19 = .ok (.imul, 1) := by decide +kernel
theorem dX1_see_20 : decode cX1_see 20 = .ok (.iload_n 3, 1) := by decide +kernel
theorem dX1_see_21 : decode cX1_see 21 = .ok (.iadd, 1) := by decide +kernel
theorem dX1_see_22 : decode cX1_see 22 = .ok (.istore 6, 2) := by decide +kernel
theorem dX1_see_24 : decode cX1_see 24 = .ok (.iload 5, 2) := by decide +kernel
theorem dX1_see_26 : decode cX1_see 26 = .ok (.iload_n 2, 1) := by decide +kernel
theorem dX1_see_27 : decode cX1_see 27 = .ok (.if_icmp .eq 33, 3) := by decide +kernel
theorem dX1_see_30 : decode cX1_see 30 = .ok (.iload_n 1, 1) := by decide +kernel
theorem dX1_see_31 : decode cX1_see 31 = .ok (.iload 5, 2) := by decide +kernel
theorem dX1_see_33 : decode cX1_see 33 = .ok (.invokestatic 88, 3) := by decide +kernel
theorem dX1_see_36 : decode cX1_see 36 = .ok (.ifCond .eq 24, 3) := by decide +kernel
theorem dX1_see_39 : decode cX1_see 39 = .ok (.aload_n 0, 1) := by decide +kernel
theorem dX1_see_40 : decode cX1_see 40 = .ok (.getfield 18, 3) := by decide +kernel
theorem dX1_see_43 : decode cX1_see 43 = .ok (.iload 6, 2) := by decide +kernel
theorem dX1_see_45 : decode cX1_see 45 = .ok (.iaload, 1) := by decide +kernel
theorem dX1_see_46 : decode cX1_see 46 = .ok (.iload 4, 2) := by decide +kernel
theorem dX1_see_48 : decode cX1_see 48 = .ok (.if_icmp .le 12, 3) := by decide +kernel
theorem dX1_see_51 : decode cX1_see 51 = .ok (.aload_n 0, 1) := by decide +kernel
theorem dX1_see_52 : decode cX1_see 52 = .ok (.getfield 18, 3) := by decide +kernel
theorem dX1_see_55 : decode cX1_see 55 = .ok (.iload 6, 2) := by decide +kernel
theorem dX1_see_57 : decode cX1_see 57 = .ok (.iload 4, 2) := by decide +kernel
theorem dX1_see_59 : decode cX1_see 59 = .ok (.iastore, 1) := by decide +kernel
theorem dX1_see_60 : decode cX1_see 60 = .ok (.iinc 5 1, 3) := by decide +kernel
theorem dX1_see_63 : decode cX1_see 63 = .ok (.goto (-60), 3) := by decide +kernel
theorem dX1_see_66 : decode cX1_see 66 = .ok (.return_, 1) := by decide +kernel
theorem dX1_seenThings_0 : decode cX1_seenThings 0 = .ok (.iconst 0, 1) := by decide +kernel
theorem dX1_seenThings_1 : decode cX1_seenThings 1 = .ok (.istore 4, 2) := by decide +kernel
theorem dX1_seenThings_3 : decode cX1_seenThings 3 = .ok (.iconst 0, 1) := by decide +kernel
theorem dX1_seenThings_4 : decode cX1_seenThings 4 = .ok (.istore 5, 2) := by decide +kernel
theorem dX1_seenThings_6 : decode cX1_seenThings 6 = .ok (.iload 5, 2) := by decide +kernel
theorem dX1_seenThings_8 : decode cX1_seenThings 8 = .ok (.bipush 6, 2) := by decide +kernel
theorem dX1_seenThings_10 : decode cX1_seenThings 10 = .ok (.if_icmp .ge 39, 3) := by decide +kernel
theorem dX1_seenThings_13 : decode cX1_seenThings 13 = .ok (.aload_n 0, 1) := by decide +kernel
theorem dX1_seenThings_14 : decode cX1_seenThings 14 = .ok (.getfield 18, 3) := by decide +kernel
theorem dX1_seenThings_17 : decode cX1_seenThings 17 = .ok (.iload_n 1, 1) := by decide +kernel
theorem dX1_seenThings_18 : decode cX1_seenThings 18 = .ok (.bipush 10, 2) := by decide +kernel
theorem dX1_seenThings_20 : decode cX1_seenThings 20 = .ok (.imul, 1) := by decide +kernel
theorem dX1_seenThings_21 : decode cX1_seenThings 21 = .ok (.iload_n 2, 1) := by decide +kernel
theorem dX1_seenThings_22 : decode cX1_seenThings 22 = .ok (.iadd, 1) := by decide +kernel
theorem dX1_seenThings_23 : decode cX1_seenThings 23 = .ok (.bipush 6, 2) := by decide +kernel
theorem dX1_seenThings_25 : decode cX1_seenThings 25 = .ok (.imul, 1) := by decide +kernel
theorem dX1_seenThings_26 : decode cX1_seenThings 26 = .ok (.iload 5, 2) := by decide +kernel
theorem dX1_seenThings_28 : decode cX1_seenThings 28 = .ok (.iadd, 1) := by decide +kernel
theorem dX1_seenThings_29 : decode cX1_seenThings 29 = .ok (.iaload, 1) := by decide +kernel
theorem dX1_seenThings_30 : decode cX1_seenThings 30 = .ok (.iload_n 3, 1) := by decide +kernel
theorem dX1_seenThings_31 : decode cX1_seenThings 31 = .ok (.if_icmp .gt 12, 3) := by decide +kernel
theorem dX1_seenThings_34 : decode cX1_seenThings 34 = .ok (.iload 4, 2) := by decide +kernel
theorem dX1_seenThings_36 : decode cX1_seenThings 36 = .ok (.iconst 1, 1) := by decide +kernel
theorem dX1_seenThings_37 : decode cX1_seenThings 37 = .ok (.iload 5, 2) := by decide +kernel
theorem dX1_seenThings_39 : decode cX1_seenThings 39 = .ok (.ishl, 1) := by decide +kernel
theorem dX1_seenThings_40 : decode cX1_seenThings 40 = .ok (.ior, 1) := by decide +kernel
theorem dX1_seenThings_41 : decode cX1_seenThings 41 = .ok (.istore 4, 2) := by decide +kernel
theorem dX1_seenThings_43 : decode cX1_seenThings 43 = .ok (.iinc 5 1, 3) := by decide +kernel
theorem dX1_seenThings_46 : decode cX1_seenThings 46 = .ok (.goto (-40), 3) := by decide +kernel
theorem dX1_seenThings_49 : decode cX1_seenThings 49 = .ok (.iload 4, 2) := by decide +kernel
theorem dX1_seenThings_51 : decode cX1_seenThings 51 = .ok (.ireturn, 1) := by decide +kernel
theorem dX1_firstNotDone_0 : decode cX1_firstNotDone 0 = .ok (.bipush (-2), 2) := by decide +kernel
theorem dX1_firstNotDone_2 : decode cX1_firstNotDone 2 = .ok (.istore_n 2, 1) := by decide +kernel
theorem dX1_firstNotDone_3 : decode cX1_firstNotDone 3 = .ok (.iconst 0, 1) := by decide +kernel
theorem dX1_firstNotDone_4 : decode cX1_firstNotDone 4 = .ok (.istore_n 3, 1) := by decide +kernel
theorem dX1_firstNotDone_5 : decode cX1_firstNotDone 5 = .ok (.iload_n 3, 1) := by decide +kernel
theorem dX1_firstNotDone_6 : decode cX1_firstNotDone 6 = .ok (.aload_n 1, 1) := by decide +kernel
theorem dX1_firstNotDone_7 : decode cX1_firstNotDone 7 = .ok (.getfield 61, 3) := by decide +kernel
theorem dX1_firstNotDone_10 : decode cX1_firstNotDone 10 = .ok (.if_icmp .ge 51, 3) := by decide +kernel
theorem dX1_firstNotDone_13 : decode cX1_firstNotDone 13 = .ok (.iload_n 2, 1) := by decide +kernel
theorem dX1_firstNotDone_14 : decode cX1_firstNotDone 14 = .ok (.bipush (-2), 2) := by decide +kernel
theorem dX1_firstNotDone_16 : decode cX1_firstNotDone 16 = .ok (.if_icmp .eq 16, 3) := by decide +kernel
theorem dX1_firstNotDone_19 : decode cX1_firstNotDone 19 = .ok (.aload_n 1, 1) := by decide +kernel
theorem dX1_firstNotDone_20 : decode cX1_firstNotDone 20 = .ok (.iload_n 3, 1) := by decide +kernel
theorem dX1_firstNotDone_21 : decode cX1_firstNotDone 21 = .ok (.invokevirtual 66, 3) := by decide +kernel
theorem dX1_firstNotDone_24 : decode cX1_firstNotDone 24 = .ok (.aload_n 1, 1) := by decide +kernel
theorem dX1_firstNotDone_25 : decode cX1_firstNotDone 25 = .ok (.iload_n 2, 1) := by decide +kernel
theorem dX1_firstNotDone_26 : decode cX1_firstNotDone 26 = .ok (.invokevirtual 66, 3) := by decide +kernel
theorem dX1_firstNotDone_29 : decode cX1_firstNotDone 29 = .ok (.if_icmp .ge 7, 3) := by decide +kernel
theorem dX1_firstNotDone_32 : decode cX1_firstNotDone 32 = .ok (.iconst 1, 1) := by decide +kernel
theorem dX1_firstNotDone_33 : decode cX1_firstNotDone 33 = .ok (.goto 4, 3) := by decide +kernel
theorem dX1_firstNotDone_36 : decode cX1_firstNotDone 36 = .ok (.iconst 0, 1) := by decide +kernel
theorem dX1_firstNotDone_37 : decode cX1_firstNotDone 37 = .ok (.istore 4, 2) := by decide +kernel
theorem dX1_firstNotDone_39 : decode cX1_firstNotDone 39 = .ok (.aload_n 0, 1) := by decide +kernel
theorem dX1_firstNotDone_40 : decode cX1_firstNotDone 40 = .ok (.getfield 22, 3) := by decide +kernel
theorem dX1_firstNotDone_43 : decode cX1_firstNotDone 43 = .ok (.iload_n 3, 1) := by decide +kernel
theorem dX1_firstNotDone_44 : decode cX1_firstNotDone 44 = .ok (.iaload, 1) := by decide +kernel
theorem dX1_firstNotDone_45 : decode cX1_firstNotDone 45 = .ok (.ifCond .eq 10, 3) := by decide +kernel
theorem dX1_firstNotDone_48 : decode cX1_firstNotDone 48 = .ok (.iload 4, 2) := by decide +kernel
theorem dX1_firstNotDone_50 : decode cX1_firstNotDone 50 = .ok (.ifCond .eq 5, 3) := by decide +kernel
theorem dX1_firstNotDone_53 : decode cX1_firstNotDone 53 = .ok (.iload_n 3, 1) := by decide +kernel
theorem dX1_firstNotDone_54 : decode cX1_firstNotDone 54 = .ok (.istore_n 2, 1) := by decide +kernel
theorem dX1_firstNotDone_55 : decode cX1_firstNotDone 55 = .ok (.iinc 3 1, 3) := by decide +kernel
theorem dX1_firstNotDone_58 : decode cX1_firstNotDone 58 = .ok (.goto (-53), 3) := by decide +kernel
theorem dX1_firstNotDone_61 : decode cX1_firstNotDone 61 = .ok (.iload_n 2, 1) := by decide +kernel
theorem dX1_firstNotDone_62 : decode cX1_firstNotDone 62 = .ok (.ireturn, 1) := by decide +kernel
theorem dX1_goneThings_0 : decode cX1_goneThings 0 = .ok (.aload_n 0, 1) := by decide +kernel
theorem dX1_goneThings_1 : decode cX1_goneThings 1 = .ok (.bipush 23, 2) := by decide +kernel
theorem dX1_goneThings_3 : decode cX1_goneThings 3 = .ok (.aload_n 1, 1) := by decide +kernel
theorem dX1_goneThings_4 : decode cX1_goneThings 4 = .ok (.invokevirtual 57, 3) := by decide +kernel
theorem dX1_goneThings_7 : decode cX1_goneThings 7 = .ok (.istore_n 2, 1) := by decide +kernel
theorem dX1_goneThings_8 : decode cX1_goneThings 8 = .ok (.iconst 0, 1) := by decide +kernel
theorem dX1_goneThings_9 : decode cX1_goneThings 9 = .ok (.istore_n 3, 1) := by decide +kernel
theorem dX1_goneThings_10 : decode cX1_goneThings 10 = .ok (.iconst 0, 1) := by decide +kernel
theorem dX1_goneThings_11 : decode cX1_goneThings 11 = .ok (.istore 4, 2) := by decide +kernel
theorem dX1_goneThings_13 : decode cX1_goneThings 13 = .ok (.iconst 0, 1) := by decide +kernel
theorem dX1_goneThings_14 : decode cX1_goneThings 14 = .ok (.istore 5, 2) := by decide +kernel
theorem dX1_goneThings_16 : decode cX1_goneThings 16 = .ok (.iload 5, 2) := by decide +kernel
theorem dX1_goneThings_18 : decode cX1_goneThings 18 = .ok (.aload_n 1, 1) := by decide +kernel
theorem dX1_goneThings_19 : decode cX1_goneThings 19 = .ok (.getfield 48, 3) := by decide +kernel
theorem dX1_goneThings_22 : decode cX1_goneThings 22 = .ok (.iconst 1, 1) := by decide +kernel
theorem dX1_goneThings_23 : decode cX1_goneThings 23 = .ok (.iaload, 1) := by decide +kernel
theorem dX1_goneThings_24 : decode cX1_goneThings 24 = .ok (.if_icmp .ge 47, 3) := by decide +kernel
theorem dX1_goneThings_27 : decode cX1_goneThings 27 = .ok (.aload_n 0, 1) := by decide +kernel
theorem dX1_goneThings_28 : decode cX1_goneThings 28 = .ok (.getfield 12, 3) := by decide +kernel
theorem dX1_goneThings_31 : decode cX1_goneThings 31 = .ok (.iload 5, 2) := by decide +kernel
theorem dX1_goneThings_33 : decode cX1_goneThings 33 = .ok (.bipush 24, 2) := by decide +kernel
theorem dX1_goneThings_35 : decode cX1_goneThings 35 = .ok (.invokevirtual 131, 3) := by decide +kernel
theorem dX1_goneThings_38 : decode cX1_goneThings 38 = .ok (.istore 6, 2) := by decide +kernel
theorem dX1_goneThings_40 : decode cX1_goneThings 40 = .ok (.iload_n 3, 1) := by decide +kernel
theorem dX1_goneThings_41 : decode cX1_goneThings 41 = .ok (.iload 6, 2) := by decide +kernel
theorem dX1_goneThings_43 : decode cX1_goneThings 43 = .ok (.ior, 1) := by decide +kernel
theorem dX1_goneThings_44 : decode cX1_goneThings 44 = .ok (.istore_n 3, 1) := by decide +kernel
theorem dX1_goneThings_45 : decode cX1_goneThings 45 = .ok (.iload 4, 2) := by decide +kernel
theorem dX1_goneThings_47 : decode cX1_goneThings 47 = .ok (.iload_n 2, 1) := by decide +kernel
theorem dX1_goneThings_48 : decode cX1_goneThings 48 = .ok (.iload 5, 2) := by decide +kernel
theorem dX1_goneThings_50 : decode cX1_goneThings 50 = .ok (.invokestatic 88, 3) := by decide +kernel
theorem dX1_goneThings_53 : decode cX1_goneThings 53 = .ok (.ifCond .eq 8, 3) := by decide +kernel
theorem dX1_goneThings_56 : decode cX1_goneThings 56 = .ok (.iload 6, 2) := by decide +kernel
theorem dX1_goneThings_58 : decode cX1_goneThings 58 = .ok (.goto 4, 3) := by decide +kernel
theorem dX1_goneThings_61 : decode cX1_goneThings 61 = .ok (.iconst 0, 1) := by decide +kernel
theorem dX1_goneThings_62 : decode cX1_goneThings 62 = .ok (.ior, 1) := by decide +kernel
theorem dX1_goneThings_63 : decode cX1_goneThings 63 = .ok (.istore 4, 2) := by decide +kernel
theorem dX1_goneThings_65 : decode cX1_goneThings 65 = .ok (.iinc 5 1, 3) := by decide +kernel
theorem dX1_goneThings_68 : decode cX1_goneThings 68 = .ok (.goto (-52), 3) := by decide +kernel
theorem dX1_goneThings_71 : decode cX1_goneThings 71 = .ok (.iload_n 3, 1) := by decide +kernel
theorem dX1_goneThings_72 : decode cX1_goneThings 72 = .ok (.iload 4, 2) := by decide +kernel
theorem dX1_goneThings_74 : decode cX1_goneThings 74 = .ok (.iconst (-1), 1) := by decide +kernel
theorem dX1_goneThings_75 : decode cX1_goneThings 75 = .ok (.ixor, 1) := by decide +kernel
theorem dX1_goneThings_76 : decode cX1_goneThings 76 = .ok (.iand, 1) := by decide +kernel
theorem dX1_goneThings_77 : decode cX1_goneThings 77 = .ok (.ireturn, 1) := by decide +kernel
theorem dX2_init_0 : decode cX2_init 0 = .ok (.aload_n 0, 1) := by decide +kernel
theorem dX2_init_1 : decode cX2_init 1 = .ok (.invokespecial 3, 3) := by decide +kernel
theorem dX2_init_4 : decode cX2_init 4 = .ok (.aload_n 0, 1) := by decide +kernel
theorem dX2_init_5 : decode cX2_init 5 = .ok (.bipush 11, 2) := by decide +kernel
theorem dX2_init_7 : decode cX2_init 7 = .ok (.newarray .int, 2) := by decide +kernel
theorem dX2_init_9 : decode cX2_init 9 = .ok (.putfield 9, 3) := by decide +kernel
theorem dX2_init_12 : decode cX2_init 12 = .ok (.aload_n 0, 1) := by decide +kernel
theorem dX2_init_13 : decode cX2_init 13 = .ok (.sipush 400, 3) := by decide +kernel
theorem dX2_init_16 : decode cX2_init 16 = .ok (.newarray .int, 2) := by decide +kernel
theorem dX2_init_18 : decode cX2_init 18 = .ok (.putfield 15, 3) := by decide +kernel
theorem dX2_init_21 : decode cX2_init 21 = .ok (.aload_n 0, 1) := by decide +kernel
theorem dX2_init_22 : decode cX2_init 22 = .ok (.iconst 0, 1) := by decide +kernel
theorem dX2_init_23 : decode cX2_init 23 = .ok (.putfield 18, 3) := by decide +kernel
theorem dX2_init_26 : decode cX2_init 26 = .ok (.aload_n 0, 1) := by decide +kernel
theorem dX2_init_27 : decode cX2_init 27 = .ok (.iconst 0, 1) := by decide +kernel
theorem dX2_init_28 : decode cX2_init 28 = .ok (.putfield 22, 3) := by decide +kernel
theorem dX2_init_31 : decode cX2_init 31 = .ok (.aload_n 0, 1) := by decide +kernel
theorem dX2_init_32 : decode cX2_init 32 = .ok (.iconst 0, 1) := by decide +kernel
theorem dX2_init_33 : decode cX2_init 33 = .ok (.putfield 25, 3) := by decide +kernel
theorem dX2_init_36 : decode cX2_init 36 = .ok (.aload_n 0, 1) := by decide +kernel
theorem dX2_init_37 : decode cX2_init 37 = .ok (.iconst 0, 1) := by decide +kernel
theorem dX2_init_38 : decode cX2_init 38 = .ok (.putfield 28, 3) := by decide +kernel
theorem dX2_init_41 : decode cX2_init 41 = .ok (.aload_n 0, 1) := by decide +kernel
theorem dX2_init_42 : decode cX2_init 42 = .ok (.iconst 0, 1) := by decide +kernel
theorem dX2_init_43 : decode cX2_init 43 = .ok (.putfield 31, 3) := by decide +kernel
theorem dX2_init_46 : decode cX2_init 46 = .ok (.aload_n 0, 1) := by decide +kernel
theorem dX2_init_47 : decode cX2_init 47 = .ok (.iconst 0, 1) := by decide +kernel
theorem dX2_init_48 : decode cX2_init 48 = .ok (.putfield 35, 3) := by decide +kernel
theorem dX2_init_51 : decode cX2_init 51 = .ok (.aload_n 0, 1) := by decide +kernel
theorem dX2_init_52 : decode cX2_init 52 = .ok (.iconst 0, 1) := by decide +kernel
theorem dX2_init_53 : decode cX2_init 53 = .ok (.putfield 38, 3) := by decide +kernel
theorem dX2_init_56 : decode cX2_init 56 = .ok (.aload_n 0, 1) := by decide +kernel
theorem dX2_init_57 : decode cX2_init 57 = .ok (.aload_n 1, 1) := by decide +kernel
theorem dX2_init_58 : decode cX2_init 58 = .ok (.putfield 41, 3) := by decide +kernel
theorem dX2_init_61 : decode cX2_init 61 = .ok (.return_, 1) := by decide +kernel
theorem dX2_check_0 : decode cX2_check 0 = .ok (.aload_n 0, 1) := by decide +kernel
theorem dX2_check_1 : decode cX2_check 1 = .ok (.getfield 9, 3) := by decide +kernel
theorem dX2_check_4 : decode cX2_check 4 = .ok (.iconst 0, 1) := by decide +kernel
theorem dX2_check_5 : decode cX2_check 5 = .ok (.invokestatic 45, 3) := by decide +kernel
theorem dX2_check_8 : decode cX2_check 8 = .ok (.aload_n 0, 1) := by decide +kernel
theorem dX2_check_9 : decode cX2_check 9 = .ok (.iconst 0, 1) := by decide +kernel
theorem dX2_check_10 : decode cX2_check 10 = .ok (.putfield 22, 3) := by decide +kernel
theorem dX2_check_13 : decode cX2_check 13 = .ok (.aload_n 0, 1) := by decide +kernel
theorem dX2_check_14 : decode cX2_check 14 = .ok (.iconst 0, 1) := by decide +kernel
theorem dX2_check_15 : decode cX2_check 15 = .ok (.putfield 25, 3) := by decide +kernel
theorem dX2_check_18 : decode cX2_check 18 = .ok (.iconst 0, 1) := by decide +kernel
theorem dX2_check_19 : decode cX2_check 19 = .ok (.istore_n 2, 1) := by decide +kernel
theorem dX2_check_20 : decode cX2_check 20 = .ok (.iload_n 2, 1) := by decide +kernel
theorem dX2_check_21 : decode cX2_check 21 = .ok (.sipush 400, 3) := by decide +kernel
theorem dX2_check_24 : decode cX2_check 24 = .ok (.if_icmp .gt 37, 3) := by decide +kernel
theorem dX2_check_27 : decode cX2_check 27 = .ok (.aload_n 0, 1) := by decide +kernel
theorem dX2_check_28 : decode cX2_check 28 = .ok (.getfield 25, 3) := by decide +kernel
theorem dX2_check_31 : decode cX2_check 31 = .ok (.ifCond .ne 30, 3) := by decide +kernel
theorem dX2_check_34 : decode cX2_check 34 = .ok (.aload_n 0, 1) := by decide +kernel
theorem dX2_check_35 : decode cX2_check 35 = .ok (.getfield 41, 3) := by decide +kernel
theorem dX2_check_38 : decode cX2_check 38 = .ok (.aload_n 0, 1) := by decide +kernel
theorem dX2_check_39 : decode cX2_check 39 = .ok (.getfield 22, 3) := by decide +kernel
theorem dX2_check_42 : decode cX2_check 42 = .ok (.invokevirtual 51, 3) := by decide +kernel
theorem dX2_check_45 : decode cX2_check 45 = .ok (.bipush 35, 2) := by decide +kernel
theorem dX2_check_47 : decode cX2_check 47 = .ok (.if_icmp .eq 14, 3) := by decide +kernel
theorem dX2_check_50 : decode cX2_check 50 = .ok (.aload_n 0, 1) := by decide +kernel
theorem dX2_check_51 : decode cX2_check 51 = .ok (.aload_n 1, 1) := by decide +kernel
theorem dX2_check_52 : decode cX2_check 52 = .ok (.invokevirtual 57, 3) := by decide +kernel
theorem dX2_check_55 : decode cX2_check 55 = .ok (.iinc 2 1, 3) := by decide +kernel
theorem dX2_check_58 : decode cX2_check 58 = .ok (.goto (-38), 3) := by decide +kernel
theorem dX2_check_61 : decode cX2_check 61 = .ok (.aload_n 0, 1) := by decide +kernel
theorem dX2_check_62 : decode cX2_check 62 = .ok (.getfield 25, 3) := by decide +kernel
theorem dX2_check_65 : decode cX2_check 65 = .ok (.ireturn, 1) := by decide +kernel
theorem dX2_checkTell_0 : decode cX2_checkTell 0 = .ok (.aload_n 0, 1) := by decide +kernel
theorem dX2_checkTell_1 : decode cX2_checkTell 1 = .ok (.getfield 41, 3) := by decide +kernel
theorem dX2_checkTell_4 : decode cX2_checkTell 4 = .ok (.aload_n 0, 1) := by decide +kernel
theorem dX2_checkTell_5 : decode cX2_checkTell 5 = .ok (.getfield 22, 3) := by decide +kernel
theorem dX2_checkTell_8 : decode cX2_checkTell 8 = .ok (.invokevirtual 51, 3) := by decide +kernel
theorem dX2_checkTell_11 : decode cX2_checkTell 11 = .ok (.istore_n 2, 1) := by decide +kernel
theorem dX2_checkTell_12 : decode cX2_checkTell 12 = .ok (.iload_n 2, 1) := by decide +kernel
theorem dX2_checkTell_13 : decode cX2_checkTell 13 = .ok (.bipush 11, 2) := by decide +kernel
theorem dX2_checkTell_15 : decode cX2_checkTell 15 = .ok (.if_icmp .lt 9, 3) := by decide +kernel
theorem dX2_checkTell_18 : decode cX2_checkTell 18 = .ok (.aload_n 0, 1) := by decide +kernel
theorem dX2_checkTell_19 : decode cX2_checkTell 19 = .ok (.iconst 1, 1) := by decide +kernel
theorem dX2_checkTell_20 : decode cX2_checkTell 20 = .ok (.putfield 25, 3) := by decide +kernel
theorem dX2_checkTell_23 : decode cX2_checkTell 23 = .ok (.return_, 1) := by decide +kernel
theorem dX2_checkTell_24 : decode cX2_checkTell 24 = .ok (.aload_n 0, 1) := by decide +kernel
theorem dX2_checkTell_25 : decode cX2_checkTell 25 = .ok (.getfield 9, 3) := by decide +kernel
theorem dX2_checkTell_28 : decode cX2_checkTell 28 = .ok (.iload_n 2, 1) := by decide +kernel
theorem dX2_checkTell_29 : decode cX2_checkTell 29 = .ok (.dup2, 1) := by decide +kernel
theorem dX2_checkTell_30 : decode cX2_checkTell 30 = .ok (.iaload, 1) := by decide +kernel
theorem dX2_checkTell_31 : decode cX2_checkTell 31 = .ok (.iconst 1, 1) := by decide +kernel
theorem dX2_checkTell_32 : decode cX2_checkTell 32 = .ok (.iadd, 1) := by decide +kernel
theorem dX2_checkTell_33 : decode cX2_checkTell 33 = .ok (.iastore, 1) := by decide +kernel
theorem dX2_checkTell_34 : decode cX2_checkTell 34 = .ok (.aload_n 0, 1) := by decide +kernel
theorem dX2_checkTell_35 : decode cX2_checkTell 35 = .ok (.getfield 9, 3) := by decide +kernel
theorem dX2_checkTell_38 : decode cX2_checkTell 38 = .ok (.iload_n 2, 1) := by decide +kernel
theorem dX2_checkTell_39 : decode cX2_checkTell 39 = .ok (.iaload, 1) := by decide +kernel
theorem dX2_checkTell_40 : decode cX2_checkTell 40 = .ok (.getstatic 61, 3) := by decide +kernel
theorem dX2_checkTell_43 : decode cX2_checkTell 43 = .ok (.iload_n 2, 1) := by decide +kernel
theorem dX2_checkTell_44 : decode cX2_checkTell 44 = .ok (.iaload, 1) := by decide +kernel
theorem dX2_checkTell_45 : decode cX2_checkTell 45 = .ok (.if_icmp .le 9, 3) := by decide +kernel
theorem dX2_checkTell_48 : decode cX2_checkTell 48 = .ok (.aload_n 0, 1) := by decide +kernel
theorem dX2_checkTell_49 : decode cX2_checkTell 49 = .ok (.iconst 2, 1) := by decide +kernel
theorem dX2_checkTell_50 : decode cX2_checkTell 50 = .ok (.putfield 25, 3) := by decide +kernel
theorem dX2_checkTell_53 : decode cX2_checkTell 53 = .ok (.return_, 1) := by decide +kernel
theorem dX2_checkTell_54 : decode cX2_checkTell 54 = .ok (.aload_n 0, 1) := by decide +kernel
theorem dX2_checkTell_55 : decode cX2_checkTell 55 = .ok (.iload_n 2, 1) := by decide +kernel
theorem dX2_checkTell_56 : decode cX2_checkTell 56 = .ok (.invokevirtual 64, 3) := by decide +kernel
theorem dX2_checkTell_59 : decode cX2_checkTell 59 = .ok (.iconst 0, 1) := by decide +kernel
theorem dX2_checkTell_60 : decode cX2_checkTell 60 = .ok (.istore_n 3, 1) := by decide +kernel
theorem dX2_checkTell_61 : decode cX2_checkTell 61 = .ok (.iload_n 3, 1) := by decide +kernel
theorem dX2_checkTell_62 : decode cX2_checkTell 62 = .ok (.getstatic 68, 3) := by decide +kernel
theorem dX2_checkTell_65 : decode cX2_checkTell 65 = .ok (.iload_n 2, 1) := by decide +kernel
theorem dX2_checkTell_66 : decode cX2_checkTell 66 = .ok (.iaload, 1) := by decide +kernel
theorem dX2_checkTell_67 : decode cX2_checkTell 67 = .ok (.if_icmp .ge 15, 3) := by decide +kernel
theorem dX2_checkTell_70 : decode cX2_checkTell 70 = .ok (.aload_n 0, 1) := by decide +kernel
theorem dX2_checkTell_71 : decode cX2_checkTell 71 = .ok (.bipush 20, 2) := by decide +kernel
theorem dX2_checkTell_73 : decode cX2_checkTell 73 = .ok (.invokevirtual 64, 3) := by decide +kernel
theorem dX2_checkTell_76 : decode cX2_checkTell 76 = .ok (.iinc 3 1, 3) := by decide +kernel
theorem dX2_checkTell_79 : decode cX2_checkTell 79 = .ok (.goto (-18), 3) := by decide +kernel
theorem dX2_checkTell_82 : decode cX2_checkTell 82 = .ok (.iconst 0, 1) := by decide +kernel
theorem dX2_checkTell_83 : decode cX2_checkTell 83 = .ok (.istore_n 3, 1) := by decide +kernel
theorem dX2_checkTell_84 : decode cX2_checkTell 84 = .ok (.iload_n 3, 1) := by decide +kernel
theorem dX2_checkTell_85 : decode cX2_checkTell 85 = .ok (.getstatic 71, 3) := by decide +kernel
theorem dX2_checkTell_88 : decode cX2_checkTell 88 = .ok (.iload_n 2, 1) := by decide +kernel
theorem dX2_checkTell_89 : decode cX2_checkTell 89 = .ok (.iaload, 1) := by decide +kernel
theorem dX2_checkTell_90 : decode cX2_checkTell 90 = .ok (.if_icmp .ge 15, 3) := by decide +kernel
theorem dX2_checkTell_93 : decode cX2_checkTell 93 = .ok (.aload_n 0, 1) := by decide +kernel
theorem dX2_checkTell_94 : decode cX2_checkTell 94 = .ok (.bipush 21, 2) := by decide +kernel
theorem dX2_checkTell_96 : decode cX2_checkTell 96 = .ok (.invokevirtual 64, 3) := by decide +kernel
theorem dX2_checkTell_99 : decode cX2_checkTell 99 = .ok (.iinc 3 1, 3) := by decide +kernel
theorem dX2_checkTell_102 : decode cX2_checkTell 102 = .ok (.goto (-18), 3) := by decide +kernel
theorem dX2_checkTell_105 : decode cX2_checkTell 105 = .ok (.iload_n 2, 1) := by decide +kernel
theorem dX2_checkTell_106 : decode cX2_checkTell 106 = .ok (.iconst 1, 1) := by decide +kernel
theorem dX2_checkTell_107 : decode cX2_checkTell 107 = .ok (.if_icmp .ne 31, 3) := by decide +kernel
theorem dX2_checkTell_110 : decode cX2_checkTell 110 = .ok (.aload_n 0, 1) := by decide +kernel
theorem dX2_checkTell_111 : decode cX2_checkTell 111 = .ok (.getfield 41, 3) := by decide +kernel
theorem dX2_checkTell_114 : decode cX2_checkTell 114 = .ok (.aload_n 0, 1) := by decide +kernel
theorem dX2_checkTell_115 : decode cX2_checkTell 115 = .ok (.getfield 22, 3) := by decide +kernel
theorem dX2_checkTell_118 : decode cX2_checkTell 118 = .ok (.invokevirtual 51, 3) := by decide +kernel
theorem dX2_checkTell_121 : decode cX2_checkTell 121 = .ok (.bipush 11, 2) := by decide +kernel
theorem dX2_checkTell_123 : decode cX2_checkTell 123 = .ok (.if_icmp .ne 15, 3) := by decide +kernel
theorem dX2_checkTell_126 : decode cX2_checkTell 126 = .ok (.aload_n 0, 1) := by decide +kernel
theorem dX2_checkTell_127 : decode cX2_checkTell 127 = .ok (.bipush 11, 2) := by decide +kernel
theorem dX2_checkTell_129 : decode cX2_checkTell 129 = .ok (.invokevirtual 64, 3) := by decide +kernel
theorem dX2_checkTell_132 : decode cX2_checkTell 132 = .ok (.aload_n 0, 1) := by decide +kernel
theorem dX2_checkTell_133 : decode cX2_checkTell 133 = .ok (.bipush 21, 2) := by decide +kernel
theorem dX2_checkTell_135 : decode cX2_checkTell 135 = .ok (.invokevirtual 64, 3) := by decide +kernel
theorem dX2_checkTell_138 : decode cX2_checkTell 138 = .ok (.iload_n 2, 1) := by decide +kernel
theorem dX2_checkTell_139 : decode cX2_checkTell 139 = .ok (.bipush 8, 2) := by decide +kernel
theorem dX2_checkTell_141 : decode cX2_checkTell 141 = .ok (.if_icmp .ne 7, 3) := by decide +kernel
theorem dX2_checkTell_144 : decode cX2_checkTell 144 = .ok (.aload_n 0, 1) := by decide +kernel
theorem dX2_checkTell_145 : decode cX2_checkTell 145 = .ok (.invokevirtual 74, 3) := by decide +kernel
theorem dX2_checkTell_148 : decode cX2_checkTell 148 = .ok (.iload_n 2, 1) := by decide +kernel
theorem dX2_checkTell_149 : decode cX2_checkTell 149 = .ok (.bipush 9, 2) := by decide +kernel
theorem dX2_checkTell_151 : decode cX2_checkTell 151 = .ok (.if_icmp .eq 9, 3) := by decide +kernel
theorem dX2_checkTell_154 : decode cX2_checkTell 154 = .ok (.iload_n 2, 1) := by decide +kernel
theorem dX2_checkTell_155 : decode cX2_checkTell 155 = .ok (.bipush 10, 2) := by decide +kernel
theorem dX2_checkTell_157 : decode cX2_checkTell 157 = .ok (.if_icmp .ne 33, 3) := by decide +kernel
theorem dX2_checkTell_160 : decode cX2_checkTell 160 = .ok (.aload_n 0, 1) := by decide +kernel
theorem dX2_checkTell_161 : decode cX2_checkTell 161 = .ok (.bipush 12, 2) := by decide +kernel
theorem dX2_checkTell_163 : decode cX2_checkTell 163 = .ok (.invokevirtual 64, 3) := by decide +kernel
theorem dX2_checkTell_166 : decode cX2_checkTell 166 = .ok (.aload_n 1, 1) := by decide +kernel
theorem dX2_checkTell_167 : decode cX2_checkTell 167 = .ok (.iload_n 2, 1) := by decide +kernel
theorem dX2_checkTell_168 : decode cX2_checkTell 168 = .ok (.bipush 10, 2) := by decide +kernel
theorem dX2_checkTell_170 : decode cX2_checkTell 170 = .ok (.if_icmp .ne 7, 3) := by decide +kernel
theorem dX2_checkTell_173 : decode cX2_checkTell 173 = .ok (.iconst 1, 1) := by decide +kernel
theorem dX2_checkTell_174 : decode cX2_checkTell 174 = .ok (.goto 4, 3) := by decide +kernel
theorem dX2_checkTell_177 : decode cX2_checkTell 177 = .ok (.iconst 0, 1) := by decide +kernel
theorem dX2_checkTell_178 : decode cX2_checkTell 178 = .ok (.invokevirtual 77, 3) := by decide +kernel
theorem dX2_checkTell_181 : decode cX2_checkTell 181 = .ok (.aload_n 0, 1) := by decide +kernel
theorem dX2_checkTell_182 : decode cX2_checkTell 182 = .ok (.aload_n 1, 1) := by decide +kernel
theorem dX2_checkTell_183 : decode cX2_checkTell 183 = .ok (.invokevirtual 83, 3) := by decide +kernel
theorem dX2_checkTell_186 : decode cX2_checkTell 186 = .ok (.aload_n 1, 1) := by decide +kernel
theorem dX2_checkTell_187 : decode cX2_checkTell 187 = .ok (.invokevirtual 86, 3) := by decide +kernel
theorem dX2_checkTell_190 : decode cX2_checkTell 190 = .ok (.aload_n 0, 1) := by decide +kernel
theorem dX2_checkTell_191 : decode cX2_checkTell 191 = .ok (.bipush 22, 2) := by decide +kernel
theorem dX2_checkTell_193 : decode cX2_checkTell 193 = .ok (.invokevirtual 64, 3) := by decide +kernel
theorem dX2_checkTell_196 : decode cX2_checkTell 196 = .ok (.return_, 1) := by decide +kernel
theorem dX2_take_0 : decode cX2_take 0 = .ok (.aload_n 0, 1) := by decide +kernel
theorem dX2_take_1 : decode cX2_take 1 = .ok (.getfield 25, 3) := by decide +kernel
theorem dX2_take_4 : decode cX2_take 4 = .ok (.ifCond .eq 4, 3) := by decide +kernel
theorem dX2_take_7 : decode cX2_take 7 = .ok (.return_, 1) := by decide +kernel
theorem dX2_take_8 : decode cX2_take 8 = .ok (.aload_n 0, 1) := by decide +kernel
theorem dX2_take_9 : decode cX2_take 9 = .ok (.getfield 41, 3) := by decide +kernel
theorem dX2_take_12 : decode cX2_take 12 = .ok (.aload_n 0, 1) := by decide +kernel
theorem dX2_take_13 : decode cX2_take 13 = .ok (.getfield 22, 3) := by decide +kernel
theorem dX2_take_16 : decode cX2_take 16 = .ok (.invokevirtual 51, 3) := by decide +kernel
theorem dX2_take_19 : decode cX2_take 19 = .ok (.iload_n 1, 1) := by decide +kernel
theorem dX2_take_20 : decode cX2_take 20 = .ok (.if_icmp .eq 11, 3) := by decide +kernel
theorem dX2_take_23 : decode cX2_take 23 = .ok (.aload_n 0, 1) := by decide +kernel
theorem dX2_take_24 : decode cX2_take 24 = .ok (.iconst 1, 1) := by decide +kernel
theorem dX2_take_25 : decode cX2_take 25 = .ok (.putfield 25, 3) := by decide +kernel
theorem dX2_take_28 : decode cX2_take 28 = .ok (.goto 31, 3) := by decide +kernel
theorem dX2_take_31 : decode cX2_take 31 = .ok (.aload_n 0, 1) := by decide +kernel
theorem dX2_take_32 : decode cX2_take 32 = .ok (.getfield 22, 3) := by decide +kernel
theorem dX2_take_35 : decode cX2_take 35 = .ok (.sipush 400, 3) := by decide +kernel
theorem dX2_take_38 : decode cX2_take 38 = .ok (.if_icmp .lt 11, 3) := by decide +kernel
theorem dX2_take_41 : decode cX2_take 41 = .ok (.aload_n 0, 1) := by decide +kernel
theorem dX2_take_42 : decode cX2_take 42 = .ok (.iconst 2, 1) := by decide +kernel
theorem dX2_take_43 : decode cX2_take 43 = .ok (.putfield 25, 3) := by decide +kernel
theorem dX2_take_46 : decode cX2_take 46 = .ok (.goto 13, 3) := by decide +kernel
theorem dX2_take_49 : decode cX2_take 49 = .ok (.aload_n 0, 1) := by decide +kernel
theorem dX2_take_50 : decode cX2_take 50 = .ok (.dup, 1) := by decide +kernel
theorem dX2_take_51 : decode cX2_take 51 = .ok (.getfield 22, 3) := by decide +kernel
theorem dX2_take_54 : decode cX2_take 54 = .ok (.iconst 1, 1) := by decide +kernel
theorem dX2_take_55 : decode cX2_take 55 = .ok (.iadd, 1) := by decide +kernel
theorem dX2_take_56 : decode cX2_take 56 = .ok (.putfield 22, 3) := by decide +kernel
theorem dX2_take_59 : decode cX2_take 59 = .ok (.return_, 1) := by decide +kernel
theorem dX2_takeFurtherNames_0 : decode cX2_takeFurtherNames 0 = .ok (.iconst 0, 1) := by decide +kernel
theorem dX2_takeFurtherNames_1 : decode cX2_takeFurtherNames 1 = .ok (.istore_n 1, 1) := by decide +kernel
theorem dX2_takeFurtherNames_2 : decode cX2_takeFurtherNames 2 = .ok (.iload_n 1, 1) := by decide +kernel
theorem dX2_takeFurtherNames_3 : decode cX2_takeFurtherNames 3 = .ok (.sipush 400, 3) := by decide +kernel
theorem dX2_takeFurtherNames_6 : decode cX2_takeFurtherNames 6 = .ok (.if_icmp .ge 44, 3) := by decide +kernel
theorem dX2_takeFurtherNames_9 : decode cX2_takeFurtherNames 9 = .ok (.aload_n 0, 1) := by decide +kernel
theorem dX2_takeFurtherNames_10 : decode cX2_takeFurtherNames 10 = .ok (.getfield 25, 3) := by decide +kernel
theorem dX2_takeFurtherNames_13 : decode cX2_takeFurtherNames 13 = .ok (.ifCond .ne 37, 3) := by decide +kernel
theorem dX2_takeFurtherNames_16 : decode cX2_takeFurtherNames 16 = .ok (.aload_n 0, 1) := by decide +kernel
theorem dX2_takeFurtherNames_17 : decode cX2_takeFurtherNames 17 = .ok (.getfield 41, 3) := by decide +kernel
theorem dX2_takeFurtherNames_20 : decode cX2_takeFurtherNames 20 = .ok (.aload_n 0, 1) := by decide +kernel
theorem dX2_takeFurtherNames_21 : decode cX2_takeFurtherNames 21 = .ok (.getfield 22, 3) := by decide +kernel
theorem dX2_takeFurtherNames_24 : decode cX2_takeFurtherNames 24 = .ok (.invokevirtual 51, 3) := by decide +kernel
theorem dX2_takeFurtherNames_27 : decode cX2_takeFurtherNames 27 = .ok (.bipush 23, 2) := by decide +kernel
theorem dX2_takeFurtherNames_29 : decode cX2_takeFurtherNames 29 = .ok (.if_icmp .ne 21, 3) := by decide +kernel
theorem dX2_takeFurtherNames_32 : decode cX2_takeFurtherNames 32 = .ok (.aload_n 0, 1) := by decide +kernel
theorem dX2_takeFurtherNames_33 : decode cX2_takeFurtherNames 33 = .ok (.bipush 23, 2) := by decide +kernel
theorem dX2_takeFurtherNames_35 : decode cX2_takeFurtherNames 35 = .ok (.invokevirtual 64, 3) := by decide +kernel
theorem dX2_takeFurtherNames_38 : decode cX2_takeFurtherNames 38 = .ok (.aload_n 0, 1) := by decide +kernel
theorem dX2_takeFurtherNames_39 : decode cX2_takeFurtherNames 39 = .ok (.bipush 20, 2) := by decide +kernel
theorem dX2_takeFurtherNames_41 : decode cX2_takeFurtherNames 41 = .ok (.invokevirtual 64, 3) := by decide +kernel
theorem dX2_takeFurtherNames_44 : decode cX2_takeFurtherNames 44 = .ok (.iinc 1 1, 3) := by decide +kernel
theorem dX2_takeFurtherNames_47 : decode cX2_takeFurtherNames 47 = .ok (.goto (-45), 3) := by decide +kernel
theorem dX2_takeFurtherNames_50 : decode cX2_takeFurtherNames 50 = .ok (.return_, 1) := by decide +kernel
theorem dX2_takeCondition_0 : decode cX2_takeCondition 0 = .ok (.aload_n 0, 1) := by decide +kernel
theorem dX2_takeCondition_1 : decode cX2_takeCondition 1 = .ok (.iconst 0, 1) := by decide +kernel
theorem dX2_takeCondition_2 : decode cX2_takeCondition 2 = .ok (.putfield 18, 3) := by decide +kernel
theorem dX2_takeCondition_5 : decode cX2_takeCondition 5 = .ok (.aload_n 0, 1) := by decide +kernel
theorem dX2_takeCondition_6 : decode cX2_takeCondition 6 = .ok (.iconst 0, 1) := by decide +kernel
theorem dX2_takeCondition_7 : decode cX2_takeCondition 7 = .ok (.putfield 28, 3) := by decide +kernel
theorem dX2_takeCondition_10 : decode cX2_takeCondition 10 = .ok (.aload_n 0, 1) := by decide +kernel
theorem dX2_takeCondition_11 : decode cX2_takeCondition 11 = .ok (.iconst 0, 1) := by decide +kernel
theorem dX2_takeCondition_12 : decode cX2_takeCondition 12 = .ok (.putfield 31, 3) := by decide +kernel
theorem dX2_takeCondition_15 : decode cX2_takeCondition 15 = .ok (.aload_n 0, 1) := by decide +kernel
theorem dX2_takeCondition_16 : decode cX2_takeCondition 16 = .ok (.iconst 0, 1) := by decide +kernel
theorem dX2_takeCondition_17 : decode cX2_takeCondition 17 = .ok (.putfield 35, 3) := by decide +kernel
theorem dX2_takeCondition_20 : decode cX2_takeCondition 20 = .ok (.aload_n 0, 1) := by decide +kernel
theorem dX2_takeCondition_21 : decode cX2_takeCondition 21 = .ok (.iconst 0, 1) := by decide +kernel
theorem dX2_takeCondition_22 : decode cX2_takeCondition 22 = .ok (.putfield 38, 3) := by decide +kernel
theorem dX2_takeCondition_25 : decode cX2_takeCondition 25 = .ok (.iconst 0, 1) := by decide +kernel
theorem dX2_takeCondition_26 : decode cX2_takeCondition 26 = .ok (.istore_n 2, 1) := by decide +kernel
theorem dX2_takeCondition_27 : decode cX2_takeCondition 27 = .ok (.iload_n 2, 1) := by decide +kernel
theorem dX2_takeCondition_28 : decode cX2_takeCondition 28 = .ok (.sipush 400, 3) := by decide +kernel
theorem dX2_takeCondition_31 : decode cX2_takeCondition 31 = .ok (.if_icmp .gt 80, 3) := by decide +kernel
theorem dX2_takeCondition_34 : decode cX2_takeCondition 34 = .ok (.aload_n 0, 1) := by decide +kernel
theorem dX2_takeCondition_35 : decode cX2_takeCondition 35 = .ok (.getfield 25, 3) := by decide +kernel
theorem dX2_takeCondition_38 : decode cX2_takeCondition 38 = .ok (.ifCond .ne 73, 3) := by decide +kernel
theorem dX2_takeCondition_41 : decode cX2_takeCondition 41 = .ok (.aload_n 0, 1) := by decide +kernel
theorem dX2_takeCondition_42 : decode cX2_takeCondition 42 = .ok (.getfield 41, 3) := by decide +kernel
theorem dX2_takeCondition_45 : decode cX2_takeCondition 45 = .ok (.aload_n 0, 1) := by decide +kernel
theorem dX2_takeCondition_46 : decode cX2_takeCondition 46 = .ok (.getfield 22, 3) := by decide +kernel
theorem dX2_takeCondition_49 : decode cX2_takeCondition 49 = .ok (.invokevirtual 51, 3) := by decide +kernel
theorem dX2_takeCondition_52 : decode cX2_takeCondition 52 = .ok (.istore_n 3, 1) := by decide +kernel
theorem dX2_takeCondition_53 : decode cX2_takeCondition 53 = .ok (.iload_n 3, 1) := by decide +kernel
theorem dX2_takeCondition_54 : decode cX2_takeCondition 54 = .ok (.bipush 22, 2) := by decide +kernel
theorem dX2_takeCondition_56 : decode cX2_takeCondition 56 = .ok (.if_icmp .ne 27, 3) := by decide +kernel
theorem dX2_takeCondition_59 : decode cX2_takeCondition 59 = .ok (.aload_n 0, 1) := by decide +kernel
theorem dX2_takeCondition_60 : decode cX2_takeCondition 60 = .ok (.getfield 31, 3) := by decide +kernel
theorem dX2_takeCondition_63 : decode cX2_takeCondition 63 = .ok (.ifCond .eq 20, 3) := by decide +kernel
theorem dX2_takeCondition_66 : decode cX2_takeCondition 66 = .ok (.aload_n 0, 1) := by decide +kernel
theorem dX2_takeCondition_67 : decode cX2_takeCondition 67 = .ok (.getfield 28, 3) := by decide +kernel
theorem dX2_takeCondition_70 : decode cX2_takeCondition 70 = .ok (.ifCond .ne 13, 3) := by decide +kernel
theorem dX2_takeCondition_73 : decode cX2_takeCondition 73 = .ok (.aload_n 0, 1) := by decide +kernel
theorem dX2_takeCondition_74 : decode cX2_takeCondition 74 = .ok (.getfield 38, 3) := by decide +kernel
theorem dX2_takeCondition_77 : decode cX2_takeCondition 77 = .ok (.ifCond .eq 6, 3) := by decide +kernel
theorem dX2_takeCondition_80 : decode cX2_takeCondition 80 = .ok (.goto 31, 3) := by decide +kernel
theorem dX2_takeCondition_83 : decode cX2_takeCondition 83 = .ok (.aload_n 0, 1) := by decide +kernel
theorem dX2_takeCondition_84 : decode cX2_takeCondition 84 = .ok (.getfield 31, 3) := by decide +kernel
theorem dX2_takeCondition_87 : decode cX2_takeCondition 87 = .ok (.ifCond .eq 12, 3) := by decide +kernel
theorem dX2_takeCondition_90 : decode cX2_takeCondition 90 = .ok (.aload_n 0, 1) := by decide +kernel
theorem dX2_takeCondition_91 : decode cX2_takeCondition 91 = .ok (.iload_n 3, 1) := by decide +kernel
theorem dX2_takeCondition_92 : decode cX2_takeCondition 92 = .ok (.aload_n 1, 1) := by decide +kernel
theorem dX2_takeCondition_93 : decode cX2_takeCondition 93 = .ok (.invokevirtual 89, 3) := by decide +kernel
theorem dX2_takeCondition_96 : decode cX2_takeCondition 96 = .ok (.goto 9, 3) := by decide +kernel
theorem dX2_takeCondition_99 : decode cX2_takeCondition 99 = .ok (.aload_n 0, 1) := by decide +kernel
theorem dX2_takeCondition_100 : decode cX2_takeCondition 100 = .ok (.iload_n 3, 1) := by decide +kernel
theorem dX2_takeCondition_101 : decode cX2_takeCondition 101 = .ok (.aload_n 1, 1) := by decide +kernel
theorem dX2_takeCondition_102 : decode cX2_takeCondition 102 = .ok (.invokevirtual 93, 3) := by decide +kernel
theorem dX2_takeCondition_105 : decode cX2_takeCondition 105 = .ok (.iinc 2 1, 3) := by decide +kernel
theorem dX2_takeCondition_108 : decode cX2_takeCondition 108 = .ok (.goto (-81), 3) := by decide +kernel
theorem dX2_takeCondition_111 : decode cX2_takeCondition 111 = .ok (.aload_n 0, 1) := by decide +kernel
theorem dX2_takeCondition_112 : decode cX2_takeCondition 112 = .ok (.iconst 1, 1) := by decide +kernel
theorem dX2_takeCondition_113 : decode cX2_takeCondition 113 = .ok (.aload_n 1, 1) := by decide +kernel
theorem dX2_takeCondition_114 : decode cX2_takeCondition 114 = .ok (.invokevirtual 96, 3) := by decide +kernel
theorem dX2_takeCondition_117 : decode cX2_takeCondition 117 = .ok (.return_, 1) := by decide +kernel
theorem dX2_takeOperand_0 : decode cX2_takeOperand 0 = .ok (.iload_n 1, 1) := by decide +kernel
theorem dX2_takeOperand_1 : decode cX2_takeOperand 1 = .ok (.bipush 15, 2) := by decide +kernel
theorem dX2_takeOperand_3 : decode cX2_takeOperand 3 = .ok (.if_icmp .ne 10, 3) := by decide +kernel
theorem dX2_takeOperand_6 : decode cX2_takeOperand 6 = .ok (.aload_n 0, 1) := by decide +kernel
theorem dX2_takeOperand_7 : decode cX2_takeOperand 7 = .ok (.getfield 35, 3) := by decide +kernel
theorem dX2_takeOperand_10 : decode cX2_takeOperand 10 = .ok (.ifCond .eq 18, 3) := by decide +kernel
theorem dX2_takeOperand_13 : decode cX2_takeOperand 13 = .ok (.iload_n 1, 1) := by decide +kernel
theorem dX2_takeOperand_14 : decode cX2_takeOperand 14 = .ok (.bipush 32, 2) := by decide +kernel
theorem dX2_takeOperand_16 : decode cX2_takeOperand 16 = .ok (.if_icmp .ne 20, 3) := by decide +kernel
theorem dX2_takeOperand_19 : decode cX2_takeOperand 19 = .ok (.aload_n 0, 1) := by decide +kernel
theorem dX2_takeOperand_20 : decode cX2_takeOperand 20 = .ok (.getfield 28, 3) := by decide +kernel
theorem dX2_takeOperand_23 : decode cX2_takeOperand 23 = .ok (.bipush 6, 2) := by decide +kernel
theorem dX2_takeOperand_25 : decode cX2_takeOperand 25 = .ok (.if_icmp .ge 11, 3) := by decide +kernel
theorem dX2_takeOperand_28 : decode cX2_takeOperand 28 = .ok (.aload_n 0, 1) := by decide +kernel
theorem dX2_takeOperand_29 : decode cX2_takeOperand 29 = .ok (.iload_n 1, 1) := by decide +kernel
theorem dX2_takeOperand_30 : decode cX2_takeOperand 30 = .ok (.invokevirtual 99, 3) := by decide +kernel
theorem dX2_takeOperand_33 : decode cX2_takeOperand 33 = .ok (.goto 65, 3) := by decide +kernel
theorem dX2_takeOperand_36 : decode cX2_takeOperand 36 = .ok (.iload_n 1, 1) := by decide +kernel
theorem dX2_takeOperand_37 : decode cX2_takeOperand 37 = .ok (.bipush 32, 2) := by decide +kernel
theorem dX2_takeOperand_39 : decode cX2_takeOperand 39 = .ok (.if_icmp .ne 11, 3) := by decide +kernel
theorem dX2_takeOperand_42 : decode cX2_takeOperand 42 = .ok (.aload_n 0, 1) := by decide +kernel
theorem dX2_takeOperand_43 : decode cX2_takeOperand 43 = .ok (.iconst 2, 1) := by decide +kernel
theorem dX2_takeOperand_44 : decode cX2_takeOperand 44 = .ok (.putfield 25, 3) := by decide +kernel
theorem dX2_takeOperand_47 : decode cX2_takeOperand 47 = .ok (.goto 51, 3) := by decide +kernel
theorem dX2_takeOperand_50 : decode cX2_takeOperand 50 = .ok (.iload_n 1, 1) := by decide +kernel
theorem dX2_takeOperand_51 : decode cX2_takeOperand 51 = .ok (.bipush 21, 2) := by decide +kernel
theorem dX2_takeOperand_53 : decode cX2_takeOperand 53 = .ok (.if_icmp .eq 15, 3) := by decide +kernel
theorem dX2_takeOperand_56 : decode cX2_takeOperand 56 = .ok (.iload_n 1, 1) := by decide +kernel
theorem dX2_takeOperand_57 : decode cX2_takeOperand 57 = .ok (.bipush 16, 2) := by decide +kernel
theorem dX2_takeOperand_59 : decode cX2_takeOperand 59 = .ok (.if_icmp .lt 34, 3) := by decide +kernel
theorem dX2_takeOperand_62 : decode cX2_takeOperand 62 = .ok (.iload_n 1, 1) := by decide +kernel
theorem dX2_takeOperand_63 : decode cX2_takeOperand 63 = .ok (.bipush 19, 2) := by decide +kernel
theorem dX2_takeOperand_65 : decode cX2_takeOperand 65 = .ok (.if_icmp .gt 28, 3) := by decide +kernel
theorem dX2_takeOperand_68 : decode cX2_takeOperand 68 = .ok (.aload_n 2, 1) := by decide +kernel
theorem dX2_takeOperand_69 : decode cX2_takeOperand 69 = .ok (.iload_n 1, 1) := by decide +kernel
theorem dX2_takeOperand_70 : decode cX2_takeOperand 70 = .ok (.aload_n 0, 1) := by decide +kernel
theorem dX2_takeOperand_71 : decode cX2_takeOperand 71 = .ok (.getfield 41, 3) := by decide +kernel
theorem dX2_takeOperand_74 : decode cX2_takeOperand 74 = .ok (.aload_n 0, 1) := by decide +kernel
theorem dX2_takeOperand_75 : decode cX2_takeOperand 75 = .ok (.getfield 22, 3) := by decide +kernel
theorem dX2_takeOperand_78 : decode cX2_takeOperand 78 = .ok (.invokevirtual 102, 3) := by decide +kernel
theorem dX2_takeOperand_81 : decode cX2_takeOperand 81 = .ok (.l2i, 1) := by decide +kernel
theorem dX2_takeOperand_82 : decode cX2_takeOperand 82 = .ok (.invokevirtual 106, 3) := by decide +kernel
theorem dX2_takeOperand_85 : decode cX2_takeOperand 85 = .ok (.aload_n 0, 1) := by decide +kernel
theorem dX2_takeOperand_86 : decode cX2_takeOperand 86 = .ok (.iconst 1, 1) := by decide +kernel
theorem dX2_takeOperand_87 : decode cX2_takeOperand 87 = .ok (.putfield 31, 3) := by decide +kernel
theorem dX2_takeOperand_90 : decode cX2_takeOperand 90 = .ok (.goto 8, 3) := by decide +kernel
theorem dX2_takeOperand_93 : decode cX2_takeOperand 93 = .ok (.aload_n 0, 1) := by decide +kernel
theorem dX2_takeOperand_94 : decode cX2_takeOperand 94 = .ok (.iconst 1, 1) := by decide +kernel
theorem dX2_takeOperand_95 : decode cX2_takeOperand 95 = .ok (.putfield 25, 3) := by decide +kernel
theorem dX2_takeOperand_98 : decode cX2_takeOperand 98 = .ok (.iload_n 1, 1) := by decide +kernel
theorem dX2_takeOperand_99 : decode cX2_takeOperand 99 = .ok (.bipush 32, 2) := by decide +kernel
theorem dX2_takeOperand_101 : decode cX2_takeOperand 101 = .ok (.if_icmp .ne 13, 3) := by decide +kernel
theorem dX2_takeOperand_104 : decode cX2_takeOperand 104 = .ok (.aload_n 0, 1) := by decide +kernel
theorem dX2_takeOperand_105 : decode cX2_takeOperand 105 = .ok (.dup, 1) := by decide +kernel
theorem dX2_takeOperand_106 : decode cX2_takeOperand 106 = .ok (.getfield 28, 3) := by decide +kernel
theorem dX2_takeOperand_109 : decode cX2_takeOperand 109 = .ok (.iconst 1, 1) := by decide +kernel
theorem dX2_takeOperand_110 : decode cX2_takeOperand 110 = .ok (.iadd, 1) := by decide +kernel
theorem dX2_takeOperand_111 : decode cX2_takeOperand 111 = .ok (.putfield 28, 3) := by decide +kernel
theorem dX2_takeOperand_114 : decode cX2_takeOperand 114 = .ok (.iload_n 1, 1) := by decide +kernel
theorem dX2_takeOperand_115 : decode cX2_takeOperand 115 = .ok (.bipush 15, 2) := by decide +kernel
theorem dX2_takeOperand_117 : decode cX2_takeOperand 117 = .ok (.if_icmp .eq 8, 3) := by decide +kernel
theorem dX2_takeOperand_120 : decode cX2_takeOperand 120 = .ok (.aload_n 0, 1) := by decide +kernel
theorem dX2_takeOperand_121 : decode cX2_takeOperand 121 = .ok (.iconst 1, 1) := by decide +kernel
theorem dX2_takeOperand_122 : decode cX2_takeOperand 122 = .ok (.putfield 35, 3) := by decide +kernel
theorem dX2_takeOperand_125 : decode cX2_takeOperand 125 = .ok (.aload_n 0, 1) := by decide +kernel
theorem dX2_takeOperand_126 : decode cX2_takeOperand 126 = .ok (.iload_n 1, 1) := by decide +kernel
theorem dX2_takeOperand_127 : decode cX2_takeOperand 127 = .ok (.invokevirtual 64, 3) := by decide +kernel
theorem dX2_takeOperand_130 : decode cX2_takeOperand 130 = .ok (.return_, 1) := by decide +kernel
theorem dX2_takeBehindOperand_0 : decode cX2_takeBehindOperand 0 = .ok (.iload_n 1, 1) := by decide +kernel
theorem dX2_takeBehindOperand_1 : decode cX2_takeBehindOperand 1 = .ok (.bipush 33, 2) := by decide +kernel
theorem dX2_takeBehindOperand_3 : decode cX2_takeBehindOperand 3 = .ok (.if_icmp .ne 43, 3) := by decide +kernel
theorem dX2_takeBehindOperand_6 : decode cX2_takeBehindOperand 6 = .ok (.aload_n 0, 1) := by decide +kernel
theorem dX2_takeBehindOperand_7 : decode cX2_takeBehindOperand 7 = .ok (.getfield 28, 3) := by decide +kernel
theorem dX2_takeBehindOperand_10 : decode cX2_takeBehindOperand 10 = .ok (.ifCond .le 36, 3) := by decide +kernel
theorem dX2_takeBehindOperand_13 : decode cX2_takeBehindOperand 13 = .ok (.aload_n 0, 1) := by decide +kernel
theorem dX2_takeBehindOperand_14 : decode cX2_takeBehindOperand 14 = .ok (.iconst 1, 1) := by decide +kernel
theorem dX2_takeBehindOperand_15 : decode cX2_takeBehindOperand 15 = .ok (.aload_n 2, 1) := by decide +kernel
theorem dX2_takeBehindOperand_16 : decode cX2_takeBehindOperand 16 = .ok (.invokevirtual 96, 3) := by decide +kernel
theorem dX2_takeBehindOperand_19 : decode cX2_takeBehindOperand 19 = .ok (.aload_n 0, 1) := by decide +kernel
theorem dX2_takeBehindOperand_20 : decode cX2_takeBehindOperand 20 = .ok (.iconst 0, 1) := by decide +kernel
theorem dX2_takeBehindOperand_21 : decode cX2_takeBehindOperand 21 = .ok (.aload_n 0, 1) := by decide +kernel
theorem dX2_takeBehindOperand_22 : decode cX2_takeBehindOperand 22 = .ok (.getfield 18, 3) := by decide +kernel
theorem dX2_takeBehindOperand_25 : decode cX2_takeBehindOperand 25 = .ok (.iconst 1, 1) := by decide +kernel
theorem dX2_takeBehindOperand_26 : decode cX2_takeBehindOperand 26 = .ok (.isub, 1) := by decide +kernel
theorem dX2_takeBehindOperand_27 : decode cX2_takeBehindOperand 27 = .ok (.invokestatic 110, 3) := by decide +kernel
theorem dX2_takeBehindOperand_30 : decode cX2_takeBehindOperand 30 = .ok (.putfield 18, 3) := by decide +kernel
theorem dX2_takeBehindOperand_33 : decode cX2_takeBehindOperand 33 = .ok (.aload_n 0, 1) := by decide +kernel
theorem dX2_takeBehindOperand_34 : decode cX2_takeBehindOperand 34 = .ok (.dup, 1) := by decide +kernel
theorem dX2_takeBehindOperand_35 : decode cX2_takeBehindOperand 35 = .ok (.getfield 28, 3) := by decide +kernel
theorem dX2_takeBehindOperand_38 : decode cX2_takeBehindOperand 38 = .ok (.iconst 1, 1) := by decide +kernel
theorem dX2_takeBehindOperand_39 : decode cX2_takeBehindOperand 39 = .ok (.isub, 1) := by decide +kernel
theorem dX2_takeBehindOperand_40 : decode cX2_takeBehindOperand 40 = .ok (.putfield 28, 3) := by decide +kernel
theorem dX2_takeBehindOperand_43 : decode cX2_takeBehindOperand 43 = .ok (.goto 139, 3) := by decide +kernel
theorem dX2_takeBehindOperand_46 : decode cX2_takeBehindOperand 46 = .ok (.iload_n 1, 1) := by decide +kernel
theorem dX2_takeBehindOperand_47 : decode cX2_takeBehindOperand 47 = .ok (.invokestatic 116, 3) := by decide +kernel
theorem dX2_takeBehindOperand_50 : decode cX2_takeBehindOperand 50 = .ok (.ifCond .ne 24, 3) := by decide +kernel
theorem dX2_takeBehindOperand_53 : decode cX2_takeBehindOperand 53 = .ok (.iload_n 1, 1) := by decide +kernel
theorem dX2_takeBehindOperand_54 : decode cX2_takeBehindOperand 54 = .ok (.invokestatic 120, 3) := by decide +kernel
theorem dX2_takeBehindOperand_57 : decode cX2_takeBehindOperand 57 = .ok (.ifCond .eq 62, 3) := by decide +kernel
theorem dX2_takeBehindOperand_60 : decode cX2_takeBehindOperand 60 = .ok (.aload_n 0, 1) := by decide +kernel
theorem dX2_takeBehindOperand_61 : decode cX2_takeBehindOperand 61 = .ok (.getfield 28, 3) := by decide +kernel
theorem dX2_takeBehindOperand_64 : decode cX2_takeBehindOperand 64 = .ok (.ifCond .ne 55, 3) := by decide +kernel
theorem dX2_takeBehindOperand_67 : decode cX2_takeBehindOperand 67 = .ok (.aload_n 0, 1) := by decide +kernel
theorem dX2_takeBehindOperand_68 : decode cX2_takeBehindOperand 68 = .ok (.getfield 38, 3) := by decide +kernel
theorem dX2_takeBehindOperand_71 : decode cX2_takeBehindOperand 71 = .ok (.ifCond .ne 48, 3) := by decide +kernel
theorem dX2_takeBehindOperand_74 : decode cX2_takeBehindOperand 74 = .ok (.aload_n 0, 1) := by decide +kernel
theorem dX2_takeBehindOperand_75 : decode cX2_takeBehindOperand 75 = .ok (.iload_n 1, 1) := by decide +kernel
theorem dX2_takeBehindOperand_76 : decode cX2_takeBehindOperand 76 = .ok (.invokestatic 123, 3) := by decide +kernel
theorem dX2_takeBehindOperand_79 : decode cX2_takeBehindOperand 79 = .ok (.aload_n 2, 1) := by decide +kernel
theorem dX2_takeBehindOperand_80 : decode cX2_takeBehindOperand 80 = .ok (.invokevirtual 96, 3) := by decide +kernel
theorem dX2_takeBehindOperand_83 : decode cX2_takeBehindOperand 83 = .ok (.aload_n 0, 1) := by decide +kernel
theorem dX2_takeBehindOperand_84 : decode cX2_takeBehindOperand 84 = .ok (.iload_n 1, 1) := by decide +kernel
theorem dX2_takeBehindOperand_85 : decode cX2_takeBehindOperand 85 = .ok (.invokevirtual 99, 3) := by decide +kernel
theorem dX2_takeBehindOperand_88 : decode cX2_takeBehindOperand 88 = .ok (.aload_n 0, 1) := by decide +kernel
theorem dX2_takeBehindOperand_89 : decode cX2_takeBehindOperand 89 = .ok (.iconst 0, 1) := by decide +kernel
theorem dX2_takeBehindOperand_90 : decode cX2_takeBehindOperand 90 = .ok (.putfield 31, 3) := by decide +kernel
theorem dX2_takeBehindOperand_93 : decode cX2_takeBehindOperand 93 = .ok (.aload_n 0, 1) := by decide +kernel
theorem dX2_takeBehindOperand_94 : decode cX2_takeBehindOperand 94 = .ok (.aload_n 0, 1) := by decide +kernel
theorem dX2_takeBehindOperand_95 : decode cX2_takeBehindOperand 95 = .ok (.getfield 38, 3) := by decide +kernel
theorem dX2_takeBehindOperand_98 : decode cX2_takeBehindOperand 98 = .ok (.ifCond .ne 10, 3) := by decide +kernel
theorem dX2_takeBehindOperand_101 : decode cX2_takeBehindOperand 101 = .ok (.iload_n 1, 1) := by decide +kernel
theorem dX2_takeBehindOperand_102 : decode cX2_takeBehindOperand 102 = .ok (.invokestatic 120, 3) := by decide +kernel
theorem dX2_takeBehindOperand_105 : decode cX2_takeBehindOperand 105 = .ok (.ifCond .eq 7, 3) := by decide +kernel
theorem dX2_takeBehindOperand_108 : decode cX2_takeBehindOperand 108 = .ok (.iconst 1, 1) := by decide +kernel
theorem dX2_takeBehindOperand_109 : decode cX2_takeBehindOperand 109 = .ok (.goto 4, 3) := by decide +kernel
theorem dX2_takeBehindOperand_112 : decode cX2_takeBehindOperand 112 = .ok (.iconst 0, 1) := by decide +kernel
theorem dX2_takeBehindOperand_113 : decode cX2_takeBehindOperand 113 = .ok (.putfield 38, 3) := by decide +kernel
theorem dX2_takeBehindOperand_116 : decode cX2_takeBehindOperand 116 = .ok (.goto 66, 3) := by decide +kernel
theorem dX2_takeBehindOperand_119 : decode cX2_takeBehindOperand 119 = .ok (.iload_n 1, 1) := by decide +kernel
theorem dX2_takeBehindOperand_120 : decode cX2_takeBehindOperand 120 = .ok (.bipush 14, 2) := by decide +kernel
theorem dX2_takeBehindOperand_122 : decode cX2_takeBehindOperand 122 = .ok (.if_icmp .eq 9, 3) := by decide +kernel
theorem dX2_takeBehindOperand_125 : decode cX2_takeBehindOperand 125 = .ok (.iload_n 1, 1) := by decide +kernel
theorem dX2_takeBehindOperand_126 : decode cX2_takeBehindOperand 126 = .ok (.bipush 13, 2) := by decide +kernel
theorem dX2_takeBehindOperand_128 : decode cX2_takeBehindOperand 128 = .ok (.if_icmp .ne 49, 3) := by decide +kernel
theorem dX2_takeBehindOperand_131 : decode cX2_takeBehindOperand 131 = .ok (.aload_n 0, 1) := by decide +kernel
theorem dX2_takeBehindOperand_132 : decode cX2_takeBehindOperand 132 = .ok (.getfield 28, 3) := by decide +kernel
theorem dX2_takeBehindOperand_135 : decode cX2_takeBehindOperand 135 = .ok (.ifCond .ne 42, 3) := by decide +kernel
theorem dX2_takeBehindOperand_138 : decode cX2_takeBehindOperand 138 = .ok (.aload_n 0, 1) := by decide +kernel
theorem dX2_takeBehindOperand_139 : decode cX2_takeBehindOperand 139 = .ok (.getfield 38, 3) := by decide +kernel
theorem dX2_takeBehindOperand_142 : decode cX2_takeBehindOperand 142 = .ok (.ifCond .eq 35, 3) := by decide +kernel
theorem dX2_takeBehindOperand_145 : decode cX2_takeBehindOperand 145 = .ok (.aload_n 0, 1) := by decide +kernel
theorem dX2_takeBehindOperand_146 : decode cX2_takeBehindOperand 146 = .ok (.iload_n 1, 1) := by decide +kernel
theorem dX2_takeBehindOperand_147 : decode cX2_takeBehindOperand 147 = .ok (.invokestatic 123, 3) := by decide +kernel
theorem dX2_takeBehindOperand_150 : decode cX2_takeBehindOperand 150 = .ok (.aload_n 2, 1) := by decide +kernel
theorem dX2_takeBehindOperand_151 : decode cX2_takeBehindOperand 151 = .ok (.invokevirtual 96, 3) := by decide +kernel
theorem dX2_takeBehindOperand_154 : decode cX2_takeBehindOperand 154 = .ok (.aload_n 0, 1) := by decide +kernel
theorem dX2_takeBehindOperand_155 : decode cX2_takeBehindOperand 155 = .ok (.iload_n 1, 1) := by decide +kernel
theorem dX2_takeBehindOperand_156 : decode cX2_takeBehindOperand 156 = .ok (.invokevirtual 99, 3) := by decide +kernel
theorem dX2_takeBehindOperand_159 : decode cX2_takeBehindOperand 159 = .ok (.aload_n 0, 1) := by decide +kernel
theorem dX2_takeBehindOperand_160 : decode cX2_takeBehindOperand 160 = .ok (.iconst 0, 1) := by decide +kernel
theorem dX2_takeBehindOperand_161 : decode cX2_takeBehindOperand 161 = .ok (.putfield 31, 3) := by decide +kernel
theorem dX2_takeBehindOperand_164 : decode cX2_takeBehindOperand 164 = .ok (.aload_n 0, 1) := by decide +kernel
theorem dX2_takeBehindOperand_165 : decode cX2_takeBehindOperand 165 = .ok (.iconst 0, 1) := by decide +kernel
theorem dX2_takeBehindOperand_166 : decode cX2_takeBehindOperand 166 = .ok (.putfield 35, 3) := by decide +kernel
theorem dX2_takeBehindOperand_169 : decode cX2_takeBehindOperand 169 = .ok (.aload_n 0, 1) := by decide +kernel
theorem dX2_takeBehindOperand_170 : decode cX2_takeBehindOperand 170 = .ok (.iconst 0, 1) := by decide +kernel
theorem dX2_takeBehindOperand_171 : decode cX2_takeBehindOperand 171 = .ok (.putfield 38, 3) := by decide +kernel
theorem dX2_takeBehindOperand_174 : decode cX2_takeBehindOperand 174 = .ok (.goto 8, 3) := by decide +kernel
theorem dX2_takeBehindOperand_177 : decode cX2_takeBehindOperand 177 = .ok (.aload_n 0, 1) := by decide +kernel
theorem dX2_takeBehindOperand_178 : decode cX2_takeBehindOperand 178 = .ok (.iconst 1, 1) := by decide +kernel
theorem dX2_takeBehindOperand_179 : decode cX2_takeBehindOperand 179 = .ok (.putfield 25, 3) := by decide +kernel
theorem dX2_takeBehindOperand_182 : decode cX2_takeBehindOperand 182 = .ok (.aload_n 0, 1) := by decide +kernel
theorem dX2_takeBehindOperand_183 : decode cX2_takeBehindOperand 183 = .ok (.iload_n 1, 1) := by decide +kernel
theorem dX2_takeBehindOperand_184 : decode cX2_takeBehindOperand 184 = .ok (.invokevirtual 64, 3) := by decide +kernel
theorem dX2_takeBehindOperand_187 : decode cX2_takeBehindOperand 187 = .ok (.return_, 1) := by decide +kernel
theorem dX2_push_0 : decode cX2_push 0 = .ok (.aload_n 0, 1) := by decide +kernel
theorem dX2_push_1 : decode cX2_push 1 = .ok (.getfield 18, 3) := by decide +kernel
theorem dX2_push_4 : decode cX2_push 4 = .ok (.aload_n 0, 1) := by decide +kernel
theorem dX2_push_5 : decode cX2_push 5 = .ok (.getfield 15, 3) := by decide +kernel
theorem dX2_push_8 : decode cX2_push 8 = .ok (.arraylength, 1) := by decide +kernel
theorem dX2_push_9 : decode cX2_push 9 = .ok (.if_icmp .ge 23, 3) := by decide +kernel
theorem dX2_push_12 : decode cX2_push 12 = .ok (.aload_n 0, 1) := by decide +kernel
theorem dX2_push_13 : decode cX2_push 13 = .ok (.getfield 15, 3) := by decide +kernel
theorem dX2_push_16 : decode cX2_push 16 = .ok (.aload_n 0, 1) := by decide +kernel
theorem dX2_push_17 : decode cX2_push 17 = .ok (.getfield 18, 3) := by decide +kernel
theorem dX2_push_20 : decode cX2_push 20 = .ok (.iload_n 1, 1) := by decide +kernel
theorem dX2_push_21 : decode cX2_push 21 = .ok (.iastore, 1) := by decide +kernel
theorem dX2_push_22 : decode cX2_push 22 = .ok (.aload_n 0, 1) := by decide +kernel
theorem dX2_push_23 : decode cX2_push 23 = .ok (.dup, 1) := by decide +kernel
theorem dX2_push_24 : decode cX2_push 24 = .ok (.getfield 18, 3) := by decide +kernel
theorem dX2_push_27 : decode cX2_push 27 = .ok (.iconst 1, 1) := by decide +kernel
theorem dX2_push_28 : decode cX2_push 28 = .ok (.iadd, 1) := by decide +kernel
theorem dX2_push_29 : decode cX2_push 29 = .ok (.putfield 18, 3) := by decide +kernel
theorem dX2_push_32 : decode cX2_push 32 = .ok (.return_, 1) := by decide +kernel
theorem dX2_release_0 : decode cX2_release 0 = .ok (.aload_n 0, 1) := by decide +kernel
theorem dX2_release_1 : decode cX2_release 1 = .ok (.getfield 18, 3) := by decide +kernel
theorem dX2_release_4 : decode cX2_release 4 = .ok (.ifCond .le 48, 3) := by decide +kernel
theorem dX2_release_7 : decode cX2_release 7 = .ok (.aload_n 0, 1) := by decide +kernel
theorem dX2_release_8 : decode cX2_release 8 = .ok (.getfield 15, 3) := by decide +kernel
theorem dX2_release_11 : decode cX2_release 11 = .ok (.aload_n 0, 1) := by decide +kernel
theorem dX2_release_12 : decode cX2_release 12 = .ok (.getfield 18, 3) := by decide +kernel
theorem dX2_release_15 : decode cX2_release 15 = .ok (.iconst 1, 1) := by decide +kernel
theorem dX2_release_16 : decode cX2_release 16 = .ok (.isub, 1) := by decide +kernel
theorem dX2_release_17 : decode cX2_release 17 = .ok (.iaload, 1) := by decide +kernel
theorem dX2_release_18 : decode cX2_release 18 = .ok (.invokestatic 123, 3) := by decide +kernel
theorem dX2_release_21 : decode cX2_release 21 = .ok (.iload_n 1, 1) := by decide +kernel
theorem dX2_release_22 : decode cX2_release 22 = .ok (.if_icmp .lt 30, 3) := by decide +kernel
theorem dX2_release_25 : decode cX2_release 25 = .ok (.aload_n 0, 1) := by decide +kernel
theorem dX2_release_26 : decode cX2_release 26 = .ok (.dup, 1) := by decide +kernel
theorem dX2_release_27 : decode cX2_release 27 = .ok (.getfield 18, 3) := by decide +kernel
theorem dX2_release_30 : decode cX2_release 30 = .ok (.iconst 1, 1) := by decide +kernel
theorem dX2_release_31 : decode cX2_release 31 = .ok (.isub, 1) := by decide +kernel
theorem dX2_release_32 : decode cX2_release 32 = .ok (.putfield 18, 3) := by decide +kernel
theorem dX2_release_35 : decode cX2_release 35 = .ok (.aload_n 2, 1) := by decide +kernel
theorem dX2_release_36 : decode cX2_release 36 = .ok (.aload_n 0, 1) := by decide +kernel
theorem dX2_release_37 : decode cX2_release 37 = .ok (.getfield 15, 3) := by decide +kernel
theorem dX2_release_40 : decode cX2_release 40 = .ok (.aload_n 0, 1) := by decide +kernel
theorem dX2_release_41 : decode cX2_release 41 = .ok (.getfield 18, 3) := by decide +kernel
theorem dX2_release_44 : decode cX2_release 44 = .ok (.iaload, 1) := by decide +kernel
theorem dX2_release_45 : decode cX2_release 45 = .ok (.iconst 0, 1) := by decide +kernel
theorem dX2_release_46 : decode cX2_release 46 = .ok (.invokevirtual 106, 3) := by decide +kernel
theorem dX2_release_49 : decode cX2_release 49 = .ok (.goto (-49), 3) := by decide +kernel
theorem dX2_release_52 : decode cX2_release 52 = .ok (.return_, 1) := by decide +kernel
theorem dX2_tightness_0 : decode cX2_tightness 0 = .ok (.iload_n 0, 1) := by decide +kernel
theorem dX2_tightness_1 : decode cX2_tightness 1 = .ok (.tableswitch 86 13 27 #[75, 77, 79, 86, 86, 86, 86, 86, 86, 86, 86, 81, 81, 83, 83], 75) := by decide +kernel
theorem dX2_tightness_76 : decode cX2_tightness 76 = .ok (.iconst 1, 1) := by decide +kernel
theorem dX2_tightness_77 : decode cX2_tightness 77 = .ok (.ireturn, 1) := by decide +kernel
theorem dX2_tightness_78 : decode cX2_tightness 78 = .ok (.iconst 2, 1) := by decide +kernel
theorem dX2_tightness_79 : decode cX2_tightness 79 = .ok (.ireturn, 1) := by decide +kernel
theorem dX2_tightness_80 : decode cX2_tightness 80 = .ok (.iconst 3, 1) := by decide +kernel
theorem dX2_tightness_81 : decode cX2_tightness 81 = .ok (.ireturn, 1) := by decide +kernel
theorem dX2_tightness_82 : decode cX2_tightness 82 = .ok (.iconst 5, 1) := by decide +kernel
theorem dX2_tightness_83 : decode cX2_tightness 83 = .ok (.ireturn, 1) := by decide +kernel
theorem dX2_tightness_84 : decode cX2_tightness 84 = .ok (.bipush 6, 2) := by decide +kernel
theorem dX2_tightness_86 : decode cX2_tightness 86 = .ok (.ireturn, 1) := by decide +kernel
theorem dX2_tightness_87 : decode cX2_tightness 87 = .ok (.iload_n 0, 1) := by decide +kernel
theorem dX2_tightness_88 : decode cX2_tightness 88 = .ok (.invokestatic 120, 3) := by decide +kernel
theorem dX2_tightness_91 : decode cX2_tightness 91 = .ok (.ifCond .eq 7, 3) := by decide +kernel
theorem dX2_tightness_94 : decode cX2_tightness 94 = .ok (.iconst 4, 1) := by decide +kernel
theorem dX2_tightness_95 : decode cX2_tightness 95 = .ok (.goto 4, 3) := by decide +kernel
theorem dX2_tightness_98 : decode cX2_tightness 98 = .ok (.iconst 0, 1) := by decide +kernel
theorem dX2_tightness_99 : decode cX2_tightness 99 = .ok (.ireturn, 1) := by decide +kernel
theorem dX2_isReckoning_0 : decode cX2_isReckoning 0 = .ok (.iload_n 0, 1) := by decide +kernel
theorem dX2_isReckoning_1 : decode cX2_isReckoning 1 = .ok (.bipush 24, 2) := by decide +kernel
theorem dX2_isReckoning_3 : decode cX2_isReckoning 3 = .ok (.if_icmp .lt 13, 3) := by decide +kernel
theorem dX2_isReckoning_6 : decode cX2_isReckoning 6 = .ok (.iload_n 0, 1) := by decide +kernel
theorem dX2_isReckoning_7 : decode cX2_isReckoning 7 = .ok (.bipush 27, 2) := by decide +kernel
theorem dX2_isReckoning_9 : decode cX2_isReckoning 9 = .ok (.if_icmp .gt 7, 3) := by decide +kernel
theorem dX2_isReckoning_12 : decode cX2_isReckoning 12 = .ok (.iconst 1, 1) := by decide +kernel
theorem dX2_isReckoning_13 : decode cX2_isReckoning 13 = .ok (.goto 4, 3) := by decide +kernel
theorem dX2_isReckoning_16 : decode cX2_isReckoning 16 = .ok (.iconst 0, 1) := by decide +kernel
theorem dX2_isReckoning_17 : decode cX2_isReckoning 17 = .ok (.ireturn, 1) := by decide +kernel
theorem dX2_isComparison_0 : decode cX2_isComparison 0 = .ok (.iload_n 0, 1) := by decide +kernel
theorem dX2_isComparison_1 : decode cX2_isComparison 1 = .ok (.bipush 28, 2) := by decide +kernel
theorem dX2_isComparison_3 : decode cX2_isComparison 3 = .ok (.if_icmp .lt 13, 3) := by decide +kernel
theorem dX2_isComparison_6 : decode cX2_isComparison 6 = .ok (.iload_n 0, 1) := by decide +kernel
theorem dX2_isComparison_7 : decode cX2_isComparison 7 = .ok (.bipush 31, 2) := by decide +kernel
theorem dX2_isComparison_9 : decode cX2_isComparison 9 = .ok (.if_icmp .gt 7, 3) := by decide +kernel
theorem dX2_isComparison_12 : decode cX2_isComparison 12 = .ok (.iconst 1, 1) := by decide +kernel
theorem dX2_isComparison_13 : decode cX2_isComparison 13 = .ok (.goto 4, 3) := by decide +kernel
theorem dX2_isComparison_16 : decode cX2_isComparison 16 = .ok (.iconst 0, 1) := by decide +kernel
theorem dX2_isComparison_17 : decode cX2_isComparison 17 = .ok (.ireturn, 1) := by decide +kernel
theorem dX3_init_0 : decode cX3_init 0 = .ok (.aload_n 0, 1) := by decide +kernel
theorem dX3_init_1 : decode cX3_init 1 = .ok (.invokespecial 3, 3) := by decide +kernel
theorem dX3_init_4 : decode cX3_init 4 = .ok (.aload_n 0, 1) := by decide +kernel
theorem dX3_init_5 : decode cX3_init 5 = .ok (.bipush 60, 2) := by decide +kernel
theorem dX3_init_7 : decode cX3_init 7 = .ok (.newarray .int, 2) := by decide +kernel
theorem dX3_init_9 : decode cX3_init 9 = .ok (.putfield 9, 3) := by decide +kernel
theorem dX3_init_12 : decode cX3_init 12 = .ok (.return_, 1) := by decide +kernel
theorem dX3_begin_0 : decode cX3_begin 0 = .ok (.iconst 0, 1) := by decide +kernel
theorem dX3_begin_1 : decode cX3_begin 1 = .ok (.istore_n 2, 1) := by decide +kernel
theorem dX3_begin_2 : decode cX3_begin 2 = .ok (.iload_n 2, 1) := by decide +kernel
theorem dX3_begin_3 : decode cX3_begin 3 = .ok (.bipush 10, 2) := by decide +kernel
theorem dX3_begin_5 : decode cX3_begin 5 = .ok (.if_icmp .ge 53, 3) := by decide +kernel
theorem dX3_begin_8 : decode cX3_begin 8 = .ok (.iconst 0, 1) := by decide +kernel
theorem dX3_begin_9 : decode cX3_begin 9 = .ok (.istore_n 3, 1) := by decide +kernel
theorem dX3_begin_10 : decode cX3_begin 10 = .ok (.iload_n 3, 1) := by decide +kernel
theorem dX3_begin_11 : decode cX3_begin 11 = .ok (.bipush 6, 2) := by decide +kernel
theorem dX3_begin_13 : decode cX3_begin 13 = .ok (.if_icmp .ge 39, 3) := by decide +kernel
theorem dX3_begin_16 : decode cX3_begin 16 = .ok (.aload_n 0, 1) := by decide +kernel
theorem dX3_begin_17 : decode cX3_begin 17 = .ok (.getfield 9, 3) := by decide +kernel
theorem dX3_begin_20 : decode cX3_begin 20 = .ok (.iload_n 2, 1) := by decide +kernel
theorem dX3_begin_21 : decode cX3_begin 21 = .ok (.bipush 6, 2) := by decide +kernel
theorem dX3_begin_23 : decode cX3_begin 23 = .ok (.imul, 1) := by decide +kernel
theorem dX3_begin_24 : decode cX3_begin 24 = .ok (.iload_n 3, 1) := by decide +kernel
theorem dX3_begin_25 : decode cX3_begin 25 = .ok (.iadd, 1) := by decide +kernel
theorem dX3_begin_26 : decode cX3_begin 26 = .ok (.aload_n 1, 1) := by decide +kernel
theorem dX3_begin_27 : decode cX3_begin 27 = .ok (.getfield 15, 3) := by decide +kernel
theorem dX3_begin_30 : decode cX3_begin 30 = .ok (.iload_n 2, 1) := by decide +kernel
theorem dX3_begin_31 : decode cX3_begin 31 = .ok (.iaload, 1) := by decide +kernel
theorem dX3_begin_32 : decode cX3_begin 32 = .ok (.iload_n 3, 1) := by decide +kernel
theorem dX3_begin_33 : decode cX3_begin 33 = .ok (.invokestatic 20, 3) := by decide +kernel
theorem dX3_begin_36 : decode cX3_begin 36 = .ok (.ifCond .eq 7, 3) := by decide +kernel
theorem dX3_begin_39 : decode cX3_begin 39 = .ok (.iconst 0, 1) := by decide +kernel
theorem dX3_begin_40 : decode cX3_begin 40 = .ok (.goto 5, 3) := by decide +kernel
theorem dX3_begin_43 : decode cX3_begin 43 = .ok (.bipush 99, 2) := by decide +kernel
theorem dX3_begin_45 : decode cX3_begin 45 = .ok (.iastore, 1) := by decide +kernel
theorem dX3_begin_46 : decode cX3_begin 46 = .ok (.iinc 3 1, 3) := by decide +kernel
theorem dX3_begin_49 : decode cX3_begin 49 = .ok (.goto (-39), 3) := by decide +kernel
theorem dX3_begin_52 : decode cX3_begin 52 = .ok (.iinc 2 1, 3) := by decide +kernel
theorem dX3_begin_55 : decode cX3_begin 55 = .ok (.goto (-53), 3) := by decide +kernel
theorem dX3_begin_58 : decode cX3_begin 58 = .ok (.return_, 1) := by decide +kernel
theorem dX3_firstHour_0 : decode cX3_firstHour 0 = .ok (.aload_n 0, 1) := by decide +kernel
theorem dX3_firstHour_1 : decode cX3_firstHour 1 = .ok (.getfield 9, 3) := by decide +kernel
theorem dX3_firstHour_4 : decode cX3_firstHour 4 = .ok (.iload_n 1, 1) := by decide +kernel
theorem dX3_firstHour_5 : decode cX3_firstHour 5 = .ok (.bipush 6, 2) := by decide +kernel
theorem dX3_firstHour_7 : decode cX3_firstHour 7 = .ok (.imul, 1) := by decide +kernel
theorem dX3_firstHour_8 : decode cX3_firstHour 8 = .ok (.iload_n 2, 1) := by decide +kernel
theorem dX3_firstHour_9 : decode cX3_firstHour 9 = .ok (.iadd, 1) := by decide +kernel
theorem dX3_firstHour_10 : decode cX3_firstHour 10 = .ok (.iaload, 1) := by decide +kernel
theorem dX3_firstHour_11 : decode cX3_firstHour 11 = .ok (.ireturn, 1) := by decide +kernel
theorem dX3_has_0 : decode cX3_has 0 = .ok (.aload_n 0, 1) := by decide +kernel
theorem dX3_has_1 : decode cX3_has 1 = .ok (.iload_n 1, 1) := by decide +kernel
theorem dX3_has_2 : decode cX3_has 2 = .ok (.iload_n 2, 1) := by decide +kernel
theorem dX3_has_3 : decode cX3_has 3 = .ok (.invokevirtual 24, 3) := by decide +kernel
theorem dX3_has_6 : decode cX3_has 6 = .ok (.iload_n 3, 1) := by decide +kernel
theorem dX3_has_7 : decode cX3_has 7 = .ok (.if_icmp .gt 7, 3) := by decide +kernel
theorem dX3_has_10 : decode cX3_has 10 = .ok (.iconst 1, 1) := by decide +kernel
theorem dX3_has_11 : decode cX3_has 11 = .ok (.goto 4, 3) := by decide +kernel
theorem dX3_has_14 : decode cX3_has 14 = .ok (.iconst 0, 1) := by decide +kernel
theorem dX3_has_15 : decode cX3_has 15 = .ok (.ireturn, 1) := by decide +kernel
theorem dX3_thingsOf_0 : decode cX3_thingsOf 0 = .ok (.iconst 0, 1) := by decide +kernel
theorem dX3_thingsOf_1 : decode cX3_thingsOf 1 = .ok (.istore_n 3, 1) := by decide +kernel
theorem dX3_thingsOf_2 : decode cX3_thingsOf 2 = .ok (.iconst 0, 1) := by decide +kernel
theorem dX3_thingsOf_3 : decode cX3_thingsOf 3 = .ok (.istore 4, 2) := by decide +kernel
theorem dX3_thingsOf_5 : decode cX3_thingsOf 5 = .ok (.iload 4, 2) := by decide +kernel
theorem dX3_thingsOf_7 : decode cX3_thingsOf 7 = .ok (.bipush 6, 2) := by decide +kernel
theorem dX3_thingsOf_9 : decode cX3_thingsOf 9 = .ok (.if_icmp .ge 27, 3) := by decide +kernel
theorem dX3_thingsOf_12 : decode cX3_thingsOf 12 = .ok (.aload_n 0, 1) := by decide +kernel
theorem dX3_thingsOf_13 : decode cX3_thingsOf 13 = .ok (.iload_n 1, 1) := by decide +kernel
theorem dX3_thingsOf_14 : decode cX3_thingsOf 14 = .ok (.iload 4, 2) := by decide +kernel
theorem dX3_thingsOf_16 : decode cX3_thingsOf 16 = .ok (.iload_n 2, 1) := by decide +kernel
theorem dX3_thingsOf_17 : decode cX3_thingsOf 17 = .ok (.invokevirtual 28, 3) := by decide +kernel
theorem dX3_thingsOf_20 : decode cX3_thingsOf 20 = .ok (.ifCond .eq 10, 3) := by decide +kernel
theorem dX3_thingsOf_23 : decode cX3_thingsOf 23 = .ok (.iload_n 3, 1) := by decide +kernel
theorem dX3_thingsOf_24 : decode cX3_thingsOf 24 = .ok (.iconst 1, 1) := by decide +kernel
theorem dX3_thingsOf_25 : decode cX3_thingsOf 25 = .ok (.iload 4, 2) := by decide +kernel
theorem dX3_thingsOf_27 : decode cX3_thingsOf 27 = .ok (.ishl, 1) := by decide +kernel
theorem dX3_thingsOf_28 : decode cX3_thingsOf 28 = .ok (.ior, 1) := by decide +kernel
theorem dX3_thingsOf_29 : decode cX3_thingsOf 29 = .ok (.istore_n 3, 1) := by decide +kernel
theorem dX3_thingsOf_30 : decode cX3_thingsOf 30 = .ok (.iinc 4 1, 3) := by decide +kernel
theorem dX3_thingsOf_33 : decode cX3_thingsOf 33 = .ok (.goto (-28), 3) := by decide +kernel
theorem dX3_thingsOf_36 : decode cX3_thingsOf 36 = .ok (.iload_n 3, 1) := by decide +kernel
theorem dX3_thingsOf_37 : decode cX3_thingsOf 37 = .ok (.ireturn, 1) := by decide +kernel
theorem dX3_learn_0 : decode cX3_learn 0 = .ok (.iconst 0, 1) := by decide +kernel
theorem dX3_learn_1 : decode cX3_learn 1 = .ok (.istore 4, 2) := by decide +kernel
theorem dX3_learn_3 : decode cX3_learn 3 = .ok (.iload 4, 2) := by decide +kernel
theorem dX3_learn_5 : decode cX3_learn 5 = .ok (.bipush 10, 2) := by decide +kernel
theorem dX3_learn_7 : decode cX3_learn 7 = .ok (.if_icmp .ge 46, 3) := by decide +kernel
theorem dX3_learn_10 : decode cX3_learn 10 = .ok (.iload 4, 2) := by decide +kernel
theorem dX3_learn_12 : decode cX3_learn 12 = .ok (.bipush 6, 2) := by decide +kernel
theorem dX3_learn_14 : decode cX3_learn 14 = .ok (.imul, 1) := by decide +kernel
theorem dX3_learn_15 : decode cX3_learn 15 = .ok (.iload_n 2, 1) := by decide +kernel
theorem dX3_learn_16 : decode cX3_learn 16 = .ok (.iadd, 1) := by decide +kernel
theorem dX3_learn_17 : decode cX3_learn 17 = .ok (.istore 5, 2) := by decide +kernel
theorem dX3_learn_19 : decode cX3_learn 19 = .ok (.iload_n 1, 1) := by decide +kernel
theorem dX3_learn_20 : decode cX3_learn 20 = .ok (.iload 4, 2) := by decide +kernel
theorem dX3_learn_22 : decode cX3_learn 22 = .ok (.invokestatic 20, 3) := by decide +kernel
theorem dX3_learn_25 : decode cX3_learn 25 = .ok (.ifCond .eq 22, 3) := by decide +kernel
theorem dX3_learn_28 : decode cX3_learn 28 = .ok (.aload_n 0, 1) := by decide +kernel
theorem dX3_learn_29 : decode cX3_learn 29 = .ok (.getfield 9, 3) := by decide +kernel
theorem dX3_learn_32 : decode cX3_learn 32 = .ok (.iload 5, 2) := by decide +kernel
theorem dX3_learn_34 : decode cX3_learn 34 = .ok (.iaload, 1) := by decide +kernel
theorem dX3_learn_35 : decode cX3_learn 35 = .ok (.iload_n 3, 1) := by decide +kernel
theorem dX3_learn_36 : decode cX3_learn 36 = .ok (.if_icmp .le 11, 3) := by decide +kernel
theorem dX3_learn_39 : decode cX3_learn 39 = .ok (.aload_n 0, 1) := by decide +kernel
theorem dX3_learn_40 : decode cX3_learn 40 = .ok (.getfield 9, 3) := by decide +kernel
theorem dX3_learn_43 : decode cX3_learn 43 = .ok (.iload 5, 2) := by decide +kernel
theorem dX3_learn_45 : decode cX3_learn 45 = .ok (.iload_n 3, 1) := by decide +kernel
theorem dX3_learn_46 : decode cX3_learn 46 = .ok (.iastore, 1) := by decide +kernel
theorem dX3_learn_47 : decode cX3_learn 47 = .ok (.iinc 4 1, 3) := by decide +kernel
theorem dX3_learn_50 : decode cX3_learn 50 = .ok (.goto (-47), 3) := by decide +kernel
theorem dX3_learn_53 : decode cX3_learn 53 = .ok (.return_, 1) := by decide +kernel
theorem dX3_misses_0 : decode cX3_misses 0 = .ok (.aload_n 0, 1) := by decide +kernel
theorem dX3_misses_1 : decode cX3_misses 1 = .ok (.aload_n 1, 1) := by decide +kernel
theorem dX3_misses_2 : decode cX3_misses 2 = .ok (.getfield 32, 3) := by decide +kernel
theorem dX3_misses_5 : decode cX3_misses 5 = .ok (.iload_n 2, 1) := by decide +kernel
theorem dX3_misses_6 : decode cX3_misses 6 = .ok (.iaload, 1) := by decide +kernel
theorem dX3_misses_7 : decode cX3_misses 7 = .ok (.aload_n 1, 1) := by decide +kernel
theorem dX3_misses_8 : decode cX3_misses 8 = .ok (.getfield 35, 3) := by decide +kernel
theorem dX3_misses_11 : decode cX3_misses 11 = .ok (.iload_n 2, 1) := by decide +kernel
theorem dX3_misses_12 : decode cX3_misses 12 = .ok (.iaload, 1) := by decide +kernel
theorem dX3_misses_13 : decode cX3_misses 13 = .ok (.aload_n 1, 1) := by decide +kernel
theorem dX3_misses_14 : decode cX3_misses 14 = .ok (.getfield 38, 3) := by decide +kernel
theorem dX3_misses_17 : decode cX3_misses 17 = .ok (.iload_n 2, 1) := by decide +kernel
theorem dX3_misses_18 : decode cX3_misses 18 = .ok (.iaload, 1) := by decide +kernel
theorem dX3_misses_19 : decode cX3_misses 19 = .ok (.invokevirtual 28, 3) := by decide +kernel
theorem dX3_misses_22 : decode cX3_misses 22 = .ok (.ifCond .ne 7, 3) := by decide +kernel
theorem dX3_misses_25 : decode cX3_misses 25 = .ok (.iconst 1, 1) := by decide +kernel
theorem dX3_misses_26 : decode cX3_misses 26 = .ok (.goto 4, 3) := by decide +kernel
theorem dX3_misses_29 : decode cX3_misses 29 = .ok (.iconst 0, 1) := by decide +kernel
theorem dX3_misses_30 : decode cX3_misses 30 = .ok (.ireturn, 1) := by decide +kernel
theorem dX3_worthMissed_0 : decode cX3_worthMissed 0 = .ok (.iconst 0, 1) := by decide +kernel
theorem dX3_worthMissed_1 : decode cX3_worthMissed 1 = .ok (.istore_n 2, 1) := by decide +kernel
theorem dX3_worthMissed_2 : decode cX3_worthMissed 2 = .ok (.iconst 0, 1) := by decide +kernel
theorem dX3_worthMissed_3 : decode cX3_worthMissed 3 = .ok (.istore_n 3, 1) := by decide +kernel
theorem dX3_worthMissed_4 : decode cX3_worthMissed 4 = .ok (.iload_n 3, 1) := by decide +kernel
theorem dX3_worthMissed_5 : decode cX3_worthMissed 5 = .ok (.aload_n 1, 1) := by decide +kernel
theorem dX3_worthMissed_6 : decode cX3_worthMissed 6 = .ok (.getfield 41, 3) := by decide +kernel
theorem dX3_worthMissed_9 : decode cX3_worthMissed 9 = .ok (.bipush 6, 2) := by decide +kernel
theorem dX3_worthMissed_11 : decode cX3_worthMissed 11 = .ok (.iaload, 1) := by decide +kernel
theorem dX3_worthMissed_12 : decode cX3_worthMissed 12 = .ok (.if_icmp .ge 32, 3) := by decide +kernel
theorem dX3_worthMissed_15 : decode cX3_worthMissed 15 = .ok (.aload_n 0, 1) := by decide +kernel
theorem dX3_worthMissed_16 : decode cX3_worthMissed 16 = .ok (.aload_n 1, 1) := by decide +kernel
theorem dX3_worthMissed_17 : decode cX3_worthMissed 17 = .ok (.iload_n 3, 1) := by decide +kernel
theorem dX3_worthMissed_18 : decode cX3_worthMissed 18 = .ok (.invokevirtual 44, 3) := by decide +kernel
theorem dX3_worthMissed_21 : decode cX3_worthMissed 21 = .ok (.ifCond .eq 17, 3) := by decide +kernel
theorem dX3_worthMissed_24 : decode cX3_worthMissed 24 = .ok (.iload_n 2, 1) := by decide +kernel
theorem dX3_worthMissed_25 : decode cX3_worthMissed 25 = .ok (.aload_n 1, 1) := by decide +kernel
theorem dX3_worthMissed_26 : decode cX3_worthMissed 26 = .ok (.getfield 48, 3) := by decide +kernel
theorem dX3_worthMissed_29 : decode cX3_worthMissed 29 = .ok (.aload_n 1, 1) := by decide +kernel
theorem dX3_worthMissed_30 : decode cX3_worthMissed 30 = .ok (.getfield 35, 3) := by decide +kernel
theorem dX3_worthMissed_33 : decode cX3_worthMissed 33 = .ok (.iload_n 3, 1) := by decide +kernel
theorem dX3_worthMissed_34 : decode cX3_worthMissed 34 = .ok (.iaload, 1) := by decide +kernel
theorem dX3_worthMissed_35 : decode cX3_worthMissed 35 = .ok (.iaload, 1) := by decide +kernel
theorem dX3_worthMissed_36 : decode cX3_worthMissed 36 = .ok (.iadd, 1) := by decide +kernel
theorem dX3_worthMissed_37 : decode cX3_worthMissed 37 = .ok (.istore_n 2, 1) := by decide +kernel
theorem dX3_worthMissed_38 : decode cX3_worthMissed 38 = .ok (.iinc 3 1, 3) := by decide +kernel
theorem dX3_worthMissed_41 : decode cX3_worthMissed 41 = .ok (.goto (-37), 3) := by decide +kernel
theorem dX3_worthMissed_44 : decode cX3_worthMissed 44 = .ok (.iload_n 2, 1) := by decide +kernel
theorem dX3_worthMissed_45 : decode cX3_worthMissed 45 = .ok (.ireturn, 1) := by decide +kernel
theorem dX4_init_0 : decode cX4_init 0 = .ok (.aload_n 0, 1) := by decide +kernel
theorem dX4_init_1 : decode cX4_init 1 = .ok (.invokespecial 3, 3) := by decide +kernel
theorem dX4_init_4 : decode cX4_init 4 = .ok (.aload_n 0, 1) := by decide +kernel
theorem dX4_init_5 : decode cX4_init 5 = .ok (.sipush 400, 3) := by decide +kernel
theorem dX4_init_8 : decode cX4_init 8 = .ok (.newarray .int, 2) := by decide +kernel
theorem dX4_init_10 : decode cX4_init 10 = .ok (.putfield 9, 3) := by decide +kernel
theorem dX4_init_13 : decode cX4_init 13 = .ok (.aload_n 0, 1) := by decide +kernel
