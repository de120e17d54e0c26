theorem dX9_init_8 : decode cX9_init 8 = .ok (.newarray .int, 2) := by decide +kernel
theorem dX9_init_10 : decode cX9_init 10 = .ok (.putfield 9, 3) := by decide +kernel
theorem dX9_init_13 : decode cX9_init 13 = .ok (.aload_n 0, 1) := by decide +kernel
theorem dX9_init_14 : decode cX9_init 14 = .ok (.sipush 402, 3) := by decide +kernel
theorem dX9_init_17 : decode cX9_init 17 = .ok (.newarray .int, 2) := by decide +kernel
theorem dX9_init_19 : decode cX9_init 19 = .ok (.putfield 15, 3) := by decide +kernel
theorem dX9_init_22 : decode cX9_init 22 = .ok (.aload_n 0, 1) := by decide +kernel
theorem dX9_init_23 : decode cX9_init 23 = .ok (.sipush 402, 3) := by decide +kernel
theorem dX9_init_26 : decode cX9_init 26 = .ok (.newarray .long, 2) := by decide +kernel
theorem dX9_init_28 : decode cX9_init 28 = .ok (.putfield 18, 3) := by decide +kernel
theorem dX9_init_31 : decode cX9_init 31 = .ok (.aload_n 0, 1) := by decide +kernel
theorem dX9_init_32 : decode cX9_init 32 = .ok (.bipush 20, 2) := by decide +kernel
theorem dX9_init_34 : decode cX9_init 34 = .ok (.newarray .long, 2) := by decide +kernel
theorem dX9_init_36 : decode cX9_init 36 = .ok (.putfield 22, 3) := by decide +kernel
theorem dX9_init_39 : decode cX9_init 39 = .ok (.aload_n 0, 1) := by decide +kernel
theorem dX9_init_40 : decode cX9_init 40 = .ok (.iconst 0, 1) := by decide +kernel
theorem dX9_init_41 : decode cX9_init 41 = .ok (.putfield 25, 3) := by decide +kernel
theorem dX9_init_44 : decode cX9_init 44 = .ok (.iconst 0, 1) := by decide +kernel
theorem dX9_init_45 : decode cX9_init 45 = .ok (.istore_n 1, 1) := by decide +kernel
theorem dX9_init_46 : decode cX9_init 46 = .ok (.iconst 0, 1) := by decide +kernel
theorem dX9_init_47 : decode cX9_init 47 = .ok (.istore_n 2, 1) := by decide +kernel
theorem dX9_init_48 : decode cX9_init 48 = .ok (.iload_n 2, 1) := by decide +kernel
theorem dX9_init_49 : decode cX9_init 49 = .ok (.ldc 29, 2) := by decide +kernel
theorem dX9_init_51 : decode cX9_init 51 = .ok (.invokevirtual 31, 3) := by decide +kernel
theorem dX9_init_54 : decode cX9_init 54 = .ok (.if_icmp .ge 50, 3) := by decide +kernel
theorem dX9_init_57 : decode cX9_init 57 = .ok (.iload_n 1, 1) := by decide +kernel
theorem dX9_init_58 : decode cX9_init 58 = .ok (.bipush 20, 2) := by decide +kernel
theorem dX9_init_60 : decode cX9_init 60 = .ok (.if_icmp .ge 44, 3) := by decide +kernel
theorem dX9_init_63 : decode cX9_init 63 = .ok (.ldc 29, 2) := by decide +kernel
theorem dX9_init_65 : decode cX9_init 65 = .ok (.iload_n 2, 1) := by decide +kernel
theorem dX9_init_66 : decode cX9_init 66 = .ok (.invokevirtual 37, 3) := by decide +kernel
theorem dX9_init_69 : decode cX9_init 69 = .ok (.istore_n 3, 1) := by decide +kernel
theorem dX9_init_70 : decode cX9_init 70 = .ok (.iload_n 3, 1) := by decide +kernel
theorem dX9_init_71 : decode cX9_init 71 = .ok (.bipush 32, 2) := by decide +kernel
theorem dX9_init_73 : decode cX9_init 73 = .ok (.if_icmp .ne 9, 3) := by decide +kernel
theorem dX9_init_76 : decode cX9_init 76 = .ok (.iinc 1 1, 3) := by decide +kernel
theorem dX9_init_79 : decode cX9_init 79 = .ok (.goto 19, 3) := by decide +kernel
theorem dX9_init_82 : decode cX9_init 82 = .ok (.aload_n 0, 1) := by decide +kernel
theorem dX9_init_83 : decode cX9_init 83 = .ok (.getfield 22, 3) := by decide +kernel
theorem dX9_init_86 : decode cX9_init 86 = .ok (.iload_n 1, 1) := by decide +kernel
theorem dX9_init_87 : decode cX9_init 87 = .ok (.aload_n 0, 1) := by decide +kernel
theorem dX9_init_88 : decode cX9_init 88 = .ok (.getfield 22, 3) := by decide +kernel
theorem dX9_init_91 : decode cX9_init 91 = .ok (.iload_n 1, 1) := by decide +kernel
theorem dX9_init_92 : decode cX9_init 92 = .ok (.laload, 1) := by decide +kernel
theorem dX9_init_93 : decode cX9_init 93 = .ok (.iload_n 3, 1) := by decide +kernel
theorem dX9_init_94 : decode cX9_init 94 = .ok (.invokestatic 41, 3) := by decide +kernel
theorem dX9_init_97 : decode cX9_init 97 = .ok (.lastore, 1) := by decide +kernel
theorem dX9_init_98 : decode cX9_init 98 = .ok (.iinc 2 1, 3) := by decide +kernel
theorem dX9_init_101 : decode cX9_init 101 = .ok (.goto (-53), 3) := by decide +kernel
theorem dX9_init_104 : decode cX9_init 104 = .ok (.return_, 1) := by decide +kernel
theorem dX9_withLetter_0 : decode cX9_withLetter 0 = .ok (.lload_n 0, 1) := by decide +kernel
theorem dX9_withLetter_1 : decode cX9_withLetter 1 = .ok (.ldc2_w 45, 3) := by decide +kernel
theorem dX9_withLetter_4 : decode cX9_withLetter 4 = .ok (.lmul, 1) := by decide +kernel
theorem dX9_withLetter_5 : decode cX9_withLetter 5 = .ok (.iload_n 2, 1) := by decide +kernel
theorem dX9_withLetter_6 : decode cX9_withLetter 6 = .ok (.bipush 97, 2) := by decide +kernel
theorem dX9_withLetter_8 : decode cX9_withLetter 8 = .ok (.isub, 1) := by decide +kernel
theorem dX9_withLetter_9 : decode cX9_withLetter 9 = .ok (.iconst 1, 1) := by decide +kernel
theorem dX9_withLetter_10 : decode cX9_withLetter 10 = .ok (.iadd, 1) := by decide +kernel
theorem dX9_withLetter_11 : decode cX9_withLetter 11 = .ok (.i2l, 1) := by decide +kernel
theorem dX9_withLetter_12 : decode cX9_withLetter 12 = .ok (.ladd, 1) := by decide +kernel
theorem dX9_withLetter_13 : decode cX9_withLetter 13 = .ok (.lreturn, 1) := by decide +kernel
theorem dX9_kindAt_0 : decode cX9_kindAt 0 = .ok (.iload_n 1, 1) := by decide +kernel
theorem dX9_kindAt_1 : decode cX9_kindAt 1 = .ok (.ifCond .lt 20, 3) := by decide +kernel
theorem dX9_kindAt_4 : decode cX9_kindAt 4 = .ok (.iload_n 1, 1) := by decide +kernel
theorem dX9_kindAt_5 : decode cX9_kindAt 5 = .ok (.aload_n 0, 1) := by decide +kernel
theorem dX9_kindAt_6 : decode cX9_kindAt 6 = .ok (.getfield 25, 3) := by decide +kernel
theorem dX9_kindAt_9 : decode cX9_kindAt 9 = .ok (.if_icmp .ge 12, 3) := by decide +kernel
theorem dX9_kindAt_12 : decode cX9_kindAt 12 = .ok (.aload_n 0, 1) := by decide +kernel
theorem dX9_kindAt_13 : decode cX9_kindAt 13 = .ok (.getfield 9, 3) := by decide +kernel
theorem dX9_kindAt_16 : decode cX9_kindAt 16 = .ok (.iload_n 1, 1) := by decide +kernel
theorem dX9_kindAt_17 : decode cX9_kindAt 17 = .ok (.iaload, 1) := by decide +kernel
theorem dX9_kindAt_18 : decode cX9_kindAt 18 = .ok (.goto 5, 3) := by decide +kernel
theorem dX9_kindAt_21 : decode cX9_kindAt 21 = .ok (.bipush 35, 2) := by decide +kernel
theorem dX9_kindAt_23 : decode cX9_kindAt 23 = .ok (.ireturn, 1) := by decide +kernel
theorem dX9_placeAt_0 : decode cX9_placeAt 0 = .ok (.iload_n 1, 1) := by decide +kernel
theorem dX9_placeAt_1 : decode cX9_placeAt 1 = .ok (.ifCond .lt 20, 3) := by decide +kernel
theorem dX9_placeAt_4 : decode cX9_placeAt 4 = .ok (.iload_n 1, 1) := by decide +kernel
theorem dX9_placeAt_5 : decode cX9_placeAt 5 = .ok (.aload_n 0, 1) := by decide +kernel
theorem dX9_placeAt_6 : decode cX9_placeAt 6 = .ok (.getfield 25, 3) := by decide +kernel
theorem dX9_placeAt_9 : decode cX9_placeAt 9 = .ok (.if_icmp .ge 12, 3) := by decide +kernel
theorem dX9_placeAt_12 : decode cX9_placeAt 12 = .ok (.aload_n 0, 1) := by decide +kernel
theorem dX9_placeAt_13 : decode cX9_placeAt 13 = .ok (.getfield 15, 3) := by decide +kernel
theorem dX9_placeAt_16 : decode cX9_placeAt 16 = .ok (.iload_n 1, 1) := by decide +kernel
theorem dX9_placeAt_17 : decode cX9_placeAt 17 = .ok (.iaload, 1) := by decide +kernel
theorem dX9_placeAt_18 : decode cX9_placeAt 18 = .ok (.goto 4, 3) := by decide +kernel
theorem dX9_placeAt_21 : decode cX9_placeAt 21 = .ok (.iconst 0, 1) := by decide +kernel
theorem dX9_placeAt_22 : decode cX9_placeAt 22 = .ok (.ireturn, 1) := by decide +kernel
theorem dX9_valueAt_0 : decode cX9_valueAt 0 = .ok (.iload_n 1, 1) := by decide +kernel
theorem dX9_valueAt_1 : decode cX9_valueAt 1 = .ok (.ifCond .lt 20, 3) := by decide +kernel
theorem dX9_valueAt_4 : decode cX9_valueAt 4 = .ok (.iload_n 1, 1) := by decide +kernel
theorem dX9_valueAt_5 : decode cX9_valueAt 5 = .ok (.aload_n 0, 1) := by decide +kernel
theorem dX9_valueAt_6 : decode cX9_valueAt 6 = .ok (.getfield 25, 3) := by decide +kernel
theorem dX9_valueAt_9 : decode cX9_valueAt 9 = .ok (.if_icmp .ge 12, 3) := by decide +kernel
theorem dX9_valueAt_12 : decode cX9_valueAt 12 = .ok (.aload_n 0, 1) := by decide +kernel
theorem dX9_valueAt_13 : decode cX9_valueAt 13 = .ok (.getfield 18, 3) := by decide +kernel
theorem dX9_valueAt_16 : decode cX9_valueAt 16 = .ok (.iload_n 1, 1) := by decide +kernel
theorem dX9_valueAt_17 : decode cX9_valueAt 17 = .ok (.laload, 1) := by decide +kernel
theorem dX9_valueAt_18 : decode cX9_valueAt 18 = .ok (.goto 4, 3) := by decide +kernel
theorem dX9_valueAt_21 : decode cX9_valueAt 21 = .ok (.lconst 0, 1) := by decide +kernel
theorem dX9_valueAt_22 : decode cX9_valueAt 22 = .ok (.lreturn, 1) := by decide +kernel
theorem dX9_scan_0 : decode cX9_scan 0 = .ok (.aload_n 0, 1) := by decide +kernel
theorem dX9_scan_1 : decode cX9_scan 1 = .ok (.iconst 0, 1) := by decide +kernel
theorem dX9_scan_2 : decode cX9_scan 2 = .ok (.putfield 25, 3) := by decide +kernel
theorem dX9_scan_5 : decode cX9_scan 5 = .ok (.iconst 0, 1) := by decide +kernel
theorem dX9_scan_6 : decode cX9_scan 6 = .ok (.istore_n 3, 1) := by decide +kernel
theorem dX9_scan_7 : decode cX9_scan 7 = .ok (.iload_n 3, 1) := by decide +kernel
theorem dX9_scan_8 : decode cX9_scan 8 = .ok (.iload_n 2, 1) := by decide +kernel
theorem dX9_scan_9 : decode cX9_scan 9 = .ok (.if_icmp .ge 66, 3) := by decide +kernel
theorem dX9_scan_12 : decode cX9_scan 12 = .ok (.aload_n 0, 1) := by decide +kernel
theorem dX9_scan_13 : decode cX9_scan 13 = .ok (.getfield 25, 3) := by decide +kernel
theorem dX9_scan_16 : decode cX9_scan 16 = .ok (.sipush 400, 3) := by decide +kernel
theorem dX9_scan_19 : decode cX9_scan 19 = .ok (.if_icmp .gt 56, 3) := by decide +kernel
theorem dX9_scan_22 : decode cX9_scan 22 = .ok (.aload_n 1, 1) := by decide +kernel
theorem dX9_scan_23 : decode cX9_scan 23 = .ok (.iload_n 3, 1) := by decide +kernel
theorem dX9_scan_24 : decode cX9_scan 24 = .ok (.baload, 1) := by decide +kernel
theorem dX9_scan_25 : decode cX9_scan 25 = .ok (.istore 4, 2) := by decide +kernel
theorem dX9_scan_27 : decode cX9_scan 27 = .ok (.iload 4, 2) := by decide +kernel
theorem dX9_scan_29 : decode cX9_scan 29 = .ok (.bipush 32, 2) := by decide +kernel
theorem dX9_scan_31 : decode cX9_scan 31 = .ok (.if_icmp .eq 38, 3) := by decide +kernel
theorem dX9_scan_34 : decode cX9_scan 34 = .ok (.iload 4, 2) := by decide +kernel
theorem dX9_scan_36 : decode cX9_scan 36 = .ok (.bipush 9, 2) := by decide +kernel
theorem dX9_scan_38 : decode cX9_scan 38 = .ok (.if_icmp .eq 31, 3) := by decide +kernel
theorem dX9_scan_41 : decode cX9_scan 41 = .ok (.iload 4, 2) := by decide +kernel
theorem dX9_scan_43 : decode cX9_scan 43 = .ok (.bipush 10, 2) := by decide +kernel
theorem dX9_scan_45 : decode cX9_scan 45 = .ok (.if_icmp .eq 24, 3) := by decide +kernel
theorem dX9_scan_48 : decode cX9_scan 48 = .ok (.iload 4, 2) := by decide +kernel
theorem dX9_scan_50 : decode cX9_scan 50 = .ok (.bipush 13, 2) := by decide +kernel
theorem dX9_scan_52 : decode cX9_scan 52 = .ok (.if_icmp .eq 17, 3) := by decide +kernel
theorem dX9_scan_55 : decode cX9_scan 55 = .ok (.iload_n 3, 1) := by decide +kernel
theorem dX9_scan_56 : decode cX9_scan 56 = .ok (.aload_n 0, 1) := by decide +kernel
theorem dX9_scan_57 : decode cX9_scan 57 = .ok (.aload_n 1, 1) := by decide +kernel
theorem dX9_scan_58 : decode cX9_scan 58 = .ok (.iload_n 2, 1) := by decide +kernel
theorem dX9_scan_59 : decode cX9_scan 59 = .ok (.iload_n 3, 1) := by decide +kernel
theorem dX9_scan_60 : decode cX9_scan 60 = .ok (.invokevirtual 47, 3) := by decide +kernel
theorem dX9_scan_63 : decode cX9_scan 63 = .ok (.iconst 1, 1) := by decide +kernel
theorem dX9_scan_64 : decode cX9_scan 64 = .ok (.isub, 1) := by decide +kernel
theorem dX9_scan_65 : decode cX9_scan 65 = .ok (.invokestatic 51, 3) := by decide +kernel
theorem dX9_scan_68 : decode cX9_scan 68 = .ok (.istore_n 3, 1) := by decide +kernel
theorem dX9_scan_69 : decode cX9_scan 69 = .ok (.iinc 3 1, 3) := by decide +kernel
theorem dX9_scan_72 : decode cX9_scan 72 = .ok (.goto (-65), 3) := by decide +kernel
theorem dX9_scan_75 : decode cX9_scan 75 = .ok (.aload_n 0, 1) := by decide +kernel
theorem dX9_scan_76 : decode cX9_scan 76 = .ok (.bipush 35, 2) := by decide +kernel
theorem dX9_scan_78 : decode cX9_scan 78 = .ok (.iload_n 2, 1) := by decide +kernel
theorem dX9_scan_79 : decode cX9_scan 79 = .ok (.lconst 0, 1) := by decide +kernel
theorem dX9_scan_80 : decode cX9_scan 80 = .ok (.invokevirtual 57, 3) := by decide +kernel
theorem dX9_scan_83 : decode cX9_scan 83 = .ok (.return_, 1) := by decide +kernel
theorem dX9_put_0 : decode cX9_put 0 = .ok (.aload_n 0, 1) := by decide +kernel
theorem dX9_put_1 : decode cX9_put 1 = .ok (.getfield 25, 3) := by decide +kernel
theorem dX9_put_4 : decode cX9_put 4 = .ok (.aload_n 0, 1) := by decide +kernel
theorem dX9_put_5 : decode cX9_put 5 = .ok (.getfield 9, 3) := by decide +kernel
theorem dX9_put_8 : decode cX9_put 8 = .ok (.arraylength, 1) := by decide +kernel
theorem dX9_put_9 : decode cX9_put 9 = .ok (.if_icmp .ge 43, 3) := by decide +kernel
theorem dX9_put_12 : decode cX9_put 12 = .ok (.aload_n 0, 1) := by decide +kernel
theorem dX9_put_13 : decode cX9_put 13 = .ok (.getfield 9, 3) := by decide +kernel
theorem dX9_put_16 : decode cX9_put 16 = .ok (.aload_n 0, 1) := by decide +kernel
theorem dX9_put_17 : decode cX9_put 17 = .ok (.getfield 25, 3) := by decide +kernel
theorem dX9_put_20 : decode cX9_put 20 = .ok (.iload_n 1, 1) := by decide +kernel
theorem dX9_put_21 : decode cX9_put 21 = .ok (.iastore, 1) := by decide +kernel
theorem dX9_put_22 : decode cX9_put 22 = .ok (.aload_n 0, 1) := by decide +kernel
theorem dX9_put_23 : decode cX9_put 23 = .ok (.getfield 15, 3) := by decide +kernel
theorem dX9_put_26 : decode cX9_put 26 = .ok (.aload_n 0, 1) := by decide +kernel
theorem dX9_put_27 : decode cX9_put 27 = .ok (.getfield 25, 3) := by decide +kernel
theorem dX9_put_30 : decode cX9_put 30 = .ok (.iload_n 2, 1) := by decide +kernel
theorem dX9_put_31 : decode cX9_put 31 = .ok (.iastore, 1) := by decide +kernel
theorem dX9_put_32 : decode cX9_put 32 = .ok (.aload_n 0, 1) := by decide +kernel
theorem dX9_put_33 : decode cX9_put 33 = .ok (.getfield 18, 3) := by decide +kernel
theorem dX9_put_36 : decode cX9_put 36 = .ok (.aload_n 0, 1) := by decide +kernel
theorem dX9_put_37 : decode cX9_put 37 = .ok (.getfield 25, 3) := by decide +kernel
theorem dX9_put_40 : decode cX9_put 40 = .ok (.lload_n 3, 1) := by decide +kernel
theorem dX9_put_41 : decode cX9_put 41 = .ok (.lastore, 1) := by decide +kernel
theorem dX9_put_42 : decode cX9_put 42 = .ok (.aload_n 0, 1) := by decide +kernel
theorem dX9_put_43 : decode cX9_put 43 = .ok (.dup, 1) := by decide +kernel
theorem dX9_put_44 : decode cX9_put 44 = .ok (.getfield 25, 3) := by decide +kernel
theorem dX9_put_47 : decode cX9_put 47 = .ok (.iconst 1, 1) := by decide +kernel
theorem dX9_put_48 : decode cX9_put 48 = .ok (.iadd, 1) := by decide +kernel
theorem dX9_put_49 : decode cX9_put 49 = .ok (.putfield 25, 3) := by decide +kernel
theorem dX9_put_52 : decode cX9_put 52 = .ok (.return_, 1) := by decide +kernel
theorem dX9_scanOne_0 : decode cX9_scanOne 0 = .ok (.aload_n 1, 1) := by decide +kernel
theorem dX9_scanOne_1 : decode cX9_scanOne 1 = .ok (.iload_n 3, 1) := by decide +kernel
theorem dX9_scanOne_2 : decode cX9_scanOne 2 = .ok (.baload, 1) := by decide +kernel
theorem dX9_scanOne_3 : decode cX9_scanOne 3 = .ok (.istore 4, 2) := by decide +kernel
theorem dX9_scanOne_5 : decode cX9_scanOne 5 = .ok (.iload 4, 2) := by decide +kernel
theorem dX9_scanOne_7 : decode cX9_scanOne 7 = .ok (.bipush 97, 2) := by decide +kernel
theorem dX9_scanOne_9 : decode cX9_scanOne 9 = .ok (.if_icmp .lt 18, 3) := by decide +kernel
theorem dX9_scanOne_12 : decode cX9_scanOne 12 = .ok (.iload 4, 2) := by decide +kernel
theorem dX9_scanOne_14 : decode cX9_scanOne 14 = .ok (.bipush 122, 2) := by decide +kernel
theorem dX9_scanOne_16 : decode cX9_scanOne 16 = .ok (.if_icmp .gt 11, 3) := by decide +kernel
theorem dX9_scanOne_19 : decode cX9_scanOne 19 = .ok (.aload_n 0, 1) := by decide +kernel
theorem dX9_scanOne_20 : decode cX9_scanOne 20 = .ok (.aload_n 1, 1) := by decide +kernel
theorem dX9_scanOne_21 : decode cX9_scanOne 21 = .ok (.iload_n 2, 1) := by decide +kernel
theorem dX9_scanOne_22 : decode cX9_scanOne 22 = .ok (.iload_n 3, 1) := by decide +kernel
theorem dX9_scanOne_23 : decode cX9_scanOne 23 = .ok (.invokevirtual 61, 3) := by decide +kernel
theorem dX9_scanOne_26 : decode cX9_scanOne 26 = .ok (.ireturn, 1) := by decide +kernel
theorem dX9_scanOne_27 : decode cX9_scanOne 27 = .ok (.iload 4, 2) := by decide +kernel
theorem dX9_scanOne_29 : decode cX9_scanOne 29 = .ok (.bipush 48, 2) := by decide +kernel
theorem dX9_scanOne_31 : decode cX9_scanOne 31 = .ok (.if_icmp .lt 18, 3) := by decide +kernel
theorem dX9_scanOne_34 : decode cX9_scanOne 34 = .ok (.iload 4, 2) := by decide +kernel
theorem dX9_scanOne_36 : decode cX9_scanOne 36 = .ok (.bipush 57, 2) := by decide +kernel
theorem dX9_scanOne_38 : decode cX9_scanOne 38 = .ok (.if_icmp .gt 11, 3) := by decide +kernel
theorem dX9_scanOne_41 : decode cX9_scanOne 41 = .ok (.aload_n 0, 1) := by decide +kernel
theorem dX9_scanOne_42 : decode cX9_scanOne 42 = .ok (.aload_n 1, 1) := by decide +kernel
theorem dX9_scanOne_43 : decode cX9_scanOne 43 = .ok (.iload_n 2, 1) := by decide +kernel
theorem dX9_scanOne_44 : decode cX9_scanOne 44 = .ok (.iload_n 3, 1) := by decide +kernel
theorem dX9_scanOne_45 : decode cX9_scanOne 45 = .ok (.invokevirtual 64, 3) := by decide +kernel
theorem dX9_scanOne_48 : decode cX9_scanOne 48 = .ok (.ireturn, 1) := by decide +kernel
theorem dX9_scanOne_49 : decode cX9_scanOne 49 = .ok (.iload_n 3, 1) := by decide +kernel
theorem dX9_scanOne_50 : decode cX9_scanOne 50 = .ok (.iconst 1, 1) := by decide +kernel
theorem dX9_scanOne_51 : decode cX9_scanOne 51 = .ok (.iadd, 1) := by decide +kernel
theorem dX9_scanOne_52 : decode cX9_scanOne 52 = .ok (.iload_n 2, 1) := by decide +kernel
theorem dX9_scanOne_53 : decode cX9_scanOne 53 = .ok (.if_icmp .ge 25, 3) := by decide +kernel
theorem dX9_scanOne_56 : decode cX9_scanOne 56 = .ok (.aload_n 1, 1) := by decide +kernel
theorem dX9_scanOne_57 : decode cX9_scanOne 57 = .ok (.iload_n 3, 1) := by decide +kernel
theorem dX9_scanOne_58 : decode cX9_scanOne 58 = .ok (.iconst 1, 1) := by decide +kernel
theorem dX9_scanOne_59 : decode cX9_scanOne 59 = .ok (.iadd, 1) := by decide +kernel
theorem dX9_scanOne_60 : decode cX9_scanOne 60 = .ok (.baload, 1) := by decide +kernel
theorem dX9_scanOne_61 : decode cX9_scanOne 61 = .ok (.bipush 61, 2) := by decide +kernel
theorem dX9_scanOne_63 : decode cX9_scanOne 63 = .ok (.if_icmp .ne 15, 3) := by decide +kernel
theorem dX9_scanOne_66 : decode cX9_scanOne 66 = .ok (.iload 4, 2) := by decide +kernel
theorem dX9_scanOne_68 : decode cX9_scanOne 68 = .ok (.invokestatic 67, 3) := by decide +kernel
theorem dX9_scanOne_71 : decode cX9_scanOne 71 = .ok (.ifCond .eq 7, 3) := by decide +kernel
theorem dX9_scanOne_74 : decode cX9_scanOne 74 = .ok (.iconst 1, 1) := by decide +kernel
theorem dX9_scanOne_75 : decode cX9_scanOne 75 = .ok (.goto 4, 3) := by decide +kernel
theorem dX9_scanOne_78 : decode cX9_scanOne 78 = .ok (.iconst 0, 1) := by decide +kernel
theorem dX9_scanOne_79 : decode cX9_scanOne 79 = .ok (.istore 5, 2) := by decide +kernel
theorem dX9_scanOne_81 : decode cX9_scanOne 81 = .ok (.aload_n 0, 1) := by decide +kernel
theorem dX9_scanOne_82 : decode cX9_scanOne 82 = .ok (.iload 5, 2) := by decide +kernel
theorem dX9_scanOne_84 : decode cX9_scanOne 84 = .ok (.ifCond .eq 11, 3) := by decide +kernel
theorem dX9_scanOne_87 : decode cX9_scanOne 87 = .ok (.iload 4, 2) := by decide +kernel
theorem dX9_scanOne_89 : decode cX9_scanOne 89 = .ok (.invokestatic 71, 3) := by decide +kernel
theorem dX9_scanOne_92 : decode cX9_scanOne 92 = .ok (.goto 8, 3) := by decide +kernel
theorem dX9_scanOne_95 : decode cX9_scanOne 95 = .ok (.iload 4, 2) := by decide +kernel
theorem dX9_scanOne_97 : decode cX9_scanOne 97 = .ok (.invokestatic 75, 3) := by decide +kernel
theorem dX9_scanOne_100 : decode cX9_scanOne 100 = .ok (.iload_n 3, 1) := by decide +kernel
theorem dX9_scanOne_101 : decode cX9_scanOne 101 = .ok (.lconst 0, 1) := by decide +kernel
theorem dX9_scanOne_102 : decode cX9_scanOne 102 = .ok (.invokevirtual 57, 3) := by decide +kernel
theorem dX9_scanOne_105 : decode cX9_scanOne 105 = .ok (.iload 5, 2) := by decide +kernel
theorem dX9_scanOne_107 : decode cX9_scanOne 107 = .ok (.ifCond .eq 9, 3) := by decide +kernel
theorem dX9_scanOne_110 : decode cX9_scanOne 110 = .ok (.iload_n 3, 1) := by decide +kernel
theorem dX9_scanOne_111 : decode cX9_scanOne 111 = .ok (.iconst 2, 1) := by decide +kernel
theorem dX9_scanOne_112 : decode cX9_scanOne 112 = .ok (.iadd, 1) := by decide +kernel
theorem dX9_scanOne_113 : decode cX9_scanOne 113 = .ok (.goto 6, 3) := by decide +kernel
theorem dX9_scanOne_116 : decode cX9_scanOne 116 = .ok (.iload_n 3, 1) := by decide +kernel
theorem dX9_scanOne_117 : decode cX9_scanOne 117 = .ok (.iconst 1, 1) := by decide +kernel
theorem dX9_scanOne_118 : decode cX9_scanOne 118 = .ok (.iadd, 1) := by decide +kernel
theorem dX9_scanOne_119 : decode cX9_scanOne 119 = .ok (.ireturn, 1) := by decide +kernel
theorem dX9_endOfRun_0 : decode cX9_endOfRun 0 = .ok (.iload_n 2, 1) := by decide +kernel
theorem dX9_endOfRun_1 : decode cX9_endOfRun 1 = .ok (.istore 5, 2) := by decide +kernel
theorem dX9_endOfRun_3 : decode cX9_endOfRun 3 = .ok (.iload 5, 2) := by decide +kernel
theorem dX9_endOfRun_5 : decode cX9_endOfRun 5 = .ok (.iload_n 1, 1) := by decide +kernel
theorem dX9_endOfRun_6 : decode cX9_endOfRun 6 = .ok (.if_icmp .ge 26, 3) := by decide +kernel
theorem dX9_endOfRun_9 : decode cX9_endOfRun 9 = .ok (.aload_n 0, 1) := by decide +kernel
theorem dX9_endOfRun_10 : decode cX9_endOfRun 10 = .ok (.iload 5, 2) := by decide +kernel
theorem dX9_endOfRun_12 : decode cX9_endOfRun 12 = .ok (.baload, 1) := by decide +kernel
theorem dX9_endOfRun_13 : decode cX9_endOfRun 13 = .ok (.iload_n 3, 1) := by decide +kernel
theorem dX9_endOfRun_14 : decode cX9_endOfRun 14 = .ok (.if_icmp .lt 18, 3) := by decide +kernel
theorem dX9_endOfRun_17 : decode cX9_endOfRun 17 = .ok (.aload_n 0, 1) := by decide +kernel
theorem dX9_endOfRun_18 : decode cX9_endOfRun 18 = .ok (.iload 5, 2) := by decide +kernel
theorem dX9_endOfRun_20 : decode cX9_endOfRun 20 = .ok (.baload, 1) := by decide +kernel
theorem dX9_endOfRun_21 : decode cX9_endOfRun 21 = .ok (.iload 4, 2) := by decide +kernel
theorem dX9_endOfRun_23 : decode cX9_endOfRun 23 = .ok (.if_icmp .gt 9, 3) := by decide +kernel
theorem dX9_endOfRun_26 : decode cX9_endOfRun 26 = .ok (.iinc 5 1, 3) := by decide +kernel
theorem dX9_endOfRun_29 : decode cX9_endOfRun 29 = .ok (.goto (-26), 3) := by decide +kernel
theorem dX9_endOfRun_32 : decode cX9_endOfRun 32 = .ok (.iload 5, 2) := by decide +kernel
theorem dX9_endOfRun_34 : decode cX9_endOfRun 34 = .ok (.ireturn, 1) := by decide +kernel
theorem dX9_scanWord_0 : decode cX9_scanWord 0 = .ok (.aload_n 1, 1) := by decide +kernel
theorem dX9_scanWord_1 : decode cX9_scanWord 1 = .ok (.iload_n 2, 1) := by decide +kernel
theorem dX9_scanWord_2 : decode cX9_scanWord 2 = .ok (.iload_n 3, 1) := by decide +kernel
theorem dX9_scanWord_3 : decode cX9_scanWord 3 = .ok (.bipush 97, 2) := by decide +kernel
theorem dX9_scanWord_5 : decode cX9_scanWord 5 = .ok (.bipush 122, 2) := by decide +kernel
theorem dX9_scanWord_7 : decode cX9_scanWord 7 = .ok (.invokestatic 78, 3) := by decide +kernel
theorem dX9_scanWord_10 : decode cX9_scanWord 10 = .ok (.istore 4, 2) := by decide +kernel
theorem dX9_scanWord_12 : decode cX9_scanWord 12 = .ok (.iload 4, 2) := by decide +kernel
theorem dX9_scanWord_14 : decode cX9_scanWord 14 = .ok (.iload_n 3, 1) := by decide +kernel
theorem dX9_scanWord_15 : decode cX9_scanWord 15 = .ok (.isub, 1) := by decide +kernel
theorem dX9_scanWord_16 : decode cX9_scanWord 16 = .ok (.bipush 8, 2) := by decide +kernel
theorem dX9_scanWord_18 : decode cX9_scanWord 18 = .ok (.if_icmp .le 14, 3) := by decide +kernel
theorem dX9_scanWord_21 : decode cX9_scanWord 21 = .ok (.aload_n 0, 1) := by decide +kernel
theorem dX9_scanWord_22 : decode cX9_scanWord 22 = .ok (.bipush 34, 2) := by decide +kernel
theorem dX9_scanWord_24 : decode cX9_scanWord 24 = .ok (.iload_n 3, 1) := by decide +kernel
theorem dX9_scanWord_25 : decode cX9_scanWord 25 = .ok (.lconst 0, 1) := by decide +kernel
theorem dX9_scanWord_26 : decode cX9_scanWord 26 = .ok (.invokevirtual 57, 3) := by decide +kernel
theorem dX9_scanWord_29 : decode cX9_scanWord 29 = .ok (.iload 4, 2) := by decide +kernel
theorem dX9_scanWord_31 : decode cX9_scanWord 31 = .ok (.ireturn, 1) := by decide +kernel
theorem dX9_scanWord_32 : decode cX9_scanWord 32 = .ok (.lconst 0, 1) := by decide +kernel
theorem dX9_scanWord_33 : decode cX9_scanWord 33 = .ok (.lstore 5, 2) := by decide +kernel
theorem dX9_scanWord_35 : decode cX9_scanWord 35 = .ok (.iload_n 3, 1) := by decide +kernel
theorem dX9_scanWord_36 : decode cX9_scanWord 36 = .ok (.istore 7, 2) := by decide +kernel
theorem dX9_scanWord_38 : decode cX9_scanWord 38 = .ok (.iload 7, 2) := by decide +kernel
theorem dX9_scanWord_40 : decode cX9_scanWord 40 = .ok (.iload 4, 2) := by decide +kernel
theorem dX9_scanWord_42 : decode cX9_scanWord 42 = .ok (.if_icmp .ge 20, 3) := by decide +kernel
theorem dX9_scanWord_45 : decode cX9_scanWord 45 = .ok (.lload 5, 2) := by decide +kernel
theorem dX9_scanWord_47 : decode cX9_scanWord 47 = .ok (.aload_n 1, 1) := by decide +kernel
theorem dX9_scanWord_48 : decode cX9_scanWord 48 = .ok (.iload 7, 2) := by decide +kernel
theorem dX9_scanWord_50 : decode cX9_scanWord 50 = .ok (.baload, 1) := by decide +kernel
theorem dX9_scanWord_51 : decode cX9_scanWord 51 = .ok (.invokestatic 41, 3) := by decide +kernel
theorem dX9_scanWord_54 : decode cX9_scanWord 54 = .ok (.lstore 5, 2) := by decide +kernel
theorem dX9_scanWord_56 : decode cX9_scanWord 56 = .ok (.iinc 7 1, 3) := by decide +kernel
theorem dX9_scanWord_59 : decode cX9_scanWord 59 = .ok (.goto (-21), 3) := by decide +kernel
theorem dX9_scanWord_62 : decode cX9_scanWord 62 = .ok (.bipush 20, 2) := by decide +kernel
theorem dX9_scanWord_64 : decode cX9_scanWord 64 = .ok (.istore 7, 2) := by decide +kernel
theorem dX9_scanWord_66 : decode cX9_scanWord 66 = .ok (.iconst 0, 1) := by decide +kernel
theorem dX9_scanWord_67 : decode cX9_scanWord 67 = .ok (.istore 8, 2) := by decide +kernel
theorem dX9_scanWord_69 : decode cX9_scanWord 69 = .ok (.iload 8, 2) := by decide +kernel
theorem dX9_scanWord_71 : decode cX9_scanWord 71 = .ok (.bipush 20, 2) := by decide +kernel
theorem dX9_scanWord_73 : decode cX9_scanWord 73 = .ok (.if_icmp .ge 26, 3) := by decide +kernel
theorem dX9_scanWord_76 : decode cX9_scanWord 76 = .ok (.aload_n 0, 1) := by decide +kernel
theorem dX9_scanWord_77 : decode cX9_scanWord 77 = .ok (.getfield 22, 3) := by decide +kernel
theorem dX9_scanWord_80 : decode cX9_scanWord 80 = .ok (.iload 8, 2) := by decide +kernel
theorem dX9_scanWord_82 : decode cX9_scanWord 82 = .ok (.laload, 1) := by decide +kernel
theorem dX9_scanWord_83 : decode cX9_scanWord 83 = .ok (.lload 5, 2) := by decide +kernel
theorem dX9_scanWord_85 : decode cX9_scanWord 85 = .ok (.lcmp, 1) := by decide +kernel
theorem dX9_scanWord_86 : decode cX9_scanWord 86 = .ok (.ifCond .ne 7, 3) := by decide +kernel
theorem dX9_scanWord_89 : decode cX9_scanWord 89 = .ok (.iload 8, 2) := by decide +kernel
theorem dX9_scanWord_91 : decode cX9_scanWord 91 = .ok (.istore 7, 2) := by decide +kernel
theorem dX9_scanWord_93 : decode cX9_scanWord 93 = .ok (.iinc 8 1, 3) := by decide +kernel
theorem dX9_scanWord_96 : decode cX9_scanWord 96 = .ok (.goto (-27), 3) := by decide +kernel
theorem dX9_scanWord_99 : decode cX9_scanWord 99 = .ok (.aload_n 0, 1) := by decide +kernel
theorem dX9_scanWord_100 : decode cX9_scanWord 100 = .ok (.iload 7, 2) := by decide +kernel
theorem dX9_scanWord_102 : decode cX9_scanWord 102 = .ok (.iload_n 3, 1) := by decide +kernel
theorem dX9_scanWord_103 : decode cX9_scanWord 103 = .ok (.lload 5, 2) := by decide +kernel
theorem dX9_scanWord_105 : decode cX9_scanWord 105 = .ok (.invokevirtual 57, 3) := by decide +kernel
theorem dX9_scanWord_108 : decode cX9_scanWord 108 = .ok (.iload 4, 2) := by decide +kernel
theorem dX9_scanWord_110 : decode cX9_scanWord 110 = .ok (.ireturn, 1) := by decide +kernel
theorem dX9_scanInt_0 : decode cX9_scanInt 0 = .ok (.aload_n 1, 1) := by decide +kernel
theorem dX9_scanInt_1 : decode cX9_scanInt 1 = .ok (.iload_n 2, 1) := by decide +kernel
theorem dX9_scanInt_2 : decode cX9_scanInt 2 = .ok (.iload_n 3, 1) := by decide +kernel
theorem dX9_scanInt_3 : decode cX9_scanInt 3 = .ok (.bipush 48, 2) := by decide +kernel
theorem dX9_scanInt_5 : decode cX9_scanInt 5 = .ok (.bipush 57, 2) := by decide +kernel
theorem dX9_scanInt_7 : decode cX9_scanInt 7 = .ok (.invokestatic 78, 3) := by decide +kernel
theorem dX9_scanInt_10 : decode cX9_scanInt 10 = .ok (.istore 4, 2) := by decide +kernel
theorem dX9_scanInt_12 : decode cX9_scanInt 12 = .ok (.iload 4, 2) := by decide +kernel
theorem dX9_scanInt_14 : decode cX9_scanInt 14 = .ok (.iload_n 3, 1) := by decide +kernel
theorem dX9_scanInt_15 : decode cX9_scanInt 15 = .ok (.isub, 1) := by decide +kernel
theorem dX9_scanInt_16 : decode cX9_scanInt 16 = .ok (.iconst 4, 1) := by decide +kernel
theorem dX9_scanInt_17 : decode cX9_scanInt 17 = .ok (.if_icmp .le 14, 3) := by decide +kernel
theorem dX9_scanInt_20 : decode cX9_scanInt 20 = .ok (.aload_n 0, 1) := by decide +kernel
theorem dX9_scanInt_21 : decode cX9_scanInt 21 = .ok (.bipush 34, 2) := by decide +kernel
theorem dX9_scanInt_23 : decode cX9_scanInt 23 = .ok (.iload_n 3, 1) := by decide +kernel
theorem dX9_scanInt_24 : decode cX9_scanInt 24 = .ok (.lconst 0, 1) := by decide +kernel
theorem dX9_scanInt_25 : decode cX9_scanInt 25 = .ok (.invokevirtual 57, 3) := by decide +kernel
theorem dX9_scanInt_28 : decode cX9_scanInt 28 = .ok (.iload 4, 2) := by decide +kernel
theorem dX9_scanInt_30 : decode cX9_scanInt 30 = .ok (.ireturn, 1) := by decide +kernel
theorem dX9_scanInt_31 : decode cX9_scanInt 31 = .ok (.iconst 0, 1) := by decide +kernel
theorem dX9_scanInt_32 : decode cX9_scanInt 32 = .ok (.istore 5, 2) := by decide +kernel
theorem dX9_scanInt_34 : decode cX9_scanInt 34 = .ok (.iload_n 3, 1) := by decide +kernel
theorem dX9_scanInt_35 : decode cX9_scanInt 35 = .ok (.istore 6, 2) := by decide +kernel
theorem dX9_scanInt_37 : decode cX9_scanInt 37 = .ok (.iload 6, 2) := by decide +kernel
theorem dX9_scanInt_39 : decode cX9_scanInt 39 = .ok (.iload 4, 2) := by decide +kernel
theorem dX9_scanInt_41 : decode cX9_scanInt 41 = .ok (.if_icmp .ge 24, 3) := by decide +kernel
theorem dX9_scanInt_44 : decode cX9_scanInt 44 = .ok (.iload 5, 2) := by decide +kernel
theorem dX9_scanInt_46 : decode cX9_scanInt 46 = .ok (.bipush 10, 2) := by decide +kernel
theorem dX9_scanInt_48 : decode cX9_scanInt 48 = .ok (.imul, 1) := by decide +kernel
theorem dX9_scanInt_49 : decode cX9_scanInt 49 = .ok (.aload_n 1, 1) := by decide +kernel
theorem dX9_scanInt_50 : decode cX9_scanInt 50 = .ok (.iload 6, 2) := by decide +kernel
theorem dX9_scanInt_52 : decode cX9_scanInt 52 = .ok (.baload, 1) := by decide +kernel
theorem dX9_scanInt_53 : decode cX9_scanInt 53 = .ok (.bipush 48, 2) := by decide +kernel
theorem dX9_scanInt_55 : decode cX9_scanInt 55 = .ok (.isub, 1) := by decide +kernel
theorem dX9_scanInt_56 : decode cX9_scanInt 56 = .ok (.iadd, 1) := by decide +kernel
theorem dX9_scanInt_57 : decode cX9_scanInt 57 = .ok (.istore 5, 2) := by decide +kernel
theorem dX9_scanInt_59 : decode cX9_scanInt 59 = .ok (.iinc 6 1, 3) := by decide +kernel
theorem dX9_scanInt_62 : decode cX9_scanInt 62 = .ok (.goto (-25), 3) := by decide +kernel
theorem dX9_scanInt_65 : decode cX9_scanInt 65 = .ok (.aload_n 0, 1) := by decide +kernel
theorem dX9_scanInt_66 : decode cX9_scanInt 66 = .ok (.bipush 21, 2) := by decide +kernel
theorem dX9_scanInt_68 : decode cX9_scanInt 68 = .ok (.iload_n 3, 1) := by decide +kernel
theorem dX9_scanInt_69 : decode cX9_scanInt 69 = .ok (.iload 5, 2) := by decide +kernel
theorem dX9_scanInt_71 : decode cX9_scanInt 71 = .ok (.i2l, 1) := by decide +kernel
theorem dX9_scanInt_72 : decode cX9_scanInt 72 = .ok (.invokevirtual 57, 3) := by decide +kernel
theorem dX9_scanInt_75 : decode cX9_scanInt 75 = .ok (.iload 4, 2) := by decide +kernel
theorem dX9_scanInt_77 : decode cX9_scanInt 77 = .ok (.ireturn, 1) := by decide +kernel
theorem dX9_isBeforeEqual_0 : decode cX9_isBeforeEqual 0 = .ok (.iload_n 0, 1) := by decide +kernel
theorem dX9_isBeforeEqual_1 : decode cX9_isBeforeEqual 1 = .ok (.bipush 61, 2) := by decide +kernel
theorem dX9_isBeforeEqual_3 : decode cX9_isBeforeEqual 3 = .ok (.if_icmp .eq 15, 3) := by decide +kernel
theorem dX9_isBeforeEqual_6 : decode cX9_isBeforeEqual 6 = .ok (.iload_n 0, 1) := by decide +kernel
theorem dX9_isBeforeEqual_7 : decode cX9_isBeforeEqual 7 = .ok (.bipush 33, 2) := by decide +kernel
theorem dX9_isBeforeEqual_9 : decode cX9_isBeforeEqual 9 = .ok (.if_icmp .eq 9, 3) := by decide +kernel
theorem dX9_isBeforeEqual_12 : decode cX9_isBeforeEqual 12 = .ok (.iload_n 0, 1) := by decide +kernel
theorem dX9_isBeforeEqual_13 : decode cX9_isBeforeEqual 13 = .ok (.bipush 60, 2) := by decide +kernel
theorem dX9_isBeforeEqual_15 : decode cX9_isBeforeEqual 15 = .ok (.if_icmp .ne 7, 3) := by decide +kernel
theorem dX9_isBeforeEqual_18 : decode cX9_isBeforeEqual 18 = .ok (.iconst 1, 1) := by decide +kernel
theorem dX9_isBeforeEqual_19 : decode cX9_isBeforeEqual 19 = .ok (.goto 4, 3) := by decide +kernel
theorem dX9_isBeforeEqual_22 : decode cX9_isBeforeEqual 22 = .ok (.iconst 0, 1) := by decide +kernel
theorem dX9_isBeforeEqual_23 : decode cX9_isBeforeEqual 23 = .ok (.ireturn, 1) := by decide +kernel
theorem dX9_longSign_0 : decode cX9_longSign 0 = .ok (.iload_n 0, 1) := by decide +kernel
theorem dX9_longSign_1 : decode cX9_longSign 1 = .ok (.bipush 60, 2) := by decide +kernel
theorem dX9_longSign_3 : decode cX9_longSign 3 = .ok (.if_icmp .ne 6, 3) := by decide +kernel
theorem dX9_longSign_6 : decode cX9_longSign 6 = .ok (.bipush 31, 2) := by decide +kernel
theorem dX9_longSign_8 : decode cX9_longSign 8 = .ok (.ireturn, 1) := by decide +kernel
theorem dX9_longSign_9 : decode cX9_longSign 9 = .ok (.iload_n 0, 1) := by decide +kernel
theorem dX9_longSign_10 : decode cX9_longSign 10 = .ok (.bipush 61, 2) := by decide +kernel
theorem dX9_longSign_12 : decode cX9_longSign 12 = .ok (.if_icmp .ne 8, 3) := by decide +kernel
theorem dX9_longSign_15 : decode cX9_longSign 15 = .ok (.bipush 28, 2) := by decide +kernel
theorem dX9_longSign_17 : decode cX9_longSign 17 = .ok (.goto 5, 3) := by decide +kernel
theorem dX9_longSign_20 : decode cX9_longSign 20 = .ok (.bipush 29, 2) := by decide +kernel
theorem dX9_longSign_22 : decode cX9_longSign 22 = .ok (.ireturn, 1) := by decide +kernel
theorem dX9_shortSign_0 : decode cX9_shortSign 0 = .ok (.iload_n 0, 1) := by decide +kernel
theorem dX9_shortSign_1 : decode cX9_shortSign 1 = .ok (.tableswitch 126 40 60 #[120, 123, 111, 105, 102, 108, 126, 114, 126, 126, 126, 126, 126, 126, 126, 126, 126, 126, 126, 99, 117], 99) := by decide +kernel
theorem dX9_shortSign_100 : decode cX9_shortSign 100 = .ok (.bipush 22, 2) := by decide +kernel
theorem dX9_shortSign_102 : decode cX9_shortSign 102 = .ok (.ireturn, 1) := by decide +kernel
theorem dX9_shortSign_103 : decode cX9_shortSign 103 = .ok (.bipush 23, 2) := by decide +kernel
theorem dX9_shortSign_105 : decode cX9_shortSign 105 = .ok (.ireturn, 1) := by decide +kernel
theorem dX9_shortSign_106 : decode cX9_shortSign 106 = .ok (.bipush 24, 2) := by decide +kernel
theorem dX9_shortSign_108 : decode cX9_shortSign 108 = .ok (.ireturn, 1) := by decide +kernel
theorem dX9_shortSign_109 : decode cX9_shortSign 109 = .ok (.bipush 25, 2) := by decide +kernel
theorem dX9_shortSign_111 : decode cX9_shortSign 111 = .ok (.ireturn, 1) := by decide +kernel
theorem dX9_shortSign_112 : decode cX9_shortSign 112 = .ok (.bipush 26, 2) := by decide +kernel
theorem dX9_shortSign_114 : decode cX9_shortSign 114 = .ok (.ireturn, 1) := by decide +kernel
theorem dX9_shortSign_115 : decode cX9_shortSign 115 = .ok (.bipush 27, 2) := by decide +kernel
theorem dX9_shortSign_117 : decode cX9_shortSign 117 = .ok (.ireturn, 1) := by decide +kernel
theorem dX9_shortSign_118 : decode cX9_shortSign 118 = .ok (.bipush 30, 2) := by decide +kernel
theorem dX9_shortSign_120 : decode cX9_shortSign 120 = .ok (.ireturn, 1) := by decide +kernel
theorem dX9_shortSign_121 : decode cX9_shortSign 121 = .ok (.bipush 32, 2) := by decide +kernel
theorem dX9_shortSign_123 : decode cX9_shortSign 123 = .ok (.ireturn, 1) := by decide +kernel
theorem dX9_shortSign_124 : decode cX9_shortSign 124 = .ok (.bipush 33, 2) := by decide +kernel
theorem dX9_shortSign_126 : decode cX9_shortSign 126 = .ok (.ireturn, 1) := by decide +kernel
theorem dX9_shortSign_127 : decode cX9_shortSign 127 = .ok (.bipush 34, 2) := by decide +kernel
theorem dX9_shortSign_129 : decode cX9_shortSign 129 = .ok (.ireturn, 1) := by decide +kernel
theorem dX10_init_0 : decode cX10_init 0 = .ok (.aload_n 0, 1) := by decide +kernel
theorem dX10_init_1 : decode cX10_init 1 = .ok (.invokespecial 3, 3) := by decide +kernel
theorem dX10_init_4 : decode cX10_init 4 = .ok (.aload_n 0, 1) := by decide +kernel
theorem dX10_init_5 : decode cX10_init 5 = .ok (.bipush 11, 2) := by decide +kernel
theorem dX10_init_7 : decode cX10_init 7 = .ok (.newarray .int, 2) := by decide +kernel
theorem dX10_init_9 : decode cX10_init 9 = .ok (.putfield 9, 3) := by decide +kernel
theorem dX10_init_12 : decode cX10_init 12 = .ok (.aload_n 0, 1) := by decide +kernel
theorem dX10_init_13 : decode cX10_init 13 = .ok (.bipush 10, 2) := by decide +kernel
theorem dX10_init_15 : decode cX10_init 15 = .ok (.newarray .int, 2) := by decide +kernel
theorem dX10_init_17 : decode cX10_init 17 = .ok (.putfield 15, 3) := by decide +kernel
theorem dX10_init_20 : decode cX10_init 20 = .ok (.aload_n 0, 1) := by decide +kernel
theorem dX10_init_21 : decode cX10_init 21 = .ok (.bipush 10, 2) := by decide +kernel
theorem dX10_init_23 : decode cX10_init 23 = .ok (.newarray .int, 2) := by decide +kernel
theorem dX10_init_25 : decode cX10_init 25 = .ok (.putfield 18, 3) := by decide +kernel
theorem dX10_init_28 : decode cX10_init 28 = .ok (.aload_n 0, 1) := by decide +kernel
theorem dX10_init_29 : decode cX10_init 29 = .ok (.bipush 6, 2) := by decide +kernel
theorem dX10_init_31 : decode cX10_init 31 = .ok (.newarray .int, 2) := by decide +kernel
theorem dX10_init_33 : decode cX10_init 33 = .ok (.putfield 21, 3) := by decide +kernel
theorem dX10_init_36 : decode cX10_init 36 = .ok (.aload_n 0, 1) := by decide +kernel
theorem dX10_init_37 : decode cX10_init 37 = .ok (.bipush 6, 2) := by decide +kernel
theorem dX10_init_39 : decode cX10_init 39 = .ok (.newarray .int, 2) := by decide +kernel
theorem dX10_init_41 : decode cX10_init 41 = .ok (.putfield 24, 3) := by decide +kernel
theorem dX10_init_44 : decode cX10_init 44 = .ok (.aload_n 0, 1) := by decide +kernel
theorem dX10_init_45 : decode cX10_init 45 = .ok (.bipush 10, 2) := by decide +kernel
theorem dX10_init_47 : decode cX10_init 47 = .ok (.newarray .int, 2) := by decide +kernel
theorem dX10_init_49 : decode cX10_init 49 = .ok (.putfield 27, 3) := by decide +kernel
theorem dX10_init_52 : decode cX10_init 52 = .ok (.aload_n 0, 1) := by decide +kernel
theorem dX10_init_53 : decode cX10_init 53 = .ok (.bipush 12, 2) := by decide +kernel
theorem dX10_init_55 : decode cX10_init 55 = .ok (.newarray .int, 2) := by decide +kernel
theorem dX10_init_57 : decode cX10_init 57 = .ok (.putfield 30, 3) := by decide +kernel
theorem dX10_init_60 : decode cX10_init 60 = .ok (.aload_n 0, 1) := by decide +kernel
theorem dX10_init_61 : decode cX10_init 61 = .ok (.bipush 12, 2) := by decide +kernel
theorem dX10_init_63 : decode cX10_init 63 = .ok (.newarray .int, 2) := by decide +kernel
theorem dX10_init_65 : decode cX10_init 65 = .ok (.putfield 33, 3) := by decide +kernel
theorem dX10_init_68 : decode cX10_init 68 = .ok (.aload_n 0, 1) := by decide +kernel
theorem dX10_init_69 : decode cX10_init 69 = .ok (.bipush 12, 2) := by decide +kernel
theorem dX10_init_71 : decode cX10_init 71 = .ok (.newarray .int, 2) := by decide +kernel
theorem dX10_init_73 : decode cX10_init 73 = .ok (.putfield 36, 3) := by decide +kernel
theorem dX10_init_76 : decode cX10_init 76 = .ok (.aload_n 0, 1) := by decide +kernel
theorem dX10_init_77 : decode cX10_init 77 = .ok (.bipush 6, 2) := by decide +kernel
theorem dX10_init_79 : decode cX10_init 79 = .ok (.newarray .int, 2) := by decide +kernel
theorem dX10_init_81 : decode cX10_init 81 = .ok (.putfield 39, 3) := by decide +kernel
theorem dX10_init_84 : decode cX10_init 84 = .ok (.aload_n 0, 1) := by decide +kernel
theorem dX10_init_85 : decode cX10_init 85 = .ok (.bipush 6, 2) := by decide +kernel
theorem dX10_init_87 : decode cX10_init 87 = .ok (.newarray .int, 2) := by decide +kernel
theorem dX10_init_89 : decode cX10_init 89 = .ok (.putfield 42, 3) := by decide +kernel
theorem dX10_init_92 : decode cX10_init 92 = .ok (.aload_n 0, 1) := by decide +kernel
theorem dX10_init_93 : decode cX10_init 93 = .ok (.iconst 4, 1) := by decide +kernel
theorem dX10_init_94 : decode cX10_init 94 = .ok (.newarray .int, 2) := by decide +kernel
theorem dX10_init_96 : decode cX10_init 96 = .ok (.putfield 45, 3) := by decide +kernel
theorem dX10_init_99 : decode cX10_init 99 = .ok (.aload_n 0, 1) := by decide +kernel
theorem dX10_init_100 : decode cX10_init 100 = .ok (.new 48, 3) := by decide +kernel
theorem dX10_init_103 : decode cX10_init 103 = .ok (.dup, 1) := by decide +kernel
theorem dX10_init_104 : decode cX10_init 104 = .ok (.invokespecial 50, 3) := by decide +kernel
theorem dX10_init_107 : decode cX10_init 107 = .ok (.putfield 51, 3) := by decide +kernel
theorem dX10_init_110 : decode cX10_init 110 = .ok (.aload_n 0, 1) := by decide +kernel
theorem dX10_init_111 : decode cX10_init 111 = .ok (.sipush 240, 3) := by decide +kernel
theorem dX10_init_114 : decode cX10_init 114 = .ok (.newarray .int, 2) := by decide +kernel
theorem dX10_init_116 : decode cX10_init 116 = .ok (.putfield 55, 3) := by decide +kernel
theorem dX10_init_119 : decode cX10_init 119 = .ok (.aload_n 0, 1) := by decide +kernel
theorem dX10_init_120 : decode cX10_init 120 = .ok (.sipush 144, 3) := by decide +kernel
theorem dX10_init_123 : decode cX10_init 123 = .ok (.newarray .int, 2) := by decide +kernel
theorem dX10_init_125 : decode cX10_init 125 = .ok (.putfield 58, 3) := by decide +kernel
theorem dX10_init_128 : decode cX10_init 128 = .ok (.aload_n 0, 1) := by decide +kernel
theorem dX10_init_129 : decode cX10_init 129 = .ok (.sipush 144, 3) := by decide +kernel
theorem dX10_init_132 : decode cX10_init 132 = .ok (.newarray .int, 2) := by decide +kernel
theorem dX10_init_134 : decode cX10_init 134 = .ok (.putfield 61, 3) := by decide +kernel
theorem dX10_init_137 : decode cX10_init 137 = .ok (.aload_n 0, 1) := by decide +kernel
theorem dX10_init_138 : decode cX10_init 138 = .ok (.sipush 240, 3) := by decide +kernel
theorem dX10_init_141 : decode cX10_init 141 = .ok (.newarray .int, 2) := by decide +kernel
theorem dX10_init_143 : decode cX10_init 143 = .ok (.putfield 64, 3) := by decide +kernel
theorem dX10_init_146 : decode cX10_init 146 = .ok (.aload_n 0, 1) := by decide +kernel
theorem dX10_init_147 : decode cX10_init 147 = .ok (.invokevirtual 67, 3) := by decide +kernel
theorem dX10_init_150 : decode cX10_init 150 = .ok (.return_, 1) := by decide +kernel
theorem dX10_clear_0 : decode cX10_clear 0 = .ok (.aload_n 0, 1) := by decide +kernel
theorem dX10_clear_1 : decode cX10_clear 1 = .ok (.getfield 9, 3) := by decide +kernel
theorem dX10_clear_4 : decode cX10_clear 4 = .ok (.iconst 0, 1) := by decide +kernel
theorem dX10_clear_5 : decode cX10_clear 5 = .ok (.invokestatic 70, 3) := by decide +kernel
theorem dX10_clear_8 : decode cX10_clear 8 = .ok (.aload_n 0, 1) := by decide +kernel
theorem dX10_clear_9 : decode cX10_clear 9 = .ok (.getfield 24, 3) := by decide +kernel
theorem dX10_clear_12 : decode cX10_clear 12 = .ok (.iconst 0, 1) := by decide +kernel
theorem dX10_clear_13 : decode cX10_clear 13 = .ok (.invokestatic 70, 3) := by decide +kernel
theorem dX10_clear_16 : decode cX10_clear 16 = .ok (.aload_n 0, 1) := by decide +kernel
theorem dX10_clear_17 : decode cX10_clear 17 = .ok (.getfield 27, 3) := by decide +kernel
theorem dX10_clear_20 : decode cX10_clear 20 = .ok (.iconst 0, 1) := by decide +kernel
theorem dX10_clear_21 : decode cX10_clear 21 = .ok (.invokestatic 70, 3) := by decide +kernel
theorem dX10_clear_24 : decode cX10_clear 24 = .ok (.aload_n 0, 1) := by decide +kernel
theorem dX10_clear_25 : decode cX10_clear 25 = .ok (.getfield 55, 3) := by decide +kernel
theorem dX10_clear_28 : decode cX10_clear 28 = .ok (.bipush (-2), 2) := by decide +kernel
theorem dX10_clear_30 : decode cX10_clear 30 = .ok (.invokestatic 70, 3) := by decide +kernel
theorem dX10_clear_33 : decode cX10_clear 33 = .ok (.aload_n 0, 1) := by decide +kernel
theorem dX10_clear_34 : decode cX10_clear 34 = .ok (.getfield 51, 3) := by decide +kernel
theorem dX10_clear_37 : decode cX10_clear 37 = .ok (.invokevirtual 76, 3) := by decide +kernel
theorem dX10_clear_40 : decode cX10_clear 40 = .ok (.return_, 1) := by decide +kernel
theorem dX10_addPlace_0 : decode cX10_addPlace 0 = .ok (.aload_n 0, 1) := by decide +kernel
theorem dX10_addPlace_1 : decode cX10_addPlace 1 = .ok (.getfield 9, 3) := by decide +kernel
theorem dX10_addPlace_4 : decode cX10_addPlace 4 = .ok (.iconst 0, 1) := by decide +kernel
theorem dX10_addPlace_5 : decode cX10_addPlace 5 = .ok (.iaload, 1) := by decide +kernel
theorem dX10_addPlace_6 : decode cX10_addPlace 6 = .ok (.bipush 6, 2) := by decide +kernel
theorem dX10_addPlace_8 : decode cX10_addPlace 8 = .ok (.if_icmp .ge 13, 3) := by decide +kernel
theorem dX10_addPlace_11 : decode cX10_addPlace 11 = .ok (.aload_n 0, 1) := by decide +kernel
theorem dX10_addPlace_12 : decode cX10_addPlace 12 = .ok (.getfield 9, 3) := by decide +kernel
theorem dX10_addPlace_15 : decode cX10_addPlace 15 = .ok (.iconst 0, 1) := by decide +kernel
theorem dX10_addPlace_16 : decode cX10_addPlace 16 = .ok (.dup2, 1) := by decide +kernel
theorem dX10_addPlace_17 : decode cX10_addPlace 17 = .ok (.iaload, 1) := by decide +kernel
theorem dX10_addPlace_18 : decode cX10_addPlace 18 = .ok (.iconst 1, 1) := by decide +kernel
theorem dX10_addPlace_19 : decode cX10_addPlace 19 = .ok (.iadd, 1) := by decide +kernel
theorem dX10_addPlace_20 : decode cX10_addPlace 20 = .ok (.iastore, 1) := by decide +kernel
theorem dX10_addPlace_21 : decode cX10_addPlace 21 = .ok (.return_, 1) := by decide +kernel
theorem dX10_addPerson_0 : decode cX10_addPerson 0 = .ok (.aload_n 0, 1) := by decide +kernel
theorem dX10_addPerson_1 : decode cX10_addPerson 1 = .ok (.getfield 9, 3) := by decide +kernel
theorem dX10_addPerson_4 : decode cX10_addPerson 4 = .ok (.iconst 1, 1) := by decide +kernel
theorem dX10_addPerson_5 : decode cX10_addPerson 5 = .ok (.iaload, 1) := by decide +kernel
theorem dX10_addPerson_6 : decode cX10_addPerson 6 = .ok (.istore_n 3, 1) := by decide +kernel
theorem dX10_addPerson_7 : decode cX10_addPerson 7 = .ok (.iload_n 3, 1) := by decide +kernel
theorem dX10_addPerson_8 : decode cX10_addPerson 8 = .ok (.bipush 10, 2) := by decide +kernel
theorem dX10_addPerson_10 : decode cX10_addPerson 10 = .ok (.if_icmp .ge 27, 3) := by decide +kernel
theorem dX10_addPerson_13 : decode cX10_addPerson 13 = .ok (.aload_n 0, 1) := by decide +kernel
theorem dX10_addPerson_14 : decode cX10_addPerson 14 = .ok (.getfield 15, 3) := by decide +kernel
theorem dX10_addPerson_17 : decode cX10_addPerson 17 = .ok (.iload_n 3, 1) := by decide +kernel
theorem dX10_addPerson_18 : decode cX10_addPerson 18 = .ok (.iload_n 1, 1) := by decide +kernel
theorem dX10_addPerson_19 : decode cX10_addPerson 19 = .ok (.iastore, 1) := by decide +kernel
theorem dX10_addPerson_20 : decode cX10_addPerson 20 = .ok (.aload_n 0, 1) := by decide +kernel
theorem dX10_addPerson_21 : decode cX10_addPerson 21 = .ok (.getfield 18, 3) := by decide +kernel
theorem dX10_addPerson_24 : decode cX10_addPerson 24 = .ok (.iload_n 3, 1) := by decide +kernel
theorem dX10_addPerson_25 : decode cX10_addPerson 25 = .ok (.iload_n 2, 1) := by decide +kernel
theorem dX10_addPerson_26 : decode cX10_addPerson 26 = .ok (.iastore, 1) := by decide +kernel
theorem dX10_addPerson_27 : decode cX10_addPerson 27 = .ok (.aload_n 0, 1) := by decide +kernel
theorem dX10_addPerson_28 : decode cX10_addPerson 28 = .ok (.getfield 9, 3) := by decide +kernel
theorem dX10_addPerson_31 : decode cX10_addPerson 31 = .ok (.iconst 1, 1) := by decide +kernel
theorem dX10_addPerson_32 : decode cX10_addPerson 32 = .ok (.dup2, 1) := by decide +kernel
theorem dX10_addPerson_33 : decode cX10_addPerson 33 = .ok (.iaload, 1) := by decide +kernel
theorem dX10_addPerson_34 : decode cX10_addPerson 34 = .ok (.iconst 1, 1) := by decide +kernel
theorem dX10_addPerson_35 : decode cX10_addPerson 35 = .ok (.iadd, 1) := by decide +kernel
theorem dX10_addPerson_36 : decode cX10_addPerson 36 = .ok (.iastore, 1) := by decide +kernel
theorem dX10_addPerson_37 : decode cX10_addPerson 37 = .ok (.return_, 1) := by decide +kernel
theorem dX10_addThing_0 : decode cX10_addThing 0 = .ok (.aload_n 0, 1) := by decide +kernel
theorem dX10_addThing_1 : decode cX10_addThing 1 = .ok (.getfield 9, 3) := by decide +kernel
theorem dX10_addThing_4 : decode cX10_addThing 4 = .ok (.iconst 2, 1) := by decide +kernel
theorem dX10_addThing_5 : decode cX10_addThing 5 = .ok (.iaload, 1) := by decide +kernel
theorem dX10_addThing_6 : decode cX10_addThing 6 = .ok (.istore_n 2, 1) := by decide +kernel
theorem dX10_addThing_7 : decode cX10_addThing 7 = .ok (.iload_n 2, 1) := by decide +kernel
theorem dX10_addThing_8 : decode cX10_addThing 8 = .ok (.bipush 6, 2) := by decide +kernel
theorem dX10_addThing_10 : decode cX10_addThing 10 = .ok (.if_icmp .ge 20, 3) := by decide +kernel
theorem dX10_addThing_13 : decode cX10_addThing 13 = .ok (.aload_n 0, 1) := by decide +kernel
theorem dX10_addThing_14 : decode cX10_addThing 14 = .ok (.getfield 21, 3) := by decide +kernel
theorem dX10_addThing_17 : decode cX10_addThing 17 = .ok (.iload_n 2, 1) := by decide +kernel
theorem dX10_addThing_18 : decode cX10_addThing 18 = .ok (.iload_n 1, 1) := by decide +kernel
theorem dX10_addThing_19 : decode cX10_addThing 19 = .ok (.iastore, 1) := by decide +kernel
theorem dX10_addThing_20 : decode cX10_addThing 20 = .ok (.aload_n 0, 1) := by decide +kernel
theorem dX10_addThing_21 : decode cX10_addThing 21 = .ok (.getfield 9, 3) := by decide +kernel
theorem dX10_addThing_24 : decode cX10_addThing 24 = .ok (.iconst 2, 1) := by decide +kernel
theorem dX10_addThing_25 : decode cX10_addThing 25 = .ok (.dup2, 1) := by decide +kernel
theorem dX10_addThing_26 : decode cX10_addThing 26 = .ok (.iaload, 1) := by decide +kernel
theorem dX10_addThing_27 : decode cX10_addThing 27 = .ok (.iconst 1, 1) := by decide +kernel
theorem dX10_addThing_28 : decode cX10_addThing 28 = .ok (.iadd, 1) := by decide +kernel
theorem dX10_addThing_29 : decode cX10_addThing 29 = .ok (.iastore, 1) := by decide +kernel
theorem dX10_addThing_30 : decode cX10_addThing 30 = .ok (.return_, 1) := by decide +kernel
theorem dX10_addThin_0 : decode cX10_addThin 0 = .ok (.aload_n 0, 1) := by decide +kernel
theorem dX10_addThin_1 : decode cX10_addThin 1 = .ok (.getfield 9, 3) := by decide +kernel
theorem dX10_addThin_4 : decode cX10_addThin 4 = .ok (.iconst 3, 1) := by decide +kernel
theorem dX10_addThin_5 : decode cX10_addThin 5 = .ok (.dup2, 1) := by decide +kernel
theorem dX10_addThin_6 : decode cX10_addThin 6 = .ok (.iaload, 1) := by decide +kernel
theorem dX10_addThin_7 : decode cX10_addThin 7 = .ok (.iconst 1, 1) := by decide +kernel
theorem dX10_addThin_8 : decode cX10_addThin 8 = .ok (.iadd, 1) := by decide +kernel
theorem dX10_addThin_9 : decode cX10_addThin 9 = .ok (.iastore, 1) := by decide +kernel
theorem dX10_addThin_10 : decode cX10_addThin 10 = .ok (.aload_n 0, 1) := by decide +kernel
theorem dX10_addThin_11 : decode cX10_addThin 11 = .ok (.getfield 24, 3) := by decide +kernel
theorem dX10_addThin_14 : decode cX10_addThin 14 = .ok (.iload_n 1, 1) := by decide +kernel
theorem dX10_addThin_15 : decode cX10_addThin 15 = .ok (.dup2, 1) := by decide +kernel
theorem dX10_addThin_16 : decode cX10_addThin 16 = .ok (.iaload, 1) := by decide +kernel
theorem dX10_addThin_17 : decode cX10_addThin 17 = .ok (.iconst 1, 1) := by decide +kernel
theorem dX10_addThin_18 : decode cX10_addThin 18 = .ok (.iload_n 2, 1) := by decide +kernel
theorem dX10_addThin_19 : decode cX10_addThin 19 = .ok (.ishl, 1) := by decide +kernel
theorem dX10_addThin_20 : decode cX10_addThin 20 = .ok (.ior, 1) := by decide +kernel
theorem dX10_addThin_21 : decode cX10_addThin 21 = .ok (.iastore, 1) := by decide +kernel
theorem dX10_addThin_22 : decode cX10_addThin 22 = .ok (.aload_n 0, 1) := by decide +kernel
theorem dX10_addThin_23 : decode cX10_addThin 23 = .ok (.getfield 24, 3) := by decide +kernel
theorem dX10_addThin_26 : decode cX10_addThin 26 = .ok (.iload_n 2, 1) := by decide +kernel
theorem dX10_addThin_27 : decode cX10_addThin 27 = .ok (.dup2, 1) := by decide +kernel
theorem dX10_addThin_28 : decode cX10_addThin 28 = .ok (.iaload, 1) := by decide +kernel
theorem dX10_addThin_29 : decode cX10_addThin 29 = .ok (.iconst 1, 1) := by decide +kernel
theorem dX10_addThin_30 : decode cX10_addThin 30 = .ok (.iload_n 1, 1) := by decide +kernel
theorem dX10_addThin_31 : decode cX10_addThin 31 = .ok (.ishl, 1) := by decide +kernel
theorem dX10_addThin_32 : decode cX10_addThin 32 = .ok (.ior, 1) := by decide +kernel
theorem dX10_addThin_33 : decode cX10_addThin 33 = .ok (.iastore, 1) := by decide +kernel
theorem dX10_addThin_34 : decode cX10_addThin 34 = .ok (.return_, 1) := by decide +kernel
theorem dX10_addStay_0 : decode cX10_addStay 0 = .ok (.aload_n 0, 1) := by decide +kernel
theorem dX10_addStay_1 : decode cX10_addStay 1 = .ok (.getfield 9, 3) := by decide +kernel
theorem dX10_addStay_4 : decode cX10_addStay 4 = .ok (.iconst 4, 1) := by decide +kernel
theorem dX10_addStay_5 : decode cX10_addStay 5 = .ok (.dup2, 1) := by decide +kernel
theorem dX10_addStay_6 : decode cX10_addStay 6 = .ok (.iaload, 1) := by decide +kernel
theorem dX10_addStay_7 : decode cX10_addStay 7 = .ok (.iconst 1, 1) := by decide +kernel
theorem dX10_addStay_8 : decode cX10_addStay 8 = .ok (.iadd, 1) := by decide +kernel
theorem dX10_addStay_9 : decode cX10_addStay 9 = .ok (.iastore, 1) := by decide +kernel
theorem dX10_addStay_10 : decode cX10_addStay 10 = .ok (.iload_n 3, 1) := by decide +kernel
theorem dX10_addStay_11 : decode cX10_addStay 11 = .ok (.istore 5, 2) := by decide +kernel
theorem dX10_addStay_13 : decode cX10_addStay 13 = .ok (.iload 5, 2) := by decide +kernel
theorem dX10_addStay_15 : decode cX10_addStay 15 = .ok (.iload 4, 2) := by decide +kernel
theorem dX10_addStay_17 : decode cX10_addStay 17 = .ok (.if_icmp .gt 22, 3) := by decide +kernel
theorem dX10_addStay_20 : decode cX10_addStay 20 = .ok (.aload_n 0, 1) := by decide +kernel
theorem dX10_addStay_21 : decode cX10_addStay 21 = .ok (.getfield 55, 3) := by decide +kernel
theorem dX10_addStay_24 : decode cX10_addStay 24 = .ok (.iload_n 1, 1) := by decide +kernel
theorem dX10_addStay_25 : decode cX10_addStay 25 = .ok (.bipush 24, 2) := by decide +kernel
theorem dX10_addStay_27 : decode cX10_addStay 27 = .ok (.imul, 1) := by decide +kernel
theorem dX10_addStay_28 : decode cX10_addStay 28 = .ok (.iload 5, 2) := by decide +kernel
theorem dX10_addStay_30 : decode cX10_addStay 30 = .ok (.iadd, 1) := by decide +kernel
theorem dX10_addStay_31 : decode cX10_addStay 31 = .ok (.iload_n 2, 1) := by decide +kernel
theorem dX10_addStay_32 : decode cX10_addStay 32 = .ok (.iastore, 1) := by decide +kernel
theorem dX10_addStay_33 : decode cX10_addStay 33 = .ok (.iinc 5 1, 3) := by decide +kernel
theorem dX10_addStay_36 : decode cX10_addStay 36 = .ok (.goto (-23), 3) := by decide +kernel
theorem dX10_addStay_39 : decode cX10_addStay 39 = .ok (.return_, 1) := by decide +kernel
theorem dX10_addKnown_0 : decode cX10_addKnown 0 = .ok (.aload_n 0, 1) := by decide +kernel
theorem dX10_addKnown_1 : decode cX10_addKnown 1 = .ok (.getfield 9, 3) := by decide +kernel
theorem dX10_addKnown_4 : decode cX10_addKnown 4 = .ok (.iconst 5, 1) := by decide +kernel
theorem dX10_addKnown_5 : decode cX10_addKnown 5 = .ok (.dup2, 1) := by decide +kernel
theorem dX10_addKnown_6 : decode cX10_addKnown 6 = .ok (.iaload, 1) := by decide +kernel
theorem dX10_addKnown_7 : decode cX10_addKnown 7 = .ok (.iconst 1, 1) := by decide +kernel
theorem dX10_addKnown_8 : decode cX10_addKnown 8 = .ok (.iadd, 1) := by decide +kernel
theorem dX10_addKnown_9 : decode cX10_addKnown 9 = .ok (.iastore, 1) := by decide +kernel
theorem dX10_addKnown_10 : decode cX10_addKnown 10 = .ok (.aload_n 0, 1) := by decide +kernel
theorem dX10_addKnown_11 : decode cX10_addKnown 11 = .ok (.getfield 27, 3) := by decide +kernel
theorem dX10_addKnown_14 : decode cX10_addKnown 14 = .ok (.iload_n 1, 1) := by decide +kernel
theorem dX10_addKnown_15 : decode cX10_addKnown 15 = .ok (.dup2, 1) := by decide +kernel
theorem dX10_addKnown_16 : decode cX10_addKnown 16 = .ok (.iaload, 1) := by decide +kernel
theorem dX10_addKnown_17 : decode cX10_addKnown 17 = .ok (.iconst 1, 1) := by decide +kernel
theorem dX10_addKnown_18 : decode cX10_addKnown 18 = .ok (.iload_n 2, 1) := by decide +kernel
theorem dX10_addKnown_19 : decode cX10_addKnown 19 = .ok (.ishl, 1) := by decide +kernel
theorem dX10_addKnown_20 : decode cX10_addKnown 20 = .ok (.ior, 1) := by decide +kernel
theorem dX10_addKnown_21 : decode cX10_addKnown 21 = .ok (.iastore, 1) := by decide +kernel
theorem dX10_addKnown_22 : decode cX10_addKnown 22 = .ok (.return_, 1) := by decide +kernel
theorem dX10_addMust_0 : decode cX10_addMust 0 = .ok (.aload_n 0, 1) := by decide +kernel
theorem dX10_addMust_1 : decode cX10_addMust 1 = .ok (.getfield 9, 3) := by decide +kernel
theorem dX10_addMust_4 : decode cX10_addMust 4 = .ok (.bipush 6, 2) := by decide +kernel
theorem dX10_addMust_6 : decode cX10_addMust 6 = .ok (.iaload, 1) := by decide +kernel
theorem dX10_addMust_7 : decode cX10_addMust 7 = .ok (.istore 4, 2) := by decide +kernel
theorem dX10_addMust_9 : decode cX10_addMust 9 = .ok (.iload 4, 2) := by decide +kernel
theorem dX10_addMust_11 : decode cX10_addMust 11 = .ok (.bipush 12, 2) := by decide +kernel
theorem dX10_addMust_13 : decode cX10_addMust 13 = .ok (.if_icmp .ge 38, 3) := by decide +kernel
theorem dX10_addMust_16 : decode cX10_addMust 16 = .ok (.aload_n 0, 1) := by decide +kernel
theorem dX10_addMust_17 : decode cX10_addMust 17 = .ok (.getfield 30, 3) := by decide +kernel
theorem dX10_addMust_20 : decode cX10_addMust 20 = .ok (.iload 4, 2) := by decide +kernel
theorem dX10_addMust_22 : decode cX10_addMust 22 = .ok (.iload_n 1, 1) := by decide +kernel
theorem dX10_addMust_23 : decode cX10_addMust 23 = .ok (.iastore, 1) := by decide +kernel
theorem dX10_addMust_24 : decode cX10_addMust 24 = .ok (.aload_n 0, 1) := by decide +kernel
theorem dX10_addMust_25 : decode cX10_addMust 25 = .ok (.getfield 33, 3) := by decide +kernel
theorem dX10_addMust_28 : decode cX10_addMust 28 = .ok (.iload 4, 2) := by decide +kernel
theorem dX10_addMust_30 : decode cX10_addMust 30 = .ok (.iload_n 2, 1) := by decide +kernel
theorem dX10_addMust_31 : decode cX10_addMust 31 = .ok (.iastore, 1) := by decide +kernel
theorem dX10_addMust_32 : decode cX10_addMust 32 = .ok (.aload_n 0, 1) := by decide +kernel
theorem dX10_addMust_33 : decode cX10_addMust 33 = .ok (.getfield 36, 3) := by decide +kernel
theorem dX10_addMust_36 : decode cX10_addMust 36 = .ok (.iload 4, 2) := by decide +kernel
theorem dX10_addMust_38 : decode cX10_addMust 38 = .ok (.iload_n 3, 1) := by decide +kernel
theorem dX10_addMust_39 : decode cX10_addMust 39 = .ok (.iastore, 1) := by decide +kernel
theorem dX10_addMust_40 : decode cX10_addMust 40 = .ok (.aload_n 0, 1) := by decide +kernel
theorem dX10_addMust_41 : decode cX10_addMust 41 = .ok (.getfield 9, 3) := by decide +kernel
theorem dX10_addMust_44 : decode cX10_addMust 44 = .ok (.bipush 6, 2) := by decide +kernel
theorem dX10_addMust_46 : decode cX10_addMust 46 = .ok (.dup2, 1) := by decide +kernel
theorem dX10_addMust_47 : decode cX10_addMust 47 = .ok (.iaload, 1) := by decide +kernel
theorem dX10_addMust_48 : decode cX10_addMust 48 = .ok (.iconst 1, 1) := by decide +kernel
theorem dX10_addMust_49 : decode cX10_addMust 49 = .ok (.iadd, 1) := by decide +kernel
theorem dX10_addMust_50 : decode cX10_addMust 50 = .ok (.iastore, 1) := by decide +kernel
theorem dX10_addMust_51 : decode cX10_addMust 51 = .ok (.return_, 1) := by decide +kernel
theorem dX10_addAct_0 : decode cX10_addAct 0 = .ok (.aload_n 0, 1) := by decide +kernel
theorem dX10_addAct_1 : decode cX10_addAct 1 = .ok (.getfield 9, 3) := by decide +kernel
theorem dX10_addAct_4 : decode cX10_addAct 4 = .ok (.bipush 7, 2) := by decide +kernel
theorem dX10_addAct_6 : decode cX10_addAct 6 = .ok (.iaload, 1) := by decide +kernel
theorem dX10_addAct_7 : decode cX10_addAct 7 = .ok (.istore_n 3, 1) := by decide +kernel
theorem dX10_addAct_8 : decode cX10_addAct 8 = .ok (.iload_n 3, 1) := by decide +kernel
theorem dX10_addAct_9 : decode cX10_addAct 9 = .ok (.bipush 6, 2) := by decide +kernel
theorem dX10_addAct_11 : decode cX10_addAct 11 = .ok (.if_icmp .ge 28, 3) := by decide +kernel
theorem dX10_addAct_14 : decode cX10_addAct 14 = .ok (.aload_n 0, 1) := by decide +kernel
theorem dX10_addAct_15 : decode cX10_addAct 15 = .ok (.getfield 39, 3) := by decide +kernel
theorem dX10_addAct_18 : decode cX10_addAct 18 = .ok (.iload_n 3, 1) := by decide +kernel
theorem dX10_addAct_19 : decode cX10_addAct 19 = .ok (.iload_n 1, 1) := by decide +kernel
theorem dX10_addAct_20 : decode cX10_addAct 20 = .ok (.iastore, 1) := by decide +kernel
theorem dX10_addAct_21 : decode cX10_addAct 21 = .ok (.aload_n 0, 1) := by decide +kernel
theorem dX10_addAct_22 : decode cX10_addAct 22 = .ok (.getfield 42, 3) := by decide +kernel
theorem dX10_addAct_25 : decode cX10_addAct 25 = .ok (.iload_n 3, 1) := by decide +kernel
theorem dX10_addAct_26 : decode cX10_addAct 26 = .ok (.iload_n 2, 1) := by decide +kernel
theorem dX10_addAct_27 : decode cX10_addAct 27 = .ok (.iastore, 1) := by decide +kernel
theorem dX10_addAct_28 : decode cX10_addAct 28 = .ok (.aload_n 0, 1) := by decide +kernel
theorem dX10_addAct_29 : decode cX10_addAct 29 = .ok (.getfield 9, 3) := by decide +kernel
theorem dX10_addAct_32 : decode cX10_addAct 32 = .ok (.bipush 7, 2) := by decide +kernel
theorem dX10_addAct_34 : decode cX10_addAct 34 = .ok (.dup2, 1) := by decide +kernel
theorem dX10_addAct_35 : decode cX10_addAct 35 = .ok (.iaload, 1) := by decide +kernel
theorem dX10_addAct_36 : decode cX10_addAct 36 = .ok (.iconst 1, 1) := by decide +kernel
theorem dX10_addAct_37 : decode cX10_addAct 37 = .ok (.iadd, 1) := by decide +kernel
theorem dX10_addAct_38 : decode cX10_addAct 38 = .ok (.iastore, 1) := by decide +kernel
theorem dX10_addAct_39 : decode cX10_addAct 39 = .ok (.return_, 1) := by decide +kernel
theorem dX10_addTask_0 : decode cX10_addTask 0 = .ok (.aload_n 0, 1) := by decide +kernel
theorem dX10_addTask_1 : decode cX10_addTask 1 = .ok (.getfield 9, 3) := by decide +kernel
theorem dX10_addTask_4 : decode cX10_addTask 4 = .ok (.bipush 8, 2) := by decide +kernel
theorem dX10_addTask_6 : decode cX10_addTask 6 = .ok (.iaload, 1) := by decide +kernel
theorem dX10_addTask_7 : decode cX10_addTask 7 = .ok (.istore_n 2, 1) := by decide +kernel
theorem dX10_addTask_8 : decode cX10_addTask 8 = .ok (.iload_n 2, 1) := by decide +kernel
theorem dX10_addTask_9 : decode cX10_addTask 9 = .ok (.iconst 4, 1) := by decide +kernel
theorem dX10_addTask_10 : decode cX10_addTask 10 = .ok (.if_icmp .ge 21, 3) := by decide +kernel
theorem dX10_addTask_13 : decode cX10_addTask 13 = .ok (.aload_n 0, 1) := by decide +kernel
theorem dX10_addTask_14 : decode cX10_addTask 14 = .ok (.getfield 45, 3) := by decide +kernel
theorem dX10_addTask_17 : decode cX10_addTask 17 = .ok (.iload_n 2, 1) := by decide +kernel
theorem dX10_addTask_18 : decode cX10_addTask 18 = .ok (.iload_n 1, 1) := by decide +kernel
theorem dX10_addTask_19 : decode cX10_addTask 19 = .ok (.iastore, 1) := by decide +kernel
theorem dX10_addTask_20 : decode cX10_addTask 20 = .ok (.aload_n 0, 1) := by decide +kernel
theorem dX10_addTask_21 : decode cX10_addTask 21 = .ok (.getfield 9, 3) := by decide +kernel
theorem dX10_addTask_24 : decode cX10_addTask 24 = .ok (.bipush 8, 2) := by decide +kernel
theorem dX10_addTask_26 : decode cX10_addTask 26 = .ok (.dup2, 1) := by decide +kernel
theorem dX10_addTask_27 : decode cX10_addTask 27 = .ok (.iaload, 1) := by decide +kernel
theorem dX10_addTask_28 : decode cX10_addTask 28 = .ok (.iconst 1, 1) := by decide +kernel
theorem dX10_addTask_29 : decode cX10_addTask 29 = .ok (.iadd, 1) := by decide +kernel
theorem dX10_addTask_30 : decode cX10_addTask 30 = .ok (.iastore, 1) := by decide +kernel
theorem dX10_addTask_31 : decode cX10_addTask 31 = .ok (.return_, 1) := by decide +kernel
theorem dX10_settle_0 : decode cX10_settle 0 = .ok (.aload_n 0, 1) := by decide +kernel
theorem dX10_settle_1 : decode cX10_settle 1 = .ok (.getfield 58, 3) := by decide +kernel
theorem dX10_settle_4 : decode cX10_settle 4 = .ok (.iconst 0, 1) := by decide +kernel
theorem dX10_settle_5 : decode cX10_settle 5 = .ok (.invokestatic 70, 3) := by decide +kernel
theorem dX10_settle_8 : decode cX10_settle 8 = .ok (.iconst 0, 1) := by decide +kernel
theorem dX10_settle_9 : decode cX10_settle 9 = .ok (.istore_n 1, 1) := by decide +kernel
theorem dX10_settle_10 : decode cX10_settle 10 = .ok (.iload_n 1, 1) := by decide +kernel
theorem dX10_settle_11 : decode cX10_settle 11 = .ok (.aload_n 0, 1) := by decide +kernel
theorem dX10_settle_12 : decode cX10_settle 12 = .ok (.getfield 9, 3) := by decide +kernel
theorem dX10_settle_15 : decode cX10_settle 15 = .ok (.iconst 1, 1) := by decide +kernel
theorem dX10_settle_16 : decode cX10_settle 16 = .ok (.iaload, 1) := by decide +kernel
theorem dX10_settle_17 : decode cX10_settle 17 = .ok (.if_icmp .ge 77, 3) := by decide +kernel
theorem dX10_settle_20 : decode cX10_settle 20 = .ok (.aload_n 0, 1) := by decide +kernel
theorem dX10_settle_21 : decode cX10_settle 21 = .ok (.getfield 9, 3) := by decide +kernel
theorem dX10_settle_24 : decode cX10_settle 24 = .ok (.iconst 0, 1) := by decide +kernel
theorem dX10_settle_25 : decode cX10_settle 25 = .ok (.iaload, 1) := by decide +kernel
theorem dX10_settle_26 : decode cX10_settle 26 = .ok (.ifCond .le 68, 3) := by decide +kernel
theorem dX10_settle_29 : decode cX10_settle 29 = .ok (.iconst 0, 1) := by decide +kernel
theorem dX10_settle_30 : decode cX10_settle 30 = .ok (.istore_n 2, 1) := by decide +kernel
theorem dX10_settle_31 : decode cX10_settle 31 = .ok (.iload_n 2, 1) := by decide +kernel
theorem dX10_settle_32 : decode cX10_settle 32 = .ok (.bipush 24, 2) := by decide +kernel
theorem dX10_settle_34 : decode cX10_settle 34 = .ok (.if_icmp .ge 54, 3) := by decide +kernel
theorem dX10_settle_37 : decode cX10_settle 37 = .ok (.iconst 0, 1) := by decide +kernel
theorem dX10_settle_38 : decode cX10_settle 38 = .ok (.aload_n 0, 1) := by decide +kernel
theorem dX10_settle_39 : decode cX10_settle 39 = .ok (.getfield 55, 3) := by decide +kernel
theorem dX10_settle_42 : decode cX10_settle 42 = .ok (.iload_n 1, 1) := by decide +kernel
theorem dX10_settle_43 : decode cX10_settle 43 = .ok (.bipush 24, 2) := by decide +kernel
theorem dX10_settle_45 : decode cX10_settle 45 = .ok (.imul, 1) := by decide +kernel
theorem dX10_settle_46 : decode cX10_settle 46 = .ok (.iload_n 2, 1) := by decide +kernel
theorem dX10_settle_47 : decode cX10_settle 47 = .ok (.iadd, 1) := by decide +kernel
theorem dX10_settle_48 : decode cX10_settle 48 = .ok (.iaload, 1) := by decide +kernel
theorem dX10_settle_49 : decode cX10_settle 49 = .ok (.invokestatic 77, 3) := by decide +kernel
theorem dX10_settle_52 : decode cX10_settle 52 = .ok (.istore_n 3, 1) := by decide +kernel
theorem dX10_settle_53 : decode cX10_settle 53 = .ok (.aload_n 0, 1) := by decide +kernel
theorem dX10_settle_54 : decode cX10_settle 54 = .ok (.getfield 55, 3) := by decide +kernel
theorem dX10_settle_57 : decode cX10_settle 57 = .ok (.iload_n 1, 1) := by decide +kernel
theorem dX10_settle_58 : decode cX10_settle 58 = .ok (.bipush 24, 2) := by decide +kernel
theorem dX10_settle_60 : decode cX10_settle 60 = .ok (.imul, 1) := by decide +kernel
theorem dX10_settle_61 : decode cX10_settle 61 = .ok (.iload_n 2, 1) := by decide +kernel
theorem dX10_settle_62 : decode cX10_settle 62 = .ok (.iadd, 1) := by decide +kernel
theorem dX10_settle_63 : decode cX10_settle 63 = .ok (.iload_n 3, 1) := by decide +kernel
theorem dX10_settle_64 : decode cX10_settle 64 = .ok (.iastore, 1) := by decide +kernel
theorem dX10_settle_65 : decode cX10_settle 65 = .ok (.aload_n 0, 1) := by decide +kernel
theorem dX10_settle_66 : decode cX10_settle 66 = .ok (.getfield 58, 3) := by decide +kernel
theorem dX10_settle_69 : decode cX10_settle 69 = .ok (.iload_n 3, 1) := by decide +kernel
theorem dX10_settle_70 : decode cX10_settle 70 = .ok (.bipush 24, 2) := by decide +kernel
theorem dX10_settle_72 : decode cX10_settle 72 = .ok (.imul, 1) := by decide +kernel
theorem dX10_settle_73 : decode cX10_settle 73 = .ok (.iload_n 2, 1) := by decide +kernel
theorem dX10_settle_74 : decode cX10_settle 74 = .ok (.iadd, 1) := by decide +kernel
theorem dX10_settle_75 : decode cX10_settle 75 = .ok (.dup2, 1) := by decide +kernel
theorem dX10_settle_76 : decode cX10_settle 76 = .ok (.iaload, 1) := by decide +kernel
theorem dX10_settle_77 : decode cX10_settle 77 = .ok (.iconst 1, 1) := by decide +kernel
theorem dX10_settle_78 : decode cX10_settle 78 = .ok (.iload_n 1, 1) := by decide +kernel
theorem dX10_settle_79 : decode cX10_settle 79 = .ok (.ishl, 1) := by decide +kernel
theorem dX10_settle_80 : decode cX10_settle 80 = .ok (.ior, 1) := by decide +kernel
theorem dX10_settle_81 : decode cX10_settle 81 = .ok (.iastore, 1) := by decide +kernel
theorem dX10_settle_82 : decode cX10_settle 82 = .ok (.iinc 2 1, 3) := by decide +kernel
theorem dX10_settle_85 : decode cX10_settle 85 = .ok (.goto (-54), 3) := by decide +kernel
theorem dX10_settle_88 : decode cX10_settle 88 = .ok (.iinc 1 1, 3) := by decide +kernel
theorem dX10_settle_91 : decode cX10_settle 91 = .ok (.goto (-81), 3) := by decide +kernel
theorem dX10_settle_94 : decode cX10_settle 94 = .ok (.iconst 0, 1) := by decide +kernel
theorem dX10_settle_95 : decode cX10_settle 95 = .ok (.istore_n 1, 1) := by decide +kernel
theorem dX10_settle_96 : decode cX10_settle 96 = .ok (.iload_n 1, 1) := by decide +kernel
theorem dX10_settle_97 : decode cX10_settle 97 = .ok (.aload_n 0, 1) := by decide +kernel
theorem dX10_settle_98 : decode cX10_settle 98 = .ok (.getfield 9, 3) := by decide +kernel
theorem dX10_settle_101 : decode cX10_settle 101 = .ok (.iconst 0, 1) := by decide +kernel
theorem dX10_settle_102 : decode cX10_settle 102 = .ok (.iaload, 1) := by decide +kernel
theorem dX10_settle_103 : decode cX10_settle 103 = .ok (.if_icmp .ge 49, 3) := by decide +kernel
theorem dX10_settle_106 : decode cX10_settle 106 = .ok (.iconst 0, 1) := by decide +kernel
theorem dX10_settle_107 : decode cX10_settle 107 = .ok (.istore_n 2, 1) := by decide +kernel
theorem dX10_settle_108 : decode cX10_settle 108 = .ok (.iload_n 2, 1) := by decide +kernel
theorem dX10_settle_109 : decode cX10_settle 109 = .ok (.bipush 24, 2) := by decide +kernel
theorem dX10_settle_111 : decode cX10_settle 111 = .ok (.if_icmp .ge 35, 3) := by decide +kernel
theorem dX10_settle_114 : decode cX10_settle 114 = .ok (.aload_n 0, 1) := by decide +kernel
theorem dX10_settle_115 : decode cX10_settle 115 = .ok (.getfield 61, 3) := by decide +kernel
theorem dX10_settle_118 : decode cX10_settle 118 = .ok (.iload_n 1, 1) := by decide +kernel
theorem dX10_settle_119 : decode cX10_settle 119 = .ok (.bipush 24, 2) := by decide +kernel
theorem dX10_settle_121 : decode cX10_settle 121 = .ok (.imul, 1) := by decide +kernel
theorem dX10_settle_122 : decode cX10_settle 122 = .ok (.iload_n 2, 1) := by decide +kernel
theorem dX10_settle_123 : decode cX10_settle 123 = .ok (.iadd, 1) := by decide +kernel
theorem dX10_settle_124 : decode cX10_settle 124 = .ok (.aload_n 0, 1) := by decide +kernel
theorem dX10_settle_125 : decode cX10_settle 125 = .ok (.aload_n 0, 1) := by decide +kernel
theorem dX10_settle_126 : decode cX10_settle 126 = .ok (.getfield 24, 3) := by decide +kernel
theorem dX10_settle_129 : decode cX10_settle 129 = .ok (.iload_n 1, 1) := by decide +kernel
theorem dX10_settle_130 : decode cX10_settle 130 = .ok (.iaload, 1) := by decide +kernel
theorem dX10_settle_131 : decode cX10_settle 131 = .ok (.iconst 1, 1) := by decide +kernel
theorem dX10_settle_132 : decode cX10_settle 132 = .ok (.iload_n 1, 1) := by decide +kernel
theorem dX10_settle_133 : decode cX10_settle 133 = .ok (.ishl, 1) := by decide +kernel
theorem dX10_settle_134 : decode cX10_settle 134 = .ok (.ior, 1) := by decide +kernel
theorem dX10_settle_135 : decode cX10_settle 135 = .ok (.iload_n 2, 1) := by decide +kernel
theorem dX10_settle_136 : decode cX10_settle 136 = .ok (.invokevirtual 83, 3) := by decide +kernel
theorem dX10_settle_139 : decode cX10_settle 139 = .ok (.iastore, 1) := by decide +kernel
theorem dX10_settle_140 : decode cX10_settle 140 = .ok (.iinc 2 1, 3) := by decide +kernel
theorem dX10_settle_143 : decode cX10_settle 143 = .ok (.goto (-35), 3) := by decide +kernel
theorem dX10_settle_146 : decode cX10_settle 146 = .ok (.iinc 1 1, 3) := by decide +kernel
theorem dX10_settle_149 : decode cX10_settle 149 = .ok (.goto (-53), 3) := by decide +kernel
theorem dX10_settle_152 : decode cX10_settle 152 = .ok (.iconst 0, 1) := by decide +kernel
theorem dX10_settle_153 : decode cX10_settle 153 = .ok (.istore_n 1, 1) := by decide +kernel
theorem dX10_settle_154 : decode cX10_settle 154 = .ok (.iload_n 1, 1) := by decide +kernel
theorem dX10_settle_155 : decode cX10_settle 155 = .ok (.aload_n 0, 1) := by decide +kernel
theorem dX10_settle_156 : decode cX10_settle 156 = .ok (.getfield 9, 3) := by decide +kernel
theorem dX10_settle_159 : decode cX10_settle 159 = .ok (.iconst 1, 1) := by decide +kernel
theorem dX10_settle_160 : decode cX10_settle 160 = .ok (.iaload, 1) := by decide +kernel
theorem dX10_settle_161 : decode cX10_settle 161 = .ok (.if_icmp .ge 40, 3) := by decide +kernel
theorem dX10_settle_164 : decode cX10_settle 164 = .ok (.iconst 0, 1) := by decide +kernel
theorem dX10_settle_165 : decode cX10_settle 165 = .ok (.istore_n 2, 1) := by decide +kernel
theorem dX10_settle_166 : decode cX10_settle 166 = .ok (.iload_n 2, 1) := by decide +kernel
theorem dX10_settle_167 : decode cX10_settle 167 = .ok (.bipush 24, 2) := by decide +kernel
theorem dX10_settle_169 : decode cX10_settle 169 = .ok (.if_icmp .ge 26, 3) := by decide +kernel
theorem dX10_settle_172 : decode cX10_settle 172 = .ok (.aload_n 0, 1) := by decide +kernel
theorem dX10_settle_173 : decode cX10_settle 173 = .ok (.getfield 64, 3) := by decide +kernel
theorem dX10_settle_176 : decode cX10_settle 176 = .ok (.iload_n 1, 1) := by decide +kernel
theorem dX10_settle_177 : decode cX10_settle 177 = .ok (.bipush 24, 2) := by decide +kernel
theorem dX10_settle_179 : decode cX10_settle 179 = .ok (.imul, 1) := by decide +kernel
theorem dX10_settle_180 : decode cX10_settle 180 = .ok (.iload_n 2, 1) := by decide +kernel
theorem dX10_settle_181 : decode cX10_settle 181 = .ok (.iadd, 1) := by decide +kernel
theorem dX10_settle_182 : decode cX10_settle 182 = .ok (.aload_n 0, 1) := by decide +kernel
theorem dX10_settle_183 : decode cX10_settle 183 = .ok (.iload_n 1, 1) := by decide +kernel
theorem dX10_settle_184 : decode cX10_settle 184 = .ok (.iload_n 2, 1) := by decide +kernel
theorem dX10_settle_185 : decode cX10_settle 185 = .ok (.invokevirtual 86, 3) := by decide +kernel
theorem dX10_settle_188 : decode cX10_settle 188 = .ok (.iastore, 1) := by decide +kernel
theorem dX10_settle_189 : decode cX10_settle 189 = .ok (.iinc 2 1, 3) := by decide +kernel
theorem dX10_settle_192 : decode cX10_settle 192 = .ok (.goto (-26), 3) := by decide +kernel
theorem dX10_settle_195 : decode cX10_settle 195 = .ok (.iinc 1 1, 3) := by decide +kernel
theorem dX10_settle_198 : decode cX10_settle 198 = .ok (.goto (-44), 3) := by decide +kernel
theorem dX10_settle_201 : decode cX10_settle 201 = .ok (.return_, 1) := by decide +kernel
theorem dX10_othersToSayTo_0 : decode cX10_othersToSayTo 0 = .ok (.iconst 0, 1) := by decide +kernel
theorem dX10_othersToSayTo_1 : decode cX10_othersToSayTo 1 = .ok (.istore_n 3, 1) := by decide +kernel
theorem dX10_othersToSayTo_2 : decode cX10_othersToSayTo 2 = .ok (.iconst 0, 1) := by decide +kernel
theorem dX10_othersToSayTo_3 : decode cX10_othersToSayTo 3 = .ok (.istore 4, 2) := by decide +kernel
theorem dX10_othersToSayTo_5 : decode cX10_othersToSayTo 5 = .ok (.iload 4, 2) := by decide +kernel
theorem dX10_othersToSayTo_7 : decode cX10_othersToSayTo 7 = .ok (.aload_n 0, 1) := by decide +kernel
theorem dX10_othersToSayTo_8 : decode cX10_othersToSayTo 8 = .ok (.getfield 9, 3) := by decide +kernel
theorem dX10_othersToSayTo_11 : decode cX10_othersToSayTo 11 = .ok (.iconst 1, 1) := by decide +kernel
theorem dX10_othersToSayTo_12 : decode cX10_othersToSayTo 12 = .ok (.iaload, 1) := by decide +kernel
theorem dX10_othersToSayTo_13 : decode cX10_othersToSayTo 13 = .ok (.if_icmp .ge 38, 3) := by decide +kernel
theorem dX10_othersToSayTo_16 : decode cX10_othersToSayTo 16 = .ok (.iload 4, 2) := by decide +kernel
theorem dX10_othersToSayTo_18 : decode cX10_othersToSayTo 18 = .ok (.iload_n 1, 1) := by decide +kernel
theorem dX10_othersToSayTo_19 : decode cX10_othersToSayTo 19 = .ok (.if_icmp .eq 26, 3) := by decide +kernel
theorem dX10_othersToSayTo_22 : decode cX10_othersToSayTo 22 = .ok (.aload_n 0, 1) := by decide +kernel
theorem dX10_othersToSayTo_23 : decode cX10_othersToSayTo 23 = .ok (.iload_n 1, 1) := by decide +kernel
theorem dX10_othersToSayTo_24 : decode cX10_othersToSayTo 24 = .ok (.iload 4, 2) := by decide +kernel
theorem dX10_othersToSayTo_26 : decode cX10_othersToSayTo 26 = .ok (.iload_n 2, 1) := by decide +kernel
theorem dX10_othersToSayTo_27 : decode cX10_othersToSayTo 27 = .ok (.iconst 0, 1) := by decide +kernel
theorem dX10_othersToSayTo_28 : decode cX10_othersToSayTo 28 = .ok (.aload_n 0, 1) := by decide +kernel
theorem dX10_othersToSayTo_29 : decode cX10_othersToSayTo 29 = .ok (.invokevirtual 89, 3) := by decide +kernel
theorem dX10_othersToSayTo_32 : decode cX10_othersToSayTo 32 = .ok (.invokevirtual 93, 3) := by decide +kernel
theorem dX10_othersToSayTo_35 : decode cX10_othersToSayTo 35 = .ok (.ifCond .eq 10, 3) := by decide +kernel
theorem dX10_othersToSayTo_38 : decode cX10_othersToSayTo 38 = .ok (.iload_n 3, 1) := by decide +kernel
theorem dX10_othersToSayTo_39 : decode cX10_othersToSayTo 39 = .ok (.iconst 1, 1) := by decide +kernel
theorem dX10_othersToSayTo_40 : decode cX10_othersToSayTo 40 = .ok (.iload 4, 2) := by decide +kernel
theorem dX10_othersToSayTo_42 : decode cX10_othersToSayTo 42 = .ok (.ishl, 1) := by decide +kernel
theorem dX10_othersToSayTo_43 : decode cX10_othersToSayTo 43 = .ok (.ior, 1) := by decide +kernel
theorem dX10_othersToSayTo_44 : decode cX10_othersToSayTo 44 = .ok (.istore_n 3, 1) := by decide +kernel
theorem dX10_othersToSayTo_45 : decode cX10_othersToSayTo 45 = .ok (.iinc 4 1, 3) := by decide +kernel
theorem dX10_othersToSayTo_48 : decode cX10_othersToSayTo 48 = .ok (.goto (-43), 3) := by decide +kernel
theorem dX10_othersToSayTo_51 : decode cX10_othersToSayTo 51 = .ok (.iload_n 3, 1) := by decide +kernel
theorem dX10_othersToSayTo_52 : decode cX10_othersToSayTo 52 = .ok (.ireturn, 1) := by decide +kernel
theorem dX10_standersWithin_0 : decode cX10_standersWithin 0 = .ok (.iconst 0, 1) := by decide +kernel
theorem dX10_standersWithin_1 : decode cX10_standersWithin 1 = .ok (.istore_n 3, 1) := by decide +kernel
theorem dX10_standersWithin_2 : decode cX10_standersWithin 2 = .ok (.iconst 0, 1) := by decide +kernel
theorem dX10_standersWithin_3 : decode cX10_standersWithin 3 = .ok (.istore 4, 2) := by decide +kernel
theorem dX10_standersWithin_5 : decode cX10_standersWithin 5 = .ok (.iload 4, 2) := by decide +kernel
theorem dX10_standersWithin_7 : decode cX10_standersWithin 7 = .ok (.aload_n 0, 1) := by decide +kernel
theorem dX10_standersWithin_8 : decode cX10_standersWithin 8 = .ok (.getfield 9, 3) := by decide +kernel
theorem dX10_standersWithin_11 : decode cX10_standersWithin 11 = .ok (.iconst 0, 1) := by decide +kernel
theorem dX10_standersWithin_12 : decode cX10_standersWithin 12 = .ok (.iaload, 1) := by decide +kernel
theorem dX10_standersWithin_13 : decode cX10_standersWithin 13 = .ok (.if_icmp .ge 33, 3) := by decide +kernel
theorem dX10_standersWithin_16 : decode cX10_standersWithin 16 = .ok (.iload_n 1, 1) := by decide +kernel
theorem dX10_standersWithin_17 : decode cX10_standersWithin 17 = .ok (.iload 4, 2) := by decide +kernel
theorem dX10_standersWithin_19 : decode cX10_standersWithin 19 = .ok (.invokestatic 97, 3) := by decide +kernel
theorem dX10_standersWithin_22 : decode cX10_standersWithin 22 = .ok (.ifCond .eq 18, 3) := by decide +kernel
theorem dX10_standersWithin_25 : decode cX10_standersWithin 25 = .ok (.iload_n 3, 1) := by decide +kernel
theorem dX10_standersWithin_26 : decode cX10_standersWithin 26 = .ok (.aload_n 0, 1) := by decide +kernel
theorem dX10_standersWithin_27 : decode cX10_standersWithin 27 = .ok (.getfield 58, 3) := by decide +kernel
theorem dX10_standersWithin_30 : decode cX10_standersWithin 30 = .ok (.iload 4, 2) := by decide +kernel
theorem dX10_standersWithin_32 : decode cX10_standersWithin 32 = .ok (.bipush 24, 2) := by decide +kernel
theorem dX10_standersWithin_34 : decode cX10_standersWithin 34 = .ok (.imul, 1) := by decide +kernel
theorem dX10_standersWithin_35 : decode cX10_standersWithin 35 = .ok (.iload_n 2, 1) := by decide +kernel
theorem dX10_standersWithin_36 : decode cX10_standersWithin 36 = .ok (.iadd, 1) := by decide +kernel
theorem dX10_standersWithin_37 : decode cX10_standersWithin 37 = .ok (.iaload, 1) := by decide +kernel
theorem dX10_standersWithin_38 : decode cX10_standersWithin 38 = .ok (.ior, 1) := by decide +kernel
theorem dX10_standersWithin_39 : decode cX10_standersWithin 39 = .ok (.istore_n 3, 1) := by decide +kernel
theorem dX10_standersWithin_40 : decode cX10_standersWithin 40 = .ok (.iinc 4 1, 3) := by decide +kernel
theorem dX10_standersWithin_43 : decode cX10_standersWithin 43 = .ok (.goto (-38), 3) := by decide +kernel
theorem dX10_standersWithin_46 : decode cX10_standersWithin 46 = .ok (.iload_n 3, 1) := by decide +kernel
theorem dX10_standersWithin_47 : decode cX10_standersWithin 47 = .ok (.ireturn, 1) := by decide +kernel
theorem dX10_everybody_0 : decode cX10_everybody 0 = .ok (.iconst 1, 1) := by decide +kernel
theorem dX10_everybody_1 : decode cX10_everybody 1 = .ok (.aload_n 0, 1) := by decide +kernel
theorem dX10_everybody_2 : decode cX10_everybody 2 = .ok (.getfield 9, 3) := by decide +kernel
theorem dX10_everybody_5 : decode cX10_everybody 5 = .ok (.iconst 1, 1) := by decide +kernel
theorem dX10_everybody_6 : decode cX10_everybody 6 = .ok (.iaload, 1) := by decide +kernel
theorem dX10_everybody_7 : decode cX10_everybody 7 = .ok (.ishl, 1) := by decide +kernel
theorem dX10_everybody_8 : decode cX10_everybody 8 = .ok (.iconst 1, 1) := by decide +kernel
theorem dX10_everybody_9 : decode cX10_everybody 9 = .ok (.isub, 1) := by decide +kernel
theorem dX10_everybody_10 : decode cX10_everybody 10 = .ok (.ireturn, 1) := by decide +kernel
theorem dX10_ageAt_0 : decode cX10_ageAt 0 = .ok (.iload_n 2, 1) := by decide +kernel
theorem dX10_ageAt_1 : decode cX10_ageAt 1 = .ok (.aload_n 0, 1) := by decide +kernel
theorem dX10_ageAt_2 : decode cX10_ageAt 2 = .ok (.getfield 18, 3) := by decide +kernel
theorem dX10_ageAt_5 : decode cX10_ageAt 5 = .ok (.iload_n 1, 1) := by decide +kernel
theorem dX10_ageAt_6 : decode cX10_ageAt 6 = .ok (.iaload, 1) := by decide +kernel
theorem dX10_ageAt_7 : decode cX10_ageAt 7 = .ok (.if_icmp .lt 14, 3) := by decide +kernel
theorem dX10_ageAt_10 : decode cX10_ageAt 10 = .ok (.aload_n 0, 1) := by decide +kernel
theorem dX10_ageAt_11 : decode cX10_ageAt 11 = .ok (.getfield 15, 3) := by decide +kernel
theorem dX10_ageAt_14 : decode cX10_ageAt 14 = .ok (.iload_n 1, 1) := by decide +kernel
theorem dX10_ageAt_15 : decode cX10_ageAt 15 = .ok (.iaload, 1) := by decide +kernel
theorem dX10_ageAt_16 : decode cX10_ageAt 16 = .ok (.iconst 1, 1) := by decide +kernel
theorem dX10_ageAt_17 : decode cX10_ageAt 17 = .ok (.iadd, 1) := by decide +kernel
theorem dX10_ageAt_18 : decode cX10_ageAt 18 = .ok (.goto 9, 3) := by decide +kernel
theorem dX10_ageAt_21 : decode cX10_ageAt 21 = .ok (.aload_n 0, 1) := by decide +kernel
theorem dX10_ageAt_22 : decode cX10_ageAt 22 = .ok (.getfield 15, 3) := by decide +kernel
theorem dX10_ageAt_25 : decode cX10_ageAt 25 = .ok (.iload_n 1, 1) := by decide +kernel
theorem dX10_ageAt_26 : decode cX10_ageAt 26 = .ok (.iaload, 1) := by decide +kernel
theorem dX10_ageAt_27 : decode cX10_ageAt 27 = .ok (.ireturn, 1) := by decide +kernel
theorem dX10_isElder_0 : decode cX10_isElder 0 = .ok (.aload_n 0, 1) := by decide +kernel
theorem dX10_isElder_1 : decode cX10_isElder 1 = .ok (.iload_n 1, 1) := by decide +kernel
theorem dX10_isElder_2 : decode cX10_isElder 2 = .ok (.iload_n 3, 1) := by decide +kernel
theorem dX10_isElder_3 : decode cX10_isElder 3 = .ok (.invokevirtual 101, 3) := by decide +kernel
theorem dX10_isElder_6 : decode cX10_isElder 6 = .ok (.istore 4, 2) := by decide +kernel
theorem dX10_isElder_8 : decode cX10_isElder 8 = .ok (.aload_n 0, 1) := by decide +kernel
theorem dX10_isElder_9 : decode cX10_isElder 9 = .ok (.iload_n 2, 1) := by decide +kernel
theorem dX10_isElder_10 : decode cX10_isElder 10 = .ok (.iload_n 3, 1) := by decide +kernel
theorem dX10_isElder_11 : decode cX10_isElder 11 = .ok (.invokevirtual 101, 3) := by decide +kernel
theorem dX10_isElder_14 : decode cX10_isElder 14 = .ok (.istore 5, 2) := by decide +kernel
theorem dX10_isElder_16 : decode cX10_isElder 16 = .ok (.iload 4, 2) := by decide +kernel
theorem dX10_isElder_18 : decode cX10_isElder 18 = .ok (.iload 5, 2) := by decide +kernel
theorem dX10_isElder_20 : decode cX10_isElder 20 = .ok (.if_icmp .gt 15, 3) := by decide +kernel
theorem dX10_isElder_23 : decode cX10_isElder 23 = .ok (.iload 4, 2) := by decide +kernel
theorem dX10_isElder_25 : decode cX10_isElder 25 = .ok (.iload 5, 2) := by decide +kernel
theorem dX10_isElder_27 : decode cX10_isElder 27 = .ok (.if_icmp .ne 12, 3) := by decide +kernel
theorem dX10_isElder_30 : decode cX10_isElder 30 = .ok (.iload_n 1, 1) := by decide +kernel
theorem dX10_isElder_31 : decode cX10_isElder 31 = .ok (.iload_n 2, 1) := by decide +kernel
theorem dX10_isElder_32 : decode cX10_isElder 32 = .ok (.if_icmp .ge 7, 3) := by decide +kernel
theorem dX10_isElder_35 : decode cX10_isElder 35 = .ok (.iconst 1, 1) := by decide +kernel
theorem dX10_isElder_36 : decode cX10_isElder 36 = .ok (.goto 4, 3) := by decide +kernel
theorem dX10_isElder_39 : decode cX10_isElder 39 = .ok (.iconst 0, 1) := by decide +kernel
theorem dX10_isElder_40 : decode cX10_isElder 40 = .ok (.ireturn, 1) := by decide +kernel
theorem dX10_elder_0 : decode cX10_elder 0 = .ok (.iconst 0, 1) := by decide +kernel
theorem dX10_elder_1 : decode cX10_elder 1 = .ok (.istore_n 3, 1) := by decide +kernel
theorem dX10_elder_2 : decode cX10_elder 2 = .ok (.iload_n 3, 1) := by decide +kernel
theorem dX10_elder_3 : decode cX10_elder 3 = .ok (.aload_n 0, 1) := by decide +kernel
theorem dX10_elder_4 : decode cX10_elder 4 = .ok (.getfield 9, 3) := by decide +kernel
theorem dX10_elder_7 : decode cX10_elder 7 = .ok (.iconst 1, 1) := by decide +kernel
theorem dX10_elder_8 : decode cX10_elder 8 = .ok (.iaload, 1) := by decide +kernel
theorem dX10_elder_9 : decode cX10_elder 9 = .ok (.if_icmp .ge 61, 3) := by decide +kernel
theorem dX10_elder_12 : decode cX10_elder 12 = .ok (.iconst 0, 1) := by decide +kernel
theorem dX10_elder_13 : decode cX10_elder 13 = .ok (.istore 4, 2) := by decide +kernel
theorem dX10_elder_15 : decode cX10_elder 15 = .ok (.iconst 0, 1) := by decide +kernel
theorem dX10_elder_16 : decode cX10_elder 16 = .ok (.istore 5, 2) := by decide +kernel
theorem dX10_elder_18 : decode cX10_elder 18 = .ok (.iload 5, 2) := by decide +kernel
theorem dX10_elder_20 : decode cX10_elder 20 = .ok (.aload_n 0, 1) := by decide +kernel
theorem dX10_elder_21 : decode cX10_elder 21 = .ok (.getfield 9, 3) := by decide +kernel
theorem dX10_elder_24 : decode cX10_elder 24 = .ok (.iconst 1, 1) := by decide +kernel
theorem dX10_elder_25 : decode cX10_elder 25 = .ok (.iaload, 1) := by decide +kernel
theorem dX10_elder_26 : decode cX10_elder 26 = .ok (.if_icmp .ge 30, 3) := by decide +kernel
theorem dX10_elder_29 : decode cX10_elder 29 = .ok (.iload 4, 2) := by decide +kernel
theorem dX10_elder_31 : decode cX10_elder 31 = .ok (.aload_n 0, 1) := by decide +kernel
theorem dX10_elder_32 : decode cX10_elder 32 = .ok (.iload 5, 2) := by decide +kernel
theorem dX10_elder_34 : decode cX10_elder 34 = .ok (.iload_n 3, 1) := by decide +kernel
theorem dX10_elder_35 : decode cX10_elder 35 = .ok (.iload_n 2, 1) := by decide +kernel
theorem dX10_elder_36 : decode cX10_elder 36 = .ok (.invokevirtual 104, 3) := by decide +kernel
theorem dX10_elder_39 : decode cX10_elder 39 = .ok (.ifCond .eq 7, 3) := by decide +kernel
theorem dX10_elder_42 : decode cX10_elder 42 = .ok (.iconst 1, 1) := by decide +kernel
theorem dX10_elder_43 : decode cX10_elder 43 = .ok (.goto 4, 3) := by decide +kernel
theorem dX10_elder_46 : decode cX10_elder 46 = .ok (.iconst 0, 1) := by decide +kernel
theorem dX10_elder_47 : decode cX10_elder 47 = .ok (.iadd, 1) := by decide +kernel
theorem dX10_elder_48 : decode cX10_elder 48 = .ok (.istore 4, 2) := by decide +kernel
theorem dX10_elder_50 : decode cX10_elder 50 = .ok (.iinc 5 1, 3) := by decide +kernel
theorem dX10_elder_53 : decode cX10_elder 53 = .ok (.goto (-35), 3) := by decide +kernel
theorem dX10_elder_56 : decode cX10_elder 56 = .ok (.iload 4, 2) := by decide +kernel
theorem dX10_elder_58 : decode cX10_elder 58 = .ok (.iload_n 1, 1) := by decide +kernel
theorem dX10_elder_59 : decode cX10_elder 59 = .ok (.if_icmp .ne 5, 3) := by decide +kernel
theorem dX10_elder_62 : decode cX10_elder 62 = .ok (.iload_n 3, 1) := by decide +kernel
theorem dX10_elder_63 : decode cX10_elder 63 = .ok (.ireturn, 1) := by decide +kernel
theorem dX10_elder_64 : decode cX10_elder 64 = .ok (.iinc 3 1, 3) := by decide +kernel
theorem dX10_elder_67 : decode cX10_elder 67 = .ok (.goto (-65), 3) := by decide +kernel
theorem dX10_elder_70 : decode cX10_elder 70 = .ok (.iconst 0, 1) := by decide +kernel
theorem dX10_elder_71 : decode cX10_elder 71 = .ok (.ireturn, 1) := by decide +kernel
theorem dX10_placeOf_0 : decode cX10_placeOf 0 = .ok (.aload_n 0, 1) := by decide +kernel
theorem dX10_placeOf_1 : decode cX10_placeOf 1 = .ok (.getfield 55, 3) := by decide +kernel
theorem dX10_placeOf_4 : decode cX10_placeOf 4 = .ok (.iload_n 1, 1) := by decide +kernel
theorem dX10_placeOf_5 : decode cX10_placeOf 5 = .ok (.bipush 24, 2) := by decide +kernel
theorem dX10_placeOf_7 : decode cX10_placeOf 7 = .ok (.imul, 1) := by decide +kernel
theorem dX10_placeOf_8 : decode cX10_placeOf 8 = .ok (.iload_n 2, 1) := by decide +kernel
theorem dX10_placeOf_9 : decode cX10_placeOf 9 = .ok (.iadd, 1) := by decide +kernel
theorem dX10_placeOf_10 : decode cX10_placeOf 10 = .ok (.iaload, 1) := by decide +kernel
theorem dX10_placeOf_11 : decode cX10_placeOf 11 = .ok (.ireturn, 1) := by decide +kernel
theorem dX10_standers_0 : decode cX10_standers 0 = .ok (.iload_n 1, 1) := by decide +kernel
theorem dX10_standers_1 : decode cX10_standers 1 = .ok (.ifCond .ge 7, 3) := by decide +kernel
theorem dX10_standers_4 : decode cX10_standers 4 = .ok (.iconst 0, 1) := by decide +kernel
theorem dX10_standers_5 : decode cX10_standers 5 = .ok (.goto 14, 3) := by decide +kernel
theorem dX10_standers_8 : decode cX10_standers 8 = .ok (.aload_n 0, 1) := by decide +kernel
theorem dX10_standers_9 : decode cX10_standers 9 = .ok (.getfield 58, 3) := by decide +kernel
theorem dX10_standers_12 : decode cX10_standers 12 = .ok (.iload_n 1, 1) := by decide +kernel
theorem dX10_standers_13 : decode cX10_standers 13 = .ok (.bipush 24, 2) := by decide +kernel
theorem dX10_standers_15 : decode cX10_standers 15 = .ok (.imul, 1) := by decide +kernel
theorem dX10_standers_16 : decode cX10_standers 16 = .ok (.iload_n 2, 1) := by decide +kernel
theorem dX10_standers_17 : decode cX10_standers 17 = .ok (.iadd, 1) := by decide +kernel
theorem dX10_standers_18 : decode cX10_standers 18 = .ok (.iaload, 1) := by decide +kernel
theorem dX10_standers_19 : decode cX10_standers 19 = .ok (.ireturn, 1) := by decide +kernel
theorem dX10_hearers_0 : decode cX10_hearers 0 = .ok (.iload_n 1, 1) := by decide +kernel
theorem dX10_hearers_1 : decode cX10_hearers 1 = .ok (.ifCond .ge 7, 3) := by decide +kernel
theorem dX10_hearers_4 : decode cX10_hearers 4 = .ok (.iconst 0, 1) := by decide +kernel
theorem dX10_hearers_5 : decode cX10_hearers 5 = .ok (.goto 14, 3) := by decide +kernel
theorem dX10_hearers_8 : decode cX10_hearers 8 = .ok (.aload_n 0, 1) := by decide +kernel
theorem dX10_hearers_9 : decode cX10_hearers 9 = .ok (.getfield 61, 3) := by decide +kernel
theorem dX10_hearers_12 : decode cX10_hearers 12 = .ok (.iload_n 1, 1) := by decide +kernel
theorem dX10_hearers_13 : decode cX10_hearers 13 = .ok (.bipush 24, 2) := by decide +kernel
theorem dX10_hearers_15 : decode cX10_hearers 15 = .ok (.imul, 1) := by decide +kernel
theorem dX10_hearers_16 : decode cX10_hearers 16 = .ok (.iload_n 2, 1) := by decide +kernel
theorem dX10_hearers_17 : decode cX10_hearers 17 = .ok (.iadd, 1) := by decide +kernel
theorem dX10_hearers_18 : decode cX10_hearers 18 = .ok (.iaload, 1) := by decide +kernel
theorem dX10_hearers_19 : decode cX10_hearers 19 = .ok (.ireturn, 1) := by decide +kernel
theorem dX10_allows_0 : decode cX10_allows 0 = .ok (.aload_n 0, 1) := by decide +kernel
theorem dX10_allows_1 : decode cX10_allows 1 = .ok (.aload_n 0, 1) := by decide +kernel
theorem dX10_allows_2 : decode cX10_allows 2 = .ok (.iload_n 1, 1) := by decide +kernel
theorem dX10_allows_3 : decode cX10_allows 3 = .ok (.iload_n 3, 1) := by decide +kernel
theorem dX10_allows_4 : decode cX10_allows 4 = .ok (.invokevirtual 108, 3) := by decide +kernel
theorem dX10_allows_7 : decode cX10_allows 7 = .ok (.iload_n 3, 1) := by decide +kernel
theorem dX10_allows_8 : decode cX10_allows 8 = .ok (.invokevirtual 111, 3) := by decide +kernel
theorem dX10_allows_11 : decode cX10_allows 11 = .ok (.iload 5, 2) := by decide +kernel
theorem dX10_allows_13 : decode cX10_allows 13 = .ok (.iand, 1) := by decide +kernel
theorem dX10_allows_14 : decode cX10_allows 14 = .ok (.istore 6, 2) := by decide +kernel
theorem dX10_allows_16 : decode cX10_allows 16 = .ok (.iload 6, 2) := by decide +kernel
theorem dX10_allows_18 : decode cX10_allows 18 = .ok (.iload_n 1, 1) := by decide +kernel
theorem dX10_allows_19 : decode cX10_allows 19 = .ok (.invokestatic 97, 3) := by decide +kernel
theorem dX10_allows_22 : decode cX10_allows 22 = .ok (.ifCond .eq 12, 3) := by decide +kernel
theorem dX10_allows_25 : decode cX10_allows 25 = .ok (.iload 6, 2) := by decide +kernel
theorem dX10_allows_27 : decode cX10_allows 27 = .ok (.iload_n 2, 1) := by decide +kernel
theorem dX10_allows_28 : decode cX10_allows 28 = .ok (.invokestatic 97, 3) := by decide +kernel
theorem dX10_allows_31 : decode cX10_allows 31 = .ok (.ifCond .ne 5, 3) := by decide +kernel
theorem dX10_allows_34 : decode cX10_allows 34 = .ok (.iconst 0, 1) := by decide +kernel
theorem dX10_allows_35 : decode cX10_allows 35 = .ok (.ireturn, 1) := by decide +kernel
theorem dX10_allows_36 : decode cX10_allows 36 = .ok (.iload 6, 2) := by decide +kernel
theorem dX10_allows_38 : decode cX10_allows 38 = .ok (.invokestatic 114, 3) := by decide +kernel
theorem dX10_allows_41 : decode cX10_allows 41 = .ok (.istore 7, 2) := by decide +kernel
theorem dX10_allows_43 : decode cX10_allows 43 = .ok (.aload_n 0, 1) := by decide +kernel
theorem dX10_allows_44 : decode cX10_allows 44 = .ok (.getfield 51, 3) := by decide +kernel
theorem dX10_allows_47 : decode cX10_allows 47 = .ok (.iload 4, 2) := by decide +kernel
theorem dX10_allows_49 : decode cX10_allows 49 = .ok (.aload_n 0, 1) := by decide +kernel
theorem dX10_allows_50 : decode cX10_allows 50 = .ok (.iload_n 1, 1) := by decide +kernel
theorem dX10_allows_51 : decode cX10_allows 51 = .ok (.iload_n 3, 1) := by decide +kernel
theorem dX10_allows_52 : decode cX10_allows 52 = .ok (.invokevirtual 101, 3) := by decide +kernel
theorem dX10_allows_55 : decode cX10_allows 55 = .ok (.aload_n 0, 1) := by decide +kernel
theorem dX10_allows_56 : decode cX10_allows 56 = .ok (.iload_n 2, 1) := by decide +kernel
theorem dX10_allows_57 : decode cX10_allows 57 = .ok (.iload_n 3, 1) := by decide +kernel
theorem dX10_allows_58 : decode cX10_allows 58 = .ok (.invokevirtual 101, 3) := by decide +kernel
theorem dX10_allows_61 : decode cX10_allows 61 = .ok (.iload_n 3, 1) := by decide +kernel
theorem dX10_allows_62 : decode cX10_allows 62 = .ok (.iload 7, 2) := by decide +kernel
theorem dX10_allows_64 : decode cX10_allows 64 = .ok (.invokevirtual 120, 3) := by decide +kernel
theorem dX10_allows_67 : decode cX10_allows 67 = .ok (.ireturn, 1) := by decide +kernel
theorem dX10_sayTo_0 : decode cX10_sayTo 0 = .ok (.aload_n 0, 1) := by decide +kernel
theorem dX10_sayTo_1 : decode cX10_sayTo 1 = .ok (.getfield 64, 3) := by decide +kernel
theorem dX10_sayTo_4 : decode cX10_sayTo 4 = .ok (.iload_n 1, 1) := by decide +kernel
theorem dX10_sayTo_5 : decode cX10_sayTo 5 = .ok (.bipush 24, 2) := by decide +kernel
theorem dX10_sayTo_7 : decode cX10_sayTo 7 = .ok (.imul, 1) := by decide +kernel
theorem dX10_sayTo_8 : decode cX10_sayTo 8 = .ok (.iload_n 2, 1) := by decide +kernel
theorem dX10_sayTo_9 : decode cX10_sayTo 9 = .ok (.iadd, 1) := by decide +kernel
theorem dX10_sayTo_10 : decode cX10_sayTo 10 = .ok (.iaload, 1) := by decide +kernel
theorem dX10_sayTo_11 : decode cX10_sayTo 11 = .ok (.ireturn, 1) := by decide +kernel
theorem dX10_knowersAtFirst_0 : decode cX10_knowersAtFirst 0 = .ok (.iconst 0, 1) := by decide +kernel
theorem dX10_knowersAtFirst_1 : decode cX10_knowersAtFirst 1 = .ok (.istore_n 2, 1) := by decide +kernel
theorem dX10_knowersAtFirst_2 : decode cX10_knowersAtFirst 2 = .ok (.iconst 0, 1) := by decide +kernel
theorem dX10_knowersAtFirst_3 : decode cX10_knowersAtFirst 3 = .ok (.istore_n 3, 1) := by decide +kernel
theorem dX10_knowersAtFirst_4 : decode cX10_knowersAtFirst 4 = .ok (.iload_n 3, 1) := by decide +kernel
theorem dX10_knowersAtFirst_5 : decode cX10_knowersAtFirst 5 = .ok (.aload_n 0, 1) := by decide +kernel
theorem dX10_knowersAtFirst_6 : decode cX10_knowersAtFirst 6 = .ok (.getfield 9, 3) := by decide +kernel
theorem dX10_knowersAtFirst_9 : decode cX10_knowersAtFirst 9 = .ok (.iconst 1, 1) := by decide +kernel
theorem dX10_knowersAtFirst_10 : decode cX10_knowersAtFirst 10 = .ok (.iaload, 1) := by decide +kernel
theorem dX10_knowersAtFirst_11 : decode cX10_knowersAtFirst 11 = .ok (.if_icmp .ge 24, 3) := by decide +kernel
theorem dX10_knowersAtFirst_14 : decode cX10_knowersAtFirst 14 = .ok (.iload_n 2, 1) := by decide +kernel
theorem dX10_knowersAtFirst_15 : decode cX10_knowersAtFirst 15 = .ok (.aload_n 0, 1) := by decide +kernel
theorem dX10_knowersAtFirst_16 : decode cX10_knowersAtFirst 16 = .ok (.getfield 27, 3) := by decide +kernel
theorem dX10_knowersAtFirst_19 : decode cX10_knowersAtFirst 19 = .ok (.iload_n 3, 1) := by decide +kernel
theorem dX10_knowersAtFirst_20 : decode cX10_knowersAtFirst 20 = .ok (.iaload, 1) := by decide +kernel
theorem dX10_knowersAtFirst_21 : decode cX10_knowersAtFirst 21 = .ok (.iload_n 1, 1) := by decide +kernel
theorem dX10_knowersAtFirst_22 : decode cX10_knowersAtFirst 22 = .ok (.iushr, 1) := by decide +kernel
theorem dX10_knowersAtFirst_23 : decode cX10_knowersAtFirst 23 = .ok (.iconst 1, 1) := by decide +kernel
theorem dX10_knowersAtFirst_24 : decode cX10_knowersAtFirst 24 = .ok (.iand, 1) := by decide +kernel
theorem dX10_knowersAtFirst_25 : decode cX10_knowersAtFirst 25 = .ok (.iload_n 3, 1) := by decide +kernel
theorem dX10_knowersAtFirst_26 : decode cX10_knowersAtFirst 26 = .ok (.ishl, 1) := by decide +kernel
theorem dX10_knowersAtFirst_27 : decode cX10_knowersAtFirst 27 = .ok (.ior, 1) := by decide +kernel
theorem dX10_knowersAtFirst_28 : decode cX10_knowersAtFirst 28 = .ok (.istore_n 2, 1) := by decide +kernel
theorem dX10_knowersAtFirst_29 : decode cX10_knowersAtFirst 29 = .ok (.iinc 3 1, 3) := by decide +kernel
theorem dX10_knowersAtFirst_32 : decode cX10_knowersAtFirst 32 = .ok (.goto (-28), 3) := by decide +kernel
theorem dX10_knowersAtFirst_35 : decode cX10_knowersAtFirst 35 = .ok (.iload_n 2, 1) := by decide +kernel
theorem dX10_knowersAtFirst_36 : decode cX10_knowersAtFirst 36 = .ok (.ireturn, 1) := by decide +kernel
theorem dX11_init_0 : decode cX11_init 0 = .ok (.aload_n 0, 1) := by decide +kernel
theorem dX11_init_1 : decode cX11_init 1 = .ok (.invokespecial 1, 3) := by decide +kernel
theorem dX11_init_4 : decode cX11_init 4 = .ok (.aload_n 0, 1) := by decide +kernel
theorem dX11_init_5 : decode cX11_init 5 = .ok (.sipush 2000, 3) := by decide +kernel
theorem dX11_init_8 : decode cX11_init 8 = .ok (.newarray .byte, 2) := by decide +kernel
theorem dX11_init_10 : decode cX11_init 10 = .ok (.putfield 9, 3) := by decide +kernel
theorem dX11_init_13 : decode cX11_init 13 = .ok (.aload_n 0, 1) := by decide +kernel
theorem dX11_init_14 : decode cX11_init 14 = .ok (.iconst 0, 1) := by decide +kernel
theorem dX11_init_15 : decode cX11_init 15 = .ok (.putfield 13, 3) := by decide +kernel
theorem dX11_init_18 : decode cX11_init 18 = .ok (.aload_n 0, 1) := by decide +kernel
theorem dX11_init_19 : decode cX11_init 19 = .ok (.iconst (-1), 1) := by decide +kernel
theorem dX11_init_20 : decode cX11_init 20 = .ok (.putfield 17, 3) := by decide +kernel
theorem dX11_init_23 : decode cX11_init 23 = .ok (.aload_n 0, 1) := by decide +kernel
theorem dX11_init_24 : decode cX11_init 24 = .ok (.new 20, 3) := by decide +kernel
theorem dX11_init_27 : decode cX11_init 27 = .ok (.dup, 1) := by decide +kernel
theorem dX11_init_28 : decode cX11_init 28 = .ok (.invokespecial 22, 3) := by decide +kernel
theorem dX11_init_31 : decode cX11_init 31 = .ok (.putfield 23, 3) := by decide +kernel
theorem dX11_init_34 : decode cX11_init 34 = .ok (.aload_n 0, 1) := by decide +kernel
theorem dX11_init_35 : decode cX11_init 35 = .ok (.new 27, 3) := by decide +kernel
theorem dX11_init_38 : decode cX11_init 38 = .ok (.dup, 1) := by decide +kernel
theorem dX11_init_39 : decode cX11_init 39 = .ok (.aload_n 0, 1) := by decide +kernel
theorem dX11_init_40 : decode cX11_init 40 = .ok (.getfield 23, 3) := by decide +kernel
theorem dX11_init_43 : decode cX11_init 43 = .ok (.invokespecial 29, 3) := by decide +kernel
theorem dX11_init_46 : decode cX11_init 46 = .ok (.putfield 32, 3) := by decide +kernel
theorem dX11_init_49 : decode cX11_init 49 = .ok (.aload_n 0, 1) := by decide +kernel
theorem dX11_init_50 : decode cX11_init 50 = .ok (.new 36, 3) := by decide +kernel
theorem dX11_init_53 : decode cX11_init 53 = .ok (.dup, 1) := by decide +kernel
theorem dX11_init_54 : decode cX11_init 54 = .ok (.aload_n 0, 1) := by decide +kernel
theorem dX11_init_55 : decode cX11_init 55 = .ok (.getfield 23, 3) := by decide +kernel
theorem dX11_init_58 : decode cX11_init 58 = .ok (.invokespecial 38, 3) := by decide +kernel
theorem dX11_init_61 : decode cX11_init 61 = .ok (.putfield 39, 3) := by decide +kernel
theorem dX11_init_64 : decode cX11_init 64 = .ok (.aload_n 0, 1) := by decide +kernel
theorem dX11_init_65 : decode cX11_init 65 = .ok (.new 43, 3) := by decide +kernel
theorem dX11_init_68 : decode cX11_init 68 = .ok (.dup, 1) := by decide +kernel
theorem dX11_init_69 : decode cX11_init 69 = .ok (.invokespecial 45, 3) := by decide +kernel
theorem dX11_init_72 : decode cX11_init 72 = .ok (.putfield 46, 3) := by decide +kernel
theorem dX11_init_75 : decode cX11_init 75 = .ok (.aload_n 0, 1) := by decide +kernel
theorem dX11_init_76 : decode cX11_init 76 = .ok (.new 43, 3) := by decide +kernel
theorem dX11_init_79 : decode cX11_init 79 = .ok (.dup, 1) := by decide +kernel
theorem dX11_init_80 : decode cX11_init 80 = .ok (.invokespecial 45, 3) := by decide +kernel
theorem dX11_init_83 : decode cX11_init 83 = .ok (.putfield 50, 3) := by decide +kernel
theorem dX11_init_86 : decode cX11_init 86 = .ok (.aload_n 0, 1) := by decide +kernel
theorem dX11_init_87 : decode cX11_init 87 = .ok (.new 53, 3) := by decide +kernel
theorem dX11_init_90 : decode cX11_init 90 = .ok (.dup, 1) := by decide +kernel
theorem dX11_init_91 : decode cX11_init 91 = .ok (.invokespecial 55, 3) := by decide +kernel
theorem dX11_init_94 : decode cX11_init 94 = .ok (.putfield 56, 3) := by decide +kernel
theorem dX11_init_97 : decode cX11_init 97 = .ok (.aload_n 0, 1) := by decide +kernel
theorem dX11_init_98 : decode cX11_init 98 = .ok (.new 60, 3) := by decide +kernel
theorem dX11_init_101 : decode cX11_init 101 = .ok (.dup, 1) := by decide +kernel
theorem dX11_init_102 : decode cX11_init 102 = .ok (.invokespecial 62, 3) := by decide +kernel
theorem dX11_init_105 : decode cX11_init 105 = .ok (.putfield 63, 3) := by decide +kernel
theorem dX11_init_108 : decode cX11_init 108 = .ok (.aload_n 0, 1) := by decide +kernel
theorem dX11_init_109 : decode cX11_init 109 = .ok (.iconst 0, 1) := by decide +kernel
theorem dX11_init_110 : decode cX11_init 110 = .ok (.putfield 67, 3) := by decide +kernel
theorem dX11_init_113 : decode cX11_init 113 = .ok (.aload_n 0, 1) := by decide +kernel
theorem dX11_init_114 : decode cX11_init 114 = .ok (.new 60, 3) := by decide +kernel
theorem dX11_init_117 : decode cX11_init 117 = .ok (.dup, 1) := by decide +kernel
theorem dX11_init_118 : decode cX11_init 118 = .ok (.invokespecial 62, 3) := by decide +kernel
theorem dX11_init_121 : decode cX11_init 121 = .ok (.putfield 71, 3) := by decide +kernel
theorem dX11_init_124 : decode cX11_init 124 = .ok (.aload_n 0, 1) := by decide +kernel
theorem dX11_init_125 : decode cX11_init 125 = .ok (.new 74, 3) := by decide +kernel
theorem dX11_init_128 : decode cX11_init 128 = .ok (.dup, 1) := by decide +kernel
theorem dX11_init_129 : decode cX11_init 129 = .ok (.invokespecial 76, 3) := by decide +kernel
theorem dX11_init_132 : decode cX11_init 132 = .ok (.putfield 77, 3) := by decide +kernel
theorem dX11_init_135 : decode cX11_init 135 = .ok (.aload_n 0, 1) := by decide +kernel
theorem dX11_init_136 : decode cX11_init 136 = .ok (.new 81, 3) := by decide +kernel
theorem dX11_init_139 : decode cX11_init 139 = .ok (.dup, 1) := by decide +kernel
theorem dX11_init_140 : decode cX11_init 140 = .ok (.invokespecial 83, 3) := by decide +kernel
theorem dX11_init_143 : decode cX11_init 143 = .ok (.putfield 84, 3) := by decide +kernel
theorem dX11_init_146 : decode cX11_init 146 = .ok (.aload_n 0, 1) := by decide +kernel
theorem dX11_init_147 : decode cX11_init 147 = .ok (.new 88, 3) := by decide +kernel
theorem dX11_init_150 : decode cX11_init 150 = .ok (.dup, 1) := by decide +kernel
theorem dX11_init_151 : decode cX11_init 151 = .ok (.invokespecial 90, 3) := by decide +kernel
theorem dX11_init_154 : decode cX11_init 154 = .ok (.putfield 91, 3) := by decide +kernel
theorem dX11_init_157 : decode cX11_init 157 = .ok (.return_, 1) := by decide +kernel
theorem dX11_feed_0 : decode cX11_feed 0 = .ok (.aload_n 0, 1) := by decide +kernel
theorem dX11_feed_1 : decode cX11_feed 1 = .ok (.getfield 13, 3) := by decide +kernel
theorem dX11_feed_4 : decode cX11_feed 4 = .ok (.bipush 20, 2) := by decide +kernel
theorem dX11_feed_6 : decode cX11_feed 6 = .ok (.iadd, 1) := by decide +kernel
theorem dX11_feed_7 : decode cX11_feed 7 = .ok (.sipush 2000, 3) := by decide +kernel
theorem dX11_feed_10 : decode cX11_feed 10 = .ok (.if_icmp .le 5, 3) := by decide +kernel
theorem dX11_feed_13 : decode cX11_feed 13 = .ok (.iconst (-1), 1) := by decide +kernel
theorem dX11_feed_14 : decode cX11_feed 14 = .ok (.ireturn, 1) := by decide +kernel
theorem dX11_feed_15 : decode cX11_feed 15 = .ok (.aload_n 0, 1) := by decide +kernel
theorem dX11_feed_16 : decode cX11_feed 16 = .ok (.iload_n 1, 1) := by decide +kernel
theorem dX11_feed_17 : decode cX11_feed 17 = .ok (.invokevirtual 95, 3) := by decide +kernel
theorem dX11_feed_20 : decode cX11_feed 20 = .ok (.aload_n 0, 1) := by decide +kernel
theorem dX11_feed_21 : decode cX11_feed 21 = .ok (.iload_n 2, 1) := by decide +kernel
theorem dX11_feed_22 : decode cX11_feed 22 = .ok (.invokevirtual 95, 3) := by decide +kernel
theorem dX11_feed_25 : decode cX11_feed 25 = .ok (.aload_n 0, 1) := by decide +kernel
theorem dX11_feed_26 : decode cX11_feed 26 = .ok (.iload_n 3, 1) := by decide +kernel
theorem dX11_feed_27 : decode cX11_feed 27 = .ok (.invokevirtual 95, 3) := by decide +kernel
theorem dX11_feed_30 : decode cX11_feed 30 = .ok (.aload_n 0, 1) := by decide +kernel
theorem dX11_feed_31 : decode cX11_feed 31 = .ok (.iload 4, 2) := by decide +kernel
theorem dX11_feed_33 : decode cX11_feed 33 = .ok (.invokevirtual 95, 3) := by decide +kernel
theorem dX11_feed_36 : decode cX11_feed 36 = .ok (.aload_n 0, 1) := by decide +kernel
theorem dX11_feed_37 : decode cX11_feed 37 = .ok (.iload 5, 2) := by decide +kernel
theorem dX11_feed_39 : decode cX11_feed 39 = .ok (.invokevirtual 95, 3) := by decide +kernel
theorem dX11_feed_42 : decode cX11_feed 42 = .ok (.aload_n 0, 1) := by decide +kernel
theorem dX11_feed_43 : decode cX11_feed 43 = .ok (.getfield 13, 3) := by decide +kernel
theorem dX11_feed_46 : decode cX11_feed 46 = .ok (.ireturn, 1) := by decide +kernel
theorem dX11_putBytes_0 : decode cX11_putBytes 0 = .ok (.bipush 24, 2) := by decide +kernel
theorem dX11_putBytes_2 : decode cX11_putBytes 2 = .ok (.istore_n 2, 1) := by decide +kernel
theorem dX11_putBytes_3 : decode cX11_putBytes 3 = .ok (.iload_n 2, 1) := by decide +kernel
theorem dX11_putBytes_4 : decode cX11_putBytes 4 = .ok (.ifCond .lt 42, 3) := by decide +kernel
theorem dX11_putBytes_7 : decode cX11_putBytes 7 = .ok (.aload_n 0, 1) := by decide +kernel
theorem dX11_putBytes_8 : decode cX11_putBytes 8 = .ok (.getfield 13, 3) := by decide +kernel
theorem dX11_putBytes_11 : decode cX11_putBytes 11 = .ok (.sipush 2000, 3) := by decide +kernel
theorem dX11_putBytes_14 : decode cX11_putBytes 14 = .ok (.if_icmp .ge 32, 3) := by decide +kernel
theorem dX11_putBytes_17 : decode cX11_putBytes 17 = .ok (.aload_n 0, 1) := by decide +kernel
theorem dX11_putBytes_18 : decode cX11_putBytes 18 = .ok (.getfield 9, 3) := by decide +kernel
theorem dX11_putBytes_21 : decode cX11_putBytes 21 = .ok (.aload_n 0, 1) := by decide +kernel
theorem dX11_putBytes_22 : decode cX11_putBytes 22 = .ok (.getfield 13, 3) := by decide +kernel
theorem dX11_putBytes_25 : decode cX11_putBytes 25 = .ok (.iload_n 1, 1) := by decide +kernel
theorem dX11_putBytes_26 : decode cX11_putBytes 26 = .ok (.iload_n 2, 1) := by decide +kernel
theorem dX11_putBytes_27 : decode cX11_putBytes 27 = .ok (.iushr, 1) := by decide +kernel
theorem dX11_putBytes_28 : decode cX11_putBytes 28 = .ok (.i2b, 1) := by decide +kernel
theorem dX11_putBytes_29 : decode cX11_putBytes 29 = .ok (.bastore, 1) := by decide +kernel
theorem dX11_putBytes_30 : decode cX11_putBytes 30 = .ok (.aload_n 0, 1) := by decide +kernel
theorem dX11_putBytes_31 : decode cX11_putBytes 31 = .ok (.dup, 1) := by decide +kernel
theorem dX11_putBytes_32 : decode cX11_putBytes 32 = .ok (.getfield 13, 3) := by decide +kernel
theorem dX11_putBytes_35 : decode cX11_putBytes 35 = .ok (.iconst 1, 1) := by decide +kernel
theorem dX11_putBytes_36 : decode cX11_putBytes 36 = .ok (.iadd, 1) := by decide +kernel
theorem dX11_putBytes_37 : decode cX11_putBytes 37 = .ok (.putfield 13, 3) := by decide +kernel
theorem dX11_putBytes_40 : decode cX11_putBytes 40 = .ok (.iinc 2 (-8), 3) := by decide +kernel
theorem dX11_putBytes_43 : decode cX11_putBytes 43 = .ok (.goto (-40), 3) := by decide +kernel
theorem dX11_putBytes_46 : decode cX11_putBytes 46 = .ok (.return_, 1) := by decide +kernel
theorem dX11_back_0 : decode cX11_back 0 = .ok (.iload_n 1, 1) := by decide +kernel
theorem dX11_back_1 : decode cX11_back 1 = .ok (.ifCond .lt 11, 3) := by decide +kernel
theorem dX11_back_4 : decode cX11_back 4 = .ok (.iload_n 1, 1) := by decide +kernel
theorem dX11_back_5 : decode cX11_back 5 = .ok (.aload_n 0, 1) := by decide +kernel
theorem dX11_back_6 : decode cX11_back 6 = .ok (.getfield 13, 3) := by decide +kernel
theorem dX11_back_9 : decode cX11_back 9 = .ok (.if_icmp .le 5, 3) := by decide +kernel
theorem dX11_back_12 : decode cX11_back 12 = .ok (.iconst (-1), 1) := by decide +kernel
theorem dX11_back_13 : decode cX11_back 13 = .ok (.ireturn, 1) := by decide +kernel
theorem dX11_back_14 : decode cX11_back 14 = .ok (.aload_n 0, 1) := by decide +kernel
theorem dX11_back_15 : decode cX11_back 15 = .ok (.dup, 1) := by decide +kernel
theorem dX11_back_16 : decode cX11_back 16 = .ok (.getfield 13, 3) := by decide +kernel
theorem dX11_back_19 : decode cX11_back 19 = .ok (.iload_n 1, 1) := by decide +kernel
theorem dX11_back_20 : decode cX11_back 20 = .ok (.isub, 1) := by decide +kernel
theorem dX11_back_21 : decode cX11_back 21 = .ok (.putfield 13, 3) := by decide +kernel
theorem dX11_back_24 : decode cX11_back 24 = .ok (.aload_n 0, 1) := by decide +kernel
theorem dX11_back_25 : decode cX11_back 25 = .ok (.getfield 13, 3) := by decide +kernel
theorem dX11_back_28 : decode cX11_back 28 = .ok (.ireturn, 1) := by decide +kernel
theorem dX11_read_0 : decode cX11_read 0 = .ok (.aload_n 0, 1) := by decide +kernel
theorem dX11_read_1 : decode cX11_read 1 = .ok (.getfield 23, 3) := by decide +kernel
theorem dX11_read_4 : decode cX11_read 4 = .ok (.aload_n 0, 1) := by decide +kernel
theorem dX11_read_5 : decode cX11_read 5 = .ok (.getfield 9, 3) := by decide +kernel
theorem dX11_read_8 : decode cX11_read 8 = .ok (.aload_n 0, 1) := by decide +kernel
theorem dX11_read_9 : decode cX11_read 9 = .ok (.getfield 13, 3) := by decide +kernel
theorem dX11_read_12 : decode cX11_read 12 = .ok (.invokevirtual 99, 3) := by decide +kernel
theorem dX11_read_15 : decode cX11_read 15 = .ok (.aload_n 0, 1) := by decide +kernel
theorem dX11_read_16 : decode cX11_read 16 = .ok (.iconst 0, 1) := by decide +kernel
theorem dX11_read_17 : decode cX11_read 17 = .ok (.putfield 13, 3) := by decide +kernel
theorem dX11_read_20 : decode cX11_read 20 = .ok (.aload_n 0, 1) := by decide +kernel
theorem dX11_read_21 : decode cX11_read 21 = .ok (.getfield 50, 3) := by decide +kernel
theorem dX11_read_24 : decode cX11_read 24 = .ok (.invokevirtual 103, 3) := by decide +kernel
theorem dX11_read_27 : decode cX11_read 27 = .ok (.aload_n 0, 1) := by decide +kernel
theorem dX11_read_28 : decode cX11_read 28 = .ok (.getfield 32, 3) := by decide +kernel
theorem dX11_read_31 : decode cX11_read 31 = .ok (.aload_n 0, 1) := by decide +kernel
theorem dX11_read_32 : decode cX11_read 32 = .ok (.getfield 50, 3) := by decide +kernel
theorem dX11_read_35 : decode cX11_read 35 = .ok (.getfield 106, 3) := by decide +kernel
theorem dX11_read_38 : decode cX11_read 38 = .ok (.invokevirtual 110, 3) := by decide +kernel
theorem dX11_read_41 : decode cX11_read 41 = .ok (.istore_n 1, 1) := by decide +kernel
theorem dX11_read_42 : decode cX11_read 42 = .ok (.aload_n 0, 1) := by decide +kernel
theorem dX11_read_43 : decode cX11_read 43 = .ok (.getfield 32, 3) := by decide +kernel
theorem dX11_read_46 : decode cX11_read 46 = .ok (.getfield 114, 3) := by decide +kernel
theorem dX11_read_49 : decode cX11_read 49 = .ok (.istore_n 2, 1) := by decide +kernel
theorem dX11_read_50 : decode cX11_read 50 = .ok (.iload_n 1, 1) := by decide +kernel
theorem dX11_read_51 : decode cX11_read 51 = .ok (.ifCond .ne 23, 3) := by decide +kernel
theorem dX11_read_54 : decode cX11_read 54 = .ok (.aload_n 0, 1) := by decide +kernel
theorem dX11_read_55 : decode cX11_read 55 = .ok (.getfield 39, 3) := by decide +kernel
theorem dX11_read_58 : decode cX11_read 58 = .ok (.aload_n 0, 1) := by decide +kernel
theorem dX11_read_59 : decode cX11_read 59 = .ok (.getfield 50, 3) := by decide +kernel
theorem dX11_read_62 : decode cX11_read 62 = .ok (.invokevirtual 117, 3) := by decide +kernel
theorem dX11_read_65 : decode cX11_read 65 = .ok (.istore_n 1, 1) := by decide +kernel
theorem dX11_read_66 : decode cX11_read 66 = .ok (.aload_n 0, 1) := by decide +kernel
theorem dX11_read_67 : decode cX11_read 67 = .ok (.getfield 39, 3) := by decide +kernel
theorem dX11_read_70 : decode cX11_read 70 = .ok (.getfield 121, 3) := by decide +kernel
theorem dX11_read_73 : decode cX11_read 73 = .ok (.istore_n 2, 1) := by decide +kernel
theorem dX11_read_74 : decode cX11_read 74 = .ok (.aload_n 0, 1) := by decide +kernel
theorem dX11_read_75 : decode cX11_read 75 = .ok (.iload_n 1, 1) := by decide +kernel
theorem dX11_read_76 : decode cX11_read 76 = .ok (.ifCond .ne 7, 3) := by decide +kernel
theorem dX11_read_79 : decode cX11_read 79 = .ok (.iconst (-1), 1) := by decide +kernel
theorem dX11_read_80 : decode cX11_read 80 = .ok (.goto 11, 3) := by decide +kernel
theorem dX11_read_83 : decode cX11_read 83 = .ok (.aload_n 0, 1) := by decide +kernel
theorem dX11_read_84 : decode cX11_read 84 = .ok (.getfield 23, 3) := by decide +kernel
theorem dX11_read_87 : decode cX11_read 87 = .ok (.iload_n 2, 1) := by decide +kernel
theorem dX11_read_88 : decode cX11_read 88 = .ok (.invokevirtual 124, 3) := by decide +kernel
theorem dX11_read_91 : decode cX11_read 91 = .ok (.putfield 17, 3) := by decide +kernel
theorem dX11_read_94 : decode cX11_read 94 = .ok (.iload_n 1, 1) := by decide +kernel
theorem dX11_read_95 : decode cX11_read 95 = .ok (.ifCond .ne 7, 3) := by decide +kernel
theorem dX11_read_98 : decode cX11_read 98 = .ok (.aload_n 0, 1) := by decide +kernel
theorem dX11_read_99 : decode cX11_read 99 = .ok (.invokevirtual 128, 3) := by decide +kernel
theorem dX11_read_102 : decode cX11_read 102 = .ok (.iload_n 1, 1) := by decide +kernel
theorem dX11_read_103 : decode cX11_read 103 = .ok (.ireturn, 1) := by decide +kernel
theorem dX11_settle_0 : decode cX11_settle 0 = .ok (.aload_n 0, 1) := by decide +kernel
theorem dX11_settle_1 : decode cX11_settle 1 = .ok (.getfield 46, 3) := by decide +kernel
theorem dX11_settle_4 : decode cX11_settle 4 = .ok (.astore_n 1, 1) := by decide +kernel
theorem dX11_settle_5 : decode cX11_settle 5 = .ok (.aload_n 0, 1) := by decide +kernel
theorem dX11_settle_6 : decode cX11_settle 6 = .ok (.aload_n 0, 1) := by decide +kernel
theorem dX11_settle_7 : decode cX11_settle 7 = .ok (.getfield 50, 3) := by decide +kernel
theorem dX11_settle_10 : decode cX11_settle 10 = .ok (.putfield 46, 3) := by decide +kernel
theorem dX11_settle_13 : decode cX11_settle 13 = .ok (.aload_n 0, 1) := by decide +kernel
theorem dX11_settle_14 : decode cX11_settle 14 = .ok (.aload_n 1, 1) := by decide +kernel
theorem dX11_settle_15 : decode cX11_settle 15 = .ok (.putfield 50, 3) := by decide +kernel
theorem dX11_settle_18 : decode cX11_settle 18 = .ok (.aload_n 0, 1) := by decide +kernel
theorem dX11_settle_19 : decode cX11_settle 19 = .ok (.getfield 46, 3) := by decide +kernel
theorem dX11_settle_22 : decode cX11_settle 22 = .ok (.invokevirtual 131, 3) := by decide +kernel
theorem dX11_settle_25 : decode cX11_settle 25 = .ok (.aload_n 0, 1) := by decide +kernel
theorem dX11_settle_26 : decode cX11_settle 26 = .ok (.getfield 56, 3) := by decide +kernel
theorem dX11_settle_29 : decode cX11_settle 29 = .ok (.invokevirtual 132, 3) := by decide +kernel
theorem dX11_settle_32 : decode cX11_settle 32 = .ok (.aload_n 0, 1) := by decide +kernel
theorem dX11_settle_33 : decode cX11_settle 33 = .ok (.iconst 0, 1) := by decide +kernel
theorem dX11_settle_34 : decode cX11_settle 34 = .ok (.putfield 67, 3) := by decide +kernel
theorem dX11_settle_37 : decode cX11_settle 37 = .ok (.aload_n 0, 1) := by decide +kernel
theorem dX11_settle_38 : decode cX11_settle 38 = .ok (.getfield 84, 3) := by decide +kernel
theorem dX11_settle_41 : decode cX11_settle 41 = .ok (.invokevirtual 133, 3) := by decide +kernel
theorem dX11_settle_44 : decode cX11_settle 44 = .ok (.aload_n 0, 1) := by decide +kernel
theorem dX11_settle_45 : decode cX11_settle 45 = .ok (.getfield 91, 3) := by decide +kernel
theorem dX11_settle_48 : decode cX11_settle 48 = .ok (.invokevirtual 136, 3) := by decide +kernel
theorem dX11_settle_51 : decode cX11_settle 51 = .ok (.return_, 1) := by decide +kernel
theorem dX11_place_0 : decode cX11_place 0 = .ok (.aload_n 0, 1) := by decide +kernel
theorem dX11_place_1 : decode cX11_place 1 = .ok (.getfield 17, 3) := by decide +kernel
theorem dX11_place_4 : decode cX11_place 4 = .ok (.ireturn, 1) := by decide +kernel
theorem dX11_isOne_0 : decode cX11_isOne 0 = .ok (.iload_n 2, 1) := by decide +kernel
theorem dX11_isOne_1 : decode cX11_isOne 1 = .ok (.ifCond .lt 20, 3) := by decide +kernel
theorem dX11_isOne_4 : decode cX11_isOne 4 = .ok (.iload_n 2, 1) := by decide +kernel
theorem dX11_isOne_5 : decode cX11_isOne 5 = .ok (.aload_n 0, 1) := by decide +kernel
theorem dX11_isOne_6 : decode cX11_isOne 6 = .ok (.getfield 46, 3) := by decide +kernel
theorem dX11_isOne_9 : decode cX11_isOne 9 = .ok (.getfield 137, 3) := by decide +kernel
theorem dX11_isOne_12 : decode cX11_isOne 12 = .ok (.iload_n 1, 1) := by decide +kernel
theorem dX11_isOne_13 : decode cX11_isOne 13 = .ok (.iaload, 1) := by decide +kernel
theorem dX11_isOne_14 : decode cX11_isOne 14 = .ok (.if_icmp .ge 7, 3) := by decide +kernel
theorem dX11_isOne_17 : decode cX11_isOne 17 = .ok (.iconst 1, 1) := by decide +kernel
theorem dX11_isOne_18 : decode cX11_isOne 18 = .ok (.goto 4, 3) := by decide +kernel
theorem dX11_isOne_21 : decode cX11_isOne 21 = .ok (.iconst 0, 1) := by decide +kernel
theorem dX11_isOne_22 : decode cX11_isOne 22 = .ok (.ireturn, 1) := by decide +kernel
theorem dX11_isHour_0 : decode cX11_isHour 0 = .ok (.iload_n 0, 1) := by decide +kernel
theorem dX11_isHour_1 : decode cX11_isHour 1 = .ok (.ifCond .lt 13, 3) := by decide +kernel
theorem dX11_isHour_4 : decode cX11_isHour 4 = .ok (.iload_n 0, 1) := by decide +kernel
theorem dX11_isHour_5 : decode cX11_isHour 5 = .ok (.bipush 24, 2) := by decide +kernel
theorem dX11_isHour_7 : decode cX11_isHour 7 = .ok (.if_icmp .ge 7, 3) := by decide +kernel
theorem dX11_isHour_10 : decode cX11_isHour 10 = .ok (.iconst 1, 1) := by decide +kernel
theorem dX11_isHour_11 : decode cX11_isHour 11 = .ok (.goto 4, 3) := by decide +kernel
theorem dX11_isHour_14 : decode cX11_isHour 14 = .ok (.iconst 0, 1) := by decide +kernel
theorem dX11_isHour_15 : decode cX11_isHour 15 = .ok (.ireturn, 1) := by decide +kernel
theorem dX11_isHourOrEnd_0 : decode cX11_isHourOrEnd 0 = .ok (.iload_n 0, 1) := by decide +kernel
theorem dX11_isHourOrEnd_1 : decode cX11_isHourOrEnd 1 = .ok (.ifCond .lt 13, 3) := by decide +kernel
theorem dX11_isHourOrEnd_4 : decode cX11_isHourOrEnd 4 = .ok (.iload_n 0, 1) := by decide +kernel
theorem dX11_isHourOrEnd_5 : decode cX11_isHourOrEnd 5 = .ok (.bipush 24, 2) := by decide +kernel
theorem dX11_isHourOrEnd_7 : decode cX11_isHourOrEnd 7 = .ok (.if_icmp .gt 7, 3) := by decide +kernel
theorem dX11_isHourOrEnd_10 : decode cX11_isHourOrEnd 10 = .ok (.iconst 1, 1) := by decide +kernel
theorem dX11_isHourOrEnd_11 : decode cX11_isHourOrEnd 11 = .ok (.goto 4, 3) := by decide +kernel
theorem dX11_isHourOrEnd_14 : decode cX11_isHourOrEnd 14 = .ok (.iconst 0, 1) := by decide +kernel
theorem dX11_isHourOrEnd_15 : decode cX11_isHourOrEnd 15 = .ok (.ireturn, 1) := by decide +kernel
theorem dX11_isSet_0 : decode cX11_isSet 0 = .ok (.iload_n 1, 1) := by decide +kernel
theorem dX11_isSet_1 : decode cX11_isSet 1 = .ok (.aload_n 0, 1) := by decide +kernel
theorem dX11_isSet_2 : decode cX11_isSet 2 = .ok (.getfield 46, 3) := by decide +kernel
theorem dX11_isSet_5 : decode cX11_isSet 5 = .ok (.getfield 137, 3) := by decide +kernel
theorem dX11_isSet_8 : decode cX11_isSet 8 = .ok (.iconst 1, 1) := by decide +kernel
theorem dX11_isSet_9 : decode cX11_isSet 9 = .ok (.iaload, 1) := by decide +kernel
theorem dX11_isSet_10 : decode cX11_isSet 10 = .ok (.iushr, 1) := by decide +kernel
theorem dX11_isSet_11 : decode cX11_isSet 11 = .ok (.ifCond .ne 7, 3) := by decide +kernel
theorem dX11_isSet_14 : decode cX11_isSet 14 = .ok (.iconst 1, 1) := by decide +kernel
theorem dX11_isSet_15 : decode cX11_isSet 15 = .ok (.goto 4, 3) := by decide +kernel
theorem dX11_isSet_18 : decode cX11_isSet 18 = .ok (.iconst 0, 1) := by decide +kernel
theorem dX11_isSet_19 : decode cX11_isSet 19 = .ok (.ireturn, 1) := by decide +kernel
theorem dX11_areTwo_0 : decode cX11_areTwo 0 = .ok (.aload_n 0, 1) := by decide +kernel
theorem dX11_areTwo_1 : decode cX11_areTwo 1 = .ok (.iconst 1, 1) := by decide +kernel
theorem dX11_areTwo_2 : decode cX11_areTwo 2 = .ok (.iload_n 1, 1) := by decide +kernel
theorem dX11_areTwo_3 : decode cX11_areTwo 3 = .ok (.invokevirtual 141, 3) := by decide +kernel
theorem dX11_areTwo_6 : decode cX11_areTwo 6 = .ok (.ifCond .eq 21, 3) := by decide +kernel
theorem dX11_areTwo_9 : decode cX11_areTwo 9 = .ok (.aload_n 0, 1) := by decide +kernel
theorem dX11_areTwo_10 : decode cX11_areTwo 10 = .ok (.iconst 1, 1) := by decide +kernel
theorem dX11_areTwo_11 : decode cX11_areTwo 11 = .ok (.iload_n 2, 1) := by decide +kernel
theorem dX11_areTwo_12 : decode cX11_areTwo 12 = .ok (.invokevirtual 141, 3) := by decide +kernel
theorem dX11_areTwo_15 : decode cX11_areTwo 15 = .ok (.ifCond .eq 12, 3) := by decide +kernel
theorem dX11_areTwo_18 : decode cX11_areTwo 18 = .ok (.iload_n 1, 1) := by decide +kernel
theorem dX11_areTwo_19 : decode cX11_areTwo 19 = .ok (.iload_n 2, 1) := by decide +kernel
theorem dX11_areTwo_20 : decode cX11_areTwo 20 = .ok (.if_icmp .eq 7, 3) := by decide +kernel
theorem dX11_areTwo_23 : decode cX11_areTwo 23 = .ok (.iconst 1, 1) := by decide +kernel
theorem dX11_areTwo_24 : decode cX11_areTwo 24 = .ok (.goto 4, 3) := by decide +kernel
theorem dX11_areTwo_27 : decode cX11_areTwo 27 = .ok (.iconst 0, 1) := by decide +kernel
theorem dX11_areTwo_28 : decode cX11_areTwo 28 = .ok (.ireturn, 1) := by decide +kernel
theorem dX11_age_0 : decode cX11_age 0 = .ok (.aload_n 0, 1) := by decide +kernel
theorem dX11_age_1 : decode cX11_age 1 = .ok (.iconst 1, 1) := by decide +kernel
theorem dX11_age_2 : decode cX11_age 2 = .ok (.iload_n 1, 1) := by decide +kernel
theorem dX11_age_3 : decode cX11_age 3 = .ok (.invokevirtual 141, 3) := by decide +kernel
theorem dX11_age_6 : decode cX11_age 6 = .ok (.ifCond .eq 10, 3) := by decide +kernel
theorem dX11_age_9 : decode cX11_age 9 = .ok (.iload_n 2, 1) := by decide +kernel
theorem dX11_age_10 : decode cX11_age 10 = .ok (.invokestatic 145, 3) := by decide +kernel
theorem dX11_age_13 : decode cX11_age 13 = .ok (.ifCond .ne 5, 3) := by decide +kernel
theorem dX11_age_16 : decode cX11_age 16 = .ok (.iconst (-1), 1) := by decide +kernel
theorem dX11_age_17 : decode cX11_age 17 = .ok (.ireturn, 1) := by decide +kernel
theorem dX11_age_18 : decode cX11_age 18 = .ok (.aload_n 0, 1) := by decide +kernel
theorem dX11_age_19 : decode cX11_age 19 = .ok (.getfield 46, 3) := by decide +kernel
theorem dX11_age_22 : decode cX11_age 22 = .ok (.iload_n 1, 1) := by decide +kernel
theorem dX11_age_23 : decode cX11_age 23 = .ok (.iload_n 2, 1) := by decide +kernel
theorem dX11_age_24 : decode cX11_age 24 = .ok (.invokevirtual 149, 3) := by decide +kernel
theorem dX11_age_27 : decode cX11_age 27 = .ok (.ireturn, 1) := by decide +kernel
theorem dX11_where_0 : decode cX11_where 0 = .ok (.aload_n 0, 1) := by decide +kernel
theorem dX11_where_1 : decode cX11_where 1 = .ok (.iconst 1, 1) := by decide +kernel
theorem dX11_where_2 : decode cX11_where 2 = .ok (.iload_n 1, 1) := by decide +kernel
theorem dX11_where_3 : decode cX11_where 3 = .ok (.invokevirtual 141, 3) := by decide +kernel
theorem dX11_where_6 : decode cX11_where 6 = .ok (.ifCond .eq 10, 3) := by decide +kernel
theorem dX11_where_9 : decode cX11_where 9 = .ok (.iload_n 2, 1) := by decide +kernel
theorem dX11_where_10 : decode cX11_where 10 = .ok (.invokestatic 145, 3) := by decide +kernel
theorem dX11_where_13 : decode cX11_where 13 = .ok (.ifCond .ne 5, 3) := by decide +kernel
theorem dX11_where_16 : decode cX11_where 16 = .ok (.iconst (-1), 1) := by decide +kernel
theorem dX11_where_17 : decode cX11_where 17 = .ok (.ireturn, 1) := by decide +kernel
theorem dX11_where_18 : decode cX11_where 18 = .ok (.aload_n 0, 1) := by decide +kernel
theorem dX11_where_19 : decode cX11_where 19 = .ok (.getfield 46, 3) := by decide +kernel
theorem dX11_where_22 : decode cX11_where 22 = .ok (.iload_n 1, 1) := by decide +kernel
theorem dX11_where_23 : decode cX11_where 23 = .ok (.iload_n 2, 1) := by decide +kernel
theorem dX11_where_24 : decode cX11_where 24 = .ok (.invokevirtual 153, 3) := by decide +kernel
theorem dX11_where_27 : decode cX11_where 27 = .ok (.ireturn, 1) := by decide +kernel
theorem dX11_earshot_0 : decode cX11_earshot 0 = .ok (.aload_n 0, 1) := by decide +kernel
theorem dX11_earshot_1 : decode cX11_earshot 1 = .ok (.iconst 0, 1) := by decide +kernel
theorem dX11_earshot_2 : decode cX11_earshot 2 = .ok (.iload_n 1, 1) := by decide +kernel
theorem dX11_earshot_3 : decode cX11_earshot 3 = .ok (.invokevirtual 141, 3) := by decide +kernel
theorem dX11_earshot_6 : decode cX11_earshot 6 = .ok (.ifCond .eq 10, 3) := by decide +kernel
theorem dX11_earshot_9 : decode cX11_earshot 9 = .ok (.iload_n 2, 1) := by decide +kernel
theorem dX11_earshot_10 : decode cX11_earshot 10 = .ok (.invokestatic 145, 3) := by decide +kernel
theorem dX11_earshot_13 : decode cX11_earshot 13 = .ok (.ifCond .ne 5, 3) := by decide +kernel
theorem dX11_earshot_16 : decode cX11_earshot 16 = .ok (.iconst (-1), 1) := by decide +kernel
theorem dX11_earshot_17 : decode cX11_earshot 17 = .ok (.ireturn, 1) := by decide +kernel
theorem dX11_earshot_18 : decode cX11_earshot 18 = .ok (.aload_n 0, 1) := by decide +kernel
theorem dX11_earshot_19 : decode cX11_earshot 19 = .ok (.getfield 46, 3) := by decide +kernel
theorem dX11_earshot_22 : decode cX11_earshot 22 = .ok (.iload_n 1, 1) := by decide +kernel
theorem dX11_earshot_23 : decode cX11_earshot 23 = .ok (.iload_n 2, 1) := by decide +kernel
theorem dX11_earshot_24 : decode cX11_earshot 24 = .ok (.invokevirtual 156, 3) := by decide +kernel
theorem dX11_earshot_27 : decode cX11_earshot 27 = .ok (.ireturn, 1) := by decide +kernel
theorem dX11_may_0 : decode cX11_may 0 = .ok (.aload_n 0, 1) := by decide +kernel
theorem dX11_may_1 : decode cX11_may 1 = .ok (.iload_n 1, 1) := by decide +kernel
theorem dX11_may_2 : decode cX11_may 2 = .ok (.iload_n 2, 1) := by decide +kernel
theorem dX11_may_3 : decode cX11_may 3 = .ok (.invokevirtual 159, 3) := by decide +kernel
theorem dX11_may_6 : decode cX11_may 6 = .ok (.ifCond .eq 10, 3) := by decide +kernel
theorem dX11_may_9 : decode cX11_may 9 = .ok (.iload_n 3, 1) := by decide +kernel
theorem dX11_may_10 : decode cX11_may 10 = .ok (.invokestatic 145, 3) := by decide +kernel
theorem dX11_may_13 : decode cX11_may 13 = .ok (.ifCond .ne 5, 3) := by decide +kernel
theorem dX11_may_16 : decode cX11_may 16 = .ok (.iconst (-1), 1) := by decide +kernel
theorem dX11_may_17 : decode cX11_may 17 = .ok (.ireturn, 1) := by decide +kernel
theorem dX11_may_18 : decode cX11_may 18 = .ok (.aload_n 0, 1) := by decide +kernel
theorem dX11_may_19 : decode cX11_may 19 = .ok (.getfield 46, 3) := by decide +kernel
theorem dX11_may_22 : decode cX11_may 22 = .ok (.iload_n 1, 1) := by decide +kernel
theorem dX11_may_23 : decode cX11_may 23 = .ok (.iload_n 2, 1) := by decide +kernel
theorem dX11_may_24 : decode cX11_may 24 = .ok (.iload_n 3, 1) := by decide +kernel
theorem dX11_may_25 : decode cX11_may 25 = .ok (.iload 4, 2) := by decide +kernel
theorem dX11_may_27 : decode cX11_may 27 = .ok (.aload_n 0, 1) := by decide +kernel
theorem dX11_may_28 : decode cX11_may 28 = .ok (.getfield 46, 3) := by decide +kernel
theorem dX11_may_31 : decode cX11_may 31 = .ok (.invokevirtual 162, 3) := by decide +kernel
theorem dX11_may_34 : decode cX11_may 34 = .ok (.invokevirtual 166, 3) := by decide +kernel
theorem dX11_may_37 : decode cX11_may 37 = .ok (.ifCond .eq 7, 3) := by decide +kernel
theorem dX11_may_40 : decode cX11_may 40 = .ok (.iconst 1, 1) := by decide +kernel
theorem dX11_may_41 : decode cX11_may 41 = .ok (.goto 4, 3) := by decide +kernel
theorem dX11_may_44 : decode cX11_may 44 = .ok (.iconst 0, 1) := by decide +kernel
theorem dX11_may_45 : decode cX11_may 45 = .ok (.ireturn, 1) := by decide +kernel
theorem dX11_say_0 : decode cX11_say 0 = .ok (.iload_n 1, 1) := by decide +kernel
theorem dX11_say_1 : decode cX11_say 1 = .ok (.invokestatic 145, 3) := by decide +kernel
theorem dX11_say_4 : decode cX11_say 4 = .ok (.ifCond .eq 22, 3) := by decide +kernel
theorem dX11_say_7 : decode cX11_say 7 = .ok (.aload_n 0, 1) := by decide +kernel
theorem dX11_say_8 : decode cX11_say 8 = .ok (.iload_n 2, 1) := by decide +kernel
theorem dX11_say_9 : decode cX11_say 9 = .ok (.iload_n 3, 1) := by decide +kernel
theorem dX11_say_10 : decode cX11_say 10 = .ok (.invokevirtual 159, 3) := by decide +kernel
theorem dX11_say_13 : decode cX11_say 13 = .ok (.ifCond .eq 13, 3) := by decide +kernel
theorem dX11_say_16 : decode cX11_say 16 = .ok (.aload_n 0, 1) := by decide +kernel
theorem dX11_say_17 : decode cX11_say 17 = .ok (.iconst 2, 1) := by decide +kernel
theorem dX11_say_18 : decode cX11_say 18 = .ok (.iload 4, 2) := by decide +kernel
theorem dX11_say_20 : decode cX11_say 20 = .ok (.invokevirtual 141, 3) := by decide +kernel
theorem dX11_say_23 : decode cX11_say 23 = .ok (.ifCond .ne 5, 3) := by decide +kernel
theorem dX11_say_26 : decode cX11_say 26 = .ok (.iconst (-1), 1) := by decide +kernel
theorem dX11_say_27 : decode cX11_say 27 = .ok (.ireturn, 1) := by decide +kernel
theorem dX11_say_28 : decode cX11_say 28 = .ok (.aload_n 0, 1) := by decide +kernel
theorem dX11_say_29 : decode cX11_say 29 = .ok (.iconst 0, 1) := by decide +kernel
theorem dX11_say_30 : decode cX11_say 30 = .ok (.iload_n 1, 1) := by decide +kernel
theorem dX11_say_31 : decode cX11_say 31 = .ok (.iload_n 2, 1) := by decide +kernel
theorem dX11_say_32 : decode cX11_say 32 = .ok (.iload_n 3, 1) := by decide +kernel
theorem dX11_say_33 : decode cX11_say 33 = .ok (.iload 4, 2) := by decide +kernel
theorem dX11_say_35 : decode cX11_say 35 = .ok (.invokevirtual 170, 3) := by decide +kernel
theorem dX11_say_38 : decode cX11_say 38 = .ok (.ireturn, 1) := by decide +kernel
theorem dX11_show_0 : decode cX11_show 0 = .ok (.iload_n 1, 1) := by decide +kernel
theorem dX11_show_1 : decode cX11_show 1 = .ok (.invokestatic 145, 3) := by decide +kernel
theorem dX11_show_4 : decode cX11_show 4 = .ok (.ifCond .eq 22, 3) := by decide +kernel
theorem dX11_show_7 : decode cX11_show 7 = .ok (.aload_n 0, 1) := by decide +kernel
theorem dX11_show_8 : decode cX11_show 8 = .ok (.iconst 1, 1) := by decide +kernel
theorem dX11_show_9 : decode cX11_show 9 = .ok (.iload_n 2, 1) := by decide +kernel
theorem dX11_show_10 : decode cX11_show 10 = .ok (.invokevirtual 141, 3) := by decide +kernel
theorem dX11_show_13 : decode cX11_show 13 = .ok (.ifCond .eq 13, 3) := by decide +kernel
theorem dX11_show_16 : decode cX11_show 16 = .ok (.aload_n 0, 1) := by decide +kernel
theorem dX11_show_17 : decode cX11_show 17 = .ok (.bipush 7, 2) := by decide +kernel
theorem dX11_show_19 : decode cX11_show 19 = .ok (.iload_n 3, 1) := by decide +kernel
theorem dX11_show_20 : decode cX11_show 20 = .ok (.invokevirtual 141, 3) := by decide +kernel
theorem dX11_show_23 : decode cX11_show 23 = .ok (.ifCond .ne 5, 3) := by decide +kernel
theorem dX11_show_26 : decode cX11_show 26 = .ok (.iconst (-1), 1) := by decide +kernel
theorem dX11_show_27 : decode cX11_show 27 = .ok (.ireturn, 1) := by decide +kernel
theorem dX11_show_28 : decode cX11_show 28 = .ok (.aload_n 0, 1) := by decide +kernel
theorem dX11_show_29 : decode cX11_show 29 = .ok (.iconst 1, 1) := by decide +kernel
theorem dX11_show_30 : decode cX11_show 30 = .ok (.iload_n 1, 1) := by decide +kernel
theorem dX11_show_31 : decode cX11_show 31 = .ok (.iload_n 2, 1) := by decide +kernel
theorem dX11_show_32 : decode cX11_show 32 = .ok (.iload_n 3, 1) := by decide +kernel
theorem dX11_show_33 : decode cX11_show 33 = .ok (.aload_n 0, 1) := by decide +kernel
theorem dX11_show_34 : decode cX11_show 34 = .ok (.getfield 46, 3) := by decide +kernel
theorem dX11_show_37 : decode cX11_show 37 = .ok (.getfield 174, 3) := by decide +kernel
theorem dX11_show_40 : decode cX11_show 40 = .ok (.iload_n 3, 1) := by decide +kernel
theorem dX11_show_41 : decode cX11_show 41 = .ok (.iaload, 1) := by decide +kernel
theorem dX11_show_42 : decode cX11_show 42 = .ok (.invokevirtual 170, 3) := by decide +kernel
theorem dX11_show_45 : decode cX11_show 45 = .ok (.ireturn, 1) := by decide +kernel
theorem dX11_leave_0 : decode cX11_leave 0 = .ok (.iload_n 1, 1) := by decide +kernel
theorem dX11_leave_1 : decode cX11_leave 1 = .ok (.invokestatic 145, 3) := by decide +kernel
theorem dX11_leave_4 : decode cX11_leave 4 = .ok (.ifCond .eq 21, 3) := by decide +kernel
theorem dX11_leave_7 : decode cX11_leave 7 = .ok (.aload_n 0, 1) := by decide +kernel
theorem dX11_leave_8 : decode cX11_leave 8 = .ok (.iconst 1, 1) := by decide +kernel
theorem dX11_leave_9 : decode cX11_leave 9 = .ok (.iload_n 2, 1) := by decide +kernel
theorem dX11_leave_10 : decode cX11_leave 10 = .ok (.invokevirtual 141, 3) := by decide +kernel
theorem dX11_leave_13 : decode cX11_leave 13 = .ok (.ifCond .eq 12, 3) := by decide +kernel
theorem dX11_leave_16 : decode cX11_leave 16 = .ok (.aload_n 0, 1) := by decide +kernel
theorem dX11_leave_17 : decode cX11_leave 17 = .ok (.iconst 2, 1) := by decide +kernel
theorem dX11_leave_18 : decode cX11_leave 18 = .ok (.iload_n 3, 1) := by decide +kernel
theorem dX11_leave_19 : decode cX11_leave 19 = .ok (.invokevirtual 141, 3) := by decide +kernel
theorem dX11_leave_22 : decode cX11_leave 22 = .ok (.ifCond .ne 5, 3) := by decide +kernel
theorem dX11_leave_25 : decode cX11_leave 25 = .ok (.iconst (-1), 1) := by decide +kernel
theorem dX11_leave_26 : decode cX11_leave 26 = .ok (.ireturn, 1) := by decide +kernel
theorem dX11_leave_27 : decode cX11_leave 27 = .ok (.aload_n 0, 1) := by decide +kernel
theorem dX11_leave_28 : decode cX11_leave 28 = .ok (.iconst 2, 1) := by decide +kernel
theorem dX11_leave_29 : decode cX11_leave 29 = .ok (.iload_n 1, 1) := by decide +kernel
theorem dX11_leave_30 : decode cX11_leave 30 = .ok (.iload_n 2, 1) := by decide +kernel
theorem dX11_leave_31 : decode cX11_leave 31 = .ok (.iconst (-1), 1) := by decide +kernel
theorem dX11_leave_32 : decode cX11_leave 32 = .ok (.iload_n 3, 1) := by decide +kernel
theorem dX11_leave_33 : decode cX11_leave 33 = .ok (.invokevirtual 170, 3) := by decide +kernel
theorem dX11_leave_36 : decode cX11_leave 36 = .ok (.ireturn, 1) := by decide +kernel
theorem dX11_ask_0 : decode cX11_ask 0 = .ok (.iload_n 1, 1) := by decide +kernel
theorem dX11_ask_1 : decode cX11_ask 1 = .ok (.invokestatic 145, 3) := by decide +kernel
theorem dX11_ask_4 : decode cX11_ask 4 = .ok (.ifCond .eq 22, 3) := by decide +kernel
theorem dX11_ask_7 : decode cX11_ask 7 = .ok (.aload_n 0, 1) := by decide +kernel
theorem dX11_ask_8 : decode cX11_ask 8 = .ok (.iload_n 2, 1) := by decide +kernel
theorem dX11_ask_9 : decode cX11_ask 9 = .ok (.iload_n 3, 1) := by decide +kernel
theorem dX11_ask_10 : decode cX11_ask 10 = .ok (.invokevirtual 159, 3) := by decide +kernel
theorem dX11_ask_13 : decode cX11_ask 13 = .ok (.ifCond .eq 13, 3) := by decide +kernel
theorem dX11_ask_16 : decode cX11_ask 16 = .ok (.aload_n 0, 1) := by decide +kernel
theorem dX11_ask_17 : decode cX11_ask 17 = .ok (.iconst 2, 1) := by decide +kernel
theorem dX11_ask_18 : decode cX11_ask 18 = .ok (.iload 4, 2) := by decide +kernel
theorem dX11_ask_20 : decode cX11_ask 20 = .ok (.invokevirtual 141, 3) := by decide +kernel
theorem dX11_ask_23 : decode cX11_ask 23 = .ok (.ifCond .ne 5, 3) := by decide +kernel
theorem dX11_ask_26 : decode cX11_ask 26 = .ok (.iconst (-1), 1) := by decide +kernel
theorem dX11_ask_27 : decode cX11_ask 27 = .ok (.ireturn, 1) := by decide +kernel
theorem dX11_ask_28 : decode cX11_ask 28 = .ok (.aload_n 0, 1) := by decide +kernel
theorem dX11_ask_29 : decode cX11_ask 29 = .ok (.iconst 3, 1) := by decide +kernel
theorem dX11_ask_30 : decode cX11_ask 30 = .ok (.iload_n 1, 1) := by decide +kernel
theorem dX11_ask_31 : decode cX11_ask 31 = .ok (.iload_n 2, 1) := by decide +kernel
theorem dX11_ask_32 : decode cX11_ask 32 = .ok (.iload_n 3, 1) := by decide +kernel
theorem dX11_ask_33 : decode cX11_ask 33 = .ok (.iload 4, 2) := by decide +kernel
theorem dX11_ask_35 : decode cX11_ask 35 = .ok (.invokevirtual 170, 3) := by decide +kernel
theorem dX11_ask_38 : decode cX11_ask 38 = .ok (.ireturn, 1) := by decide +kernel
theorem dX11_intoPlan_0 : decode cX11_intoPlan 0 = .ok (.aload_n 0, 1) := by decide +kernel
theorem dX11_intoPlan_1 : decode cX11_intoPlan 1 = .ok (.iconst 0, 1) := by decide +kernel
theorem dX11_intoPlan_2 : decode cX11_intoPlan 2 = .ok (.putfield 67, 3) := by decide +kernel
theorem dX11_intoPlan_5 : decode cX11_intoPlan 5 = .ok (.aload_n 0, 1) := by decide +kernel
theorem dX11_intoPlan_6 : decode cX11_intoPlan 6 = .ok (.getfield 56, 3) := by decide +kernel
theorem dX11_intoPlan_9 : decode cX11_intoPlan 9 = .ok (.iload_n 1, 1) := by decide +kernel
theorem dX11_intoPlan_10 : decode cX11_intoPlan 10 = .ok (.iload_n 2, 1) := by decide +kernel
theorem dX11_intoPlan_11 : decode cX11_intoPlan 11 = .ok (.iload_n 3, 1) := by decide +kernel
theorem dX11_intoPlan_12 : decode cX11_intoPlan 12 = .ok (.iload 4, 2) := by decide +kernel
theorem dX11_intoPlan_14 : decode cX11_intoPlan 14 = .ok (.iload 5, 2) := by decide +kernel
theorem dX11_intoPlan_16 : decode cX11_intoPlan 16 = .ok (.invokevirtual 177, 3) := by decide +kernel
theorem dX11_intoPlan_19 : decode cX11_intoPlan 19 = .ok (.ireturn, 1) := by decide +kernel
theorem dX11_drop_0 : decode cX11_drop 0 = .ok (.aload_n 0, 1) := by decide +kernel
theorem dX11_drop_1 : decode cX11_drop 1 = .ok (.getfield 56, 3) := by decide +kernel
theorem dX11_drop_4 : decode cX11_drop 4 = .ok (.iload_n 1, 1) := by decide +kernel
theorem dX11_drop_5 : decode cX11_drop 5 = .ok (.invokevirtual 180, 3) := by decide +kernel
theorem dX11_drop_8 : decode cX11_drop 8 = .ok (.ifCond .ne 5, 3) := by decide +kernel
theorem dX11_drop_11 : decode cX11_drop 11 = .ok (.iconst (-1), 1) := by decide +kernel
theorem dX11_drop_12 : decode cX11_drop 12 = .ok (.ireturn, 1) := by decide +kernel
theorem dX11_drop_13 : decode cX11_drop 13 = .ok (.aload_n 0, 1) := by decide +kernel
theorem dX11_drop_14 : decode cX11_drop 14 = .ok (.iconst 0, 1) := by decide +kernel
theorem dX11_drop_15 : decode cX11_drop 15 = .ok (.putfield 67, 3) := by decide +kernel
theorem dX11_drop_18 : decode cX11_drop 18 = .ok (.aload_n 0, 1) := by decide +kernel
theorem dX11_drop_19 : decode cX11_drop 19 = .ok (.getfield 56, 3) := by decide +kernel
theorem dX11_drop_22 : decode cX11_drop 22 = .ok (.iload_n 1, 1) := by decide +kernel
theorem dX11_drop_23 : decode cX11_drop 23 = .ok (.invokevirtual 183, 3) := by decide +kernel
theorem dX11_drop_26 : decode cX11_drop 26 = .ok (.aload_n 0, 1) := by decide +kernel
theorem dX11_drop_27 : decode cX11_drop 27 = .ok (.getfield 56, 3) := by decide +kernel
theorem dX11_drop_30 : decode cX11_drop 30 = .ok (.getfield 186, 3) := by decide +kernel
theorem dX11_drop_33 : decode cX11_drop 33 = .ok (.ireturn, 1) := by decide +kernel
theorem dX11_doing_0 : decode cX11_doing 0 = .ok (.aload_n 0, 1) := by decide +kernel
