theorem dX4_init_14 : decode cX4_init 14 = .ok (.sipush 400, 3) := by decide +kernel
theorem dX4_init_17 : decode cX4_init 17 = .ok (.newarray .int, 2) := by decide +kernel
theorem dX4_init_19 : decode cX4_init 19 = .ok (.putfield 15, 3) := by decide +kernel
theorem dX4_init_22 : decode cX4_init 22 = .ok (.aload_n 0, 1) := by decide +kernel
theorem dX4_init_23 : decode cX4_init 23 = .ok (.bipush 8, 2) := by decide +kernel
theorem dX4_init_25 : decode cX4_init 25 = .ok (.newarray .int, 2) := by decide +kernel
theorem dX4_init_27 : decode cX4_init 27 = .ok (.putfield 18, 3) := by decide +kernel
theorem dX4_init_30 : decode cX4_init 30 = .ok (.aload_n 0, 1) := by decide +kernel
theorem dX4_init_31 : decode cX4_init 31 = .ok (.bipush 8, 2) := by decide +kernel
theorem dX4_init_33 : decode cX4_init 33 = .ok (.newarray .int, 2) := by decide +kernel
theorem dX4_init_35 : decode cX4_init 35 = .ok (.putfield 21, 3) := by decide +kernel
theorem dX4_init_38 : decode cX4_init 38 = .ok (.aload_n 0, 1) := by decide +kernel
theorem dX4_init_39 : decode cX4_init 39 = .ok (.iconst 2, 1) := by decide +kernel
theorem dX4_init_40 : decode cX4_init 40 = .ok (.newarray .int, 2) := by decide +kernel
theorem dX4_init_42 : decode cX4_init 42 = .ok (.putfield 24, 3) := by decide +kernel
theorem dX4_init_45 : decode cX4_init 45 = .ok (.aload_n 0, 1) := by decide +kernel
theorem dX4_init_46 : decode cX4_init 46 = .ok (.iconst 4, 1) := by decide +kernel
theorem dX4_init_47 : decode cX4_init 47 = .ok (.newarray .int, 2) := by decide +kernel
theorem dX4_init_49 : decode cX4_init 49 = .ok (.putfield 27, 3) := by decide +kernel
theorem dX4_init_52 : decode cX4_init 52 = .ok (.aload_n 0, 1) := by decide +kernel
theorem dX4_init_53 : decode cX4_init 53 = .ok (.bipush 32, 2) := by decide +kernel
theorem dX4_init_55 : decode cX4_init 55 = .ok (.newarray .int, 2) := by decide +kernel
theorem dX4_init_57 : decode cX4_init 57 = .ok (.putfield 30, 3) := by decide +kernel
theorem dX4_init_60 : decode cX4_init 60 = .ok (.aload_n 0, 1) := by decide +kernel
theorem dX4_init_61 : decode cX4_init 61 = .ok (.iconst 0, 1) := by decide +kernel
theorem dX4_init_62 : decode cX4_init 62 = .ok (.putfield 33, 3) := by decide +kernel
theorem dX4_init_65 : decode cX4_init 65 = .ok (.aload_n 0, 1) := by decide +kernel
theorem dX4_init_66 : decode cX4_init 66 = .ok (.iconst 0, 1) := by decide +kernel
theorem dX4_init_67 : decode cX4_init 67 = .ok (.putfield 37, 3) := by decide +kernel
theorem dX4_init_70 : decode cX4_init 70 = .ok (.return_, 1) := by decide +kernel
theorem dX4_clear_0 : decode cX4_clear 0 = .ok (.aload_n 0, 1) := by decide +kernel
theorem dX4_clear_1 : decode cX4_clear 1 = .ok (.iconst 0, 1) := by decide +kernel
theorem dX4_clear_2 : decode cX4_clear 2 = .ok (.putfield 33, 3) := by decide +kernel
theorem dX4_clear_5 : decode cX4_clear 5 = .ok (.aload_n 0, 1) := by decide +kernel
theorem dX4_clear_6 : decode cX4_clear 6 = .ok (.getfield 24, 3) := by decide +kernel
theorem dX4_clear_9 : decode cX4_clear 9 = .ok (.iconst 0, 1) := by decide +kernel
theorem dX4_clear_10 : decode cX4_clear 10 = .ok (.invokestatic 40, 3) := by decide +kernel
theorem dX4_clear_13 : decode cX4_clear 13 = .ok (.return_, 1) := by decide +kernel
theorem dX4_begin_0 : decode cX4_begin 0 = .ok (.iload_n 1, 1) := by decide +kernel
theorem dX4_begin_1 : decode cX4_begin 1 = .ok (.ifCond .eq 7, 3) := by decide +kernel
theorem dX4_begin_4 : decode cX4_begin 4 = .ok (.iconst 1, 1) := by decide +kernel
theorem dX4_begin_5 : decode cX4_begin 5 = .ok (.goto 4, 3) := by decide +kernel
theorem dX4_begin_8 : decode cX4_begin 8 = .ok (.iconst 0, 1) := by decide +kernel
theorem dX4_begin_9 : decode cX4_begin 9 = .ok (.istore_n 2, 1) := by decide +kernel
theorem dX4_begin_10 : decode cX4_begin 10 = .ok (.aload_n 0, 1) := by decide +kernel
theorem dX4_begin_11 : decode cX4_begin 11 = .ok (.getfield 24, 3) := by decide +kernel
theorem dX4_begin_14 : decode cX4_begin 14 = .ok (.iload_n 2, 1) := by decide +kernel
theorem dX4_begin_15 : decode cX4_begin 15 = .ok (.iaload, 1) := by decide +kernel
theorem dX4_begin_16 : decode cX4_begin 16 = .ok (.iconst 4, 1) := by decide +kernel
theorem dX4_begin_17 : decode cX4_begin 17 = .ok (.if_icmp .ge 53, 3) := by decide +kernel
theorem dX4_begin_20 : decode cX4_begin 20 = .ok (.aload_n 0, 1) := by decide +kernel
theorem dX4_begin_21 : decode cX4_begin 21 = .ok (.iload_n 2, 1) := by decide +kernel
theorem dX4_begin_22 : decode cX4_begin 22 = .ok (.iconst 4, 1) := by decide +kernel
theorem dX4_begin_23 : decode cX4_begin 23 = .ok (.imul, 1) := by decide +kernel
theorem dX4_begin_24 : decode cX4_begin 24 = .ok (.aload_n 0, 1) := by decide +kernel
theorem dX4_begin_25 : decode cX4_begin 25 = .ok (.getfield 24, 3) := by decide +kernel
theorem dX4_begin_28 : decode cX4_begin 28 = .ok (.iload_n 2, 1) := by decide +kernel
theorem dX4_begin_29 : decode cX4_begin 29 = .ok (.iaload, 1) := by decide +kernel
theorem dX4_begin_30 : decode cX4_begin 30 = .ok (.iadd, 1) := by decide +kernel
theorem dX4_begin_31 : decode cX4_begin 31 = .ok (.putfield 37, 3) := by decide +kernel
theorem dX4_begin_34 : decode cX4_begin 34 = .ok (.aload_n 0, 1) := by decide +kernel
theorem dX4_begin_35 : decode cX4_begin 35 = .ok (.getfield 24, 3) := by decide +kernel
theorem dX4_begin_38 : decode cX4_begin 38 = .ok (.iload_n 2, 1) := by decide +kernel
theorem dX4_begin_39 : decode cX4_begin 39 = .ok (.dup2, 1) := by decide +kernel
theorem dX4_begin_40 : decode cX4_begin 40 = .ok (.iaload, 1) := by decide +kernel
theorem dX4_begin_41 : decode cX4_begin 41 = .ok (.iconst 1, 1) := by decide +kernel
theorem dX4_begin_42 : decode cX4_begin 42 = .ok (.iadd, 1) := by decide +kernel
theorem dX4_begin_43 : decode cX4_begin 43 = .ok (.iastore, 1) := by decide +kernel
theorem dX4_begin_44 : decode cX4_begin 44 = .ok (.aload_n 0, 1) := by decide +kernel
theorem dX4_begin_45 : decode cX4_begin 45 = .ok (.getfield 18, 3) := by decide +kernel
theorem dX4_begin_48 : decode cX4_begin 48 = .ok (.aload_n 0, 1) := by decide +kernel
theorem dX4_begin_49 : decode cX4_begin 49 = .ok (.getfield 37, 3) := by decide +kernel
theorem dX4_begin_52 : decode cX4_begin 52 = .ok (.aload_n 0, 1) := by decide +kernel
theorem dX4_begin_53 : decode cX4_begin 53 = .ok (.getfield 33, 3) := by decide +kernel
theorem dX4_begin_56 : decode cX4_begin 56 = .ok (.iastore, 1) := by decide +kernel
theorem dX4_begin_57 : decode cX4_begin 57 = .ok (.aload_n 0, 1) := by decide +kernel
theorem dX4_begin_58 : decode cX4_begin 58 = .ok (.getfield 21, 3) := by decide +kernel
theorem dX4_begin_61 : decode cX4_begin 61 = .ok (.aload_n 0, 1) := by decide +kernel
theorem dX4_begin_62 : decode cX4_begin 62 = .ok (.getfield 37, 3) := by decide +kernel
theorem dX4_begin_65 : decode cX4_begin 65 = .ok (.aload_n 0, 1) := by decide +kernel
theorem dX4_begin_66 : decode cX4_begin 66 = .ok (.getfield 33, 3) := by decide +kernel
theorem dX4_begin_69 : decode cX4_begin 69 = .ok (.iastore, 1) := by decide +kernel
theorem dX4_begin_70 : decode cX4_begin 70 = .ok (.return_, 1) := by decide +kernel
theorem dX4_put_0 : decode cX4_put 0 = .ok (.aload_n 0, 1) := by decide +kernel
theorem dX4_put_1 : decode cX4_put 1 = .ok (.getfield 33, 3) := by decide +kernel
theorem dX4_put_4 : decode cX4_put 4 = .ok (.aload_n 0, 1) := by decide +kernel
theorem dX4_put_5 : decode cX4_put 5 = .ok (.getfield 9, 3) := by decide +kernel
theorem dX4_put_8 : decode cX4_put 8 = .ok (.arraylength, 1) := by decide +kernel
theorem dX4_put_9 : decode cX4_put 9 = .ok (.if_icmp .ge 33, 3) := by decide +kernel
theorem dX4_put_12 : decode cX4_put 12 = .ok (.aload_n 0, 1) := by decide +kernel
theorem dX4_put_13 : decode cX4_put 13 = .ok (.getfield 9, 3) := by decide +kernel
theorem dX4_put_16 : decode cX4_put 16 = .ok (.aload_n 0, 1) := by decide +kernel
theorem dX4_put_17 : decode cX4_put 17 = .ok (.getfield 33, 3) := by decide +kernel
theorem dX4_put_20 : decode cX4_put 20 = .ok (.iload_n 1, 1) := by decide +kernel
theorem dX4_put_21 : decode cX4_put 21 = .ok (.iastore, 1) := by decide +kernel
theorem dX4_put_22 : decode cX4_put 22 = .ok (.aload_n 0, 1) := by decide +kernel
theorem dX4_put_23 : decode cX4_put 23 = .ok (.getfield 15, 3) := by decide +kernel
theorem dX4_put_26 : decode cX4_put 26 = .ok (.aload_n 0, 1) := by decide +kernel
theorem dX4_put_27 : decode cX4_put 27 = .ok (.getfield 33, 3) := by decide +kernel
theorem dX4_put_30 : decode cX4_put 30 = .ok (.iload_n 2, 1) := by decide +kernel
theorem dX4_put_31 : decode cX4_put 31 = .ok (.iastore, 1) := by decide +kernel
theorem dX4_put_32 : decode cX4_put 32 = .ok (.aload_n 0, 1) := by decide +kernel
theorem dX4_put_33 : decode cX4_put 33 = .ok (.dup, 1) := by decide +kernel
theorem dX4_put_34 : decode cX4_put 34 = .ok (.getfield 33, 3) := by decide +kernel
theorem dX4_put_37 : decode cX4_put 37 = .ok (.iconst 1, 1) := by decide +kernel
theorem dX4_put_38 : decode cX4_put 38 = .ok (.iadd, 1) := by decide +kernel
theorem dX4_put_39 : decode cX4_put 39 = .ok (.putfield 33, 3) := by decide +kernel
theorem dX4_put_42 : decode cX4_put 42 = .ok (.return_, 1) := by decide +kernel
theorem dX4_end_0 : decode cX4_end 0 = .ok (.aload_n 0, 1) := by decide +kernel
theorem dX4_end_1 : decode cX4_end 1 = .ok (.getfield 21, 3) := by decide +kernel
theorem dX4_end_4 : decode cX4_end 4 = .ok (.aload_n 0, 1) := by decide +kernel
theorem dX4_end_5 : decode cX4_end 5 = .ok (.getfield 37, 3) := by decide +kernel
theorem dX4_end_8 : decode cX4_end 8 = .ok (.aload_n 0, 1) := by decide +kernel
theorem dX4_end_9 : decode cX4_end 9 = .ok (.getfield 33, 3) := by decide +kernel
theorem dX4_end_12 : decode cX4_end 12 = .ok (.iastore, 1) := by decide +kernel
theorem dX4_end_13 : decode cX4_end 13 = .ok (.return_, 1) := by decide +kernel
theorem dX4_allow_0 : decode cX4_allow 0 = .ok (.iload_n 1, 1) := by decide +kernel
theorem dX4_allow_1 : decode cX4_allow 1 = .ok (.ifCond .eq 7, 3) := by decide +kernel
theorem dX4_allow_4 : decode cX4_allow 4 = .ok (.iconst 1, 1) := by decide +kernel
theorem dX4_allow_5 : decode cX4_allow 5 = .ok (.goto 4, 3) := by decide +kernel
theorem dX4_allow_8 : decode cX4_allow 8 = .ok (.iconst 0, 1) := by decide +kernel
theorem dX4_allow_9 : decode cX4_allow 9 = .ok (.istore 6, 2) := by decide +kernel
theorem dX4_allow_11 : decode cX4_allow 11 = .ok (.aload_n 0, 1) := by decide +kernel
theorem dX4_allow_12 : decode cX4_allow 12 = .ok (.getfield 24, 3) := by decide +kernel
theorem dX4_allow_15 : decode cX4_allow 15 = .ok (.iload 6, 2) := by decide +kernel
theorem dX4_allow_17 : decode cX4_allow 17 = .ok (.iaload, 1) := by decide +kernel
theorem dX4_allow_18 : decode cX4_allow 18 = .ok (.ifCond .ne 18, 3) := by decide +kernel
theorem dX4_allow_21 : decode cX4_allow 21 = .ok (.iload_n 1, 1) := by decide +kernel
theorem dX4_allow_22 : decode cX4_allow 22 = .ok (.ifCond .ne 8, 3) := by decide +kernel
theorem dX4_allow_25 : decode cX4_allow 25 = .ok (.iload_n 2, 1) := by decide +kernel
theorem dX4_allow_26 : decode cX4_allow 26 = .ok (.iload_n 3, 1) := by decide +kernel
theorem dX4_allow_27 : decode cX4_allow 27 = .ok (.if_icmp .gt 7, 3) := by decide +kernel
theorem dX4_allow_30 : decode cX4_allow 30 = .ok (.iconst 1, 1) := by decide +kernel
theorem dX4_allow_31 : decode cX4_allow 31 = .ok (.goto 4, 3) := by decide +kernel
theorem dX4_allow_34 : decode cX4_allow 34 = .ok (.iconst 0, 1) := by decide +kernel
theorem dX4_allow_35 : decode cX4_allow 35 = .ok (.ireturn, 1) := by decide +kernel
theorem dX4_allow_36 : decode cX4_allow 36 = .ok (.aload_n 0, 1) := by decide +kernel
theorem dX4_allow_37 : decode cX4_allow 37 = .ok (.getfield 27, 3) := by decide +kernel
theorem dX4_allow_40 : decode cX4_allow 40 = .ok (.iconst 0, 1) := by decide +kernel
theorem dX4_allow_41 : decode cX4_allow 41 = .ok (.iload_n 2, 1) := by decide +kernel
theorem dX4_allow_42 : decode cX4_allow 42 = .ok (.iastore, 1) := by decide +kernel
theorem dX4_allow_43 : decode cX4_allow 43 = .ok (.aload_n 0, 1) := by decide +kernel
theorem dX4_allow_44 : decode cX4_allow 44 = .ok (.getfield 27, 3) := by decide +kernel
theorem dX4_allow_47 : decode cX4_allow 47 = .ok (.iconst 1, 1) := by decide +kernel
theorem dX4_allow_48 : decode cX4_allow 48 = .ok (.iload_n 3, 1) := by decide +kernel
theorem dX4_allow_49 : decode cX4_allow 49 = .ok (.iastore, 1) := by decide +kernel
theorem dX4_allow_50 : decode cX4_allow 50 = .ok (.aload_n 0, 1) := by decide +kernel
theorem dX4_allow_51 : decode cX4_allow 51 = .ok (.getfield 27, 3) := by decide +kernel
theorem dX4_allow_54 : decode cX4_allow 54 = .ok (.iconst 2, 1) := by decide +kernel
theorem dX4_allow_55 : decode cX4_allow 55 = .ok (.iload 4, 2) := by decide +kernel
theorem dX4_allow_57 : decode cX4_allow 57 = .ok (.iastore, 1) := by decide +kernel
theorem dX4_allow_58 : decode cX4_allow 58 = .ok (.aload_n 0, 1) := by decide +kernel
theorem dX4_allow_59 : decode cX4_allow 59 = .ok (.getfield 27, 3) := by decide +kernel
theorem dX4_allow_62 : decode cX4_allow 62 = .ok (.iconst 3, 1) := by decide +kernel
theorem dX4_allow_63 : decode cX4_allow 63 = .ok (.iload 5, 2) := by decide +kernel
theorem dX4_allow_65 : decode cX4_allow 65 = .ok (.iastore, 1) := by decide +kernel
theorem dX4_allow_66 : decode cX4_allow 66 = .ok (.iconst 0, 1) := by decide +kernel
theorem dX4_allow_67 : decode cX4_allow 67 = .ok (.istore 7, 2) := by decide +kernel
theorem dX4_allow_69 : decode cX4_allow 69 = .ok (.iload 7, 2) := by decide +kernel
theorem dX4_allow_71 : decode cX4_allow 71 = .ok (.aload_n 0, 1) := by decide +kernel
theorem dX4_allow_72 : decode cX4_allow 72 = .ok (.getfield 24, 3) := by decide +kernel
theorem dX4_allow_75 : decode cX4_allow 75 = .ok (.iload 6, 2) := by decide +kernel
theorem dX4_allow_77 : decode cX4_allow 77 = .ok (.iaload, 1) := by decide +kernel
theorem dX4_allow_78 : decode cX4_allow 78 = .ok (.if_icmp .ge 25, 3) := by decide +kernel
theorem dX4_allow_81 : decode cX4_allow 81 = .ok (.aload_n 0, 1) := by decide +kernel
theorem dX4_allow_82 : decode cX4_allow 82 = .ok (.iload 6, 2) := by decide +kernel
theorem dX4_allow_84 : decode cX4_allow 84 = .ok (.iconst 4, 1) := by decide +kernel
theorem dX4_allow_85 : decode cX4_allow 85 = .ok (.imul, 1) := by decide +kernel
theorem dX4_allow_86 : decode cX4_allow 86 = .ok (.iload 7, 2) := by decide +kernel
theorem dX4_allow_88 : decode cX4_allow 88 = .ok (.iadd, 1) := by decide +kernel
theorem dX4_allow_89 : decode cX4_allow 89 = .ok (.invokevirtual 46, 3) := by decide +kernel
theorem dX4_allow_92 : decode cX4_allow 92 = .ok (.ifCond .eq 5, 3) := by decide +kernel
theorem dX4_allow_95 : decode cX4_allow 95 = .ok (.iconst 1, 1) := by decide +kernel
theorem dX4_allow_96 : decode cX4_allow 96 = .ok (.ireturn, 1) := by decide +kernel
theorem dX4_allow_97 : decode cX4_allow 97 = .ok (.iinc 7 1, 3) := by decide +kernel
theorem dX4_allow_100 : decode cX4_allow 100 = .ok (.goto (-31), 3) := by decide +kernel
theorem dX4_allow_103 : decode cX4_allow 103 = .ok (.iconst 0, 1) := by decide +kernel
theorem dX4_allow_104 : decode cX4_allow 104 = .ok (.ireturn, 1) := by decide +kernel
theorem dX4_holds_0 : decode cX4_holds 0 = .ok (.iconst 0, 1) := by decide +kernel
theorem dX4_holds_1 : decode cX4_holds 1 = .ok (.istore_n 2, 1) := by decide +kernel
theorem dX4_holds_2 : decode cX4_holds 2 = .ok (.iconst 0, 1) := by decide +kernel
theorem dX4_holds_3 : decode cX4_holds 3 = .ok (.istore_n 3, 1) := by decide +kernel
theorem dX4_holds_4 : decode cX4_holds 4 = .ok (.aload_n 0, 1) := by decide +kernel
theorem dX4_holds_5 : decode cX4_holds 5 = .ok (.getfield 18, 3) := by decide +kernel
theorem dX4_holds_8 : decode cX4_holds 8 = .ok (.iload_n 1, 1) := by decide +kernel
theorem dX4_holds_9 : decode cX4_holds 9 = .ok (.iaload, 1) := by decide +kernel
theorem dX4_holds_10 : decode cX4_holds 10 = .ok (.istore 4, 2) := by decide +kernel
theorem dX4_holds_12 : decode cX4_holds 12 = .ok (.iload 4, 2) := by decide +kernel
theorem dX4_holds_14 : decode cX4_holds 14 = .ok (.aload_n 0, 1) := by decide +kernel
theorem dX4_holds_15 : decode cX4_holds 15 = .ok (.getfield 21, 3) := by decide +kernel
theorem dX4_holds_18 : decode cX4_holds 18 = .ok (.iload_n 1, 1) := by decide +kernel
theorem dX4_holds_19 : decode cX4_holds 19 = .ok (.iaload, 1) := by decide +kernel
theorem dX4_holds_20 : decode cX4_holds 20 = .ok (.if_icmp .ge 206, 3) := by decide +kernel
theorem dX4_holds_23 : decode cX4_holds 23 = .ok (.aload_n 0, 1) := by decide +kernel
theorem dX4_holds_24 : decode cX4_holds 24 = .ok (.getfield 9, 3) := by decide +kernel
theorem dX4_holds_27 : decode cX4_holds 27 = .ok (.iload 4, 2) := by decide +kernel
theorem dX4_holds_29 : decode cX4_holds 29 = .ok (.iaload, 1) := by decide +kernel
theorem dX4_holds_30 : decode cX4_holds 30 = .ok (.istore 5, 2) := by decide +kernel
theorem dX4_holds_32 : decode cX4_holds 32 = .ok (.iload 5, 2) := by decide +kernel
theorem dX4_holds_34 : decode cX4_holds 34 = .ok (.bipush 21, 2) := by decide +kernel
theorem dX4_holds_36 : decode cX4_holds 36 = .ok (.if_icmp .eq 17, 3) := by decide +kernel
theorem dX4_holds_39 : decode cX4_holds 39 = .ok (.iload 5, 2) := by decide +kernel
theorem dX4_holds_41 : decode cX4_holds 41 = .ok (.bipush 16, 2) := by decide +kernel
theorem dX4_holds_43 : decode cX4_holds 43 = .ok (.if_icmp .lt 58, 3) := by decide +kernel
theorem dX4_holds_46 : decode cX4_holds 46 = .ok (.iload 5, 2) := by decide +kernel
theorem dX4_holds_48 : decode cX4_holds 48 = .ok (.bipush 19, 2) := by decide +kernel
theorem dX4_holds_50 : decode cX4_holds 50 = .ok (.if_icmp .gt 51, 3) := by decide +kernel
theorem dX4_holds_53 : decode cX4_holds 53 = .ok (.iload_n 2, 1) := by decide +kernel
theorem dX4_holds_54 : decode cX4_holds 54 = .ok (.aload_n 0, 1) := by decide +kernel
theorem dX4_holds_55 : decode cX4_holds 55 = .ok (.getfield 30, 3) := by decide +kernel
theorem dX4_holds_58 : decode cX4_holds 58 = .ok (.arraylength, 1) := by decide +kernel
theorem dX4_holds_59 : decode cX4_holds 59 = .ok (.if_icmp .ge 161, 3) := by decide +kernel
theorem dX4_holds_62 : decode cX4_holds 62 = .ok (.aload_n 0, 1) := by decide +kernel
theorem dX4_holds_63 : decode cX4_holds 63 = .ok (.getfield 30, 3) := by decide +kernel
theorem dX4_holds_66 : decode cX4_holds 66 = .ok (.iload_n 2, 1) := by decide +kernel
theorem dX4_holds_67 : decode cX4_holds 67 = .ok (.iload 5, 2) := by decide +kernel
theorem dX4_holds_69 : decode cX4_holds 69 = .ok (.bipush 21, 2) := by decide +kernel
theorem dX4_holds_71 : decode cX4_holds 71 = .ok (.if_icmp .ne 13, 3) := by decide +kernel
theorem dX4_holds_74 : decode cX4_holds 74 = .ok (.aload_n 0, 1) := by decide +kernel
theorem dX4_holds_75 : decode cX4_holds 75 = .ok (.getfield 15, 3) := by decide +kernel
theorem dX4_holds_78 : decode cX4_holds 78 = .ok (.iload 4, 2) := by decide +kernel
theorem dX4_holds_80 : decode cX4_holds 80 = .ok (.iaload, 1) := by decide +kernel
theorem dX4_holds_81 : decode cX4_holds 81 = .ok (.goto 13, 3) := by decide +kernel
theorem dX4_holds_84 : decode cX4_holds 84 = .ok (.aload_n 0, 1) := by decide +kernel
theorem dX4_holds_85 : decode cX4_holds 85 = .ok (.getfield 27, 3) := by decide +kernel
theorem dX4_holds_88 : decode cX4_holds 88 = .ok (.iload 5, 2) := by decide +kernel
theorem dX4_holds_90 : decode cX4_holds 90 = .ok (.bipush 16, 2) := by decide +kernel
theorem dX4_holds_92 : decode cX4_holds 92 = .ok (.isub, 1) := by decide +kernel
theorem dX4_holds_93 : decode cX4_holds 93 = .ok (.iaload, 1) := by decide +kernel
theorem dX4_holds_94 : decode cX4_holds 94 = .ok (.iastore, 1) := by decide +kernel
theorem dX4_holds_95 : decode cX4_holds 95 = .ok (.iinc 2 1, 3) := by decide +kernel
theorem dX4_holds_98 : decode cX4_holds 98 = .ok (.goto 122, 3) := by decide +kernel
theorem dX4_holds_101 : decode cX4_holds 101 = .ok (.iload 5, 2) := by decide +kernel
theorem dX4_holds_103 : decode cX4_holds 103 = .ok (.bipush 15, 2) := by decide +kernel
theorem dX4_holds_105 : decode cX4_holds 105 = .ok (.if_icmp .ne 28, 3) := by decide +kernel
theorem dX4_holds_108 : decode cX4_holds 108 = .ok (.iload_n 2, 1) := by decide +kernel
theorem dX4_holds_109 : decode cX4_holds 109 = .ok (.ifCond .le 24, 3) := by decide +kernel
theorem dX4_holds_112 : decode cX4_holds 112 = .ok (.aload_n 0, 1) := by decide +kernel
theorem dX4_holds_113 : decode cX4_holds 113 = .ok (.getfield 30, 3) := by decide +kernel
theorem dX4_holds_116 : decode cX4_holds 116 = .ok (.iload_n 2, 1) := by decide +kernel
theorem dX4_holds_117 : decode cX4_holds 117 = .ok (.iconst 1, 1) := by decide +kernel
theorem dX4_holds_118 : decode cX4_holds 118 = .ok (.isub, 1) := by decide +kernel
theorem dX4_holds_119 : decode cX4_holds 119 = .ok (.iconst 1, 1) := by decide +kernel
theorem dX4_holds_120 : decode cX4_holds 120 = .ok (.aload_n 0, 1) := by decide +kernel
theorem dX4_holds_121 : decode cX4_holds 121 = .ok (.getfield 30, 3) := by decide +kernel
theorem dX4_holds_124 : decode cX4_holds 124 = .ok (.iload_n 2, 1) := by decide +kernel
theorem dX4_holds_125 : decode cX4_holds 125 = .ok (.iconst 1, 1) := by decide +kernel
theorem dX4_holds_126 : decode cX4_holds 126 = .ok (.isub, 1) := by decide +kernel
theorem dX4_holds_127 : decode cX4_holds 127 = .ok (.iaload, 1) := by decide +kernel
theorem dX4_holds_128 : decode cX4_holds 128 = .ok (.isub, 1) := by decide +kernel
theorem dX4_holds_129 : decode cX4_holds 129 = .ok (.iastore, 1) := by decide +kernel
theorem dX4_holds_130 : decode cX4_holds 130 = .ok (.goto 90, 3) := by decide +kernel
theorem dX4_holds_133 : decode cX4_holds 133 = .ok (.iload_n 2, 1) := by decide +kernel
theorem dX4_holds_134 : decode cX4_holds 134 = .ok (.iconst 1, 1) := by decide +kernel
theorem dX4_holds_135 : decode cX4_holds 135 = .ok (.if_icmp .le 85, 3) := by decide +kernel
theorem dX4_holds_138 : decode cX4_holds 138 = .ok (.iinc 2 (-1), 3) := by decide +kernel
theorem dX4_holds_141 : decode cX4_holds 141 = .ok (.aload_n 0, 1) := by decide +kernel
theorem dX4_holds_142 : decode cX4_holds 142 = .ok (.getfield 30, 3) := by decide +kernel
theorem dX4_holds_145 : decode cX4_holds 145 = .ok (.iload_n 2, 1) := by decide +kernel
theorem dX4_holds_146 : decode cX4_holds 146 = .ok (.iaload, 1) := by decide +kernel
theorem dX4_holds_147 : decode cX4_holds 147 = .ok (.istore 6, 2) := by decide +kernel
theorem dX4_holds_149 : decode cX4_holds 149 = .ok (.iload_n 3, 1) := by decide +kernel
theorem dX4_holds_150 : decode cX4_holds 150 = .ok (.ifCond .ne 15, 3) := by decide +kernel
theorem dX4_holds_153 : decode cX4_holds 153 = .ok (.iload 5, 2) := by decide +kernel
theorem dX4_holds_155 : decode cX4_holds 155 = .ok (.bipush 27, 2) := by decide +kernel
theorem dX4_holds_157 : decode cX4_holds 157 = .ok (.if_icmp .ne 12, 3) := by decide +kernel
theorem dX4_holds_160 : decode cX4_holds 160 = .ok (.iload 6, 2) := by decide +kernel
theorem dX4_holds_162 : decode cX4_holds 162 = .ok (.ifCond .ne 7, 3) := by decide +kernel
theorem dX4_holds_165 : decode cX4_holds 165 = .ok (.iconst 1, 1) := by decide +kernel
theorem dX4_holds_166 : decode cX4_holds 166 = .ok (.goto 4, 3) := by decide +kernel
theorem dX4_holds_169 : decode cX4_holds 169 = .ok (.iconst 0, 1) := by decide +kernel
theorem dX4_holds_170 : decode cX4_holds 170 = .ok (.istore_n 3, 1) := by decide +kernel
theorem dX4_holds_171 : decode cX4_holds 171 = .ok (.iload 5, 2) := by decide +kernel
theorem dX4_holds_173 : decode cX4_holds 173 = .ok (.aload_n 0, 1) := by decide +kernel
theorem dX4_holds_174 : decode cX4_holds 174 = .ok (.getfield 30, 3) := by decide +kernel
theorem dX4_holds_177 : decode cX4_holds 177 = .ok (.iload_n 2, 1) := by decide +kernel
theorem dX4_holds_178 : decode cX4_holds 178 = .ok (.iconst 1, 1) := by decide +kernel
theorem dX4_holds_179 : decode cX4_holds 179 = .ok (.isub, 1) := by decide +kernel
theorem dX4_holds_180 : decode cX4_holds 180 = .ok (.iaload, 1) := by decide +kernel
theorem dX4_holds_181 : decode cX4_holds 181 = .ok (.iload 6, 2) := by decide +kernel
theorem dX4_holds_183 : decode cX4_holds 183 = .ok (.invokestatic 50, 3) := by decide +kernel
theorem dX4_holds_186 : decode cX4_holds 186 = .ok (.istore 7, 2) := by decide +kernel
theorem dX4_holds_188 : decode cX4_holds 188 = .ok (.iload 5, 2) := by decide +kernel
theorem dX4_holds_190 : decode cX4_holds 190 = .ok (.invokestatic 54, 3) := by decide +kernel
theorem dX4_holds_193 : decode cX4_holds 193 = .ok (.ifCond .eq 17, 3) := by decide +kernel
theorem dX4_holds_196 : decode cX4_holds 196 = .ok (.iload_n 3, 1) := by decide +kernel
theorem dX4_holds_197 : decode cX4_holds 197 = .ok (.ifCond .eq 7, 3) := by decide +kernel
theorem dX4_holds_200 : decode cX4_holds 200 = .ok (.iconst 0, 1) := by decide +kernel
theorem dX4_holds_201 : decode cX4_holds 201 = .ok (.goto 5, 3) := by decide +kernel
theorem dX4_holds_204 : decode cX4_holds 204 = .ok (.iload 7, 2) := by decide +kernel
theorem dX4_holds_206 : decode cX4_holds 206 = .ok (.istore 7, 2) := by decide +kernel
theorem dX4_holds_208 : decode cX4_holds 208 = .ok (.iconst 0, 1) := by decide +kernel
theorem dX4_holds_209 : decode cX4_holds 209 = .ok (.istore_n 3, 1) := by decide +kernel
theorem dX4_holds_210 : decode cX4_holds 210 = .ok (.aload_n 0, 1) := by decide +kernel
theorem dX4_holds_211 : decode cX4_holds 211 = .ok (.getfield 30, 3) := by decide +kernel
theorem dX4_holds_214 : decode cX4_holds 214 = .ok (.iload_n 2, 1) := by decide +kernel
theorem dX4_holds_215 : decode cX4_holds 215 = .ok (.iconst 1, 1) := by decide +kernel
theorem dX4_holds_216 : decode cX4_holds 216 = .ok (.isub, 1) := by decide +kernel
theorem dX4_holds_217 : decode cX4_holds 217 = .ok (.iload 7, 2) := by decide +kernel
theorem dX4_holds_219 : decode cX4_holds 219 = .ok (.iastore, 1) := by decide +kernel
theorem dX4_holds_220 : decode cX4_holds 220 = .ok (.iinc 4 1, 3) := by decide +kernel
theorem dX4_holds_223 : decode cX4_holds 223 = .ok (.goto (-211), 3) := by decide +kernel
theorem dX4_holds_226 : decode cX4_holds 226 = .ok (.iload_n 2, 1) := by decide +kernel
theorem dX4_holds_227 : decode cX4_holds 227 = .ok (.ifCond .le 16, 3) := by decide +kernel
theorem dX4_holds_230 : decode cX4_holds 230 = .ok (.aload_n 0, 1) := by decide +kernel
theorem dX4_holds_231 : decode cX4_holds 231 = .ok (.getfield 30, 3) := by decide +kernel
theorem dX4_holds_234 : decode cX4_holds 234 = .ok (.iconst 0, 1) := by decide +kernel
theorem dX4_holds_235 : decode cX4_holds 235 = .ok (.iaload, 1) := by decide +kernel
theorem dX4_holds_236 : decode cX4_holds 236 = .ok (.ifCond .eq 7, 3) := by decide +kernel
theorem dX4_holds_239 : decode cX4_holds 239 = .ok (.iconst 1, 1) := by decide +kernel
theorem dX4_holds_240 : decode cX4_holds 240 = .ok (.goto 4, 3) := by decide +kernel
theorem dX4_holds_243 : decode cX4_holds 243 = .ok (.iconst 0, 1) := by decide +kernel
theorem dX4_holds_244 : decode cX4_holds 244 = .ok (.ireturn, 1) := by decide +kernel
theorem dX4_combine_0 : decode cX4_combine 0 = .ok (.iload_n 0, 1) := by decide +kernel
theorem dX4_combine_1 : decode cX4_combine 1 = .ok (.tableswitch 167 13 31 #[163, 159, 167, 167, 167, 167, 167, 167, 167, 167, 167, 91, 95, 99, 103, 115, 126, 137, 148], 91) := by decide +kernel
theorem dX4_combine_92 : decode cX4_combine 92 = .ok (.iload_n 1, 1) := by decide +kernel
theorem dX4_combine_93 : decode cX4_combine 93 = .ok (.iload_n 2, 1) := by decide +kernel
theorem dX4_combine_94 : decode cX4_combine 94 = .ok (.iadd, 1) := by decide +kernel
theorem dX4_combine_95 : decode cX4_combine 95 = .ok (.ireturn, 1) := by decide +kernel
theorem dX4_combine_96 : decode cX4_combine 96 = .ok (.iload_n 1, 1) := by decide +kernel
theorem dX4_combine_97 : decode cX4_combine 97 = .ok (.iload_n 2, 1) := by decide +kernel
theorem dX4_combine_98 : decode cX4_combine 98 = .ok (.isub, 1) := by decide +kernel
theorem dX4_combine_99 : decode cX4_combine 99 = .ok (.ireturn, 1) := by decide +kernel
theorem dX4_combine_100 : decode cX4_combine 100 = .ok (.iload_n 1, 1) := by decide +kernel
theorem dX4_combine_101 : decode cX4_combine 101 = .ok (.iload_n 2, 1) := by decide +kernel
theorem dX4_combine_102 : decode cX4_combine 102 = .ok (.imul, 1) := by decide +kernel
theorem dX4_combine_103 : decode cX4_combine 103 = .ok (.ireturn, 1) := by decide +kernel
theorem dX4_combine_104 : decode cX4_combine 104 = .ok (.iload_n 2, 1) := by decide +kernel
theorem dX4_combine_105 : decode cX4_combine 105 = .ok (.ifCond .ne 7, 3) := by decide +kernel
theorem dX4_combine_108 : decode cX4_combine 108 = .ok (.iconst 0, 1) := by decide +kernel
theorem dX4_combine_109 : decode cX4_combine 109 = .ok (.goto 6, 3) := by decide +kernel
theorem dX4_combine_112 : decode cX4_combine 112 = .ok (.iload_n 1, 1) := by decide +kernel
theorem dX4_combine_113 : decode cX4_combine 113 = .ok (.iload_n 2, 1) := by decide +kernel
theorem dX4_combine_114 : decode cX4_combine 114 = .ok (.idiv, 1) := by decide +kernel
theorem dX4_combine_115 : decode cX4_combine 115 = .ok (.ireturn, 1) := by decide +kernel
theorem dX4_combine_116 : decode cX4_combine 116 = .ok (.iload_n 1, 1) := by decide +kernel
theorem dX4_combine_117 : decode cX4_combine 117 = .ok (.iload_n 2, 1) := by decide +kernel
theorem dX4_combine_118 : decode cX4_combine 118 = .ok (.if_icmp .ne 7, 3) := by decide +kernel
theorem dX4_combine_121 : decode cX4_combine 121 = .ok (.iconst 1, 1) := by decide +kernel
theorem dX4_combine_122 : decode cX4_combine 122 = .ok (.goto 4, 3) := by decide +kernel
theorem dX4_combine_125 : decode cX4_combine 125 = .ok (.iconst 0, 1) := by decide +kernel
theorem dX4_combine_126 : decode cX4_combine 126 = .ok (.ireturn, 1) := by decide +kernel
theorem dX4_combine_127 : decode cX4_combine 127 = .ok (.iload_n 1, 1) := by decide +kernel
theorem dX4_combine_128 : decode cX4_combine 128 = .ok (.iload_n 2, 1) := by decide +kernel
theorem dX4_combine_129 : decode cX4_combine 129 = .ok (.if_icmp .eq 7, 3) := by decide +kernel
theorem dX4_combine_132 : decode cX4_combine 132 = .ok (.iconst 1, 1) := by decide +kernel
theorem dX4_combine_133 : decode cX4_combine 133 = .ok (.goto 4, 3) := by decide +kernel
theorem dX4_combine_136 : decode cX4_combine 136 = .ok (.iconst 0, 1) := by decide +kernel
theorem dX4_combine_137 : decode cX4_combine 137 = .ok (.ireturn, 1) := by decide +kernel
theorem dX4_combine_138 : decode cX4_combine 138 = .ok (.iload_n 1, 1) := by decide +kernel
theorem dX4_combine_139 : decode cX4_combine 139 = .ok (.iload_n 2, 1) := by decide +kernel
theorem dX4_combine_140 : decode cX4_combine 140 = .ok (.if_icmp .ge 7, 3) := by decide +kernel
theorem dX4_combine_143 : decode cX4_combine 143 = .ok (.iconst 1, 1) := by decide +kernel
theorem dX4_combine_144 : decode cX4_combine 144 = .ok (.goto 4, 3) := by decide +kernel
theorem dX4_combine_147 : decode cX4_combine 147 = .ok (.iconst 0, 1) := by decide +kernel
theorem dX4_combine_148 : decode cX4_combine 148 = .ok (.ireturn, 1) := by decide +kernel
theorem dX4_combine_149 : decode cX4_combine 149 = .ok (.iload_n 1, 1) := by decide +kernel
theorem dX4_combine_150 : decode cX4_combine 150 = .ok (.iload_n 2, 1) := by decide +kernel
theorem dX4_combine_151 : decode cX4_combine 151 = .ok (.if_icmp .gt 7, 3) := by decide +kernel
theorem dX4_combine_154 : decode cX4_combine 154 = .ok (.iconst 1, 1) := by decide +kernel
theorem dX4_combine_155 : decode cX4_combine 155 = .ok (.goto 4, 3) := by decide +kernel
theorem dX4_combine_158 : decode cX4_combine 158 = .ok (.iconst 0, 1) := by decide +kernel
theorem dX4_combine_159 : decode cX4_combine 159 = .ok (.ireturn, 1) := by decide +kernel
theorem dX4_combine_160 : decode cX4_combine 160 = .ok (.iload_n 1, 1) := by decide +kernel
theorem dX4_combine_161 : decode cX4_combine 161 = .ok (.iload_n 2, 1) := by decide +kernel
theorem dX4_combine_162 : decode cX4_combine 162 = .ok (.iand, 1) := by decide +kernel
theorem dX4_combine_163 : decode cX4_combine 163 = .ok (.ireturn, 1) := by decide +kernel
theorem dX4_combine_164 : decode cX4_combine 164 = .ok (.iload_n 1, 1) := by decide +kernel
theorem dX4_combine_165 : decode cX4_combine 165 = .ok (.iload_n 2, 1) := by decide +kernel
theorem dX4_combine_166 : decode cX4_combine 166 = .ok (.ior, 1) := by decide +kernel
theorem dX4_combine_167 : decode cX4_combine 167 = .ok (.ireturn, 1) := by decide +kernel
theorem dX4_combine_168 : decode cX4_combine 168 = .ok (.iconst 0, 1) := by decide +kernel
theorem dX4_combine_169 : decode cX4_combine 169 = .ok (.ireturn, 1) := by decide +kernel
theorem dX5_init_0 : decode cX5_init 0 = .ok (.aload_n 0, 1) := by decide +kernel
theorem dX5_init_1 : decode cX5_init 1 = .ok (.invokespecial 3, 3) := by decide +kernel
theorem dX5_init_4 : decode cX5_init 4 = .ok (.aload_n 0, 1) := by decide +kernel
theorem dX5_init_5 : decode cX5_init 5 = .ok (.sipush 150, 3) := by decide +kernel
theorem dX5_init_8 : decode cX5_init 8 = .ok (.newarray .int, 2) := by decide +kernel
theorem dX5_init_10 : decode cX5_init 10 = .ok (.putfield 11, 3) := by decide +kernel
theorem dX5_init_13 : decode cX5_init 13 = .ok (.aload_n 0, 1) := by decide +kernel
theorem dX5_init_14 : decode cX5_init 14 = .ok (.iconst 0, 1) := by decide +kernel
theorem dX5_init_15 : decode cX5_init 15 = .ok (.putfield 15, 3) := by decide +kernel
theorem dX5_init_18 : decode cX5_init 18 = .ok (.aload_n 0, 1) := by decide +kernel
theorem dX5_init_19 : decode cX5_init 19 = .ok (.sipush 450, 3) := by decide +kernel
theorem dX5_init_22 : decode cX5_init 22 = .ok (.newarray .int, 2) := by decide +kernel
theorem dX5_init_24 : decode cX5_init 24 = .ok (.putfield 19, 3) := by decide +kernel
theorem dX5_init_27 : decode cX5_init 27 = .ok (.aload_n 0, 1) := by decide +kernel
theorem dX5_init_28 : decode cX5_init 28 = .ok (.iconst 3, 1) := by decide +kernel
theorem dX5_init_29 : decode cX5_init 29 = .ok (.newarray .int, 2) := by decide +kernel
theorem dX5_init_31 : decode cX5_init 31 = .ok (.putfield 22, 3) := by decide +kernel
theorem dX5_init_34 : decode cX5_init 34 = .ok (.aload_n 0, 1) := by decide +kernel
theorem dX5_init_35 : decode cX5_init 35 = .ok (.invokevirtual 25, 3) := by decide +kernel
theorem dX5_init_38 : decode cX5_init 38 = .ok (.return_, 1) := by decide +kernel
theorem dX5_clear_0 : decode cX5_clear 0 = .ok (.aload_n 0, 1) := by decide +kernel
theorem dX5_clear_1 : decode cX5_clear 1 = .ok (.iconst 0, 1) := by decide +kernel
theorem dX5_clear_2 : decode cX5_clear 2 = .ok (.putfield 15, 3) := by decide +kernel
theorem dX5_clear_5 : decode cX5_clear 5 = .ok (.aload_n 0, 1) := by decide +kernel
theorem dX5_clear_6 : decode cX5_clear 6 = .ok (.getfield 22, 3) := by decide +kernel
theorem dX5_clear_9 : decode cX5_clear 9 = .ok (.iconst (-1), 1) := by decide +kernel
theorem dX5_clear_10 : decode cX5_clear 10 = .ok (.invokestatic 28, 3) := by decide +kernel
theorem dX5_clear_13 : decode cX5_clear 13 = .ok (.return_, 1) := by decide +kernel
theorem dX5_fullSlots_0 : decode cX5_fullSlots 0 = .ok (.iconst 0, 1) := by decide +kernel
theorem dX5_fullSlots_1 : decode cX5_fullSlots 1 = .ok (.istore_n 1, 1) := by decide +kernel
theorem dX5_fullSlots_2 : decode cX5_fullSlots 2 = .ok (.iconst 0, 1) := by decide +kernel
theorem dX5_fullSlots_3 : decode cX5_fullSlots 3 = .ok (.istore_n 2, 1) := by decide +kernel
theorem dX5_fullSlots_4 : decode cX5_fullSlots 4 = .ok (.iload_n 2, 1) := by decide +kernel
theorem dX5_fullSlots_5 : decode cX5_fullSlots 5 = .ok (.iconst 3, 1) := by decide +kernel
theorem dX5_fullSlots_6 : decode cX5_fullSlots 6 = .ok (.if_icmp .ge 27, 3) := by decide +kernel
theorem dX5_fullSlots_9 : decode cX5_fullSlots 9 = .ok (.iload_n 1, 1) := by decide +kernel
theorem dX5_fullSlots_10 : decode cX5_fullSlots 10 = .ok (.aload_n 0, 1) := by decide +kernel
theorem dX5_fullSlots_11 : decode cX5_fullSlots 11 = .ok (.getfield 22, 3) := by decide +kernel
theorem dX5_fullSlots_14 : decode cX5_fullSlots 14 = .ok (.iload_n 2, 1) := by decide +kernel
theorem dX5_fullSlots_15 : decode cX5_fullSlots 15 = .ok (.iaload, 1) := by decide +kernel
theorem dX5_fullSlots_16 : decode cX5_fullSlots 16 = .ok (.iconst (-1), 1) := by decide +kernel
theorem dX5_fullSlots_17 : decode cX5_fullSlots 17 = .ok (.if_icmp .ne 7, 3) := by decide +kernel
theorem dX5_fullSlots_20 : decode cX5_fullSlots 20 = .ok (.iconst 0, 1) := by decide +kernel
theorem dX5_fullSlots_21 : decode cX5_fullSlots 21 = .ok (.goto 4, 3) := by decide +kernel
theorem dX5_fullSlots_24 : decode cX5_fullSlots 24 = .ok (.iconst 1, 1) := by decide +kernel
theorem dX5_fullSlots_25 : decode cX5_fullSlots 25 = .ok (.iadd, 1) := by decide +kernel
theorem dX5_fullSlots_26 : decode cX5_fullSlots 26 = .ok (.istore_n 1, 1) := by decide +kernel
theorem dX5_fullSlots_27 : decode cX5_fullSlots 27 = .ok (.iinc 2 1, 3) := by decide +kernel
theorem dX5_fullSlots_30 : decode cX5_fullSlots 30 = .ok (.goto (-26), 3) := by decide +kernel
theorem dX5_fullSlots_33 : decode cX5_fullSlots 33 = .ok (.iload_n 1, 1) := by decide +kernel
theorem dX5_fullSlots_34 : decode cX5_fullSlots 34 = .ok (.ireturn, 1) := by decide +kernel
theorem dX5_keep_0 : decode cX5_keep 0 = .ok (.iload_n 1, 1) := by decide +kernel
theorem dX5_keep_1 : decode cX5_keep 1 = .ok (.ifCond .lt 8, 3) := by decide +kernel
theorem dX5_keep_4 : decode cX5_keep 4 = .ok (.iload_n 1, 1) := by decide +kernel
theorem dX5_keep_5 : decode cX5_keep 5 = .ok (.iconst 3, 1) := by decide +kernel
theorem dX5_keep_6 : decode cX5_keep 6 = .ok (.if_icmp .lt 5, 3) := by decide +kernel
theorem dX5_keep_9 : decode cX5_keep 9 = .ok (.iconst 0, 1) := by decide +kernel
theorem dX5_keep_10 : decode cX5_keep 10 = .ok (.ireturn, 1) := by decide +kernel
theorem dX5_keep_11 : decode cX5_keep 11 = .ok (.aload_n 0, 1) := by decide +kernel
theorem dX5_keep_12 : decode cX5_keep 12 = .ok (.getfield 22, 3) := by decide +kernel
theorem dX5_keep_15 : decode cX5_keep 15 = .ok (.iload_n 1, 1) := by decide +kernel
theorem dX5_keep_16 : decode cX5_keep 16 = .ok (.aload_n 0, 1) := by decide +kernel
theorem dX5_keep_17 : decode cX5_keep 17 = .ok (.getfield 15, 3) := by decide +kernel
theorem dX5_keep_20 : decode cX5_keep 20 = .ok (.iastore, 1) := by decide +kernel
theorem dX5_keep_21 : decode cX5_keep 21 = .ok (.aload_n 0, 1) := by decide +kernel
theorem dX5_keep_22 : decode cX5_keep 22 = .ok (.getfield 11, 3) := by decide +kernel
theorem dX5_keep_25 : decode cX5_keep 25 = .ok (.iconst 0, 1) := by decide +kernel
theorem dX5_keep_26 : decode cX5_keep 26 = .ok (.aload_n 0, 1) := by decide +kernel
theorem dX5_keep_27 : decode cX5_keep 27 = .ok (.getfield 19, 3) := by decide +kernel
theorem dX5_keep_30 : decode cX5_keep 30 = .ok (.iload_n 1, 1) := by decide +kernel
theorem dX5_keep_31 : decode cX5_keep 31 = .ok (.aload_n 0, 1) := by decide +kernel
theorem dX5_keep_32 : decode cX5_keep 32 = .ok (.getfield 11, 3) := by decide +kernel
theorem dX5_keep_35 : decode cX5_keep 35 = .ok (.arraylength, 1) := by decide +kernel
theorem dX5_keep_36 : decode cX5_keep 36 = .ok (.imul, 1) := by decide +kernel
theorem dX5_keep_37 : decode cX5_keep 37 = .ok (.aload_n 0, 1) := by decide +kernel
theorem dX5_keep_38 : decode cX5_keep 38 = .ok (.getfield 11, 3) := by decide +kernel
theorem dX5_keep_41 : decode cX5_keep 41 = .ok (.arraylength, 1) := by decide +kernel
theorem dX5_keep_42 : decode cX5_keep 42 = .ok (.invokestatic 34, 3) := by decide +kernel
theorem dX5_keep_45 : decode cX5_keep 45 = .ok (.iconst 1, 1) := by decide +kernel
theorem dX5_keep_46 : decode cX5_keep 46 = .ok (.ireturn, 1) := by decide +kernel
theorem dX5_bring_0 : decode cX5_bring 0 = .ok (.iload_n 1, 1) := by decide +kernel
theorem dX5_bring_1 : decode cX5_bring 1 = .ok (.ifCond .lt 18, 3) := by decide +kernel
theorem dX5_bring_4 : decode cX5_bring 4 = .ok (.iload_n 1, 1) := by decide +kernel
theorem dX5_bring_5 : decode cX5_bring 5 = .ok (.iconst 3, 1) := by decide +kernel
theorem dX5_bring_6 : decode cX5_bring 6 = .ok (.if_icmp .ge 13, 3) := by decide +kernel
theorem dX5_bring_9 : decode cX5_bring 9 = .ok (.aload_n 0, 1) := by decide +kernel
theorem dX5_bring_10 : decode cX5_bring 10 = .ok (.getfield 22, 3) := by decide +kernel
theorem dX5_bring_13 : decode cX5_bring 13 = .ok (.iload_n 1, 1) := by decide +kernel
theorem dX5_bring_14 : decode cX5_bring 14 = .ok (.iaload, 1) := by decide +kernel
theorem dX5_bring_15 : decode cX5_bring 15 = .ok (.iconst (-1), 1) := by decide +kernel
theorem dX5_bring_16 : decode cX5_bring 16 = .ok (.if_icmp .ne 5, 3) := by decide +kernel
theorem dX5_bring_19 : decode cX5_bring 19 = .ok (.iconst 0, 1) := by decide +kernel
theorem dX5_bring_20 : decode cX5_bring 20 = .ok (.ireturn, 1) := by decide +kernel
theorem dX5_bring_21 : decode cX5_bring 21 = .ok (.aload_n 0, 1) := by decide +kernel
theorem dX5_bring_22 : decode cX5_bring 22 = .ok (.aload_n 0, 1) := by decide +kernel
theorem dX5_bring_23 : decode cX5_bring 23 = .ok (.getfield 22, 3) := by decide +kernel
theorem dX5_bring_26 : decode cX5_bring 26 = .ok (.iload_n 1, 1) := by decide +kernel
theorem dX5_bring_27 : decode cX5_bring 27 = .ok (.iaload, 1) := by decide +kernel
theorem dX5_bring_28 : decode cX5_bring 28 = .ok (.putfield 15, 3) := by decide +kernel
theorem dX5_bring_31 : decode cX5_bring 31 = .ok (.aload_n 0, 1) := by decide +kernel
theorem dX5_bring_32 : decode cX5_bring 32 = .ok (.getfield 19, 3) := by decide +kernel
theorem dX5_bring_35 : decode cX5_bring 35 = .ok (.iload_n 1, 1) := by decide +kernel
theorem dX5_bring_36 : decode cX5_bring 36 = .ok (.aload_n 0, 1) := by decide +kernel
theorem dX5_bring_37 : decode cX5_bring 37 = .ok (.getfield 11, 3) := by decide +kernel
theorem dX5_bring_40 : decode cX5_bring 40 = .ok (.arraylength, 1) := by decide +kernel
theorem dX5_bring_41 : decode cX5_bring 41 = .ok (.imul, 1) := by decide +kernel
theorem dX5_bring_42 : decode cX5_bring 42 = .ok (.aload_n 0, 1) := by decide +kernel
theorem dX5_bring_43 : decode cX5_bring 43 = .ok (.getfield 11, 3) := by decide +kernel
theorem dX5_bring_46 : decode cX5_bring 46 = .ok (.iconst 0, 1) := by decide +kernel
theorem dX5_bring_47 : decode cX5_bring 47 = .ok (.aload_n 0, 1) := by decide +kernel
theorem dX5_bring_48 : decode cX5_bring 48 = .ok (.getfield 11, 3) := by decide +kernel
theorem dX5_bring_51 : decode cX5_bring 51 = .ok (.arraylength, 1) := by decide +kernel
theorem dX5_bring_52 : decode cX5_bring 52 = .ok (.invokestatic 34, 3) := by decide +kernel
theorem dX5_bring_55 : decode cX5_bring 55 = .ok (.iconst 1, 1) := by decide +kernel
theorem dX5_bring_56 : decode cX5_bring 56 = .ok (.ireturn, 1) := by decide +kernel
theorem dX5_has_0 : decode cX5_has 0 = .ok (.iload_n 1, 1) := by decide +kernel
theorem dX5_has_1 : decode cX5_has 1 = .ok (.ifCond .lt 15, 3) := by decide +kernel
theorem dX5_has_4 : decode cX5_has 4 = .ok (.iload_n 1, 1) := by decide +kernel
theorem dX5_has_5 : decode cX5_has 5 = .ok (.aload_n 0, 1) := by decide +kernel
theorem dX5_has_6 : decode cX5_has 6 = .ok (.getfield 15, 3) := by decide +kernel
theorem dX5_has_9 : decode cX5_has 9 = .ok (.if_icmp .ge 7, 3) := by decide +kernel
theorem dX5_has_12 : decode cX5_has 12 = .ok (.iconst 1, 1) := by decide +kernel
theorem dX5_has_13 : decode cX5_has 13 = .ok (.goto 4, 3) := by decide +kernel
theorem dX5_has_16 : decode cX5_has 16 = .ok (.iconst 0, 1) := by decide +kernel
theorem dX5_has_17 : decode cX5_has 17 = .ok (.ireturn, 1) := by decide +kernel
theorem dX5_part_0 : decode cX5_part 0 = .ok (.aload_n 0, 1) := by decide +kernel
theorem dX5_part_1 : decode cX5_part 1 = .ok (.getfield 11, 3) := by decide +kernel
theorem dX5_part_4 : decode cX5_part 4 = .ok (.iload_n 1, 1) := by decide +kernel
theorem dX5_part_5 : decode cX5_part 5 = .ok (.iconst 5, 1) := by decide +kernel
theorem dX5_part_6 : decode cX5_part 6 = .ok (.imul, 1) := by decide +kernel
theorem dX5_part_7 : decode cX5_part 7 = .ok (.iload_n 2, 1) := by decide +kernel
theorem dX5_part_8 : decode cX5_part 8 = .ok (.iadd, 1) := by decide +kernel
theorem dX5_part_9 : decode cX5_part 9 = .ok (.iaload, 1) := by decide +kernel
theorem dX5_part_10 : decode cX5_part 10 = .ok (.ireturn, 1) := by decide +kernel
theorem dX5_sort_0 : decode cX5_sort 0 = .ok (.aload_n 0, 1) := by decide +kernel
theorem dX5_sort_1 : decode cX5_sort 1 = .ok (.iload_n 1, 1) := by decide +kernel
theorem dX5_sort_2 : decode cX5_sort 2 = .ok (.iconst 0, 1) := by decide +kernel
theorem dX5_sort_3 : decode cX5_sort 3 = .ok (.invokevirtual 40, 3) := by decide +kernel
theorem dX5_sort_6 : decode cX5_sort 6 = .ok (.ireturn, 1) := by decide +kernel
theorem dX5_hour_0 : decode cX5_hour 0 = .ok (.aload_n 0, 1) := by decide +kernel
theorem dX5_hour_1 : decode cX5_hour 1 = .ok (.iload_n 1, 1) := by decide +kernel
theorem dX5_hour_2 : decode cX5_hour 2 = .ok (.iconst 1, 1) := by decide +kernel
theorem dX5_hour_3 : decode cX5_hour 3 = .ok (.invokevirtual 40, 3) := by decide +kernel
theorem dX5_hour_6 : decode cX5_hour 6 = .ok (.ireturn, 1) := by decide +kernel
theorem dX5_person_0 : decode cX5_person 0 = .ok (.aload_n 0, 1) := by decide +kernel
theorem dX5_person_1 : decode cX5_person 1 = .ok (.iload_n 1, 1) := by decide +kernel
theorem dX5_person_2 : decode cX5_person 2 = .ok (.iconst 2, 1) := by decide +kernel
theorem dX5_person_3 : decode cX5_person 3 = .ok (.invokevirtual 40, 3) := by decide +kernel
theorem dX5_person_6 : decode cX5_person 6 = .ok (.ireturn, 1) := by decide +kernel
theorem dX5_other_0 : decode cX5_other 0 = .ok (.aload_n 0, 1) := by decide +kernel
theorem dX5_other_1 : decode cX5_other 1 = .ok (.iload_n 1, 1) := by decide +kernel
theorem dX5_other_2 : decode cX5_other 2 = .ok (.iconst 3, 1) := by decide +kernel
theorem dX5_other_3 : decode cX5_other 3 = .ok (.invokevirtual 40, 3) := by decide +kernel
theorem dX5_other_6 : decode cX5_other 6 = .ok (.ireturn, 1) := by decide +kernel
theorem dX5_thing_0 : decode cX5_thing 0 = .ok (.aload_n 0, 1) := by decide +kernel
theorem dX5_thing_1 : decode cX5_thing 1 = .ok (.iload_n 1, 1) := by decide +kernel
theorem dX5_thing_2 : decode cX5_thing 2 = .ok (.iconst 4, 1) := by decide +kernel
theorem dX5_thing_3 : decode cX5_thing 3 = .ok (.invokevirtual 40, 3) := by decide +kernel
theorem dX5_thing_6 : decode cX5_thing 6 = .ok (.ireturn, 1) := by decide +kernel
theorem dX5_add_0 : decode cX5_add 0 = .ok (.aload_n 0, 1) := by decide +kernel
theorem dX5_add_1 : decode cX5_add 1 = .ok (.getfield 15, 3) := by decide +kernel
theorem dX5_add_4 : decode cX5_add 4 = .ok (.bipush 30, 2) := by decide +kernel
theorem dX5_add_6 : decode cX5_add 6 = .ok (.if_icmp .lt 5, 3) := by decide +kernel
theorem dX5_add_9 : decode cX5_add 9 = .ok (.iconst (-1), 1) := by decide +kernel
theorem dX5_add_10 : decode cX5_add 10 = .ok (.ireturn, 1) := by decide +kernel
theorem dX5_add_11 : decode cX5_add 11 = .ok (.aload_n 0, 1) := by decide +kernel
theorem dX5_add_12 : decode cX5_add 12 = .ok (.getfield 15, 3) := by decide +kernel
theorem dX5_add_15 : decode cX5_add 15 = .ok (.iconst 5, 1) := by decide +kernel
theorem dX5_add_16 : decode cX5_add 16 = .ok (.imul, 1) := by decide +kernel
theorem dX5_add_17 : decode cX5_add 17 = .ok (.istore 6, 2) := by decide +kernel
theorem dX5_add_19 : decode cX5_add 19 = .ok (.aload_n 0, 1) := by decide +kernel
theorem dX5_add_20 : decode cX5_add 20 = .ok (.getfield 11, 3) := by decide +kernel
theorem dX5_add_23 : decode cX5_add 23 = .ok (.iload 6, 2) := by decide +kernel
theorem dX5_add_25 : decode cX5_add 25 = .ok (.iload_n 1, 1) := by decide +kernel
theorem dX5_add_26 : decode cX5_add 26 = .ok (.iastore, 1) := by decide +kernel
theorem dX5_add_27 : decode cX5_add 27 = .ok (.aload_n 0, 1) := by decide +kernel
theorem dX5_add_28 : decode cX5_add 28 = .ok (.getfield 11, 3) := by decide +kernel
theorem dX5_add_31 : decode cX5_add 31 = .ok (.iload 6, 2) := by decide +kernel
theorem dX5_add_33 : decode cX5_add 33 = .ok (.iconst 1, 1) := by decide +kernel
theorem dX5_add_34 : decode cX5_add 34 = .ok (.iadd, 1) := by decide +kernel
theorem dX5_add_35 : decode cX5_add 35 = .ok (.iload_n 2, 1) := by decide +kernel
theorem dX5_add_36 : decode cX5_add 36 = .ok (.iastore, 1) := by decide +kernel
theorem dX5_add_37 : decode cX5_add 37 = .ok (.aload_n 0, 1) := by decide +kernel
theorem dX5_add_38 : decode cX5_add 38 = .ok (.getfield 11, 3) := by decide +kernel
theorem dX5_add_41 : decode cX5_add 41 = .ok (.iload 6, 2) := by decide +kernel
theorem dX5_add_43 : decode cX5_add 43 = .ok (.iconst 2, 1) := by decide +kernel
theorem dX5_add_44 : decode cX5_add 44 = .ok (.iadd, 1) := by decide +kernel
theorem dX5_add_45 : decode cX5_add 45 = .ok (.iload_n 3, 1) := by decide +kernel
theorem dX5_add_46 : decode cX5_add 46 = .ok (.iastore, 1) := by decide +kernel
theorem dX5_add_47 : decode cX5_add 47 = .ok (.aload_n 0, 1) := by decide +kernel
theorem dX5_add_48 : decode cX5_add 48 = .ok (.getfield 11, 3) := by decide +kernel
theorem dX5_add_51 : decode cX5_add 51 = .ok (.iload 6, 2) := by decide +kernel
theorem dX5_add_53 : decode cX5_add 53 = .ok (.iconst 3, 1) := by decide +kernel
theorem dX5_add_54 : decode cX5_add 54 = .ok (.iadd, 1) := by decide +kernel
theorem dX5_add_55 : decode cX5_add 55 = .ok (.iload 4, 2) := by decide +kernel
theorem dX5_add_57 : decode cX5_add 57 = .ok (.iastore, 1) := by decide +kernel
theorem dX5_add_58 : decode cX5_add 58 = .ok (.aload_n 0, 1) := by decide +kernel
theorem dX5_add_59 : decode cX5_add 59 = .ok (.getfield 11, 3) := by decide +kernel
theorem dX5_add_62 : decode cX5_add 62 = .ok (.iload 6, 2) := by decide +kernel
theorem dX5_add_64 : decode cX5_add 64 = .ok (.iconst 4, 1) := by decide +kernel
theorem dX5_add_65 : decode cX5_add 65 = .ok (.iadd, 1) := by decide +kernel
theorem dX5_add_66 : decode cX5_add 66 = .ok (.iload 5, 2) := by decide +kernel
theorem dX5_add_68 : decode cX5_add 68 = .ok (.iastore, 1) := by decide +kernel
theorem dX5_add_69 : decode cX5_add 69 = .ok (.aload_n 0, 1) := by decide +kernel
theorem dX5_add_70 : decode cX5_add 70 = .ok (.dup, 1) := by decide +kernel
theorem dX5_add_71 : decode cX5_add 71 = .ok (.getfield 15, 3) := by decide +kernel
theorem dX5_add_74 : decode cX5_add 74 = .ok (.iconst 1, 1) := by decide +kernel
theorem dX5_add_75 : decode cX5_add 75 = .ok (.iadd, 1) := by decide +kernel
theorem dX5_add_76 : decode cX5_add 76 = .ok (.putfield 15, 3) := by decide +kernel
theorem dX5_add_79 : decode cX5_add 79 = .ok (.aload_n 0, 1) := by decide +kernel
theorem dX5_add_80 : decode cX5_add 80 = .ok (.getfield 15, 3) := by decide +kernel
theorem dX5_add_83 : decode cX5_add 83 = .ok (.iconst 1, 1) := by decide +kernel
theorem dX5_add_84 : decode cX5_add 84 = .ok (.isub, 1) := by decide +kernel
theorem dX5_add_85 : decode cX5_add 85 = .ok (.ireturn, 1) := by decide +kernel
theorem dX5_remove_0 : decode cX5_remove 0 = .ok (.aload_n 0, 1) := by decide +kernel
theorem dX5_remove_1 : decode cX5_remove 1 = .ok (.iload_n 1, 1) := by decide +kernel
theorem dX5_remove_2 : decode cX5_remove 2 = .ok (.invokevirtual 44, 3) := by decide +kernel
theorem dX5_remove_5 : decode cX5_remove 5 = .ok (.ifCond .eq 42, 3) := by decide +kernel
theorem dX5_remove_8 : decode cX5_remove 8 = .ok (.iload_n 1, 1) := by decide +kernel
theorem dX5_remove_9 : decode cX5_remove 9 = .ok (.iconst 1, 1) := by decide +kernel
theorem dX5_remove_10 : decode cX5_remove 10 = .ok (.iadd, 1) := by decide +kernel
theorem dX5_remove_11 : decode cX5_remove 11 = .ok (.iconst 5, 1) := by decide +kernel
theorem dX5_remove_12 : decode cX5_remove 12 = .ok (.imul, 1) := by decide +kernel
theorem dX5_remove_13 : decode cX5_remove 13 = .ok (.istore_n 2, 1) := by decide +kernel
theorem dX5_remove_14 : decode cX5_remove 14 = .ok (.aload_n 0, 1) := by decide +kernel
theorem dX5_remove_15 : decode cX5_remove 15 = .ok (.getfield 11, 3) := by decide +kernel
theorem dX5_remove_18 : decode cX5_remove 18 = .ok (.iload_n 2, 1) := by decide +kernel
theorem dX5_remove_19 : decode cX5_remove 19 = .ok (.aload_n 0, 1) := by decide +kernel
theorem dX5_remove_20 : decode cX5_remove 20 = .ok (.getfield 11, 3) := by decide +kernel
theorem dX5_remove_23 : decode cX5_remove 23 = .ok (.iload_n 1, 1) := by decide +kernel
theorem dX5_remove_24 : decode cX5_remove 24 = .ok (.iconst 5, 1) := by decide +kernel
theorem dX5_remove_25 : decode cX5_remove 25 = .ok (.imul, 1) := by decide +kernel
theorem dX5_remove_26 : decode cX5_remove 26 = .ok (.aload_n 0, 1) := by decide +kernel
theorem dX5_remove_27 : decode cX5_remove 27 = .ok (.getfield 15, 3) := by decide +kernel
theorem dX5_remove_30 : decode cX5_remove 30 = .ok (.iconst 5, 1) := by decide +kernel
theorem dX5_remove_31 : decode cX5_remove 31 = .ok (.imul, 1) := by decide +kernel
theorem dX5_remove_32 : decode cX5_remove 32 = .ok (.iload_n 2, 1) := by decide +kernel
theorem dX5_remove_33 : decode cX5_remove 33 = .ok (.isub, 1) := by decide +kernel
theorem dX5_remove_34 : decode cX5_remove 34 = .ok (.invokestatic 34, 3) := by decide +kernel
theorem dX5_remove_37 : decode cX5_remove 37 = .ok (.aload_n 0, 1) := by decide +kernel
theorem dX5_remove_38 : decode cX5_remove 38 = .ok (.dup, 1) := by decide +kernel
theorem dX5_remove_39 : decode cX5_remove 39 = .ok (.getfield 15, 3) := by decide +kernel
theorem dX5_remove_42 : decode cX5_remove 42 = .ok (.iconst 1, 1) := by decide +kernel
theorem dX5_remove_43 : decode cX5_remove 43 = .ok (.isub, 1) := by decide +kernel
theorem dX5_remove_44 : decode cX5_remove 44 = .ok (.putfield 15, 3) := by decide +kernel
theorem dX5_remove_47 : decode cX5_remove 47 = .ok (.return_, 1) := by decide +kernel
theorem dX5_isSecond_0 : decode cX5_isSecond 0 = .ok (.iconst 0, 1) := by decide +kernel
theorem dX5_isSecond_1 : decode cX5_isSecond 1 = .ok (.istore_n 2, 1) := by decide +kernel
theorem dX5_isSecond_2 : decode cX5_isSecond 2 = .ok (.iload_n 2, 1) := by decide +kernel
theorem dX5_isSecond_3 : decode cX5_isSecond 3 = .ok (.iload_n 1, 1) := by decide +kernel
theorem dX5_isSecond_4 : decode cX5_isSecond 4 = .ok (.if_icmp .ge 37, 3) := by decide +kernel
theorem dX5_isSecond_7 : decode cX5_isSecond 7 = .ok (.aload_n 0, 1) := by decide +kernel
theorem dX5_isSecond_8 : decode cX5_isSecond 8 = .ok (.iload_n 2, 1) := by decide +kernel
theorem dX5_isSecond_9 : decode cX5_isSecond 9 = .ok (.invokevirtual 48, 3) := by decide +kernel
theorem dX5_isSecond_12 : decode cX5_isSecond 12 = .ok (.aload_n 0, 1) := by decide +kernel
theorem dX5_isSecond_13 : decode cX5_isSecond 13 = .ok (.iload_n 1, 1) := by decide +kernel
theorem dX5_isSecond_14 : decode cX5_isSecond 14 = .ok (.invokevirtual 48, 3) := by decide +kernel
theorem dX5_isSecond_17 : decode cX5_isSecond 17 = .ok (.if_icmp .ne 18, 3) := by decide +kernel
theorem dX5_isSecond_20 : decode cX5_isSecond 20 = .ok (.aload_n 0, 1) := by decide +kernel
theorem dX5_isSecond_21 : decode cX5_isSecond 21 = .ok (.iload_n 2, 1) := by decide +kernel
theorem dX5_isSecond_22 : decode cX5_isSecond 22 = .ok (.invokevirtual 52, 3) := by decide +kernel
theorem dX5_isSecond_25 : decode cX5_isSecond 25 = .ok (.aload_n 0, 1) := by decide +kernel
theorem dX5_isSecond_26 : decode cX5_isSecond 26 = .ok (.iload_n 1, 1) := by decide +kernel
theorem dX5_isSecond_27 : decode cX5_isSecond 27 = .ok (.invokevirtual 52, 3) := by decide +kernel
theorem dX5_isSecond_30 : decode cX5_isSecond 30 = .ok (.if_icmp .ne 5, 3) := by decide +kernel
theorem dX5_isSecond_33 : decode cX5_isSecond 33 = .ok (.iconst 1, 1) := by decide +kernel
theorem dX5_isSecond_34 : decode cX5_isSecond 34 = .ok (.ireturn, 1) := by decide +kernel
theorem dX5_isSecond_35 : decode cX5_isSecond 35 = .ok (.iinc 2 1, 3) := by decide +kernel
theorem dX5_isSecond_38 : decode cX5_isSecond 38 = .ok (.goto (-36), 3) := by decide +kernel
theorem dX5_isSecond_41 : decode cX5_isSecond 41 = .ok (.iconst 0, 1) := by decide +kernel
theorem dX5_isSecond_42 : decode cX5_isSecond 42 = .ok (.ireturn, 1) := by decide +kernel
theorem dX6_init_0 : decode cX6_init 0 = .ok (.aload_n 0, 1) := by decide +kernel
theorem dX6_init_1 : decode cX6_init 1 = .ok (.invokespecial 3, 3) := by decide +kernel
theorem dX6_init_4 : decode cX6_init 4 = .ok (.aload_n 0, 1) := by decide +kernel
theorem dX6_init_5 : decode cX6_init 5 = .ok (.new 9, 3) := by decide +kernel
theorem dX6_init_8 : decode cX6_init 8 = .ok (.dup, 1) := by decide +kernel
theorem dX6_init_9 : decode cX6_init 9 = .ok (.invokespecial 11, 3) := by decide +kernel
theorem dX6_init_12 : decode cX6_init 12 = .ok (.putfield 12, 3) := by decide +kernel
theorem dX6_init_15 : decode cX6_init 15 = .ok (.aload_n 0, 1) := by decide +kernel
theorem dX6_init_16 : decode cX6_init 16 = .ok (.iconst 0, 1) := by decide +kernel
theorem dX6_init_17 : decode cX6_init 17 = .ok (.putfield 18, 3) := by decide +kernel
theorem dX6_init_20 : decode cX6_init 20 = .ok (.aload_n 0, 1) := by decide +kernel
theorem dX6_init_21 : decode cX6_init 21 = .ok (.iconst 0, 1) := by decide +kernel
theorem dX6_init_22 : decode cX6_init 22 = .ok (.putfield 22, 3) := by decide +kernel
theorem dX6_init_25 : decode cX6_init 25 = .ok (.aload_n 0, 1) := by decide +kernel
theorem dX6_init_26 : decode cX6_init 26 = .ok (.iconst 0, 1) := by decide +kernel
theorem dX6_init_27 : decode cX6_init 27 = .ok (.putfield 25, 3) := by decide +kernel
theorem dX6_init_30 : decode cX6_init 30 = .ok (.return_, 1) := by decide +kernel
theorem dX6_forget_0 : decode cX6_forget 0 = .ok (.aload_n 0, 1) := by decide +kernel
theorem dX6_forget_1 : decode cX6_forget 1 = .ok (.iconst 0, 1) := by decide +kernel
theorem dX6_forget_2 : decode cX6_forget 2 = .ok (.putfield 25, 3) := by decide +kernel
theorem dX6_forget_5 : decode cX6_forget 5 = .ok (.return_, 1) := by decide +kernel
theorem dX6_go_0 : decode cX6_go 0 = .ok (.aload_n 0, 1) := by decide +kernel
theorem dX6_go_1 : decode cX6_go 1 = .ok (.getfield 25, 3) := by decide +kernel
theorem dX6_go_4 : decode cX6_go 4 = .ok (.ifCond .eq 4, 3) := by decide +kernel
theorem dX6_go_7 : decode cX6_go 7 = .ok (.return_, 1) := by decide +kernel
theorem dX6_go_8 : decode cX6_go 8 = .ok (.aload_n 0, 1) := by decide +kernel
theorem dX6_go_9 : decode cX6_go 9 = .ok (.iconst 1, 1) := by decide +kernel
theorem dX6_go_10 : decode cX6_go 10 = .ok (.putfield 25, 3) := by decide +kernel
theorem dX6_go_13 : decode cX6_go 13 = .ok (.aload_n 0, 1) := by decide +kernel
theorem dX6_go_14 : decode cX6_go 14 = .ok (.getfield 12, 3) := by decide +kernel
theorem dX6_go_17 : decode cX6_go 17 = .ok (.aload_n 1, 1) := by decide +kernel
theorem dX6_go_18 : decode cX6_go 18 = .ok (.invokevirtual 29, 3) := by decide +kernel
theorem dX6_go_21 : decode cX6_go 21 = .ok (.aload_n 0, 1) := by decide +kernel
theorem dX6_go_22 : decode cX6_go 22 = .ok (.iconst 0, 1) := by decide +kernel
theorem dX6_go_23 : decode cX6_go 23 = .ok (.putfield 18, 3) := by decide +kernel
theorem dX6_go_26 : decode cX6_go 26 = .ok (.aload_n 0, 1) := by decide +kernel
theorem dX6_go_27 : decode cX6_go 27 = .ok (.iconst 0, 1) := by decide +kernel
theorem dX6_go_28 : decode cX6_go 28 = .ok (.putfield 22, 3) := by decide +kernel
theorem dX6_go_31 : decode cX6_go 31 = .ok (.iconst 0, 1) := by decide +kernel
theorem dX6_go_32 : decode cX6_go 32 = .ok (.istore_n 2, 1) := by decide +kernel
theorem dX6_go_33 : decode cX6_go 33 = .ok (.iload_n 2, 1) := by decide +kernel
theorem dX6_go_34 : decode cX6_go 34 = .ok (.bipush 24, 2) := by decide +kernel
theorem dX6_go_36 : decode cX6_go 36 = .ok (.if_icmp .ge 39, 3) := by decide +kernel
theorem dX6_go_39 : decode cX6_go 39 = .ok (.iconst 0, 1) := by decide +kernel
theorem dX6_go_40 : decode cX6_go 40 = .ok (.istore_n 3, 1) := by decide +kernel
theorem dX6_go_41 : decode cX6_go 41 = .ok (.iload_n 3, 1) := by decide +kernel
theorem dX6_go_42 : decode cX6_go 42 = .ok (.aload_n 1, 1) := by decide +kernel
theorem dX6_go_43 : decode cX6_go 43 = .ok (.getfield 33, 3) := by decide +kernel
theorem dX6_go_46 : decode cX6_go 46 = .ok (.iconst 1, 1) := by decide +kernel
theorem dX6_go_47 : decode cX6_go 47 = .ok (.iaload, 1) := by decide +kernel
theorem dX6_go_48 : decode cX6_go 48 = .ok (.if_icmp .ge 21, 3) := by decide +kernel
theorem dX6_go_51 : decode cX6_go 51 = .ok (.aload_n 0, 1) := by decide +kernel
theorem dX6_go_52 : decode cX6_go 52 = .ok (.aload_n 1, 1) := by decide +kernel
theorem dX6_go_53 : decode cX6_go 53 = .ok (.aload_n 1, 1) := by decide +kernel
theorem dX6_go_54 : decode cX6_go 54 = .ok (.iload_n 3, 1) := by decide +kernel
theorem dX6_go_55 : decode cX6_go 55 = .ok (.iload_n 2, 1) := by decide +kernel
theorem dX6_go_56 : decode cX6_go 56 = .ok (.invokevirtual 39, 3) := by decide +kernel
theorem dX6_go_59 : decode cX6_go 59 = .ok (.iload_n 2, 1) := by decide +kernel
theorem dX6_go_60 : decode cX6_go 60 = .ok (.invokevirtual 43, 3) := by decide +kernel
theorem dX6_go_63 : decode cX6_go 63 = .ok (.iinc 3 1, 3) := by decide +kernel
theorem dX6_go_66 : decode cX6_go 66 = .ok (.goto (-25), 3) := by decide +kernel
theorem dX6_go_69 : decode cX6_go 69 = .ok (.iinc 2 1, 3) := by decide +kernel
theorem dX6_go_72 : decode cX6_go 72 = .ok (.goto (-39), 3) := by decide +kernel
theorem dX6_go_75 : decode cX6_go 75 = .ok (.return_, 1) := by decide +kernel
theorem dX6_goOne_0 : decode cX6_goOne 0 = .ok (.aload_n 1, 1) := by decide +kernel
theorem dX6_goOne_1 : decode cX6_goOne 1 = .ok (.iload_n 2, 1) := by decide +kernel
theorem dX6_goOne_2 : decode cX6_goOne 2 = .ok (.iload_n 3, 1) := by decide +kernel
theorem dX6_goOne_3 : decode cX6_goOne 3 = .ok (.invokevirtual 47, 3) := by decide +kernel
theorem dX6_goOne_6 : decode cX6_goOne 6 = .ok (.istore 4, 2) := by decide +kernel
theorem dX6_goOne_8 : decode cX6_goOne 8 = .ok (.aload_n 1, 1) := by decide +kernel
theorem dX6_goOne_9 : decode cX6_goOne 9 = .ok (.iload_n 2, 1) := by decide +kernel
theorem dX6_goOne_10 : decode cX6_goOne 10 = .ok (.iload_n 3, 1) := by decide +kernel
theorem dX6_goOne_11 : decode cX6_goOne 11 = .ok (.invokevirtual 50, 3) := by decide +kernel
theorem dX6_goOne_14 : decode cX6_goOne 14 = .ok (.ifCond .ne 7, 3) := by decide +kernel
theorem dX6_goOne_17 : decode cX6_goOne 17 = .ok (.iconst 0, 1) := by decide +kernel
theorem dX6_goOne_18 : decode cX6_goOne 18 = .ok (.goto 10, 3) := by decide +kernel
theorem dX6_goOne_21 : decode cX6_goOne 21 = .ok (.aload_n 1, 1) := by decide +kernel
theorem dX6_goOne_22 : decode cX6_goOne 22 = .ok (.iload 4, 2) := by decide +kernel
theorem dX6_goOne_24 : decode cX6_goOne 24 = .ok (.iload_n 3, 1) := by decide +kernel
theorem dX6_goOne_25 : decode cX6_goOne 25 = .ok (.invokevirtual 53, 3) := by decide +kernel
theorem dX6_goOne_28 : decode cX6_goOne 28 = .ok (.istore 5, 2) := by decide +kernel
theorem dX6_goOne_30 : decode cX6_goOne 30 = .ok (.iconst 0, 1) := by decide +kernel
theorem dX6_goOne_31 : decode cX6_goOne 31 = .ok (.istore 6, 2) := by decide +kernel
theorem dX6_goOne_33 : decode cX6_goOne 33 = .ok (.iconst 0, 1) := by decide +kernel
theorem dX6_goOne_34 : decode cX6_goOne 34 = .ok (.istore 7, 2) := by decide +kernel
theorem dX6_goOne_36 : decode cX6_goOne 36 = .ok (.iconst 0, 1) := by decide +kernel
theorem dX6_goOne_37 : decode cX6_goOne 37 = .ok (.istore 8, 2) := by decide +kernel
theorem dX6_goOne_39 : decode cX6_goOne 39 = .ok (.iconst 0, 1) := by decide +kernel
theorem dX6_goOne_40 : decode cX6_goOne 40 = .ok (.istore 9, 2) := by decide +kernel
theorem dX6_goOne_42 : decode cX6_goOne 42 = .ok (.iconst 0, 1) := by decide +kernel
theorem dX6_goOne_43 : decode cX6_goOne 43 = .ok (.istore 10, 2) := by decide +kernel
theorem dX6_goOne_45 : decode cX6_goOne 45 = .ok (.iload 10, 2) := by decide +kernel
theorem dX6_goOne_47 : decode cX6_goOne 47 = .ok (.aload_n 1, 1) := by decide +kernel
theorem dX6_goOne_48 : decode cX6_goOne 48 = .ok (.getfield 33, 3) := by decide +kernel
theorem dX6_goOne_51 : decode cX6_goOne 51 = .ok (.iconst 2, 1) := by decide +kernel
theorem dX6_goOne_52 : decode cX6_goOne 52 = .ok (.iaload, 1) := by decide +kernel
theorem dX6_goOne_53 : decode cX6_goOne 53 = .ok (.if_icmp .ge 44, 3) := by decide +kernel
theorem dX6_goOne_56 : decode cX6_goOne 56 = .ok (.aload_n 0, 1) := by decide +kernel
theorem dX6_goOne_57 : decode cX6_goOne 57 = .ok (.aload_n 1, 1) := by decide +kernel
theorem dX6_goOne_58 : decode cX6_goOne 58 = .ok (.iload_n 2, 1) := by decide +kernel
theorem dX6_goOne_59 : decode cX6_goOne 59 = .ok (.iload 10, 2) := by decide +kernel
theorem dX6_goOne_61 : decode cX6_goOne 61 = .ok (.iload 5, 2) := by decide +kernel
theorem dX6_goOne_63 : decode cX6_goOne 63 = .ok (.iload_n 3, 1) := by decide +kernel
theorem dX6_goOne_64 : decode cX6_goOne 64 = .ok (.invokevirtual 56, 3) := by decide +kernel
theorem dX6_goOne_67 : decode cX6_goOne 67 = .ok (.istore 11, 2) := by decide +kernel
theorem dX6_goOne_69 : decode cX6_goOne 69 = .ok (.iload 11, 2) := by decide +kernel
theorem dX6_goOne_71 : decode cX6_goOne 71 = .ok (.iload 6, 2) := by decide +kernel
theorem dX6_goOne_73 : decode cX6_goOne 73 = .ok (.if_icmp .le 18, 3) := by decide +kernel
theorem dX6_goOne_76 : decode cX6_goOne 76 = .ok (.iload 11, 2) := by decide +kernel
theorem dX6_goOne_78 : decode cX6_goOne 78 = .ok (.istore 6, 2) := by decide +kernel
theorem dX6_goOne_80 : decode cX6_goOne 80 = .ok (.iload 5, 2) := by decide +kernel
theorem dX6_goOne_82 : decode cX6_goOne 82 = .ok (.istore 7, 2) := by decide +kernel
theorem dX6_goOne_84 : decode cX6_goOne 84 = .ok (.iload 10, 2) := by decide +kernel
theorem dX6_goOne_86 : decode cX6_goOne 86 = .ok (.istore 8, 2) := by decide +kernel
theorem dX6_goOne_88 : decode cX6_goOne 88 = .ok (.iconst 1, 1) := by decide +kernel
theorem dX6_goOne_89 : decode cX6_goOne 89 = .ok (.istore 9, 2) := by decide +kernel
theorem dX6_goOne_91 : decode cX6_goOne 91 = .ok (.iinc 10 1, 3) := by decide +kernel
theorem dX6_goOne_94 : decode cX6_goOne 94 = .ok (.goto (-49), 3) := by decide +kernel
theorem dX6_goOne_97 : decode cX6_goOne 97 = .ok (.iconst 0, 1) := by decide +kernel
theorem dX6_goOne_98 : decode cX6_goOne 98 = .ok (.istore 10, 2) := by decide +kernel
theorem dX6_goOne_100 : decode cX6_goOne 100 = .ok (.iload 10, 2) := by decide +kernel
theorem dX6_goOne_102 : decode cX6_goOne 102 = .ok (.aload_n 1, 1) := by decide +kernel
theorem dX6_goOne_103 : decode cX6_goOne 103 = .ok (.getfield 33, 3) := by decide +kernel
theorem dX6_goOne_106 : decode cX6_goOne 106 = .ok (.bipush 7, 2) := by decide +kernel
theorem dX6_goOne_108 : decode cX6_goOne 108 = .ok (.iaload, 1) := by decide +kernel
theorem dX6_goOne_109 : decode cX6_goOne 109 = .ok (.if_icmp .ge 70, 3) := by decide +kernel
theorem dX6_goOne_112 : decode cX6_goOne 112 = .ok (.aload_n 0, 1) := by decide +kernel
theorem dX6_goOne_113 : decode cX6_goOne 113 = .ok (.aload_n 1, 1) := by decide +kernel
theorem dX6_goOne_114 : decode cX6_goOne 114 = .ok (.iload_n 2, 1) := by decide +kernel
theorem dX6_goOne_115 : decode cX6_goOne 115 = .ok (.aload_n 1, 1) := by decide +kernel
theorem dX6_goOne_116 : decode cX6_goOne 116 = .ok (.getfield 60, 3) := by decide +kernel
theorem dX6_goOne_119 : decode cX6_goOne 119 = .ok (.iload 10, 2) := by decide +kernel
theorem dX6_goOne_121 : decode cX6_goOne 121 = .ok (.iaload, 1) := by decide +kernel
theorem dX6_goOne_122 : decode cX6_goOne 122 = .ok (.aload_n 1, 1) := by decide +kernel
theorem dX6_goOne_123 : decode cX6_goOne 123 = .ok (.iload 4, 2) := by decide +kernel
theorem dX6_goOne_125 : decode cX6_goOne 125 = .ok (.iload_n 3, 1) := by decide +kernel
theorem dX6_goOne_126 : decode cX6_goOne 126 = .ok (.invokevirtual 63, 3) := by decide +kernel
theorem dX6_goOne_129 : decode cX6_goOne 129 = .ok (.iload_n 3, 1) := by decide +kernel
theorem dX6_goOne_130 : decode cX6_goOne 130 = .ok (.invokevirtual 56, 3) := by decide +kernel
theorem dX6_goOne_133 : decode cX6_goOne 133 = .ok (.istore 11, 2) := by decide +kernel
theorem dX6_goOne_135 : decode cX6_goOne 135 = .ok (.iload 11, 2) := by decide +kernel
theorem dX6_goOne_137 : decode cX6_goOne 137 = .ok (.iload 6, 2) := by decide +kernel
theorem dX6_goOne_139 : decode cX6_goOne 139 = .ok (.if_icmp .le 34, 3) := by decide +kernel
theorem dX6_goOne_142 : decode cX6_goOne 142 = .ok (.iload 11, 2) := by decide +kernel
theorem dX6_goOne_144 : decode cX6_goOne 144 = .ok (.istore 6, 2) := by decide +kernel
theorem dX6_goOne_146 : decode cX6_goOne 146 = .ok (.aload_n 1, 1) := by decide +kernel
theorem dX6_goOne_147 : decode cX6_goOne 147 = .ok (.iload 4, 2) := by decide +kernel
theorem dX6_goOne_149 : decode cX6_goOne 149 = .ok (.iload_n 3, 1) := by decide +kernel
theorem dX6_goOne_150 : decode cX6_goOne 150 = .ok (.invokevirtual 63, 3) := by decide +kernel
theorem dX6_goOne_153 : decode cX6_goOne 153 = .ok (.istore 7, 2) := by decide +kernel
theorem dX6_goOne_155 : decode cX6_goOne 155 = .ok (.aload_n 1, 1) := by decide +kernel
theorem dX6_goOne_156 : decode cX6_goOne 156 = .ok (.getfield 60, 3) := by decide +kernel
theorem dX6_goOne_159 : decode cX6_goOne 159 = .ok (.iload 10, 2) := by decide +kernel
theorem dX6_goOne_161 : decode cX6_goOne 161 = .ok (.iaload, 1) := by decide +kernel
theorem dX6_goOne_162 : decode cX6_goOne 162 = .ok (.istore 8, 2) := by decide +kernel
theorem dX6_goOne_164 : decode cX6_goOne 164 = .ok (.aload_n 1, 1) := by decide +kernel
theorem dX6_goOne_165 : decode cX6_goOne 165 = .ok (.getfield 66, 3) := by decide +kernel
theorem dX6_goOne_168 : decode cX6_goOne 168 = .ok (.iload 10, 2) := by decide +kernel
theorem dX6_goOne_170 : decode cX6_goOne 170 = .ok (.iaload, 1) := by decide +kernel
theorem dX6_goOne_171 : decode cX6_goOne 171 = .ok (.istore 9, 2) := by decide +kernel
theorem dX6_goOne_173 : decode cX6_goOne 173 = .ok (.iinc 10 1, 3) := by decide +kernel
theorem dX6_goOne_176 : decode cX6_goOne 176 = .ok (.goto (-76), 3) := by decide +kernel
theorem dX6_goOne_179 : decode cX6_goOne 179 = .ok (.iload 6, 2) := by decide +kernel
theorem dX6_goOne_181 : decode cX6_goOne 181 = .ok (.ifCond .le 38, 3) := by decide +kernel
theorem dX6_goOne_184 : decode cX6_goOne 184 = .ok (.aload_n 0, 1) := by decide +kernel
theorem dX6_goOne_185 : decode cX6_goOne 185 = .ok (.getfield 12, 3) := by decide +kernel
theorem dX6_goOne_188 : decode cX6_goOne 188 = .ok (.iload 7, 2) := by decide +kernel
theorem dX6_goOne_190 : decode cX6_goOne 190 = .ok (.iload 8, 2) := by decide +kernel
theorem dX6_goOne_192 : decode cX6_goOne 192 = .ok (.iload_n 3, 1) := by decide +kernel
theorem dX6_goOne_193 : decode cX6_goOne 193 = .ok (.iconst 1, 1) := by decide +kernel
theorem dX6_goOne_194 : decode cX6_goOne 194 = .ok (.iadd, 1) := by decide +kernel
theorem dX6_goOne_195 : decode cX6_goOne 195 = .ok (.invokevirtual 69, 3) := by decide +kernel
theorem dX6_goOne_198 : decode cX6_goOne 198 = .ok (.aload_n 0, 1) := by decide +kernel
theorem dX6_goOne_199 : decode cX6_goOne 199 = .ok (.dup, 1) := by decide +kernel
theorem dX6_goOne_200 : decode cX6_goOne 200 = .ok (.getfield 18, 3) := by decide +kernel
theorem dX6_goOne_203 : decode cX6_goOne 203 = .ok (.iload 9, 2) := by decide +kernel
theorem dX6_goOne_205 : decode cX6_goOne 205 = .ok (.iadd, 1) := by decide +kernel
theorem dX6_goOne_206 : decode cX6_goOne 206 = .ok (.putfield 18, 3) := by decide +kernel
theorem dX6_goOne_209 : decode cX6_goOne 209 = .ok (.aload_n 0, 1) := by decide +kernel
theorem dX6_goOne_210 : decode cX6_goOne 210 = .ok (.dup, 1) := by decide +kernel
theorem dX6_goOne_211 : decode cX6_goOne 211 = .ok (.getfield 22, 3) := by decide +kernel
theorem dX6_goOne_214 : decode cX6_goOne 214 = .ok (.iconst 1, 1) := by decide +kernel
theorem dX6_goOne_215 : decode cX6_goOne 215 = .ok (.iadd, 1) := by decide +kernel
theorem dX6_goOne_216 : decode cX6_goOne 216 = .ok (.putfield 22, 3) := by decide +kernel
theorem dX6_goOne_219 : decode cX6_goOne 219 = .ok (.return_, 1) := by decide +kernel
theorem dX6_gain_0 : decode cX6_gain 0 = .ok (.aload_n 0, 1) := by decide +kernel
theorem dX6_gain_1 : decode cX6_gain 1 = .ok (.getfield 12, 3) := by decide +kernel
theorem dX6_gain_4 : decode cX6_gain 4 = .ok (.iload_n 2, 1) := by decide +kernel
theorem dX6_gain_5 : decode cX6_gain 5 = .ok (.iload_n 3, 1) := by decide +kernel
theorem dX6_gain_6 : decode cX6_gain 6 = .ok (.iload 5, 2) := by decide +kernel
theorem dX6_gain_8 : decode cX6_gain 8 = .ok (.invokevirtual 73, 3) := by decide +kernel
theorem dX6_gain_11 : decode cX6_gain 11 = .ok (.ifCond .ne 5, 3) := by decide +kernel
theorem dX6_gain_14 : decode cX6_gain 14 = .ok (.iconst 0, 1) := by decide +kernel
theorem dX6_gain_15 : decode cX6_gain 15 = .ok (.ireturn, 1) := by decide +kernel
theorem dX6_gain_16 : decode cX6_gain 16 = .ok (.iconst 0, 1) := by decide +kernel
theorem dX6_gain_17 : decode cX6_gain 17 = .ok (.istore 6, 2) := by decide +kernel
theorem dX6_gain_19 : decode cX6_gain 19 = .ok (.iconst 0, 1) := by decide +kernel
theorem dX6_gain_20 : decode cX6_gain 20 = .ok (.istore 7, 2) := by decide +kernel
theorem dX6_gain_22 : decode cX6_gain 22 = .ok (.iload 7, 2) := by decide +kernel
theorem dX6_gain_24 : decode cX6_gain 24 = .ok (.aload_n 1, 1) := by decide +kernel
theorem dX6_gain_25 : decode cX6_gain 25 = .ok (.getfield 33, 3) := by decide +kernel
theorem dX6_gain_28 : decode cX6_gain 28 = .ok (.bipush 6, 2) := by decide +kernel
theorem dX6_gain_30 : decode cX6_gain 30 = .ok (.iaload, 1) := by decide +kernel
theorem dX6_gain_31 : decode cX6_gain 31 = .ok (.if_icmp .ge 91, 3) := by decide +kernel
theorem dX6_gain_34 : decode cX6_gain 34 = .ok (.aload_n 1, 1) := by decide +kernel
theorem dX6_gain_35 : decode cX6_gain 35 = .ok (.getfield 77, 3) := by decide +kernel
theorem dX6_gain_38 : decode cX6_gain 38 = .ok (.iload 7, 2) := by decide +kernel
theorem dX6_gain_40 : decode cX6_gain 40 = .ok (.iaload, 1) := by decide +kernel
theorem dX6_gain_41 : decode cX6_gain 41 = .ok (.istore 8, 2) := by decide +kernel
theorem dX6_gain_43 : decode cX6_gain 43 = .ok (.aload_n 1, 1) := by decide +kernel
theorem dX6_gain_44 : decode cX6_gain 44 = .ok (.getfield 80, 3) := by decide +kernel
theorem dX6_gain_47 : decode cX6_gain 47 = .ok (.iload 7, 2) := by decide +kernel
theorem dX6_gain_49 : decode cX6_gain 49 = .ok (.iaload, 1) := by decide +kernel
theorem dX6_gain_50 : decode cX6_gain 50 = .ok (.iload_n 3, 1) := by decide +kernel
theorem dX6_gain_51 : decode cX6_gain 51 = .ok (.if_icmp .ne 19, 3) := by decide +kernel
theorem dX6_gain_54 : decode cX6_gain 54 = .ok (.aload_n 1, 1) := by decide +kernel
theorem dX6_gain_55 : decode cX6_gain 55 = .ok (.getfield 83, 3) := by decide +kernel
theorem dX6_gain_58 : decode cX6_gain 58 = .ok (.iload 7, 2) := by decide +kernel
theorem dX6_gain_60 : decode cX6_gain 60 = .ok (.iaload, 1) := by decide +kernel
theorem dX6_gain_61 : decode cX6_gain 61 = .ok (.iload 5, 2) := by decide +kernel
theorem dX6_gain_63 : decode cX6_gain 63 = .ok (.if_icmp .le 7, 3) := by decide +kernel
theorem dX6_gain_66 : decode cX6_gain 66 = .ok (.iconst 1, 1) := by decide +kernel
theorem dX6_gain_67 : decode cX6_gain 67 = .ok (.goto 4, 3) := by decide +kernel
theorem dX6_gain_70 : decode cX6_gain 70 = .ok (.iconst 0, 1) := by decide +kernel
theorem dX6_gain_71 : decode cX6_gain 71 = .ok (.istore 9, 2) := by decide +kernel
theorem dX6_gain_73 : decode cX6_gain 73 = .ok (.iload 9, 2) := by decide +kernel
theorem dX6_gain_75 : decode cX6_gain 75 = .ok (.ifCond .eq 41, 3) := by decide +kernel
theorem dX6_gain_78 : decode cX6_gain 78 = .ok (.iload 4, 2) := by decide +kernel
theorem dX6_gain_80 : decode cX6_gain 80 = .ok (.iload 8, 2) := by decide +kernel
theorem dX6_gain_82 : decode cX6_gain 82 = .ok (.invokestatic 86, 3) := by decide +kernel
theorem dX6_gain_85 : decode cX6_gain 85 = .ok (.ifCond .eq 31, 3) := by decide +kernel
theorem dX6_gain_88 : decode cX6_gain 88 = .ok (.aload_n 0, 1) := by decide +kernel
theorem dX6_gain_89 : decode cX6_gain 89 = .ok (.getfield 12, 3) := by decide +kernel
theorem dX6_gain_92 : decode cX6_gain 92 = .ok (.iload 8, 2) := by decide +kernel
theorem dX6_gain_94 : decode cX6_gain 94 = .ok (.iload_n 3, 1) := by decide +kernel
theorem dX6_gain_95 : decode cX6_gain 95 = .ok (.iload 5, 2) := by decide +kernel
theorem dX6_gain_97 : decode cX6_gain 97 = .ok (.iconst 1, 1) := by decide +kernel
theorem dX6_gain_98 : decode cX6_gain 98 = .ok (.iadd, 1) := by decide +kernel
theorem dX6_gain_99 : decode cX6_gain 99 = .ok (.invokevirtual 73, 3) := by decide +kernel
theorem dX6_gain_102 : decode cX6_gain 102 = .ok (.ifCond .ne 14, 3) := by decide +kernel
theorem dX6_gain_105 : decode cX6_gain 105 = .ok (.iload 6, 2) := by decide +kernel
theorem dX6_gain_107 : decode cX6_gain 107 = .ok (.aload_n 1, 1) := by decide +kernel
theorem dX6_gain_108 : decode cX6_gain 108 = .ok (.getfield 90, 3) := by decide +kernel
theorem dX6_gain_111 : decode cX6_gain 111 = .ok (.iload_n 3, 1) := by decide +kernel
theorem dX6_gain_112 : decode cX6_gain 112 = .ok (.iaload, 1) := by decide +kernel
theorem dX6_gain_113 : decode cX6_gain 113 = .ok (.iadd, 1) := by decide +kernel
theorem dX6_gain_114 : decode cX6_gain 114 = .ok (.istore 6, 2) := by decide +kernel
theorem dX6_gain_116 : decode cX6_gain 116 = .ok (.iinc 7 1, 3) := by decide +kernel
theorem dX6_gain_119 : decode cX6_gain 119 = .ok (.goto (-97), 3) := by decide +kernel
theorem dX6_gain_122 : decode cX6_gain 122 = .ok (.iload 6, 2) := by decide +kernel
theorem dX6_gain_124 : decode cX6_gain 124 = .ok (.ireturn, 1) := by decide +kernel
theorem dX7_init_0 : decode cX7_init 0 = .ok (.aload_n 0, 1) := by decide +kernel
theorem dX7_init_1 : decode cX7_init 1 = .ok (.invokespecial 3, 3) := by decide +kernel
theorem dX7_init_4 : decode cX7_init 4 = .ok (.aload_n 0, 1) := by decide +kernel
theorem dX7_init_5 : decode cX7_init 5 = .ok (.bipush 10, 2) := by decide +kernel
theorem dX7_init_7 : decode cX7_init 7 = .ok (.newarray .int, 2) := by decide +kernel
theorem dX7_init_9 : decode cX7_init 9 = .ok (.putfield 9, 3) := by decide +kernel
theorem dX7_init_12 : decode cX7_init 12 = .ok (.return_, 1) := by decide +kernel
theorem dX7_go_0 : decode cX7_go 0 = .ok (.aload_n 0, 1) := by decide +kernel
theorem dX7_go_1 : decode cX7_go 1 = .ok (.getfield 9, 3) := by decide +kernel
theorem dX7_go_4 : decode cX7_go 4 = .ok (.bipush 99, 2) := by decide +kernel
theorem dX7_go_6 : decode cX7_go 6 = .ok (.invokestatic 15, 3) := by decide +kernel
theorem dX7_go_9 : decode cX7_go 9 = .ok (.iconst 0, 1) := by decide +kernel
theorem dX7_go_10 : decode cX7_go 10 = .ok (.istore 7, 2) := by decide +kernel
theorem dX7_go_12 : decode cX7_go 12 = .ok (.iload_n 3, 1) := by decide +kernel
theorem dX7_go_13 : decode cX7_go 13 = .ok (.istore 8, 2) := by decide +kernel
theorem dX7_go_15 : decode cX7_go 15 = .ok (.iconst 0, 1) := by decide +kernel
theorem dX7_go_16 : decode cX7_go 16 = .ok (.istore 9, 2) := by decide +kernel
theorem dX7_go_18 : decode cX7_go 18 = .ok (.iload 6, 2) := by decide +kernel
theorem dX7_go_20 : decode cX7_go 20 = .ok (.ifCond .ne 15, 3) := by decide +kernel
theorem dX7_go_23 : decode cX7_go 23 = .ok (.aload_n 1, 1) := by decide +kernel
theorem dX7_go_24 : decode cX7_go 24 = .ok (.iload_n 2, 1) := by decide +kernel
theorem dX7_go_25 : decode cX7_go 25 = .ok (.invokestatic 21, 3) := by decide +kernel
theorem dX7_go_28 : decode cX7_go 28 = .ok (.ifCond .eq 7, 3) := by decide +kernel
theorem dX7_go_31 : decode cX7_go 31 = .ok (.iconst 1, 1) := by decide +kernel
theorem dX7_go_32 : decode cX7_go 32 = .ok (.goto 4, 3) := by decide +kernel
theorem dX7_go_35 : decode cX7_go 35 = .ok (.iconst 0, 1) := by decide +kernel
theorem dX7_go_36 : decode cX7_go 36 = .ok (.istore 10, 2) := by decide +kernel
theorem dX7_go_38 : decode cX7_go 38 = .ok (.iload 4, 2) := by decide +kernel
theorem dX7_go_40 : decode cX7_go 40 = .ok (.istore 11, 2) := by decide +kernel
theorem dX7_go_42 : decode cX7_go 42 = .ok (.iload 11, 2) := by decide +kernel
theorem dX7_go_44 : decode cX7_go 44 = .ok (.bipush 24, 2) := by decide +kernel
theorem dX7_go_46 : decode cX7_go 46 = .ok (.if_icmp .gt 81, 3) := by decide +kernel
theorem dX7_go_49 : decode cX7_go 49 = .ok (.aload_n 0, 1) := by decide +kernel
theorem dX7_go_50 : decode cX7_go 50 = .ok (.iload 8, 2) := by decide +kernel
theorem dX7_go_52 : decode cX7_go 52 = .ok (.iload 7, 2) := by decide +kernel
theorem dX7_go_54 : decode cX7_go 54 = .ok (.iconst (-1), 1) := by decide +kernel
theorem dX7_go_55 : decode cX7_go 55 = .ok (.ixor, 1) := by decide +kernel
theorem dX7_go_56 : decode cX7_go 56 = .ok (.iand, 1) := by decide +kernel
theorem dX7_go_57 : decode cX7_go 57 = .ok (.iload 11, 2) := by decide +kernel
theorem dX7_go_59 : decode cX7_go 59 = .ok (.invokevirtual 25, 3) := by decide +kernel
theorem dX7_go_62 : decode cX7_go 62 = .ok (.iload 7, 2) := by decide +kernel
theorem dX7_go_64 : decode cX7_go 64 = .ok (.iload 8, 2) := by decide +kernel
theorem dX7_go_66 : decode cX7_go 66 = .ok (.ior, 1) := by decide +kernel
theorem dX7_go_67 : decode cX7_go 67 = .ok (.istore 7, 2) := by decide +kernel
theorem dX7_go_69 : decode cX7_go 69 = .ok (.iload 11, 2) := by decide +kernel
theorem dX7_go_71 : decode cX7_go 71 = .ok (.bipush 24, 2) := by decide +kernel
theorem dX7_go_73 : decode cX7_go 73 = .ok (.if_icmp .ge 48, 3) := by decide +kernel
theorem dX7_go_76 : decode cX7_go 76 = .ok (.aload_n 1, 1) := by decide +kernel
theorem dX7_go_77 : decode cX7_go 77 = .ok (.iload 9, 2) := by decide +kernel
theorem dX7_go_79 : decode cX7_go 79 = .ok (.iload 11, 2) := by decide +kernel
theorem dX7_go_81 : decode cX7_go 81 = .ok (.invokevirtual 29, 3) := by decide +kernel
theorem dX7_go_84 : decode cX7_go 84 = .ok (.aload_n 1, 1) := by decide +kernel
theorem dX7_go_85 : decode cX7_go 85 = .ok (.iload 7, 2) := by decide +kernel
theorem dX7_go_87 : decode cX7_go 87 = .ok (.iload 11, 2) := by decide +kernel
theorem dX7_go_89 : decode cX7_go 89 = .ok (.iload 5, 2) := by decide +kernel
theorem dX7_go_91 : decode cX7_go 91 = .ok (.iload 10, 2) := by decide +kernel
theorem dX7_go_93 : decode cX7_go 93 = .ok (.invokestatic 35, 3) := by decide +kernel
theorem dX7_go_96 : decode cX7_go 96 = .ok (.ior, 1) := by decide +kernel
theorem dX7_go_97 : decode cX7_go 97 = .ok (.istore 8, 2) := by decide +kernel
theorem dX7_go_99 : decode cX7_go 99 = .ok (.iload 9, 2) := by decide +kernel
theorem dX7_go_101 : decode cX7_go 101 = .ok (.iload 6, 2) := by decide +kernel
theorem dX7_go_103 : decode cX7_go 103 = .ok (.ifCond .eq 7, 3) := by decide +kernel
theorem dX7_go_106 : decode cX7_go 106 = .ok (.iconst 0, 1) := by decide +kernel
theorem dX7_go_107 : decode cX7_go 107 = .ok (.goto 11, 3) := by decide +kernel
theorem dX7_go_110 : decode cX7_go 110 = .ok (.aload_n 1, 1) := by decide +kernel
theorem dX7_go_111 : decode cX7_go 111 = .ok (.iload 7, 2) := by decide +kernel
theorem dX7_go_113 : decode cX7_go 113 = .ok (.iload 11, 2) := by decide +kernel
theorem dX7_go_115 : decode cX7_go 115 = .ok (.invokestatic 39, 3) := by decide +kernel
theorem dX7_go_118 : decode cX7_go 118 = .ok (.ior, 1) := by decide +kernel
theorem dX7_go_119 : decode cX7_go 119 = .ok (.istore 9, 2) := by decide +kernel
theorem dX7_go_121 : decode cX7_go 121 = .ok (.iinc 11 1, 3) := by decide +kernel
theorem dX7_go_124 : decode cX7_go 124 = .ok (.goto (-82), 3) := by decide +kernel
theorem dX7_go_127 : decode cX7_go 127 = .ok (.return_, 1) := by decide +kernel
theorem dX7_note_0 : decode cX7_note 0 = .ok (.iconst 0, 1) := by decide +kernel
theorem dX7_note_1 : decode cX7_note 1 = .ok (.istore_n 3, 1) := by decide +kernel
theorem dX7_note_2 : decode cX7_note 2 = .ok (.iload_n 3, 1) := by decide +kernel
theorem dX7_note_3 : decode cX7_note 3 = .ok (.bipush 10, 2) := by decide +kernel
theorem dX7_note_5 : decode cX7_note 5 = .ok (.if_icmp .ge 24, 3) := by decide +kernel
theorem dX7_note_8 : decode cX7_note 8 = .ok (.iload_n 1, 1) := by decide +kernel
theorem dX7_note_9 : decode cX7_note 9 = .ok (.iload_n 3, 1) := by decide +kernel
theorem dX7_note_10 : decode cX7_note 10 = .ok (.invokestatic 43, 3) := by decide +kernel
theorem dX7_note_13 : decode cX7_note 13 = .ok (.ifCond .eq 10, 3) := by decide +kernel
theorem dX7_note_16 : decode cX7_note 16 = .ok (.aload_n 0, 1) := by decide +kernel
theorem dX7_note_17 : decode cX7_note 17 = .ok (.getfield 9, 3) := by decide +kernel
theorem dX7_note_20 : decode cX7_note 20 = .ok (.iload_n 3, 1) := by decide +kernel
theorem dX7_note_21 : decode cX7_note 21 = .ok (.iload_n 2, 1) := by decide +kernel
theorem dX7_note_22 : decode cX7_note 22 = .ok (.iastore, 1) := by decide +kernel
theorem dX7_note_23 : decode cX7_note 23 = .ok (.iinc 3 1, 3) := by decide +kernel
theorem dX7_note_26 : decode cX7_note 26 = .ok (.goto (-24), 3) := by decide +kernel
theorem dX7_note_29 : decode cX7_note 29 = .ok (.return_, 1) := by decide +kernel
theorem dX7_isShown_0 : decode cX7_isShown 0 = .ok (.iconst 0, 1) := by decide +kernel
theorem dX7_isShown_1 : decode cX7_isShown 1 = .ok (.istore_n 2, 1) := by decide +kernel
theorem dX7_isShown_2 : decode cX7_isShown 2 = .ok (.iload_n 2, 1) := by decide +kernel
theorem dX7_isShown_3 : decode cX7_isShown 3 = .ok (.aload_n 0, 1) := by decide +kernel
theorem dX7_isShown_4 : decode cX7_isShown 4 = .ok (.getfield 47, 3) := by decide +kernel
theorem dX7_isShown_7 : decode cX7_isShown 7 = .ok (.bipush 7, 2) := by decide +kernel
theorem dX7_isShown_9 : decode cX7_isShown 9 = .ok (.iaload, 1) := by decide +kernel
theorem dX7_isShown_10 : decode cX7_isShown 10 = .ok (.if_icmp .ge 21, 3) := by decide +kernel
theorem dX7_isShown_13 : decode cX7_isShown 13 = .ok (.aload_n 0, 1) := by decide +kernel
theorem dX7_isShown_14 : decode cX7_isShown 14 = .ok (.getfield 50, 3) := by decide +kernel
theorem dX7_isShown_17 : decode cX7_isShown 17 = .ok (.iload_n 2, 1) := by decide +kernel
theorem dX7_isShown_18 : decode cX7_isShown 18 = .ok (.iaload, 1) := by decide +kernel
theorem dX7_isShown_19 : decode cX7_isShown 19 = .ok (.iload_n 1, 1) := by decide +kernel
theorem dX7_isShown_20 : decode cX7_isShown 20 = .ok (.if_icmp .ne 5, 3) := by decide +kernel
theorem dX7_isShown_23 : decode cX7_isShown 23 = .ok (.iconst 1, 1) := by decide +kernel
theorem dX7_isShown_24 : decode cX7_isShown 24 = .ok (.ireturn, 1) := by decide +kernel
theorem dX7_isShown_25 : decode cX7_isShown 25 = .ok (.iinc 2 1, 3) := by decide +kernel
theorem dX7_isShown_28 : decode cX7_isShown 28 = .ok (.goto (-26), 3) := by decide +kernel
theorem dX7_isShown_31 : decode cX7_isShown 31 = .ok (.iconst 0, 1) := by decide +kernel
theorem dX7_isShown_32 : decode cX7_isShown 32 = .ok (.ireturn, 1) := by decide +kernel
theorem dX7_toldOrShown_0 : decode cX7_toldOrShown 0 = .ok (.iconst 0, 1) := by decide +kernel
theorem dX7_toldOrShown_1 : decode cX7_toldOrShown 1 = .ok (.istore 5, 2) := by decide +kernel
theorem dX7_toldOrShown_3 : decode cX7_toldOrShown 3 = .ok (.iconst 0, 1) := by decide +kernel
theorem dX7_toldOrShown_4 : decode cX7_toldOrShown 4 = .ok (.istore 6, 2) := by decide +kernel
theorem dX7_toldOrShown_6 : decode cX7_toldOrShown 6 = .ok (.iload 6, 2) := by decide +kernel
theorem dX7_toldOrShown_8 : decode cX7_toldOrShown 8 = .ok (.aload_n 0, 1) := by decide +kernel
theorem dX7_toldOrShown_9 : decode cX7_toldOrShown 9 = .ok (.getfield 47, 3) := by decide +kernel
theorem dX7_toldOrShown_12 : decode cX7_toldOrShown 12 = .ok (.iconst 1, 1) := by decide +kernel
theorem dX7_toldOrShown_13 : decode cX7_toldOrShown 13 = .ok (.iaload, 1) := by decide +kernel
theorem dX7_toldOrShown_14 : decode cX7_toldOrShown 14 = .ok (.if_icmp .ge 75, 3) := by decide +kernel
theorem dX7_toldOrShown_17 : decode cX7_toldOrShown 17 = .ok (.iload_n 1, 1) := by decide +kernel
theorem dX7_toldOrShown_18 : decode cX7_toldOrShown 18 = .ok (.iload 6, 2) := by decide +kernel
theorem dX7_toldOrShown_20 : decode cX7_toldOrShown 20 = .ok (.invokestatic 43, 3) := by decide +kernel
theorem dX7_toldOrShown_23 : decode cX7_toldOrShown 23 = .ok (.ifCond .eq 60, 3) := by decide +kernel
theorem dX7_toldOrShown_26 : decode cX7_toldOrShown 26 = .ok (.aload_n 0, 1) := by decide +kernel
theorem dX7_toldOrShown_27 : decode cX7_toldOrShown 27 = .ok (.iload 6, 2) := by decide +kernel
theorem dX7_toldOrShown_29 : decode cX7_toldOrShown 29 = .ok (.iload_n 2, 1) := by decide +kernel
theorem dX7_toldOrShown_30 : decode cX7_toldOrShown 30 = .ok (.invokevirtual 53, 3) := by decide +kernel
theorem dX7_toldOrShown_33 : decode cX7_toldOrShown 33 = .ok (.istore 7, 2) := by decide +kernel
theorem dX7_toldOrShown_35 : decode cX7_toldOrShown 35 = .ok (.iload 5, 2) := by decide +kernel
theorem dX7_toldOrShown_37 : decode cX7_toldOrShown 37 = .ok (.aload_n 0, 1) := by decide +kernel
theorem dX7_toldOrShown_38 : decode cX7_toldOrShown 38 = .ok (.iload 6, 2) := by decide +kernel
theorem dX7_toldOrShown_40 : decode cX7_toldOrShown 40 = .ok (.iload_n 2, 1) := by decide +kernel
theorem dX7_toldOrShown_41 : decode cX7_toldOrShown 41 = .ok (.iload_n 3, 1) := by decide +kernel
theorem dX7_toldOrShown_42 : decode cX7_toldOrShown 42 = .ok (.invokestatic 56, 3) := by decide +kernel
theorem dX7_toldOrShown_45 : decode cX7_toldOrShown 45 = .ok (.ifCond .eq 13, 3) := by decide +kernel
theorem dX7_toldOrShown_48 : decode cX7_toldOrShown 48 = .ok (.aload_n 0, 1) := by decide +kernel
theorem dX7_toldOrShown_49 : decode cX7_toldOrShown 49 = .ok (.iload 7, 2) := by decide +kernel
theorem dX7_toldOrShown_51 : decode cX7_toldOrShown 51 = .ok (.iload_n 2, 1) := by decide +kernel
theorem dX7_toldOrShown_52 : decode cX7_toldOrShown 52 = .ok (.invokevirtual 60, 3) := by decide +kernel
theorem dX7_toldOrShown_55 : decode cX7_toldOrShown 55 = .ok (.goto 4, 3) := by decide +kernel
theorem dX7_toldOrShown_58 : decode cX7_toldOrShown 58 = .ok (.iconst 0, 1) := by decide +kernel
theorem dX7_toldOrShown_59 : decode cX7_toldOrShown 59 = .ok (.ior, 1) := by decide +kernel
theorem dX7_toldOrShown_60 : decode cX7_toldOrShown 60 = .ok (.istore 5, 2) := by decide +kernel
theorem dX7_toldOrShown_62 : decode cX7_toldOrShown 62 = .ok (.iload 5, 2) := by decide +kernel
theorem dX7_toldOrShown_64 : decode cX7_toldOrShown 64 = .ok (.iload 4, 2) := by decide +kernel
theorem dX7_toldOrShown_66 : decode cX7_toldOrShown 66 = .ok (.ifCond .eq 13, 3) := by decide +kernel
theorem dX7_toldOrShown_69 : decode cX7_toldOrShown 69 = .ok (.aload_n 0, 1) := by decide +kernel
theorem dX7_toldOrShown_70 : decode cX7_toldOrShown 70 = .ok (.iload 7, 2) := by decide +kernel
theorem dX7_toldOrShown_72 : decode cX7_toldOrShown 72 = .ok (.iload_n 2, 1) := by decide +kernel
theorem dX7_toldOrShown_73 : decode cX7_toldOrShown 73 = .ok (.invokevirtual 63, 3) := by decide +kernel
theorem dX7_toldOrShown_76 : decode cX7_toldOrShown 76 = .ok (.goto 4, 3) := by decide +kernel
theorem dX7_toldOrShown_79 : decode cX7_toldOrShown 79 = .ok (.iconst 0, 1) := by decide +kernel
theorem dX7_toldOrShown_80 : decode cX7_toldOrShown 80 = .ok (.ior, 1) := by decide +kernel
theorem dX7_toldOrShown_81 : decode cX7_toldOrShown 81 = .ok (.istore 5, 2) := by decide +kernel
theorem dX7_toldOrShown_83 : decode cX7_toldOrShown 83 = .ok (.iinc 6 1, 3) := by decide +kernel
theorem dX7_toldOrShown_86 : decode cX7_toldOrShown 86 = .ok (.goto (-80), 3) := by decide +kernel
theorem dX7_toldOrShown_89 : decode cX7_toldOrShown 89 = .ok (.iload 5, 2) := by decide +kernel
theorem dX7_toldOrShown_91 : decode cX7_toldOrShown 91 = .ok (.ireturn, 1) := by decide +kernel
theorem dX7_placesOf_0 : decode cX7_placesOf 0 = .ok (.iconst 0, 1) := by decide +kernel
theorem dX7_placesOf_1 : decode cX7_placesOf 1 = .ok (.istore_n 3, 1) := by decide +kernel
theorem dX7_placesOf_2 : decode cX7_placesOf 2 = .ok (.iconst 0, 1) := by decide +kernel
theorem dX7_placesOf_3 : decode cX7_placesOf 3 = .ok (.istore 4, 2) := by decide +kernel
theorem dX7_placesOf_5 : decode cX7_placesOf 5 = .ok (.iload 4, 2) := by decide +kernel
theorem dX7_placesOf_7 : decode cX7_placesOf 7 = .ok (.aload_n 0, 1) := by decide +kernel
theorem dX7_placesOf_8 : decode cX7_placesOf 8 = .ok (.getfield 47, 3) := by decide +kernel
theorem dX7_placesOf_11 : decode cX7_placesOf 11 = .ok (.iconst 1, 1) := by decide +kernel
theorem dX7_placesOf_12 : decode cX7_placesOf 12 = .ok (.iaload, 1) := by decide +kernel
theorem dX7_placesOf_13 : decode cX7_placesOf 13 = .ok (.if_icmp .ge 39, 3) := by decide +kernel
theorem dX7_placesOf_16 : decode cX7_placesOf 16 = .ok (.aload_n 0, 1) := by decide +kernel
theorem dX7_placesOf_17 : decode cX7_placesOf 17 = .ok (.iload 4, 2) := by decide +kernel
theorem dX7_placesOf_19 : decode cX7_placesOf 19 = .ok (.iload_n 2, 1) := by decide +kernel
theorem dX7_placesOf_20 : decode cX7_placesOf 20 = .ok (.invokevirtual 53, 3) := by decide +kernel
theorem dX7_placesOf_23 : decode cX7_placesOf 23 = .ok (.istore 5, 2) := by decide +kernel
theorem dX7_placesOf_25 : decode cX7_placesOf 25 = .ok (.iload_n 1, 1) := by decide +kernel
theorem dX7_placesOf_26 : decode cX7_placesOf 26 = .ok (.iload 4, 2) := by decide +kernel
theorem dX7_placesOf_28 : decode cX7_placesOf 28 = .ok (.invokestatic 43, 3) := by decide +kernel
theorem dX7_placesOf_31 : decode cX7_placesOf 31 = .ok (.ifCond .eq 15, 3) := by decide +kernel
theorem dX7_placesOf_34 : decode cX7_placesOf 34 = .ok (.iload 5, 2) := by decide +kernel
theorem dX7_placesOf_36 : decode cX7_placesOf 36 = .ok (.ifCond .lt 10, 3) := by decide +kernel
theorem dX7_placesOf_39 : decode cX7_placesOf 39 = .ok (.iload_n 3, 1) := by decide +kernel
theorem dX7_placesOf_40 : decode cX7_placesOf 40 = .ok (.iconst 1, 1) := by decide +kernel
theorem dX7_placesOf_41 : decode cX7_placesOf 41 = .ok (.iload 5, 2) := by decide +kernel
theorem dX7_placesOf_43 : decode cX7_placesOf 43 = .ok (.ishl, 1) := by decide +kernel
theorem dX7_placesOf_44 : decode cX7_placesOf 44 = .ok (.ior, 1) := by decide +kernel
theorem dX7_placesOf_45 : decode cX7_placesOf 45 = .ok (.istore_n 3, 1) := by decide +kernel
theorem dX7_placesOf_46 : decode cX7_placesOf 46 = .ok (.iinc 4 1, 3) := by decide +kernel
theorem dX7_placesOf_49 : decode cX7_placesOf 49 = .ok (.goto (-44), 3) := by decide +kernel
theorem dX7_placesOf_52 : decode cX7_placesOf 52 = .ok (.iload_n 3, 1) := by decide +kernel
theorem dX7_placesOf_53 : decode cX7_placesOf 53 = .ok (.ireturn, 1) := by decide +kernel
theorem dX7_speaks_0 : decode cX7_speaks 0 = .ok (.iload_n 3, 1) := by decide +kernel
theorem dX7_speaks_1 : decode cX7_speaks 1 = .ok (.ifCond .ne 18, 3) := by decide +kernel
theorem dX7_speaks_4 : decode cX7_speaks 4 = .ok (.aload_n 0, 1) := by decide +kernel
theorem dX7_speaks_5 : decode cX7_speaks 5 = .ok (.iload_n 1, 1) := by decide +kernel
theorem dX7_speaks_6 : decode cX7_speaks 6 = .ok (.iload_n 2, 1) := by decide +kernel
theorem dX7_speaks_7 : decode cX7_speaks 7 = .ok (.invokevirtual 66, 3) := by decide +kernel
theorem dX7_speaks_10 : decode cX7_speaks 10 = .ok (.ifCond .eq 7, 3) := by decide +kernel
theorem dX7_speaks_13 : decode cX7_speaks 13 = .ok (.iconst 1, 1) := by decide +kernel
theorem dX7_speaks_14 : decode cX7_speaks 14 = .ok (.goto 4, 3) := by decide +kernel
theorem dX7_speaks_17 : decode cX7_speaks 17 = .ok (.iconst 0, 1) := by decide +kernel
theorem dX7_speaks_18 : decode cX7_speaks 18 = .ok (.ireturn, 1) := by decide +kernel
theorem dX7_speaks_19 : decode cX7_speaks 19 = .ok (.aload_n 0, 1) := by decide +kernel
theorem dX7_speaks_20 : decode cX7_speaks 20 = .ok (.aload_n 0, 1) := by decide +kernel
theorem dX7_speaks_21 : decode cX7_speaks 21 = .ok (.iload_n 1, 1) := by decide +kernel
theorem dX7_speaks_22 : decode cX7_speaks 22 = .ok (.iload_n 2, 1) := by decide +kernel
theorem dX7_speaks_23 : decode cX7_speaks 23 = .ok (.invokevirtual 53, 3) := by decide +kernel
theorem dX7_speaks_26 : decode cX7_speaks 26 = .ok (.iload_n 2, 1) := by decide +kernel
theorem dX7_speaks_27 : decode cX7_speaks 27 = .ok (.invokevirtual 63, 3) := by decide +kernel
theorem dX7_speaks_30 : decode cX7_speaks 30 = .ok (.iconst 1, 1) := by decide +kernel
theorem dX7_speaks_31 : decode cX7_speaks 31 = .ok (.iload_n 1, 1) := by decide +kernel
theorem dX7_speaks_32 : decode cX7_speaks 32 = .ok (.ishl, 1) := by decide +kernel
theorem dX7_speaks_33 : decode cX7_speaks 33 = .ok (.iconst (-1), 1) := by decide +kernel
theorem dX7_speaks_34 : decode cX7_speaks 34 = .ok (.ixor, 1) := by decide +kernel
theorem dX7_speaks_35 : decode cX7_speaks 35 = .ok (.iand, 1) := by decide +kernel
theorem dX7_speaks_36 : decode cX7_speaks 36 = .ok (.istore 4, 2) := by decide +kernel
theorem dX7_speaks_38 : decode cX7_speaks 38 = .ok (.iload_n 3, 1) := by decide +kernel
theorem dX7_speaks_39 : decode cX7_speaks 39 = .ok (.iconst 1, 1) := by decide +kernel
theorem dX7_speaks_40 : decode cX7_speaks 40 = .ok (.if_icmp .eq 19, 3) := by decide +kernel
theorem dX7_speaks_43 : decode cX7_speaks 43 = .ok (.iload_n 3, 1) := by decide +kernel
theorem dX7_speaks_44 : decode cX7_speaks 44 = .ok (.iconst 2, 1) := by decide +kernel
theorem dX7_speaks_45 : decode cX7_speaks 45 = .ok (.if_icmp .ne 12, 3) := by decide +kernel
theorem dX7_speaks_48 : decode cX7_speaks 48 = .ok (.iload 4, 2) := by decide +kernel
theorem dX7_speaks_50 : decode cX7_speaks 50 = .ok (.ifCond .eq 7, 3) := by decide +kernel
theorem dX7_speaks_53 : decode cX7_speaks 53 = .ok (.iconst 1, 1) := by decide +kernel
theorem dX7_speaks_54 : decode cX7_speaks 54 = .ok (.goto 4, 3) := by decide +kernel
theorem dX7_speaks_57 : decode cX7_speaks 57 = .ok (.iconst 0, 1) := by decide +kernel
theorem dX7_speaks_58 : decode cX7_speaks 58 = .ok (.ireturn, 1) := by decide +kernel
theorem dX7_speaks_59 : decode cX7_speaks 59 = .ok (.iconst 0, 1) := by decide +kernel
theorem dX7_speaks_60 : decode cX7_speaks 60 = .ok (.istore 5, 2) := by decide +kernel
theorem dX7_speaks_62 : decode cX7_speaks 62 = .ok (.iload 5, 2) := by decide +kernel
theorem dX7_speaks_64 : decode cX7_speaks 64 = .ok (.aload_n 0, 1) := by decide +kernel
theorem dX7_speaks_65 : decode cX7_speaks 65 = .ok (.getfield 47, 3) := by decide +kernel
theorem dX7_speaks_68 : decode cX7_speaks 68 = .ok (.iconst 1, 1) := by decide +kernel
theorem dX7_speaks_69 : decode cX7_speaks 69 = .ok (.iaload, 1) := by decide +kernel
theorem dX7_speaks_70 : decode cX7_speaks 70 = .ok (.if_icmp .ge 37, 3) := by decide +kernel
theorem dX7_speaks_73 : decode cX7_speaks 73 = .ok (.iload 4, 2) := by decide +kernel
theorem dX7_speaks_75 : decode cX7_speaks 75 = .ok (.iload 5, 2) := by decide +kernel
theorem dX7_speaks_77 : decode cX7_speaks 77 = .ok (.invokestatic 43, 3) := by decide +kernel
theorem dX7_speaks_80 : decode cX7_speaks 80 = .ok (.ifCond .eq 21, 3) := by decide +kernel
theorem dX7_speaks_83 : decode cX7_speaks 83 = .ok (.aload_n 0, 1) := by decide +kernel
theorem dX7_speaks_84 : decode cX7_speaks 84 = .ok (.iload 5, 2) := by decide +kernel
theorem dX7_speaks_86 : decode cX7_speaks 86 = .ok (.iload_n 2, 1) := by decide +kernel
theorem dX7_speaks_87 : decode cX7_speaks 87 = .ok (.invokevirtual 69, 3) := by decide +kernel
theorem dX7_speaks_90 : decode cX7_speaks 90 = .ok (.aload_n 0, 1) := by decide +kernel
theorem dX7_speaks_91 : decode cX7_speaks 91 = .ok (.iload_n 1, 1) := by decide +kernel
theorem dX7_speaks_92 : decode cX7_speaks 92 = .ok (.iload_n 2, 1) := by decide +kernel
theorem dX7_speaks_93 : decode cX7_speaks 93 = .ok (.invokevirtual 69, 3) := by decide +kernel
theorem dX7_speaks_96 : decode cX7_speaks 96 = .ok (.if_icmp .gt 5, 3) := by decide +kernel
theorem dX7_speaks_99 : decode cX7_speaks 99 = .ok (.iconst 1, 1) := by decide +kernel
theorem dX7_speaks_100 : decode cX7_speaks 100 = .ok (.ireturn, 1) := by decide +kernel
theorem dX7_speaks_101 : decode cX7_speaks 101 = .ok (.iinc 5 1, 3) := by decide +kernel
theorem dX7_speaks_104 : decode cX7_speaks 104 = .ok (.goto (-42), 3) := by decide +kernel
theorem dX7_speaks_107 : decode cX7_speaks 107 = .ok (.iconst 0, 1) := by decide +kernel
theorem dX7_speaks_108 : decode cX7_speaks 108 = .ok (.ireturn, 1) := by decide +kernel
theorem dX8_init_0 : decode cX8_init 0 = .ok (.aload_n 0, 1) := by decide +kernel
theorem dX8_init_1 : decode cX8_init 1 = .ok (.invokespecial 3, 3) := by decide +kernel
theorem dX8_init_4 : decode cX8_init 4 = .ok (.aload_n 0, 1) := by decide +kernel
theorem dX8_init_5 : decode cX8_init 5 = .ok (.bipush 32, 2) := by decide +kernel
theorem dX8_init_7 : decode cX8_init 7 = .ok (.newarray .long, 2) := by decide +kernel
theorem dX8_init_9 : decode cX8_init 9 = .ok (.putfield 9, 3) := by decide +kernel
theorem dX8_init_12 : decode cX8_init 12 = .ok (.aload_n 0, 1) := by decide +kernel
theorem dX8_init_13 : decode cX8_init 13 = .ok (.bipush 32, 2) := by decide +kernel
theorem dX8_init_15 : decode cX8_init 15 = .ok (.newarray .int, 2) := by decide +kernel
theorem dX8_init_17 : decode cX8_init 17 = .ok (.putfield 15, 3) := by decide +kernel
theorem dX8_init_20 : decode cX8_init 20 = .ok (.aload_n 0, 1) := by decide +kernel
theorem dX8_init_21 : decode cX8_init 21 = .ok (.bipush 32, 2) := by decide +kernel
theorem dX8_init_23 : decode cX8_init 23 = .ok (.newarray .int, 2) := by decide +kernel
theorem dX8_init_25 : decode cX8_init 25 = .ok (.putfield 19, 3) := by decide +kernel
theorem dX8_init_28 : decode cX8_init 28 = .ok (.aload_n 0, 1) := by decide +kernel
theorem dX8_init_29 : decode cX8_init 29 = .ok (.iconst 0, 1) := by decide +kernel
theorem dX8_init_30 : decode cX8_init 30 = .ok (.putfield 22, 3) := by decide +kernel
theorem dX8_init_33 : decode cX8_init 33 = .ok (.aload_n 0, 1) := by decide +kernel
theorem dX8_init_34 : decode cX8_init 34 = .ok (.iconst 0, 1) := by decide +kernel
theorem dX8_init_35 : decode cX8_init 35 = .ok (.putfield 26, 3) := by decide +kernel
theorem dX8_init_38 : decode cX8_init 38 = .ok (.aload_n 0, 1) := by decide +kernel
theorem dX8_init_39 : decode cX8_init 39 = .ok (.iconst 0, 1) := by decide +kernel
theorem dX8_init_40 : decode cX8_init 40 = .ok (.putfield 29, 3) := by decide +kernel
theorem dX8_init_43 : decode cX8_init 43 = .ok (.aload_n 0, 1) := by decide +kernel
theorem dX8_init_44 : decode cX8_init 44 = .ok (.aload_n 1, 1) := by decide +kernel
theorem dX8_init_45 : decode cX8_init 45 = .ok (.putfield 32, 3) := by decide +kernel
theorem dX8_init_48 : decode cX8_init 48 = .ok (.return_, 1) := by decide +kernel
theorem dX8_tellAll_0 : decode cX8_tellAll 0 = .ok (.aload_n 0, 1) := by decide +kernel
theorem dX8_tellAll_1 : decode cX8_tellAll 1 = .ok (.iconst 0, 1) := by decide +kernel
theorem dX8_tellAll_2 : decode cX8_tellAll 2 = .ok (.putfield 22, 3) := by decide +kernel
theorem dX8_tellAll_5 : decode cX8_tellAll 5 = .ok (.aload_n 0, 1) := by decide +kernel
theorem dX8_tellAll_6 : decode cX8_tellAll 6 = .ok (.iconst 0, 1) := by decide +kernel
theorem dX8_tellAll_7 : decode cX8_tellAll 7 = .ok (.putfield 26, 3) := by decide +kernel
theorem dX8_tellAll_10 : decode cX8_tellAll 10 = .ok (.iconst 1, 1) := by decide +kernel
theorem dX8_tellAll_11 : decode cX8_tellAll 11 = .ok (.istore_n 2, 1) := by decide +kernel
theorem dX8_tellAll_12 : decode cX8_tellAll 12 = .ok (.iconst 0, 1) := by decide +kernel
theorem dX8_tellAll_13 : decode cX8_tellAll 13 = .ok (.istore_n 3, 1) := by decide +kernel
theorem dX8_tellAll_14 : decode cX8_tellAll 14 = .ok (.iload_n 3, 1) := by decide +kernel
theorem dX8_tellAll_15 : decode cX8_tellAll 15 = .ok (.aload_n 0, 1) := by decide +kernel
theorem dX8_tellAll_16 : decode cX8_tellAll 16 = .ok (.getfield 32, 3) := by decide +kernel
theorem dX8_tellAll_19 : decode cX8_tellAll 19 = .ok (.getfield 36, 3) := by decide +kernel
theorem dX8_tellAll_22 : decode cX8_tellAll 22 = .ok (.if_icmp .ge 45, 3) := by decide +kernel
theorem dX8_tellAll_25 : decode cX8_tellAll 25 = .ok (.aload_n 0, 1) := by decide +kernel
theorem dX8_tellAll_26 : decode cX8_tellAll 26 = .ok (.getfield 26, 3) := by decide +kernel
theorem dX8_tellAll_29 : decode cX8_tellAll 29 = .ok (.ifCond .ne 38, 3) := by decide +kernel
theorem dX8_tellAll_32 : decode cX8_tellAll 32 = .ok (.iload_n 2, 1) := by decide +kernel
theorem dX8_tellAll_33 : decode cX8_tellAll 33 = .ok (.ifCond .eq 9, 3) := by decide +kernel
theorem dX8_tellAll_36 : decode cX8_tellAll 36 = .ok (.aload_n 0, 1) := by decide +kernel
theorem dX8_tellAll_37 : decode cX8_tellAll 37 = .ok (.aload_n 1, 1) := by decide +kernel
theorem dX8_tellAll_38 : decode cX8_tellAll 38 = .ok (.iload_n 3, 1) := by decide +kernel
theorem dX8_tellAll_39 : decode cX8_tellAll 39 = .ok (.invokevirtual 39, 3) := by decide +kernel
theorem dX8_tellAll_42 : decode cX8_tellAll 42 = .ok (.aload_n 0, 1) := by decide +kernel
theorem dX8_tellAll_43 : decode cX8_tellAll 43 = .ok (.getfield 32, 3) := by decide +kernel
theorem dX8_tellAll_46 : decode cX8_tellAll 46 = .ok (.iload_n 3, 1) := by decide +kernel
theorem dX8_tellAll_47 : decode cX8_tellAll 47 = .ok (.invokevirtual 43, 3) := by decide +kernel
theorem dX8_tellAll_50 : decode cX8_tellAll 50 = .ok (.bipush 22, 2) := by decide +kernel
theorem dX8_tellAll_52 : decode cX8_tellAll 52 = .ok (.if_icmp .ne 7, 3) := by decide +kernel
theorem dX8_tellAll_55 : decode cX8_tellAll 55 = .ok (.iconst 1, 1) := by decide +kernel
theorem dX8_tellAll_56 : decode cX8_tellAll 56 = .ok (.goto 4, 3) := by decide +kernel
theorem dX8_tellAll_59 : decode cX8_tellAll 59 = .ok (.iconst 0, 1) := by decide +kernel
theorem dX8_tellAll_60 : decode cX8_tellAll 60 = .ok (.istore_n 2, 1) := by decide +kernel
theorem dX8_tellAll_61 : decode cX8_tellAll 61 = .ok (.iinc 3 1, 3) := by decide +kernel
theorem dX8_tellAll_64 : decode cX8_tellAll 64 = .ok (.goto (-50), 3) := by decide +kernel
theorem dX8_tellAll_67 : decode cX8_tellAll 67 = .ok (.aload_n 0, 1) := by decide +kernel
theorem dX8_tellAll_68 : decode cX8_tellAll 68 = .ok (.getfield 26, 3) := by decide +kernel
theorem dX8_tellAll_71 : decode cX8_tellAll 71 = .ok (.ireturn, 1) := by decide +kernel
theorem dX8_tellOne_0 : decode cX8_tellOne 0 = .ok (.aload_n 0, 1) := by decide +kernel
theorem dX8_tellOne_1 : decode cX8_tellOne 1 = .ok (.getfield 32, 3) := by decide +kernel
theorem dX8_tellOne_4 : decode cX8_tellOne 4 = .ok (.iload_n 2, 1) := by decide +kernel
theorem dX8_tellOne_5 : decode cX8_tellOne 5 = .ok (.invokevirtual 43, 3) := by decide +kernel
theorem dX8_tellOne_8 : decode cX8_tellOne 8 = .ok (.istore_n 3, 1) := by decide +kernel
theorem dX8_tellOne_9 : decode cX8_tellOne 9 = .ok (.iload_n 3, 1) := by decide +kernel
theorem dX8_tellOne_10 : decode cX8_tellOne 10 = .ok (.tableswitch 164 0 10 #[58, 58, 58, 68, 68, 78, 78, 88, 127, 151, 151], 58) := by decide +kernel
theorem dX8_tellOne_68 : decode cX8_tellOne 68 = .ok (.aload_n 0, 1) := by decide +kernel
theorem dX8_tellOne_69 : decode cX8_tellOne 69 = .ok (.aload_n 1, 1) := by decide +kernel
theorem dX8_tellOne_70 : decode cX8_tellOne 70 = .ok (.iload_n 3, 1) := by decide +kernel
theorem dX8_tellOne_71 : decode cX8_tellOne 71 = .ok (.iload_n 2, 1) := by decide +kernel
theorem dX8_tellOne_72 : decode cX8_tellOne 72 = .ok (.invokevirtual 47, 3) := by decide +kernel
theorem dX8_tellOne_75 : decode cX8_tellOne 75 = .ok (.goto 99, 3) := by decide +kernel
theorem dX8_tellOne_78 : decode cX8_tellOne 78 = .ok (.aload_n 0, 1) := by decide +kernel
theorem dX8_tellOne_79 : decode cX8_tellOne 79 = .ok (.aload_n 1, 1) := by decide +kernel
theorem dX8_tellOne_80 : decode cX8_tellOne 80 = .ok (.iload_n 3, 1) := by decide +kernel
theorem dX8_tellOne_81 : decode cX8_tellOne 81 = .ok (.iload_n 2, 1) := by decide +kernel
theorem dX8_tellOne_82 : decode cX8_tellOne 82 = .ok (.invokevirtual 51, 3) := by decide +kernel
theorem dX8_tellOne_85 : decode cX8_tellOne 85 = .ok (.goto 89, 3) := by decide +kernel
theorem dX8_tellOne_88 : decode cX8_tellOne 88 = .ok (.aload_n 0, 1) := by decide +kernel
theorem dX8_tellOne_89 : decode cX8_tellOne 89 = .ok (.aload_n 1, 1) := by decide +kernel
theorem dX8_tellOne_90 : decode cX8_tellOne 90 = .ok (.iload_n 3, 1) := by decide +kernel
theorem dX8_tellOne_91 : decode cX8_tellOne 91 = .ok (.iload_n 2, 1) := by decide +kernel
theorem dX8_tellOne_92 : decode cX8_tellOne 92 = .ok (.invokevirtual 54, 3) := by decide +kernel
theorem dX8_tellOne_95 : decode cX8_tellOne 95 = .ok (.goto 79, 3) := by decide +kernel
theorem dX8_tellOne_98 : decode cX8_tellOne 98 = .ok (.aload_n 0, 1) := by decide +kernel
theorem dX8_tellOne_99 : decode cX8_tellOne 99 = .ok (.aload_n 1, 1) := by decide +kernel
theorem dX8_tellOne_100 : decode cX8_tellOne 100 = .ok (.bipush 7, 2) := by decide +kernel
theorem dX8_tellOne_102 : decode cX8_tellOne 102 = .ok (.iload_n 2, 1) := by decide +kernel
theorem dX8_tellOne_103 : decode cX8_tellOne 103 = .ok (.iconst 1, 1) := by decide +kernel
theorem dX8_tellOne_104 : decode cX8_tellOne 104 = .ok (.iadd, 1) := by decide +kernel
theorem dX8_tellOne_105 : decode cX8_tellOne 105 = .ok (.invokevirtual 57, 3) := by decide +kernel
theorem dX8_tellOne_108 : decode cX8_tellOne 108 = .ok (.aload_n 0, 1) := by decide +kernel
theorem dX8_tellOne_109 : decode cX8_tellOne 109 = .ok (.iconst 2, 1) := by decide +kernel
theorem dX8_tellOne_110 : decode cX8_tellOne 110 = .ok (.iload_n 2, 1) := by decide +kernel
theorem dX8_tellOne_111 : decode cX8_tellOne 111 = .ok (.iconst 2, 1) := by decide +kernel
theorem dX8_tellOne_112 : decode cX8_tellOne 112 = .ok (.iadd, 1) := by decide +kernel
theorem dX8_tellOne_113 : decode cX8_tellOne 113 = .ok (.invokevirtual 60, 3) := by decide +kernel
theorem dX8_tellOne_116 : decode cX8_tellOne 116 = .ok (.istore 4, 2) := by decide +kernel
theorem dX8_tellOne_118 : decode cX8_tellOne 118 = .ok (.aload_n 1, 1) := by decide +kernel
theorem dX8_tellOne_119 : decode cX8_tellOne 119 = .ok (.iload 4, 2) := by decide +kernel
theorem dX8_tellOne_121 : decode cX8_tellOne 121 = .ok (.aload_n 0, 1) := by decide +kernel
theorem dX8_tellOne_122 : decode cX8_tellOne 122 = .ok (.iload_n 2, 1) := by decide +kernel
theorem dX8_tellOne_123 : decode cX8_tellOne 123 = .ok (.iconst 3, 1) := by decide +kernel
theorem dX8_tellOne_124 : decode cX8_tellOne 124 = .ok (.iadd, 1) := by decide +kernel
theorem dX8_tellOne_125 : decode cX8_tellOne 125 = .ok (.iconst 1, 1) := by decide +kernel
theorem dX8_tellOne_126 : decode cX8_tellOne 126 = .ok (.bipush 99, 2) := by decide +kernel
theorem dX8_tellOne_128 : decode cX8_tellOne 128 = .ok (.invokevirtual 64, 3) := by decide +kernel
theorem dX8_tellOne_131 : decode cX8_tellOne 131 = .ok (.invokevirtual 68, 3) := by decide +kernel
theorem dX8_tellOne_134 : decode cX8_tellOne 134 = .ok (.goto 40, 3) := by decide +kernel
theorem dX8_tellOne_137 : decode cX8_tellOne 137 = .ok (.aload_n 0, 1) := by decide +kernel
theorem dX8_tellOne_138 : decode cX8_tellOne 138 = .ok (.aload_n 1, 1) := by decide +kernel
theorem dX8_tellOne_139 : decode cX8_tellOne 139 = .ok (.bipush 8, 2) := by decide +kernel
theorem dX8_tellOne_141 : decode cX8_tellOne 141 = .ok (.iload_n 2, 1) := by decide +kernel
theorem dX8_tellOne_142 : decode cX8_tellOne 142 = .ok (.iconst 1, 1) := by decide +kernel
theorem dX8_tellOne_143 : decode cX8_tellOne 143 = .ok (.iadd, 1) := by decide +kernel
theorem dX8_tellOne_144 : decode cX8_tellOne 144 = .ok (.invokevirtual 57, 3) := by decide +kernel
theorem dX8_tellOne_147 : decode cX8_tellOne 147 = .ok (.aload_n 1, 1) := by decide +kernel
theorem dX8_tellOne_148 : decode cX8_tellOne 148 = .ok (.aload_n 0, 1) := by decide +kernel
theorem dX8_tellOne_149 : decode cX8_tellOne 149 = .ok (.iload_n 2, 1) := by decide +kernel
theorem dX8_tellOne_150 : decode cX8_tellOne 150 = .ok (.iconst 2, 1) := by decide +kernel
theorem dX8_tellOne_151 : decode cX8_tellOne 151 = .ok (.iadd, 1) := by decide +kernel
theorem dX8_tellOne_152 : decode cX8_tellOne 152 = .ok (.invokevirtual 74, 3) := by decide +kernel
theorem dX8_tellOne_155 : decode cX8_tellOne 155 = .ok (.invokevirtual 77, 3) := by decide +kernel
theorem dX8_tellOne_158 : decode cX8_tellOne 158 = .ok (.goto 16, 3) := by decide +kernel
theorem dX8_tellOne_161 : decode cX8_tellOne 161 = .ok (.aload_n 1, 1) := by decide +kernel
theorem dX8_tellOne_162 : decode cX8_tellOne 162 = .ok (.getfield 81, 3) := by decide +kernel
theorem dX8_tellOne_165 : decode cX8_tellOne 165 = .ok (.iload_n 3, 1) := by decide +kernel
theorem dX8_tellOne_166 : decode cX8_tellOne 166 = .ok (.dup2, 1) := by decide +kernel
theorem dX8_tellOne_167 : decode cX8_tellOne 167 = .ok (.iaload, 1) := by decide +kernel
theorem dX8_tellOne_168 : decode cX8_tellOne 168 = .ok (.iconst 1, 1) := by decide +kernel
theorem dX8_tellOne_169 : decode cX8_tellOne 169 = .ok (.iadd, 1) := by decide +kernel
theorem dX8_tellOne_170 : decode cX8_tellOne 170 = .ok (.iastore, 1) := by decide +kernel
theorem dX8_tellOne_171 : decode cX8_tellOne 171 = .ok (.goto 3, 3) := by decide +kernel
theorem dX8_tellOne_174 : decode cX8_tellOne 174 = .ok (.return_, 1) := by decide +kernel
theorem dX8_tellBeing_0 : decode cX8_tellBeing 0 = .ok (.aload_n 0, 1) := by decide +kernel
theorem dX8_tellBeing_1 : decode cX8_tellBeing 1 = .ok (.aload_n 1, 1) := by decide +kernel
theorem dX8_tellBeing_2 : decode cX8_tellBeing 2 = .ok (.iload_n 2, 1) := by decide +kernel
theorem dX8_tellBeing_3 : decode cX8_tellBeing 3 = .ok (.iload_n 3, 1) := by decide +kernel
theorem dX8_tellBeing_4 : decode cX8_tellBeing 4 = .ok (.iconst 1, 1) := by decide +kernel
theorem dX8_tellBeing_5 : decode cX8_tellBeing 5 = .ok (.iadd, 1) := by decide +kernel
theorem dX8_tellBeing_6 : decode cX8_tellBeing 6 = .ok (.invokevirtual 57, 3) := by decide +kernel
theorem dX8_tellBeing_9 : decode cX8_tellBeing 9 = .ok (.iload_n 2, 1) := by decide +kernel
theorem dX8_tellBeing_10 : decode cX8_tellBeing 10 = .ok (.ifCond .ne 8, 3) := by decide +kernel
theorem dX8_tellBeing_13 : decode cX8_tellBeing 13 = .ok (.aload_n 1, 1) := by decide +kernel
theorem dX8_tellBeing_14 : decode cX8_tellBeing 14 = .ok (.invokevirtual 84, 3) := by decide +kernel
theorem dX8_tellBeing_17 : decode cX8_tellBeing 17 = .ok (.return_, 1) := by decide +kernel
theorem dX8_tellBeing_18 : decode cX8_tellBeing 18 = .ok (.aload_n 0, 1) := by decide +kernel
theorem dX8_tellBeing_19 : decode cX8_tellBeing 19 = .ok (.iload_n 3, 1) := by decide +kernel
theorem dX8_tellBeing_20 : decode cX8_tellBeing 20 = .ok (.iconst 2, 1) := by decide +kernel
theorem dX8_tellBeing_21 : decode cX8_tellBeing 21 = .ok (.iadd, 1) := by decide +kernel
theorem dX8_tellBeing_22 : decode cX8_tellBeing 22 = .ok (.iconst 0, 1) := by decide +kernel
theorem dX8_tellBeing_23 : decode cX8_tellBeing 23 = .ok (.bipush 99, 2) := by decide +kernel
theorem dX8_tellBeing_25 : decode cX8_tellBeing 25 = .ok (.invokevirtual 64, 3) := by decide +kernel
theorem dX8_tellBeing_28 : decode cX8_tellBeing 28 = .ok (.istore 4, 2) := by decide +kernel
theorem dX8_tellBeing_30 : decode cX8_tellBeing 30 = .ok (.iload_n 2, 1) := by decide +kernel
theorem dX8_tellBeing_31 : decode cX8_tellBeing 31 = .ok (.iconst 2, 1) := by decide +kernel
theorem dX8_tellBeing_32 : decode cX8_tellBeing 32 = .ok (.if_icmp .ne 10, 3) := by decide +kernel
theorem dX8_tellBeing_35 : decode cX8_tellBeing 35 = .ok (.aload_n 1, 1) := by decide +kernel
theorem dX8_tellBeing_36 : decode cX8_tellBeing 36 = .ok (.iload 4, 2) := by decide +kernel
theorem dX8_tellBeing_38 : decode cX8_tellBeing 38 = .ok (.invokevirtual 87, 3) := by decide +kernel
theorem dX8_tellBeing_41 : decode cX8_tellBeing 41 = .ok (.return_, 1) := by decide +kernel
theorem dX8_tellBeing_42 : decode cX8_tellBeing 42 = .ok (.aload_n 0, 1) := by decide +kernel
theorem dX8_tellBeing_43 : decode cX8_tellBeing 43 = .ok (.getfield 32, 3) := by decide +kernel
theorem dX8_tellBeing_46 : decode cX8_tellBeing 46 = .ok (.iload_n 3, 1) := by decide +kernel
theorem dX8_tellBeing_47 : decode cX8_tellBeing 47 = .ok (.iconst 3, 1) := by decide +kernel
theorem dX8_tellBeing_48 : decode cX8_tellBeing 48 = .ok (.iadd, 1) := by decide +kernel
theorem dX8_tellBeing_49 : decode cX8_tellBeing 49 = .ok (.invokevirtual 43, 3) := by decide +kernel
theorem dX8_tellBeing_52 : decode cX8_tellBeing 52 = .ok (.bipush 11, 2) := by decide +kernel
theorem dX8_tellBeing_54 : decode cX8_tellBeing 54 = .ok (.if_icmp .ne 7, 3) := by decide +kernel
theorem dX8_tellBeing_57 : decode cX8_tellBeing 57 = .ok (.iconst 1, 1) := by decide +kernel
theorem dX8_tellBeing_58 : decode cX8_tellBeing 58 = .ok (.goto 4, 3) := by decide +kernel
theorem dX8_tellBeing_61 : decode cX8_tellBeing 61 = .ok (.iconst 0, 1) := by decide +kernel
theorem dX8_tellBeing_62 : decode cX8_tellBeing 62 = .ok (.istore 5, 2) := by decide +kernel
theorem dX8_tellBeing_64 : decode cX8_tellBeing 64 = .ok (.aload_n 1, 1) := by decide +kernel
theorem dX8_tellBeing_65 : decode cX8_tellBeing 65 = .ok (.iload 4, 2) := by decide +kernel
theorem dX8_tellBeing_67 : decode cX8_tellBeing 67 = .ok (.iload 5, 2) := by decide +kernel
theorem dX8_tellBeing_69 : decode cX8_tellBeing 69 = .ok (.ifCond .eq 16, 3) := by decide +kernel
theorem dX8_tellBeing_72 : decode cX8_tellBeing 72 = .ok (.aload_n 0, 1) := by decide +kernel
theorem dX8_tellBeing_73 : decode cX8_tellBeing 73 = .ok (.iload_n 3, 1) := by decide +kernel
theorem dX8_tellBeing_74 : decode cX8_tellBeing 74 = .ok (.iconst 4, 1) := by decide +kernel
theorem dX8_tellBeing_75 : decode cX8_tellBeing 75 = .ok (.iadd, 1) := by decide +kernel
theorem dX8_tellBeing_76 : decode cX8_tellBeing 76 = .ok (.iconst 0, 1) := by decide +kernel
theorem dX8_tellBeing_77 : decode cX8_tellBeing 77 = .ok (.bipush 23, 2) := by decide +kernel
theorem dX8_tellBeing_79 : decode cX8_tellBeing 79 = .ok (.invokevirtual 64, 3) := by decide +kernel
theorem dX8_tellBeing_82 : decode cX8_tellBeing 82 = .ok (.goto 5, 3) := by decide +kernel
theorem dX8_tellBeing_85 : decode cX8_tellBeing 85 = .ok (.bipush 99, 2) := by decide +kernel
theorem dX8_tellBeing_87 : decode cX8_tellBeing 87 = .ok (.invokevirtual 90, 3) := by decide +kernel
theorem dX8_tellBeing_90 : decode cX8_tellBeing 90 = .ok (.return_, 1) := by decide +kernel
theorem dX8_tellPlacing_0 : decode cX8_tellPlacing 0 = .ok (.aload_n 0, 1) := by decide +kernel
theorem dX8_tellPlacing_1 : decode cX8_tellPlacing 1 = .ok (.iload_n 2, 1) := by decide +kernel
theorem dX8_tellPlacing_2 : decode cX8_tellPlacing 2 = .ok (.iconst 3, 1) := by decide +kernel
theorem dX8_tellPlacing_3 : decode cX8_tellPlacing 3 = .ok (.if_icmp .ne 7, 3) := by decide +kernel
theorem dX8_tellPlacing_6 : decode cX8_tellPlacing 6 = .ok (.iconst 0, 1) := by decide +kernel
theorem dX8_tellPlacing_7 : decode cX8_tellPlacing 7 = .ok (.goto 4, 3) := by decide +kernel
theorem dX8_tellPlacing_10 : decode cX8_tellPlacing 10 = .ok (.iconst 1, 1) := by decide +kernel
theorem dX8_tellPlacing_11 : decode cX8_tellPlacing 11 = .ok (.iload_n 3, 1) := by decide +kernel
theorem dX8_tellPlacing_12 : decode cX8_tellPlacing 12 = .ok (.iconst 1, 1) := by decide +kernel
theorem dX8_tellPlacing_13 : decode cX8_tellPlacing 13 = .ok (.iadd, 1) := by decide +kernel
theorem dX8_tellPlacing_14 : decode cX8_tellPlacing 14 = .ok (.invokevirtual 60, 3) := by decide +kernel
theorem dX8_tellPlacing_17 : decode cX8_tellPlacing 17 = .ok (.istore 4, 2) := by decide +kernel
theorem dX8_tellPlacing_19 : decode cX8_tellPlacing 19 = .ok (.aload_n 0, 1) := by decide +kernel
theorem dX8_tellPlacing_20 : decode cX8_tellPlacing 20 = .ok (.iconst 0, 1) := by decide +kernel
theorem dX8_tellPlacing_21 : decode cX8_tellPlacing 21 = .ok (.iload_n 3, 1) := by decide +kernel
theorem dX8_tellPlacing_22 : decode cX8_tellPlacing 22 = .ok (.iconst 2, 1) := by decide +kernel
theorem dX8_tellPlacing_23 : decode cX8_tellPlacing 23 = .ok (.iadd, 1) := by decide +kernel
theorem dX8_tellPlacing_24 : decode cX8_tellPlacing 24 = .ok (.invokevirtual 60, 3) := by decide +kernel
theorem dX8_tellPlacing_27 : decode cX8_tellPlacing 27 = .ok (.istore 5, 2) := by decide +kernel
theorem dX8_tellPlacing_29 : decode cX8_tellPlacing 29 = .ok (.iload_n 2, 1) := by decide +kernel
theorem dX8_tellPlacing_30 : decode cX8_tellPlacing 30 = .ok (.iconst 3, 1) := by decide +kernel
theorem dX8_tellPlacing_31 : decode cX8_tellPlacing 31 = .ok (.if_icmp .ne 27, 3) := by decide +kernel
theorem dX8_tellPlacing_34 : decode cX8_tellPlacing 34 = .ok (.iload 4, 2) := by decide +kernel
theorem dX8_tellPlacing_36 : decode cX8_tellPlacing 36 = .ok (.iload 5, 2) := by decide +kernel
theorem dX8_tellPlacing_38 : decode cX8_tellPlacing 38 = .ok (.if_icmp .ne 11, 3) := by decide +kernel
theorem dX8_tellPlacing_41 : decode cX8_tellPlacing 41 = .ok (.aload_n 0, 1) := by decide +kernel
theorem dX8_tellPlacing_42 : decode cX8_tellPlacing 42 = .ok (.iconst 5, 1) := by decide +kernel
theorem dX8_tellPlacing_43 : decode cX8_tellPlacing 43 = .ok (.iload_n 3, 1) := by decide +kernel
theorem dX8_tellPlacing_44 : decode cX8_tellPlacing 44 = .ok (.iconst 2, 1) := by decide +kernel
theorem dX8_tellPlacing_45 : decode cX8_tellPlacing 45 = .ok (.iadd, 1) := by decide +kernel
theorem dX8_tellPlacing_46 : decode cX8_tellPlacing 46 = .ok (.invokevirtual 93, 3) := by decide +kernel
theorem dX8_tellPlacing_49 : decode cX8_tellPlacing 49 = .ok (.aload_n 1, 1) := by decide +kernel
theorem dX8_tellPlacing_50 : decode cX8_tellPlacing 50 = .ok (.iload 4, 2) := by decide +kernel
theorem dX8_tellPlacing_52 : decode cX8_tellPlacing 52 = .ok (.iload 5, 2) := by decide +kernel
theorem dX8_tellPlacing_54 : decode cX8_tellPlacing 54 = .ok (.invokevirtual 96, 3) := by decide +kernel
theorem dX8_tellPlacing_57 : decode cX8_tellPlacing 57 = .ok (.return_, 1) := by decide +kernel
theorem dX8_tellPlacing_58 : decode cX8_tellPlacing 58 = .ok (.aload_n 0, 1) := by decide +kernel
theorem dX8_tellPlacing_59 : decode cX8_tellPlacing 59 = .ok (.iload_n 3, 1) := by decide +kernel
theorem dX8_tellPlacing_60 : decode cX8_tellPlacing 60 = .ok (.iconst 3, 1) := by decide +kernel
theorem dX8_tellPlacing_61 : decode cX8_tellPlacing 61 = .ok (.iadd, 1) := by decide +kernel
theorem dX8_tellPlacing_62 : decode cX8_tellPlacing 62 = .ok (.iconst 0, 1) := by decide +kernel
theorem dX8_tellPlacing_63 : decode cX8_tellPlacing 63 = .ok (.bipush 23, 2) := by decide +kernel
theorem dX8_tellPlacing_65 : decode cX8_tellPlacing 65 = .ok (.invokevirtual 64, 3) := by decide +kernel
theorem dX8_tellPlacing_68 : decode cX8_tellPlacing 68 = .ok (.istore 6, 2) := by decide +kernel
theorem dX8_tellPlacing_70 : decode cX8_tellPlacing 70 = .ok (.aload_n 1, 1) := by decide +kernel
theorem dX8_tellPlacing_71 : decode cX8_tellPlacing 71 = .ok (.iload 4, 2) := by decide +kernel
theorem dX8_tellPlacing_73 : decode cX8_tellPlacing 73 = .ok (.iload 5, 2) := by decide +kernel
theorem dX8_tellPlacing_75 : decode cX8_tellPlacing 75 = .ok (.iload 6, 2) := by decide +kernel
theorem dX8_tellPlacing_77 : decode cX8_tellPlacing 77 = .ok (.aload_n 0, 1) := by decide +kernel
theorem dX8_tellPlacing_78 : decode cX8_tellPlacing 78 = .ok (.iload_n 3, 1) := by decide +kernel
theorem dX8_tellPlacing_79 : decode cX8_tellPlacing 79 = .ok (.iconst 4, 1) := by decide +kernel
theorem dX8_tellPlacing_80 : decode cX8_tellPlacing 80 = .ok (.iadd, 1) := by decide +kernel
theorem dX8_tellPlacing_81 : decode cX8_tellPlacing 81 = .ok (.iload 6, 2) := by decide +kernel
theorem dX8_tellPlacing_83 : decode cX8_tellPlacing 83 = .ok (.bipush 23, 2) := by decide +kernel
theorem dX8_tellPlacing_85 : decode cX8_tellPlacing 85 = .ok (.invokevirtual 64, 3) := by decide +kernel
theorem dX8_tellPlacing_88 : decode cX8_tellPlacing 88 = .ok (.invokevirtual 99, 3) := by decide +kernel
theorem dX8_tellPlacing_91 : decode cX8_tellPlacing 91 = .ok (.return_, 1) := by decide +kernel
theorem dX8_tellKnowing_0 : decode cX8_tellKnowing 0 = .ok (.aload_n 0, 1) := by decide +kernel
theorem dX8_tellKnowing_1 : decode cX8_tellKnowing 1 = .ok (.iconst 1, 1) := by decide +kernel
theorem dX8_tellKnowing_2 : decode cX8_tellKnowing 2 = .ok (.iload_n 3, 1) := by decide +kernel
theorem dX8_tellKnowing_3 : decode cX8_tellKnowing 3 = .ok (.iconst 1, 1) := by decide +kernel
theorem dX8_tellKnowing_4 : decode cX8_tellKnowing 4 = .ok (.iadd, 1) := by decide +kernel
theorem dX8_tellKnowing_5 : decode cX8_tellKnowing 5 = .ok (.invokevirtual 60, 3) := by decide +kernel
theorem dX8_tellKnowing_8 : decode cX8_tellKnowing 8 = .ok (.istore 4, 2) := by decide +kernel
theorem dX8_tellKnowing_10 : decode cX8_tellKnowing 10 = .ok (.aload_n 0, 1) := by decide +kernel
theorem dX8_tellKnowing_11 : decode cX8_tellKnowing 11 = .ok (.iconst 2, 1) := by decide +kernel
theorem dX8_tellKnowing_12 : decode cX8_tellKnowing 12 = .ok (.iload_n 3, 1) := by decide +kernel
theorem dX8_tellKnowing_13 : decode cX8_tellKnowing 13 = .ok (.iconst 2, 1) := by decide +kernel
theorem dX8_tellKnowing_14 : decode cX8_tellKnowing 14 = .ok (.iadd, 1) := by decide +kernel
theorem dX8_tellKnowing_15 : decode cX8_tellKnowing 15 = .ok (.invokevirtual 60, 3) := by decide +kernel
theorem dX8_tellKnowing_18 : decode cX8_tellKnowing 18 = .ok (.istore 5, 2) := by decide +kernel
theorem dX8_tellKnowing_20 : decode cX8_tellKnowing 20 = .ok (.iload_n 2, 1) := by decide +kernel
theorem dX8_tellKnowing_21 : decode cX8_tellKnowing 21 = .ok (.iconst 5, 1) := by decide +kernel
theorem dX8_tellKnowing_22 : decode cX8_tellKnowing 22 = .ok (.if_icmp .ne 14, 3) := by decide +kernel
theorem dX8_tellKnowing_25 : decode cX8_tellKnowing 25 = .ok (.aload_n 1, 1) := by decide +kernel
theorem dX8_tellKnowing_26 : decode cX8_tellKnowing 26 = .ok (.iload 4, 2) := by decide +kernel
theorem dX8_tellKnowing_28 : decode cX8_tellKnowing 28 = .ok (.iload 5, 2) := by decide +kernel
theorem dX8_tellKnowing_30 : decode cX8_tellKnowing 30 = .ok (.invokevirtual 103, 3) := by decide +kernel
theorem dX8_tellKnowing_33 : decode cX8_tellKnowing 33 = .ok (.goto 21, 3) := by decide +kernel
theorem dX8_tellKnowing_36 : decode cX8_tellKnowing 36 = .ok (.aload_n 1, 1) := by decide +kernel
theorem dX8_tellKnowing_37 : decode cX8_tellKnowing 37 = .ok (.iload 4, 2) := by decide +kernel
theorem dX8_tellKnowing_39 : decode cX8_tellKnowing 39 = .ok (.iload 5, 2) := by decide +kernel
theorem dX8_tellKnowing_41 : decode cX8_tellKnowing 41 = .ok (.aload_n 0, 1) := by decide +kernel
theorem dX8_tellKnowing_42 : decode cX8_tellKnowing 42 = .ok (.iload_n 3, 1) := by decide +kernel
theorem dX8_tellKnowing_43 : decode cX8_tellKnowing 43 = .ok (.iconst 3, 1) := by decide +kernel
theorem dX8_tellKnowing_44 : decode cX8_tellKnowing 44 = .ok (.iadd, 1) := by decide +kernel
theorem dX8_tellKnowing_45 : decode cX8_tellKnowing 45 = .ok (.iconst 0, 1) := by decide +kernel
theorem dX8_tellKnowing_46 : decode cX8_tellKnowing 46 = .ok (.bipush 23, 2) := by decide +kernel
theorem dX8_tellKnowing_48 : decode cX8_tellKnowing 48 = .ok (.invokevirtual 64, 3) := by decide +kernel
theorem dX8_tellKnowing_51 : decode cX8_tellKnowing 51 = .ok (.invokevirtual 106, 3) := by decide +kernel
theorem dX8_tellKnowing_54 : decode cX8_tellKnowing 54 = .ok (.return_, 1) := by decide +kernel
theorem dX8_taskThings_0 : decode cX8_taskThings 0 = .ok (.iconst 0, 1) := by decide +kernel
theorem dX8_taskThings_1 : decode cX8_taskThings 1 = .ok (.istore_n 2, 1) := by decide +kernel
theorem dX8_taskThings_2 : decode cX8_taskThings 2 = .ok (.iload_n 1, 1) := by decide +kernel
theorem dX8_taskThings_3 : decode cX8_taskThings 3 = .ok (.istore_n 3, 1) := by decide +kernel
theorem dX8_taskThings_4 : decode cX8_taskThings 4 = .ok (.iload_n 3, 1) := by decide +kernel
theorem dX8_taskThings_5 : decode cX8_taskThings 5 = .ok (.aload_n 0, 1) := by decide +kernel
theorem dX8_taskThings_6 : decode cX8_taskThings 6 = .ok (.getfield 32, 3) := by decide +kernel
theorem dX8_taskThings_9 : decode cX8_taskThings 9 = .ok (.getfield 36, 3) := by decide +kernel
theorem dX8_taskThings_12 : decode cX8_taskThings 12 = .ok (.if_icmp .ge 52, 3) := by decide +kernel
theorem dX8_taskThings_15 : decode cX8_taskThings 15 = .ok (.aload_n 0, 1) := by decide +kernel
theorem dX8_taskThings_16 : decode cX8_taskThings 16 = .ok (.getfield 32, 3) := by decide +kernel
theorem dX8_taskThings_19 : decode cX8_taskThings 19 = .ok (.iload_n 3, 1) := by decide +kernel
theorem dX8_taskThings_20 : decode cX8_taskThings 20 = .ok (.invokevirtual 43, 3) := by decide +kernel
theorem dX8_taskThings_23 : decode cX8_taskThings 23 = .ok (.bipush 20, 2) := by decide +kernel
theorem dX8_taskThings_25 : decode cX8_taskThings 25 = .ok (.if_icmp .ne 39, 3) := by decide +kernel
theorem dX8_taskThings_28 : decode cX8_taskThings 28 = .ok (.aload_n 0, 1) := by decide +kernel
theorem dX8_taskThings_29 : decode cX8_taskThings 29 = .ok (.iconst 2, 1) := by decide +kernel
theorem dX8_taskThings_30 : decode cX8_taskThings 30 = .ok (.iload_n 3, 1) := by decide +kernel
theorem dX8_taskThings_31 : decode cX8_taskThings 31 = .ok (.invokevirtual 60, 3) := by decide +kernel
theorem dX8_taskThings_34 : decode cX8_taskThings 34 = .ok (.istore 4, 2) := by decide +kernel
theorem dX8_taskThings_36 : decode cX8_taskThings 36 = .ok (.iload_n 2, 1) := by decide +kernel
theorem dX8_taskThings_37 : decode cX8_taskThings 37 = .ok (.iload 4, 2) := by decide +kernel
theorem dX8_taskThings_39 : decode cX8_taskThings 39 = .ok (.invokestatic 110, 3) := by decide +kernel
theorem dX8_taskThings_42 : decode cX8_taskThings 42 = .ok (.ifCond .eq 9, 3) := by decide +kernel
theorem dX8_taskThings_45 : decode cX8_taskThings 45 = .ok (.aload_n 0, 1) := by decide +kernel
theorem dX8_taskThings_46 : decode cX8_taskThings 46 = .ok (.iconst 3, 1) := by decide +kernel
theorem dX8_taskThings_47 : decode cX8_taskThings 47 = .ok (.iload_n 3, 1) := by decide +kernel
theorem dX8_taskThings_48 : decode cX8_taskThings 48 = .ok (.invokevirtual 93, 3) := by decide +kernel
theorem dX8_taskThings_51 : decode cX8_taskThings 51 = .ok (.iload_n 2, 1) := by decide +kernel
theorem dX8_taskThings_52 : decode cX8_taskThings 52 = .ok (.iconst 1, 1) := by decide +kernel
theorem dX8_taskThings_53 : decode cX8_taskThings 53 = .ok (.iload 4, 2) := by decide +kernel
theorem dX8_taskThings_55 : decode cX8_taskThings 55 = .ok (.ishl, 1) := by decide +kernel
theorem dX8_taskThings_56 : decode cX8_taskThings 56 = .ok (.ior, 1) := by decide +kernel
theorem dX8_taskThings_57 : decode cX8_taskThings 57 = .ok (.istore_n 2, 1) := by decide +kernel
theorem dX8_taskThings_58 : decode cX8_taskThings 58 = .ok (.iinc 3 2, 3) := by decide +kernel
theorem dX8_taskThings_61 : decode cX8_taskThings 61 = .ok (.goto (-57), 3) := by decide +kernel
theorem dX8_taskThings_64 : decode cX8_taskThings 64 = .ok (.iload_n 2, 1) := by decide +kernel
theorem dX8_taskThings_65 : decode cX8_taskThings 65 = .ok (.ireturn, 1) := by decide +kernel
theorem dX8_refuse_0 : decode cX8_refuse 0 = .ok (.aload_n 0, 1) := by decide +kernel
theorem dX8_refuse_1 : decode cX8_refuse 1 = .ok (.getfield 26, 3) := by decide +kernel
theorem dX8_refuse_4 : decode cX8_refuse 4 = .ok (.ifCond .ne 13, 3) := by decide +kernel
theorem dX8_refuse_7 : decode cX8_refuse 7 = .ok (.aload_n 0, 1) := by decide +kernel
theorem dX8_refuse_8 : decode cX8_refuse 8 = .ok (.iload_n 1, 1) := by decide +kernel
theorem dX8_refuse_9 : decode cX8_refuse 9 = .ok (.putfield 26, 3) := by decide +kernel
theorem dX8_refuse_12 : decode cX8_refuse 12 = .ok (.aload_n 0, 1) := by decide +kernel
theorem dX8_refuse_13 : decode cX8_refuse 13 = .ok (.iload_n 2, 1) := by decide +kernel
theorem dX8_refuse_14 : decode cX8_refuse 14 = .ok (.putfield 29, 3) := by decide +kernel
theorem dX8_refuse_17 : decode cX8_refuse 17 = .ok (.return_, 1) := by decide +kernel
theorem dX8_find_0 : decode cX8_find 0 = .ok (.aload_n 0, 1) := by decide +kernel
theorem dX8_find_1 : decode cX8_find 1 = .ok (.getfield 32, 3) := by decide +kernel
theorem dX8_find_4 : decode cX8_find 4 = .ok (.iload_n 1, 1) := by decide +kernel
theorem dX8_find_5 : decode cX8_find 5 = .ok (.invokevirtual 114, 3) := by decide +kernel
theorem dX8_find_8 : decode cX8_find 8 = .ok (.lstore_n 2, 1) := by decide +kernel
theorem dX8_find_9 : decode cX8_find 9 = .ok (.iconst 0, 1) := by decide +kernel
theorem dX8_find_10 : decode cX8_find 10 = .ok (.istore 4, 2) := by decide +kernel
theorem dX8_find_12 : decode cX8_find 12 = .ok (.iload 4, 2) := by decide +kernel
theorem dX8_find_14 : decode cX8_find 14 = .ok (.aload_n 0, 1) := by decide +kernel
theorem dX8_find_15 : decode cX8_find 15 = .ok (.getfield 22, 3) := by decide +kernel
theorem dX8_find_18 : decode cX8_find 18 = .ok (.if_icmp .ge 24, 3) := by decide +kernel
theorem dX8_find_21 : decode cX8_find 21 = .ok (.aload_n 0, 1) := by decide +kernel
theorem dX8_find_22 : decode cX8_find 22 = .ok (.getfield 9, 3) := by decide +kernel
theorem dX8_find_25 : decode cX8_find 25 = .ok (.iload 4, 2) := by decide +kernel
theorem dX8_find_27 : decode cX8_find 27 = .ok (.laload, 1) := by decide +kernel
theorem dX8_find_28 : decode cX8_find 28 = .ok (.lload_n 2, 1) := by decide +kernel
theorem dX8_find_29 : decode cX8_find 29 = .ok (.lcmp, 1) := by decide +kernel
theorem dX8_find_30 : decode cX8_find 30 = .ok (.ifCond .ne 6, 3) := by decide +kernel
theorem dX8_find_33 : decode cX8_find 33 = .ok (.iload 4, 2) := by decide +kernel
theorem dX8_find_35 : decode cX8_find 35 = .ok (.ireturn, 1) := by decide +kernel
theorem dX8_find_36 : decode cX8_find 36 = .ok (.iinc 4 1, 3) := by decide +kernel
theorem dX8_find_39 : decode cX8_find 39 = .ok (.goto (-27), 3) := by decide +kernel
theorem dX8_find_42 : decode cX8_find 42 = .ok (.iconst (-1), 1) := by decide +kernel
theorem dX8_find_43 : decode cX8_find 43 = .ok (.ireturn, 1) := by decide +kernel
theorem dX8_newName_0 : decode cX8_newName 0 = .ok (.aload_n 0, 1) := by decide +kernel
theorem dX8_newName_1 : decode cX8_newName 1 = .ok (.iload_n 3, 1) := by decide +kernel
theorem dX8_newName_2 : decode cX8_newName 2 = .ok (.invokevirtual 118, 3) := by decide +kernel
theorem dX8_newName_5 : decode cX8_newName 5 = .ok (.iconst (-1), 1) := by decide +kernel
theorem dX8_newName_6 : decode cX8_newName 6 = .ok (.if_icmp .eq 12, 3) := by decide +kernel
theorem dX8_newName_9 : decode cX8_newName 9 = .ok (.aload_n 0, 1) := by decide +kernel
theorem dX8_newName_10 : decode cX8_newName 10 = .ok (.iconst 3, 1) := by decide +kernel
theorem dX8_newName_11 : decode cX8_newName 11 = .ok (.iload_n 3, 1) := by decide +kernel
theorem dX8_newName_12 : decode cX8_newName 12 = .ok (.invokevirtual 93, 3) := by decide +kernel
theorem dX8_newName_15 : decode cX8_newName 15 = .ok (.goto 64, 3) := by decide +kernel
theorem dX8_newName_18 : decode cX8_newName 18 = .ok (.aload_n 0, 1) := by decide +kernel
theorem dX8_newName_19 : decode cX8_newName 19 = .ok (.getfield 22, 3) := by decide +kernel
theorem dX8_newName_22 : decode cX8_newName 22 = .ok (.bipush 32, 2) := by decide +kernel
theorem dX8_newName_24 : decode cX8_newName 24 = .ok (.if_icmp .ge 55, 3) := by decide +kernel
theorem dX8_newName_27 : decode cX8_newName 27 = .ok (.aload_n 0, 1) := by decide +kernel
theorem dX8_newName_28 : decode cX8_newName 28 = .ok (.getfield 9, 3) := by decide +kernel
theorem dX8_newName_31 : decode cX8_newName 31 = .ok (.aload_n 0, 1) := by decide +kernel
theorem dX8_newName_32 : decode cX8_newName 32 = .ok (.getfield 22, 3) := by decide +kernel
theorem dX8_newName_35 : decode cX8_newName 35 = .ok (.aload_n 0, 1) := by decide +kernel
theorem dX8_newName_36 : decode cX8_newName 36 = .ok (.getfield 32, 3) := by decide +kernel
theorem dX8_newName_39 : decode cX8_newName 39 = .ok (.iload_n 3, 1) := by decide +kernel
theorem dX8_newName_40 : decode cX8_newName 40 = .ok (.invokevirtual 114, 3) := by decide +kernel
theorem dX8_newName_43 : decode cX8_newName 43 = .ok (.lastore, 1) := by decide +kernel
theorem dX8_newName_44 : decode cX8_newName 44 = .ok (.aload_n 0, 1) := by decide +kernel
theorem dX8_newName_45 : decode cX8_newName 45 = .ok (.getfield 15, 3) := by decide +kernel
theorem dX8_newName_48 : decode cX8_newName 48 = .ok (.aload_n 0, 1) := by decide +kernel
theorem dX8_newName_49 : decode cX8_newName 49 = .ok (.getfield 22, 3) := by decide +kernel
theorem dX8_newName_52 : decode cX8_newName 52 = .ok (.iload_n 2, 1) := by decide +kernel
theorem dX8_newName_53 : decode cX8_newName 53 = .ok (.iastore, 1) := by decide +kernel
theorem dX8_newName_54 : decode cX8_newName 54 = .ok (.aload_n 0, 1) := by decide +kernel
theorem dX8_newName_55 : decode cX8_newName 55 = .ok (.getfield 19, 3) := by decide +kernel
theorem dX8_newName_58 : decode cX8_newName 58 = .ok (.aload_n 0, 1) := by decide +kernel
theorem dX8_newName_59 : decode cX8_newName 59 = .ok (.getfield 22, 3) := by decide +kernel
theorem dX8_newName_62 : decode cX8_newName 62 = .ok (.aload_n 1, 1) := by decide +kernel
theorem dX8_newName_63 : decode cX8_newName 63 = .ok (.getfield 81, 3) := by decide +kernel
theorem dX8_newName_66 : decode cX8_newName 66 = .ok (.iload_n 2, 1) := by decide +kernel
theorem dX8_newName_67 : decode cX8_newName 67 = .ok (.iaload, 1) := by decide +kernel
theorem dX8_newName_68 : decode cX8_newName 68 = .ok (.iastore, 1) := by decide +kernel
theorem dX8_newName_69 : decode cX8_newName 69 = .ok (.aload_n 0, 1) := by decide +kernel
theorem dX8_newName_70 : decode cX8_newName 70 = .ok (.dup, 1) := by decide +kernel
theorem dX8_newName_71 : decode cX8_newName 71 = .ok (.getfield 22, 3) := by decide +kernel
theorem dX8_newName_74 : decode cX8_newName 74 = .ok (.iconst 1, 1) := by decide +kernel
theorem dX8_newName_75 : decode cX8_newName 75 = .ok (.iadd, 1) := by decide +kernel
theorem dX8_newName_76 : decode cX8_newName 76 = .ok (.putfield 22, 3) := by decide +kernel
theorem dX8_newName_79 : decode cX8_newName 79 = .ok (.return_, 1) := by decide +kernel
theorem dX8_oldName_0 : decode cX8_oldName 0 = .ok (.aload_n 0, 1) := by decide +kernel
theorem dX8_oldName_1 : decode cX8_oldName 1 = .ok (.iload_n 2, 1) := by decide +kernel
theorem dX8_oldName_2 : decode cX8_oldName 2 = .ok (.invokevirtual 118, 3) := by decide +kernel
theorem dX8_oldName_5 : decode cX8_oldName 5 = .ok (.istore_n 3, 1) := by decide +kernel
theorem dX8_oldName_6 : decode cX8_oldName 6 = .ok (.iload_n 3, 1) := by decide +kernel
theorem dX8_oldName_7 : decode cX8_oldName 7 = .ok (.iconst (-1), 1) := by decide +kernel
theorem dX8_oldName_8 : decode cX8_oldName 8 = .ok (.if_icmp .eq 13, 3) := by decide +kernel
theorem dX8_oldName_11 : decode cX8_oldName 11 = .ok (.aload_n 0, 1) := by decide +kernel
theorem dX8_oldName_12 : decode cX8_oldName 12 = .ok (.getfield 15, 3) := by decide +kernel
theorem dX8_oldName_15 : decode cX8_oldName 15 = .ok (.iload_n 3, 1) := by decide +kernel
theorem dX8_oldName_16 : decode cX8_oldName 16 = .ok (.iaload, 1) := by decide +kernel
theorem dX8_oldName_17 : decode cX8_oldName 17 = .ok (.iload_n 1, 1) := by decide +kernel
theorem dX8_oldName_18 : decode cX8_oldName 18 = .ok (.if_icmp .eq 11, 3) := by decide +kernel
theorem dX8_oldName_21 : decode cX8_oldName 21 = .ok (.aload_n 0, 1) := by decide +kernel
theorem dX8_oldName_22 : decode cX8_oldName 22 = .ok (.iconst 4, 1) := by decide +kernel
theorem dX8_oldName_23 : decode cX8_oldName 23 = .ok (.iload_n 2, 1) := by decide +kernel
theorem dX8_oldName_24 : decode cX8_oldName 24 = .ok (.invokevirtual 93, 3) := by decide +kernel
theorem dX8_oldName_27 : decode cX8_oldName 27 = .ok (.iconst 0, 1) := by decide +kernel
theorem dX8_oldName_28 : decode cX8_oldName 28 = .ok (.ireturn, 1) := by decide +kernel
theorem dX8_oldName_29 : decode cX8_oldName 29 = .ok (.aload_n 0, 1) := by decide +kernel
theorem dX8_oldName_30 : decode cX8_oldName 30 = .ok (.getfield 19, 3) := by decide +kernel
theorem dX8_oldName_33 : decode cX8_oldName 33 = .ok (.iload_n 3, 1) := by decide +kernel
theorem dX8_oldName_34 : decode cX8_oldName 34 = .ok (.iaload, 1) := by decide +kernel
theorem dX8_oldName_35 : decode cX8_oldName 35 = .ok (.ireturn, 1) := by decide +kernel
theorem dX8_within_0 : decode cX8_within 0 = .ok (.aload_n 0, 1) := by decide +kernel
theorem dX8_within_1 : decode cX8_within 1 = .ok (.getfield 32, 3) := by decide +kernel
theorem dX8_within_4 : decode cX8_within 4 = .ok (.iload_n 1, 1) := by decide +kernel
theorem dX8_within_5 : decode cX8_within 5 = .ok (.invokevirtual 114, 3) := by decide +kernel
theorem dX8_within_8 : decode cX8_within 8 = .ok (.l2i, 1) := by decide +kernel
theorem dX8_within_9 : decode cX8_within 9 = .ok (.istore 4, 2) := by decide +kernel
theorem dX8_within_11 : decode cX8_within 11 = .ok (.iload 4, 2) := by decide +kernel
theorem dX8_within_13 : decode cX8_within 13 = .ok (.iload_n 2, 1) := by decide +kernel
theorem dX8_within_14 : decode cX8_within 14 = .ok (.if_icmp .lt 9, 3) := by decide +kernel
theorem dX8_within_17 : decode cX8_within 17 = .ok (.iload 4, 2) := by decide +kernel
theorem dX8_within_19 : decode cX8_within 19 = .ok (.iload_n 3, 1) := by decide +kernel
theorem dX8_within_20 : decode cX8_within 20 = .ok (.if_icmp .le 11, 3) := by decide +kernel
theorem dX8_within_23 : decode cX8_within 23 = .ok (.aload_n 0, 1) := by decide +kernel
theorem dX8_within_24 : decode cX8_within 24 = .ok (.iconst 5, 1) := by decide +kernel
theorem dX8_within_25 : decode cX8_within 25 = .ok (.iload_n 1, 1) := by decide +kernel
theorem dX8_within_26 : decode cX8_within 26 = .ok (.invokevirtual 93, 3) := by decide +kernel
theorem dX8_within_29 : decode cX8_within 29 = .ok (.iload_n 2, 1) := by decide +kernel
theorem dX8_within_30 : decode cX8_within 30 = .ok (.ireturn, 1) := by decide +kernel
theorem dX8_within_31 : decode cX8_within 31 = .ok (.iload 4, 2) := by decide +kernel
theorem dX8_within_33 : decode cX8_within 33 = .ok (.ireturn, 1) := by decide +kernel
theorem dX9_init_0 : decode cX9_init 0 = .ok (.aload_n 0, 1) := by decide +kernel
theorem dX9_init_1 : decode cX9_init 1 = .ok (.invokespecial 3, 3) := by decide +kernel
theorem dX9_init_4 : decode cX9_init 4 = .ok (.aload_n 0, 1) := by decide +kernel
theorem dX9_init_5 : decode cX9_init 5 = .ok (.sipush 402, 3) := by decide +kernel
