theorem dX11_doing_1 : decode cX11_doing 1 = .ok (.getfield 56, 3) := by decide +kernel
theorem dX11_doing_4 : decode cX11_doing 4 = .ok (.iload_n 1, 1) := by decide +kernel
theorem dX11_doing_5 : decode cX11_doing 5 = .ok (.invokevirtual 180, 3) := by decide +kernel
theorem dX11_doing_8 : decode cX11_doing 8 = .ok (.ifCond .eq 12, 3) := by decide +kernel
theorem dX11_doing_11 : decode cX11_doing 11 = .ok (.iload_n 2, 1) := by decide +kernel
theorem dX11_doing_12 : decode cX11_doing 12 = .ok (.ifCond .lt 8, 3) := by decide +kernel
theorem dX11_doing_15 : decode cX11_doing 15 = .ok (.iload_n 2, 1) := by decide +kernel
theorem dX11_doing_16 : decode cX11_doing 16 = .ok (.iconst 5, 1) := by decide +kernel
theorem dX11_doing_17 : decode cX11_doing 17 = .ok (.if_icmp .le 5, 3) := by decide +kernel
theorem dX11_doing_20 : decode cX11_doing 20 = .ok (.iconst (-1), 1) := by decide +kernel
theorem dX11_doing_21 : decode cX11_doing 21 = .ok (.ireturn, 1) := by decide +kernel
theorem dX11_doing_22 : decode cX11_doing 22 = .ok (.iload_n 2, 1) := by decide +kernel
theorem dX11_doing_23 : decode cX11_doing 23 = .ok (.iconst 5, 1) := by decide +kernel
theorem dX11_doing_24 : decode cX11_doing 24 = .ok (.if_icmp .ne 15, 3) := by decide +kernel
theorem dX11_doing_27 : decode cX11_doing 27 = .ok (.aload_n 0, 1) := by decide +kernel
theorem dX11_doing_28 : decode cX11_doing 28 = .ok (.invokevirtual 189, 3) := by decide +kernel
theorem dX11_doing_31 : decode cX11_doing 31 = .ok (.getfield 193, 3) := by decide +kernel
theorem dX11_doing_34 : decode cX11_doing 34 = .ok (.iload_n 1, 1) := by decide +kernel
theorem dX11_doing_35 : decode cX11_doing 35 = .ok (.iaload, 1) := by decide +kernel
theorem dX11_doing_36 : decode cX11_doing 36 = .ok (.goto 12, 3) := by decide +kernel
theorem dX11_doing_39 : decode cX11_doing 39 = .ok (.aload_n 0, 1) := by decide +kernel
theorem dX11_doing_40 : decode cX11_doing 40 = .ok (.getfield 56, 3) := by decide +kernel
theorem dX11_doing_43 : decode cX11_doing 43 = .ok (.iload_n 1, 1) := by decide +kernel
theorem dX11_doing_44 : decode cX11_doing 44 = .ok (.iload_n 2, 1) := by decide +kernel
theorem dX11_doing_45 : decode cX11_doing 45 = .ok (.invokevirtual 196, 3) := by decide +kernel
theorem dX11_doing_48 : decode cX11_doing 48 = .ok (.ireturn, 1) := by decide +kernel
theorem dX11_hold_0 : decode cX11_hold 0 = .ok (.aload_n 0, 1) := by decide +kernel
theorem dX11_hold_1 : decode cX11_hold 1 = .ok (.getfield 56, 3) := by decide +kernel
theorem dX11_hold_4 : decode cX11_hold 4 = .ok (.iload_n 1, 1) := by decide +kernel
theorem dX11_hold_5 : decode cX11_hold 5 = .ok (.invokevirtual 199, 3) := by decide +kernel
theorem dX11_hold_8 : decode cX11_hold 8 = .ok (.ireturn, 1) := by decide +kernel
theorem dX11_restore_0 : decode cX11_restore 0 = .ok (.aload_n 0, 1) := by decide +kernel
theorem dX11_restore_1 : decode cX11_restore 1 = .ok (.iconst 0, 1) := by decide +kernel
theorem dX11_restore_2 : decode cX11_restore 2 = .ok (.putfield 67, 3) := by decide +kernel
theorem dX11_restore_5 : decode cX11_restore 5 = .ok (.aload_n 0, 1) := by decide +kernel
theorem dX11_restore_6 : decode cX11_restore 6 = .ok (.getfield 56, 3) := by decide +kernel
theorem dX11_restore_9 : decode cX11_restore 9 = .ok (.iload_n 1, 1) := by decide +kernel
theorem dX11_restore_10 : decode cX11_restore 10 = .ok (.invokevirtual 202, 3) := by decide +kernel
theorem dX11_restore_13 : decode cX11_restore 13 = .ok (.ireturn, 1) := by decide +kernel
theorem dX11_planCourse_0 : decode cX11_planCourse 0 = .ok (.aload_n 0, 1) := by decide +kernel
theorem dX11_planCourse_1 : decode cX11_planCourse 1 = .ok (.getfield 67, 3) := by decide +kernel
theorem dX11_planCourse_4 : decode cX11_planCourse 4 = .ok (.ifCond .ne 30, 3) := by decide +kernel
theorem dX11_planCourse_7 : decode cX11_planCourse 7 = .ok (.aload_n 0, 1) := by decide +kernel
theorem dX11_planCourse_8 : decode cX11_planCourse 8 = .ok (.getfield 63, 3) := by decide +kernel
theorem dX11_planCourse_11 : decode cX11_planCourse 11 = .ok (.invokevirtual 205, 3) := by decide +kernel
theorem dX11_planCourse_14 : decode cX11_planCourse 14 = .ok (.aload_n 0, 1) := by decide +kernel
theorem dX11_planCourse_15 : decode cX11_planCourse 15 = .ok (.getfield 63, 3) := by decide +kernel
theorem dX11_planCourse_18 : decode cX11_planCourse 18 = .ok (.aload_n 0, 1) := by decide +kernel
theorem dX11_planCourse_19 : decode cX11_planCourse 19 = .ok (.getfield 46, 3) := by decide +kernel
theorem dX11_planCourse_22 : decode cX11_planCourse 22 = .ok (.aload_n 0, 1) := by decide +kernel
theorem dX11_planCourse_23 : decode cX11_planCourse 23 = .ok (.getfield 56, 3) := by decide +kernel
theorem dX11_planCourse_26 : decode cX11_planCourse 26 = .ok (.invokevirtual 208, 3) := by decide +kernel
theorem dX11_planCourse_29 : decode cX11_planCourse 29 = .ok (.aload_n 0, 1) := by decide +kernel
theorem dX11_planCourse_30 : decode cX11_planCourse 30 = .ok (.iconst 1, 1) := by decide +kernel
theorem dX11_planCourse_31 : decode cX11_planCourse 31 = .ok (.putfield 67, 3) := by decide +kernel
theorem dX11_planCourse_34 : decode cX11_planCourse 34 = .ok (.aload_n 0, 1) := by decide +kernel
theorem dX11_planCourse_35 : decode cX11_planCourse 35 = .ok (.getfield 63, 3) := by decide +kernel
theorem dX11_planCourse_38 : decode cX11_planCourse 38 = .ok (.areturn, 1) := by decide +kernel
theorem dX11_judge_0 : decode cX11_judge 0 = .ok (.aload_n 0, 1) := by decide +kernel
theorem dX11_judge_1 : decode cX11_judge 1 = .ok (.invokevirtual 189, 3) := by decide +kernel
theorem dX11_judge_4 : decode cX11_judge 4 = .ok (.aload_n 0, 1) := by decide +kernel
theorem dX11_judge_5 : decode cX11_judge 5 = .ok (.getfield 56, 3) := by decide +kernel
theorem dX11_judge_8 : decode cX11_judge 8 = .ok (.invokevirtual 212, 3) := by decide +kernel
theorem dX11_judge_11 : decode cX11_judge 11 = .ok (.ireturn, 1) := by decide +kernel
theorem dX11_cost_0 : decode cX11_cost 0 = .ok (.aload_n 0, 1) := by decide +kernel
theorem dX11_cost_1 : decode cX11_cost 1 = .ok (.invokevirtual 189, 3) := by decide +kernel
theorem dX11_cost_4 : decode cX11_cost 4 = .ok (.getfield 216, 3) := by decide +kernel
theorem dX11_cost_7 : decode cX11_cost 7 = .ok (.ireturn, 1) := by decide +kernel
theorem dX11_knows_0 : decode cX11_knows 0 = .ok (.aload_n 0, 1) := by decide +kernel
theorem dX11_knows_1 : decode cX11_knows 1 = .ok (.iconst 1, 1) := by decide +kernel
theorem dX11_knows_2 : decode cX11_knows 2 = .ok (.iload_n 1, 1) := by decide +kernel
theorem dX11_knows_3 : decode cX11_knows 3 = .ok (.invokevirtual 141, 3) := by decide +kernel
theorem dX11_knows_6 : decode cX11_knows 6 = .ok (.ifCond .eq 10, 3) := by decide +kernel
theorem dX11_knows_9 : decode cX11_knows 9 = .ok (.iload_n 2, 1) := by decide +kernel
theorem dX11_knows_10 : decode cX11_knows 10 = .ok (.invokestatic 219, 3) := by decide +kernel
theorem dX11_knows_13 : decode cX11_knows 13 = .ok (.ifCond .ne 5, 3) := by decide +kernel
theorem dX11_knows_16 : decode cX11_knows 16 = .ok (.iconst (-1), 1) := by decide +kernel
theorem dX11_knows_17 : decode cX11_knows 17 = .ok (.ireturn, 1) := by decide +kernel
theorem dX11_knows_18 : decode cX11_knows 18 = .ok (.aload_n 0, 1) := by decide +kernel
theorem dX11_knows_19 : decode cX11_knows 19 = .ok (.invokevirtual 189, 3) := by decide +kernel
theorem dX11_knows_22 : decode cX11_knows 22 = .ok (.getfield 222, 3) := by decide +kernel
theorem dX11_knows_25 : decode cX11_knows 25 = .ok (.iload_n 1, 1) := by decide +kernel
theorem dX11_knows_26 : decode cX11_knows 26 = .ok (.iload_n 2, 1) := by decide +kernel
theorem dX11_knows_27 : decode cX11_knows 27 = .ok (.invokevirtual 226, 3) := by decide +kernel
theorem dX11_knows_30 : decode cX11_knows 30 = .ok (.ireturn, 1) := by decide +kernel
theorem dX11_when_0 : decode cX11_when 0 = .ok (.aload_n 0, 1) := by decide +kernel
theorem dX11_when_1 : decode cX11_when 1 = .ok (.iconst 1, 1) := by decide +kernel
theorem dX11_when_2 : decode cX11_when 2 = .ok (.iload_n 1, 1) := by decide +kernel
theorem dX11_when_3 : decode cX11_when 3 = .ok (.invokevirtual 141, 3) := by decide +kernel
theorem dX11_when_6 : decode cX11_when 6 = .ok (.ifCond .eq 12, 3) := by decide +kernel
theorem dX11_when_9 : decode cX11_when 9 = .ok (.aload_n 0, 1) := by decide +kernel
theorem dX11_when_10 : decode cX11_when 10 = .ok (.iconst 2, 1) := by decide +kernel
theorem dX11_when_11 : decode cX11_when 11 = .ok (.iload_n 2, 1) := by decide +kernel
theorem dX11_when_12 : decode cX11_when 12 = .ok (.invokevirtual 141, 3) := by decide +kernel
theorem dX11_when_15 : decode cX11_when 15 = .ok (.ifCond .ne 5, 3) := by decide +kernel
theorem dX11_when_18 : decode cX11_when 18 = .ok (.iconst (-1), 1) := by decide +kernel
theorem dX11_when_19 : decode cX11_when 19 = .ok (.ireturn, 1) := by decide +kernel
theorem dX11_when_20 : decode cX11_when 20 = .ok (.aload_n 0, 1) := by decide +kernel
theorem dX11_when_21 : decode cX11_when 21 = .ok (.invokevirtual 189, 3) := by decide +kernel
theorem dX11_when_24 : decode cX11_when 24 = .ok (.getfield 222, 3) := by decide +kernel
theorem dX11_when_27 : decode cX11_when 27 = .ok (.iload_n 1, 1) := by decide +kernel
theorem dX11_when_28 : decode cX11_when 28 = .ok (.iload_n 2, 1) := by decide +kernel
theorem dX11_when_29 : decode cX11_when 29 = .ok (.invokevirtual 231, 3) := by decide +kernel
theorem dX11_when_32 : decode cX11_when 32 = .ok (.invokestatic 234, 3) := by decide +kernel
theorem dX11_when_35 : decode cX11_when 35 = .ok (.ireturn, 1) := by decide +kernel
theorem dX11_orNever_0 : decode cX11_orNever 0 = .ok (.iload_n 0, 1) := by decide +kernel
theorem dX11_orNever_1 : decode cX11_orNever 1 = .ok (.bipush 24, 2) := by decide +kernel
theorem dX11_orNever_3 : decode cX11_orNever 3 = .ok (.if_icmp .le 8, 3) := by decide +kernel
theorem dX11_orNever_6 : decode cX11_orNever 6 = .ok (.bipush (-2), 2) := by decide +kernel
theorem dX11_orNever_8 : decode cX11_orNever 8 = .ok (.goto 4, 3) := by decide +kernel
theorem dX11_orNever_11 : decode cX11_orNever 11 = .ok (.iload_n 0, 1) := by decide +kernel
theorem dX11_orNever_12 : decode cX11_orNever 12 = .ok (.ireturn, 1) := by decide +kernel
theorem dX11_seen_0 : decode cX11_seen 0 = .ok (.aload_n 0, 1) := by decide +kernel
theorem dX11_seen_1 : decode cX11_seen 1 = .ok (.iload_n 1, 1) := by decide +kernel
theorem dX11_seen_2 : decode cX11_seen 2 = .ok (.iload_n 2, 1) := by decide +kernel
theorem dX11_seen_3 : decode cX11_seen 3 = .ok (.invokevirtual 159, 3) := by decide +kernel
theorem dX11_seen_6 : decode cX11_seen 6 = .ok (.ifCond .eq 10, 3) := by decide +kernel
theorem dX11_seen_9 : decode cX11_seen 9 = .ok (.iload_n 3, 1) := by decide +kernel
theorem dX11_seen_10 : decode cX11_seen 10 = .ok (.invokestatic 219, 3) := by decide +kernel
theorem dX11_seen_13 : decode cX11_seen 13 = .ok (.ifCond .ne 5, 3) := by decide +kernel
theorem dX11_seen_16 : decode cX11_seen 16 = .ok (.iconst (-1), 1) := by decide +kernel
theorem dX11_seen_17 : decode cX11_seen 17 = .ok (.ireturn, 1) := by decide +kernel
theorem dX11_seen_18 : decode cX11_seen 18 = .ok (.aload_n 0, 1) := by decide +kernel
theorem dX11_seen_19 : decode cX11_seen 19 = .ok (.invokevirtual 189, 3) := by decide +kernel
theorem dX11_seen_22 : decode cX11_seen 22 = .ok (.iload_n 1, 1) := by decide +kernel
theorem dX11_seen_23 : decode cX11_seen 23 = .ok (.iload_n 2, 1) := by decide +kernel
theorem dX11_seen_24 : decode cX11_seen 24 = .ok (.iload_n 3, 1) := by decide +kernel
theorem dX11_seen_25 : decode cX11_seen 25 = .ok (.invokevirtual 237, 3) := by decide +kernel
theorem dX11_seen_28 : decode cX11_seen 28 = .ok (.ireturn, 1) := by decide +kernel
theorem dX11_lost_0 : decode cX11_lost 0 = .ok (.aload_n 0, 1) := by decide +kernel
theorem dX11_lost_1 : decode cX11_lost 1 = .ok (.iconst 1, 1) := by decide +kernel
theorem dX11_lost_2 : decode cX11_lost 2 = .ok (.iload_n 1, 1) := by decide +kernel
theorem dX11_lost_3 : decode cX11_lost 3 = .ok (.invokevirtual 141, 3) := by decide +kernel
theorem dX11_lost_6 : decode cX11_lost 6 = .ok (.ifCond .eq 10, 3) := by decide +kernel
theorem dX11_lost_9 : decode cX11_lost 9 = .ok (.iload_n 2, 1) := by decide +kernel
theorem dX11_lost_10 : decode cX11_lost 10 = .ok (.invokestatic 219, 3) := by decide +kernel
theorem dX11_lost_13 : decode cX11_lost 13 = .ok (.ifCond .ne 5, 3) := by decide +kernel
theorem dX11_lost_16 : decode cX11_lost 16 = .ok (.iconst (-1), 1) := by decide +kernel
theorem dX11_lost_17 : decode cX11_lost 17 = .ok (.ireturn, 1) := by decide +kernel
theorem dX11_lost_18 : decode cX11_lost 18 = .ok (.aload_n 0, 1) := by decide +kernel
theorem dX11_lost_19 : decode cX11_lost 19 = .ok (.aload_n 0, 1) := by decide +kernel
theorem dX11_lost_20 : decode cX11_lost 20 = .ok (.invokevirtual 189, 3) := by decide +kernel
theorem dX11_lost_23 : decode cX11_lost 23 = .ok (.getfield 222, 3) := by decide +kernel
theorem dX11_lost_26 : decode cX11_lost 26 = .ok (.iload_n 1, 1) := by decide +kernel
theorem dX11_lost_27 : decode cX11_lost 27 = .ok (.iload_n 2, 1) := by decide +kernel
theorem dX11_lost_28 : decode cX11_lost 28 = .ok (.invokevirtual 241, 3) := by decide +kernel
theorem dX11_lost_31 : decode cX11_lost 31 = .ok (.ireturn, 1) := by decide +kernel
theorem dX11_onlyWith_0 : decode cX11_onlyWith 0 = .ok (.aload_n 1, 1) := by decide +kernel
theorem dX11_onlyWith_1 : decode cX11_onlyWith 1 = .ok (.iload_n 2, 1) := by decide +kernel
theorem dX11_onlyWith_2 : decode cX11_onlyWith 2 = .ok (.iload_n 3, 1) := by decide +kernel
theorem dX11_onlyWith_3 : decode cX11_onlyWith 3 = .ok (.invokevirtual 226, 3) := by decide +kernel
theorem dX11_onlyWith_6 : decode cX11_onlyWith 6 = .ok (.istore 4, 2) := by decide +kernel
theorem dX11_onlyWith_8 : decode cX11_onlyWith 8 = .ok (.iconst 0, 1) := by decide +kernel
theorem dX11_onlyWith_9 : decode cX11_onlyWith 9 = .ok (.istore 5, 2) := by decide +kernel
theorem dX11_onlyWith_11 : decode cX11_onlyWith 11 = .ok (.iload 5, 2) := by decide +kernel
theorem dX11_onlyWith_13 : decode cX11_onlyWith 13 = .ok (.aload_n 0, 1) := by decide +kernel
theorem dX11_onlyWith_14 : decode cX11_onlyWith 14 = .ok (.getfield 46, 3) := by decide +kernel
theorem dX11_onlyWith_17 : decode cX11_onlyWith 17 = .ok (.getfield 137, 3) := by decide +kernel
theorem dX11_onlyWith_20 : decode cX11_onlyWith 20 = .ok (.iconst 1, 1) := by decide +kernel
theorem dX11_onlyWith_21 : decode cX11_onlyWith 21 = .ok (.iaload, 1) := by decide +kernel
theorem dX11_onlyWith_22 : decode cX11_onlyWith 22 = .ok (.if_icmp .ge 29, 3) := by decide +kernel
theorem dX11_onlyWith_25 : decode cX11_onlyWith 25 = .ok (.iload 5, 2) := by decide +kernel
theorem dX11_onlyWith_27 : decode cX11_onlyWith 27 = .ok (.iload_n 2, 1) := by decide +kernel
theorem dX11_onlyWith_28 : decode cX11_onlyWith 28 = .ok (.if_icmp .eq 17, 3) := by decide +kernel
theorem dX11_onlyWith_31 : decode cX11_onlyWith 31 = .ok (.iload 4, 2) := by decide +kernel
theorem dX11_onlyWith_33 : decode cX11_onlyWith 33 = .ok (.aload_n 1, 1) := by decide +kernel
theorem dX11_onlyWith_34 : decode cX11_onlyWith 34 = .ok (.iload 5, 2) := by decide +kernel
theorem dX11_onlyWith_36 : decode cX11_onlyWith 36 = .ok (.iload_n 3, 1) := by decide +kernel
theorem dX11_onlyWith_37 : decode cX11_onlyWith 37 = .ok (.invokevirtual 226, 3) := by decide +kernel
theorem dX11_onlyWith_40 : decode cX11_onlyWith 40 = .ok (.iconst (-1), 1) := by decide +kernel
theorem dX11_onlyWith_41 : decode cX11_onlyWith 41 = .ok (.ixor, 1) := by decide +kernel
theorem dX11_onlyWith_42 : decode cX11_onlyWith 42 = .ok (.iand, 1) := by decide +kernel
theorem dX11_onlyWith_43 : decode cX11_onlyWith 43 = .ok (.istore 4, 2) := by decide +kernel
theorem dX11_onlyWith_45 : decode cX11_onlyWith 45 = .ok (.iinc 5 1, 3) := by decide +kernel
theorem dX11_onlyWith_48 : decode cX11_onlyWith 48 = .ok (.goto (-37), 3) := by decide +kernel
theorem dX11_onlyWith_51 : decode cX11_onlyWith 51 = .ok (.iload 4, 2) := by decide +kernel
theorem dX11_onlyWith_53 : decode cX11_onlyWith 53 = .ok (.ireturn, 1) := by decide +kernel
theorem dX11_before_0 : decode cX11_before 0 = .ok (.aload_n 0, 1) := by decide +kernel
theorem dX11_before_1 : decode cX11_before 1 = .ok (.iconst 1, 1) := by decide +kernel
theorem dX11_before_2 : decode cX11_before 2 = .ok (.iload_n 1, 1) := by decide +kernel
theorem dX11_before_3 : decode cX11_before 3 = .ok (.invokevirtual 141, 3) := by decide +kernel
theorem dX11_before_6 : decode cX11_before 6 = .ok (.ifCond .eq 10, 3) := by decide +kernel
theorem dX11_before_9 : decode cX11_before 9 = .ok (.iload_n 2, 1) := by decide +kernel
theorem dX11_before_10 : decode cX11_before 10 = .ok (.invokestatic 219, 3) := by decide +kernel
theorem dX11_before_13 : decode cX11_before 13 = .ok (.ifCond .ne 5, 3) := by decide +kernel
theorem dX11_before_16 : decode cX11_before 16 = .ok (.iconst (-1), 1) := by decide +kernel
theorem dX11_before_17 : decode cX11_before 17 = .ok (.ireturn, 1) := by decide +kernel
theorem dX11_before_18 : decode cX11_before 18 = .ok (.aload_n 0, 1) := by decide +kernel
theorem dX11_before_19 : decode cX11_before 19 = .ok (.aload_n 0, 1) := by decide +kernel
theorem dX11_before_20 : decode cX11_before 20 = .ok (.invokevirtual 189, 3) := by decide +kernel
theorem dX11_before_23 : decode cX11_before 23 = .ok (.getfield 222, 3) := by decide +kernel
theorem dX11_before_26 : decode cX11_before 26 = .ok (.iload_n 1, 1) := by decide +kernel
theorem dX11_before_27 : decode cX11_before 27 = .ok (.iload_n 2, 1) := by decide +kernel
theorem dX11_before_28 : decode cX11_before 28 = .ok (.invokevirtual 241, 3) := by decide +kernel
theorem dX11_before_31 : decode cX11_before 31 = .ok (.istore_n 3, 1) := by decide +kernel
theorem dX11_before_32 : decode cX11_before 32 = .ok (.bipush (-2), 2) := by decide +kernel
theorem dX11_before_34 : decode cX11_before 34 = .ok (.istore 4, 2) := by decide +kernel
theorem dX11_before_36 : decode cX11_before 36 = .ok (.iconst 0, 1) := by decide +kernel
theorem dX11_before_37 : decode cX11_before 37 = .ok (.istore 5, 2) := by decide +kernel
theorem dX11_before_39 : decode cX11_before 39 = .ok (.iload 5, 2) := by decide +kernel
theorem dX11_before_41 : decode cX11_before 41 = .ok (.aload_n 0, 1) := by decide +kernel
theorem dX11_before_42 : decode cX11_before 42 = .ok (.getfield 46, 3) := by decide +kernel
theorem dX11_before_45 : decode cX11_before 45 = .ok (.getfield 137, 3) := by decide +kernel
theorem dX11_before_48 : decode cX11_before 48 = .ok (.iconst 2, 1) := by decide +kernel
theorem dX11_before_49 : decode cX11_before 49 = .ok (.iaload, 1) := by decide +kernel
theorem dX11_before_50 : decode cX11_before 50 = .ok (.if_icmp .ge 64, 3) := by decide +kernel
theorem dX11_before_53 : decode cX11_before 53 = .ok (.iload 4, 2) := by decide +kernel
theorem dX11_before_55 : decode cX11_before 55 = .ok (.bipush (-2), 2) := by decide +kernel
theorem dX11_before_57 : decode cX11_before 57 = .ok (.if_icmp .eq 26, 3) := by decide +kernel
theorem dX11_before_60 : decode cX11_before 60 = .ok (.aload_n 0, 1) := by decide +kernel
theorem dX11_before_61 : decode cX11_before 61 = .ok (.getfield 46, 3) := by decide +kernel
theorem dX11_before_64 : decode cX11_before 64 = .ok (.getfield 245, 3) := by decide +kernel
theorem dX11_before_67 : decode cX11_before 67 = .ok (.iload 5, 2) := by decide +kernel
theorem dX11_before_69 : decode cX11_before 69 = .ok (.iaload, 1) := by decide +kernel
theorem dX11_before_70 : decode cX11_before 70 = .ok (.aload_n 0, 1) := by decide +kernel
theorem dX11_before_71 : decode cX11_before 71 = .ok (.getfield 46, 3) := by decide +kernel
theorem dX11_before_74 : decode cX11_before 74 = .ok (.getfield 245, 3) := by decide +kernel
theorem dX11_before_77 : decode cX11_before 77 = .ok (.iload 4, 2) := by decide +kernel
theorem dX11_before_79 : decode cX11_before 79 = .ok (.iaload, 1) := by decide +kernel
theorem dX11_before_80 : decode cX11_before 80 = .ok (.if_icmp .le 7, 3) := by decide +kernel
theorem dX11_before_83 : decode cX11_before 83 = .ok (.iconst 1, 1) := by decide +kernel
theorem dX11_before_84 : decode cX11_before 84 = .ok (.goto 4, 3) := by decide +kernel
theorem dX11_before_87 : decode cX11_before 87 = .ok (.iconst 0, 1) := by decide +kernel
theorem dX11_before_88 : decode cX11_before 88 = .ok (.istore 6, 2) := by decide +kernel
theorem dX11_before_90 : decode cX11_before 90 = .ok (.iload_n 3, 1) := by decide +kernel
theorem dX11_before_91 : decode cX11_before 91 = .ok (.iload 5, 2) := by decide +kernel
theorem dX11_before_93 : decode cX11_before 93 = .ok (.invokestatic 248, 3) := by decide +kernel
theorem dX11_before_96 : decode cX11_before 96 = .ok (.ifCond .eq 12, 3) := by decide +kernel
theorem dX11_before_99 : decode cX11_before 99 = .ok (.iload 6, 2) := by decide +kernel
theorem dX11_before_101 : decode cX11_before 101 = .ok (.ifCond .eq 7, 3) := by decide +kernel
theorem dX11_before_104 : decode cX11_before 104 = .ok (.iload 5, 2) := by decide +kernel
theorem dX11_before_106 : decode cX11_before 106 = .ok (.istore 4, 2) := by decide +kernel
theorem dX11_before_108 : decode cX11_before 108 = .ok (.iinc 5 1, 3) := by decide +kernel
theorem dX11_before_111 : decode cX11_before 111 = .ok (.goto (-72), 3) := by decide +kernel
theorem dX11_before_114 : decode cX11_before 114 = .ok (.iload 4, 2) := by decide +kernel
theorem dX11_before_116 : decode cX11_before 116 = .ok (.ireturn, 1) := by decide +kernel
theorem dX11_missed_0 : decode cX11_missed 0 = .ok (.aload_n 0, 1) := by decide +kernel
theorem dX11_missed_1 : decode cX11_missed 1 = .ok (.invokevirtual 189, 3) := by decide +kernel
theorem dX11_missed_4 : decode cX11_missed 4 = .ok (.getfield 222, 3) := by decide +kernel
theorem dX11_missed_7 : decode cX11_missed 7 = .ok (.astore_n 2, 1) := by decide +kernel
theorem dX11_missed_8 : decode cX11_missed 8 = .ok (.iconst 0, 1) := by decide +kernel
theorem dX11_missed_9 : decode cX11_missed 9 = .ok (.istore_n 3, 1) := by decide +kernel
theorem dX11_missed_10 : decode cX11_missed 10 = .ok (.iconst 0, 1) := by decide +kernel
theorem dX11_missed_11 : decode cX11_missed 11 = .ok (.istore 4, 2) := by decide +kernel
theorem dX11_missed_13 : decode cX11_missed 13 = .ok (.iload 4, 2) := by decide +kernel
theorem dX11_missed_15 : decode cX11_missed 15 = .ok (.aload_n 0, 1) := by decide +kernel
theorem dX11_missed_16 : decode cX11_missed 16 = .ok (.getfield 46, 3) := by decide +kernel
theorem dX11_missed_19 : decode cX11_missed 19 = .ok (.getfield 137, 3) := by decide +kernel
theorem dX11_missed_22 : decode cX11_missed 22 = .ok (.bipush 6, 2) := by decide +kernel
theorem dX11_missed_24 : decode cX11_missed 24 = .ok (.iaload, 1) := by decide +kernel
theorem dX11_missed_25 : decode cX11_missed 25 = .ok (.if_icmp .ge 33, 3) := by decide +kernel
theorem dX11_missed_28 : decode cX11_missed 28 = .ok (.aload_n 2, 1) := by decide +kernel
theorem dX11_missed_29 : decode cX11_missed 29 = .ok (.aload_n 0, 1) := by decide +kernel
theorem dX11_missed_30 : decode cX11_missed 30 = .ok (.getfield 46, 3) := by decide +kernel
theorem dX11_missed_33 : decode cX11_missed 33 = .ok (.iload 4, 2) := by decide +kernel
theorem dX11_missed_35 : decode cX11_missed 35 = .ok (.invokevirtual 251, 3) := by decide +kernel
theorem dX11_missed_38 : decode cX11_missed 38 = .ok (.ifCond .eq 14, 3) := by decide +kernel
theorem dX11_missed_41 : decode cX11_missed 41 = .ok (.iload_n 3, 1) := by decide +kernel
theorem dX11_missed_42 : decode cX11_missed 42 = .ok (.iload_n 1, 1) := by decide +kernel
theorem dX11_missed_43 : decode cX11_missed 43 = .ok (.if_icmp .ne 6, 3) := by decide +kernel
theorem dX11_missed_46 : decode cX11_missed 46 = .ok (.iload 4, 2) := by decide +kernel
theorem dX11_missed_48 : decode cX11_missed 48 = .ok (.ireturn, 1) := by decide +kernel
theorem dX11_missed_49 : decode cX11_missed 49 = .ok (.iinc 3 1, 3) := by decide +kernel
theorem dX11_missed_52 : decode cX11_missed 52 = .ok (.iinc 4 1, 3) := by decide +kernel
theorem dX11_missed_55 : decode cX11_missed 55 = .ok (.goto (-42), 3) := by decide +kernel
theorem dX11_missed_58 : decode cX11_missed 58 = .ok (.iload_n 1, 1) := by decide +kernel
theorem dX11_missed_59 : decode cX11_missed 59 = .ok (.iconst (-1), 1) := by decide +kernel
theorem dX11_missed_60 : decode cX11_missed 60 = .ok (.if_icmp .ne 7, 3) := by decide +kernel
theorem dX11_missed_63 : decode cX11_missed 63 = .ok (.iload_n 3, 1) := by decide +kernel
theorem dX11_missed_64 : decode cX11_missed 64 = .ok (.goto 4, 3) := by decide +kernel
theorem dX11_missed_67 : decode cX11_missed 67 = .ok (.iconst (-1), 1) := by decide +kernel
theorem dX11_missed_68 : decode cX11_missed 68 = .ok (.ireturn, 1) := by decide +kernel
theorem dX11_harm_0 : decode cX11_harm 0 = .ok (.aload_n 0, 1) := by decide +kernel
theorem dX11_harm_1 : decode cX11_harm 1 = .ok (.invokevirtual 189, 3) := by decide +kernel
theorem dX11_harm_4 : decode cX11_harm 4 = .ok (.getfield 222, 3) := by decide +kernel
theorem dX11_harm_7 : decode cX11_harm 7 = .ok (.aload_n 0, 1) := by decide +kernel
theorem dX11_harm_8 : decode cX11_harm 8 = .ok (.getfield 46, 3) := by decide +kernel
theorem dX11_harm_11 : decode cX11_harm 11 = .ok (.invokevirtual 255, 3) := by decide +kernel
theorem dX11_harm_14 : decode cX11_harm 14 = .ok (.ireturn, 1) := by decide +kernel
theorem dX11_rank_0 : decode cX11_rank 0 = .ok (.iload_n 1, 1) := by decide +kernel
theorem dX11_rank_1 : decode cX11_rank 1 = .ok (.invokestatic 219, 3) := by decide +kernel
theorem dX11_rank_4 : decode cX11_rank 4 = .ok (.ifCond .eq 12, 3) := by decide +kernel
theorem dX11_rank_7 : decode cX11_rank 7 = .ok (.aload_n 0, 1) := by decide +kernel
theorem dX11_rank_8 : decode cX11_rank 8 = .ok (.iconst 1, 1) := by decide +kernel
theorem dX11_rank_9 : decode cX11_rank 9 = .ok (.iload_n 2, 1) := by decide +kernel
theorem dX11_rank_10 : decode cX11_rank 10 = .ok (.invokevirtual 141, 3) := by decide +kernel
theorem dX11_rank_13 : decode cX11_rank 13 = .ok (.ifCond .ne 5, 3) := by decide +kernel
theorem dX11_rank_16 : decode cX11_rank 16 = .ok (.iconst (-1), 1) := by decide +kernel
theorem dX11_rank_17 : decode cX11_rank 17 = .ok (.ireturn, 1) := by decide +kernel
theorem dX11_rank_18 : decode cX11_rank 18 = .ok (.aload_n 0, 1) := by decide +kernel
theorem dX11_rank_19 : decode cX11_rank 19 = .ok (.invokevirtual 189, 3) := by decide +kernel
theorem dX11_rank_22 : decode cX11_rank 22 = .ok (.getfield 222, 3) := by decide +kernel
theorem dX11_rank_25 : decode cX11_rank 25 = .ok (.astore_n 3, 1) := by decide +kernel
theorem dX11_rank_26 : decode cX11_rank 26 = .ok (.iconst 0, 1) := by decide +kernel
theorem dX11_rank_27 : decode cX11_rank 27 = .ok (.istore 4, 2) := by decide +kernel
theorem dX11_rank_29 : decode cX11_rank 29 = .ok (.iload 4, 2) := by decide +kernel
theorem dX11_rank_31 : decode cX11_rank 31 = .ok (.aload_n 0, 1) := by decide +kernel
theorem dX11_rank_32 : decode cX11_rank 32 = .ok (.getfield 46, 3) := by decide +kernel
theorem dX11_rank_35 : decode cX11_rank 35 = .ok (.getfield 137, 3) := by decide +kernel
theorem dX11_rank_38 : decode cX11_rank 38 = .ok (.iconst 1, 1) := by decide +kernel
theorem dX11_rank_39 : decode cX11_rank 39 = .ok (.iaload, 1) := by decide +kernel
theorem dX11_rank_40 : decode cX11_rank 40 = .ok (.if_icmp .ge 24, 3) := by decide +kernel
theorem dX11_rank_43 : decode cX11_rank 43 = .ok (.aload_n 0, 1) := by decide +kernel
theorem dX11_rank_44 : decode cX11_rank 44 = .ok (.aload_n 3, 1) := by decide +kernel
theorem dX11_rank_45 : decode cX11_rank 45 = .ok (.iload 4, 2) := by decide +kernel
theorem dX11_rank_47 : decode cX11_rank 47 = .ok (.iload_n 1, 1) := by decide +kernel
theorem dX11_rank_48 : decode cX11_rank 48 = .ok (.invokevirtual 258, 3) := by decide +kernel
theorem dX11_rank_51 : decode cX11_rank 51 = .ok (.iload_n 2, 1) := by decide +kernel
theorem dX11_rank_52 : decode cX11_rank 52 = .ok (.if_icmp .ne 6, 3) := by decide +kernel
theorem dX11_rank_55 : decode cX11_rank 55 = .ok (.iload 4, 2) := by decide +kernel
theorem dX11_rank_57 : decode cX11_rank 57 = .ok (.ireturn, 1) := by decide +kernel
theorem dX11_rank_58 : decode cX11_rank 58 = .ok (.iinc 4 1, 3) := by decide +kernel
theorem dX11_rank_61 : decode cX11_rank 61 = .ok (.goto (-32), 3) := by decide +kernel
theorem dX11_rank_64 : decode cX11_rank 64 = .ok (.iconst (-1), 1) := by decide +kernel
theorem dX11_rank_65 : decode cX11_rank 65 = .ok (.ireturn, 1) := by decide +kernel
theorem dX11_knowMore_0 : decode cX11_knowMore 0 = .ok (.aload_n 1, 1) := by decide +kernel
theorem dX11_knowMore_1 : decode cX11_knowMore 1 = .ok (.iload_n 2, 1) := by decide +kernel
theorem dX11_knowMore_2 : decode cX11_knowMore 2 = .ok (.iload_n 3, 1) := by decide +kernel
theorem dX11_knowMore_3 : decode cX11_knowMore 3 = .ok (.invokevirtual 226, 3) := by decide +kernel
theorem dX11_knowMore_6 : decode cX11_knowMore 6 = .ok (.invokestatic 261, 3) := by decide +kernel
theorem dX11_knowMore_9 : decode cX11_knowMore 9 = .ok (.istore 4, 2) := by decide +kernel
theorem dX11_knowMore_11 : decode cX11_knowMore 11 = .ok (.iconst 0, 1) := by decide +kernel
theorem dX11_knowMore_12 : decode cX11_knowMore 12 = .ok (.istore 5, 2) := by decide +kernel
theorem dX11_knowMore_14 : decode cX11_knowMore 14 = .ok (.iconst 0, 1) := by decide +kernel
theorem dX11_knowMore_15 : decode cX11_knowMore 15 = .ok (.istore 6, 2) := by decide +kernel
theorem dX11_knowMore_17 : decode cX11_knowMore 17 = .ok (.iload 6, 2) := by decide +kernel
theorem dX11_knowMore_19 : decode cX11_knowMore 19 = .ok (.aload_n 0, 1) := by decide +kernel
theorem dX11_knowMore_20 : decode cX11_knowMore 20 = .ok (.getfield 46, 3) := by decide +kernel
theorem dX11_knowMore_23 : decode cX11_knowMore 23 = .ok (.getfield 137, 3) := by decide +kernel
theorem dX11_knowMore_26 : decode cX11_knowMore 26 = .ok (.iconst 1, 1) := by decide +kernel
theorem dX11_knowMore_27 : decode cX11_knowMore 27 = .ok (.iaload, 1) := by decide +kernel
theorem dX11_knowMore_28 : decode cX11_knowMore 28 = .ok (.if_icmp .ge 52, 3) := by decide +kernel
theorem dX11_knowMore_31 : decode cX11_knowMore 31 = .ok (.aload_n 1, 1) := by decide +kernel
theorem dX11_knowMore_32 : decode cX11_knowMore 32 = .ok (.iload 6, 2) := by decide +kernel
theorem dX11_knowMore_34 : decode cX11_knowMore 34 = .ok (.iload_n 3, 1) := by decide +kernel
theorem dX11_knowMore_35 : decode cX11_knowMore 35 = .ok (.invokevirtual 226, 3) := by decide +kernel
theorem dX11_knowMore_38 : decode cX11_knowMore 38 = .ok (.invokestatic 261, 3) := by decide +kernel
theorem dX11_knowMore_41 : decode cX11_knowMore 41 = .ok (.istore 7, 2) := by decide +kernel
theorem dX11_knowMore_43 : decode cX11_knowMore 43 = .ok (.iload 7, 2) := by decide +kernel
theorem dX11_knowMore_45 : decode cX11_knowMore 45 = .ok (.iload 4, 2) := by decide +kernel
theorem dX11_knowMore_47 : decode cX11_knowMore 47 = .ok (.if_icmp .gt 24, 3) := by decide +kernel
theorem dX11_knowMore_50 : decode cX11_knowMore 50 = .ok (.iload 7, 2) := by decide +kernel
theorem dX11_knowMore_52 : decode cX11_knowMore 52 = .ok (.iload 4, 2) := by decide +kernel
theorem dX11_knowMore_54 : decode cX11_knowMore 54 = .ok (.if_icmp .ne 20, 3) := by decide +kernel
theorem dX11_knowMore_57 : decode cX11_knowMore 57 = .ok (.aload_n 0, 1) := by decide +kernel
theorem dX11_knowMore_58 : decode cX11_knowMore 58 = .ok (.getfield 46, 3) := by decide +kernel
theorem dX11_knowMore_61 : decode cX11_knowMore 61 = .ok (.iload 6, 2) := by decide +kernel
theorem dX11_knowMore_63 : decode cX11_knowMore 63 = .ok (.iload_n 2, 1) := by decide +kernel
theorem dX11_knowMore_64 : decode cX11_knowMore 64 = .ok (.iload_n 3, 1) := by decide +kernel
theorem dX11_knowMore_65 : decode cX11_knowMore 65 = .ok (.invokevirtual 266, 3) := by decide +kernel
theorem dX11_knowMore_68 : decode cX11_knowMore 68 = .ok (.ifCond .eq 6, 3) := by decide +kernel
theorem dX11_knowMore_71 : decode cX11_knowMore 71 = .ok (.iinc 5 1, 3) := by decide +kernel
theorem dX11_knowMore_74 : decode cX11_knowMore 74 = .ok (.iinc 6 1, 3) := by decide +kernel
theorem dX11_knowMore_77 : decode cX11_knowMore 77 = .ok (.goto (-60), 3) := by decide +kernel
theorem dX11_knowMore_80 : decode cX11_knowMore 80 = .ok (.iload 5, 2) := by decide +kernel
theorem dX11_knowMore_82 : decode cX11_knowMore 82 = .ok (.ireturn, 1) := by decide +kernel
theorem dX11_share_0 : decode cX11_share 0 = .ok (.iload_n 1, 1) := by decide +kernel
theorem dX11_share_1 : decode cX11_share 1 = .ok (.invokestatic 219, 3) := by decide +kernel
theorem dX11_share_4 : decode cX11_share 4 = .ok (.ifCond .eq 22, 3) := by decide +kernel
theorem dX11_share_7 : decode cX11_share 7 = .ok (.iload_n 2, 1) := by decide +kernel
theorem dX11_share_8 : decode cX11_share 8 = .ok (.ifCond .lt 18, 3) := by decide +kernel
theorem dX11_share_11 : decode cX11_share 11 = .ok (.iload_n 2, 1) := by decide +kernel
theorem dX11_share_12 : decode cX11_share 12 = .ok (.bipush 10, 2) := by decide +kernel
theorem dX11_share_14 : decode cX11_share 14 = .ok (.if_icmp .gt 12, 3) := by decide +kernel
theorem dX11_share_17 : decode cX11_share 17 = .ok (.iload_n 3, 1) := by decide +kernel
theorem dX11_share_18 : decode cX11_share 18 = .ok (.ifCond .lt 8, 3) := by decide +kernel
theorem dX11_share_21 : decode cX11_share 21 = .ok (.iload_n 3, 1) := by decide +kernel
theorem dX11_share_22 : decode cX11_share 22 = .ok (.iconst 1, 1) := by decide +kernel
theorem dX11_share_23 : decode cX11_share 23 = .ok (.if_icmp .le 5, 3) := by decide +kernel
theorem dX11_share_26 : decode cX11_share 26 = .ok (.iconst (-1), 1) := by decide +kernel
theorem dX11_share_27 : decode cX11_share 27 = .ok (.ireturn, 1) := by decide +kernel
theorem dX11_share_28 : decode cX11_share 28 = .ok (.iload_n 3, 1) := by decide +kernel
theorem dX11_share_29 : decode cX11_share 29 = .ok (.iconst 1, 1) := by decide +kernel
theorem dX11_share_30 : decode cX11_share 30 = .ok (.if_icmp .ne 8, 3) := by decide +kernel
theorem dX11_share_33 : decode cX11_share 33 = .ok (.bipush 10, 2) := by decide +kernel
theorem dX11_share_35 : decode cX11_share 35 = .ok (.goto 4, 3) := by decide +kernel
theorem dX11_share_38 : decode cX11_share 38 = .ok (.iload_n 2, 1) := by decide +kernel
theorem dX11_share_39 : decode cX11_share 39 = .ok (.istore 4, 2) := by decide +kernel
theorem dX11_share_41 : decode cX11_share 41 = .ok (.iconst 0, 1) := by decide +kernel
theorem dX11_share_42 : decode cX11_share 42 = .ok (.istore 5, 2) := by decide +kernel
theorem dX11_share_44 : decode cX11_share 44 = .ok (.iconst 0, 1) := by decide +kernel
theorem dX11_share_45 : decode cX11_share 45 = .ok (.istore 6, 2) := by decide +kernel
theorem dX11_share_47 : decode cX11_share 47 = .ok (.iload 6, 2) := by decide +kernel
theorem dX11_share_49 : decode cX11_share 49 = .ok (.aload_n 0, 1) := by decide +kernel
theorem dX11_share_50 : decode cX11_share 50 = .ok (.getfield 46, 3) := by decide +kernel
theorem dX11_share_53 : decode cX11_share 53 = .ok (.getfield 137, 3) := by decide +kernel
theorem dX11_share_56 : decode cX11_share 56 = .ok (.iconst 1, 1) := by decide +kernel
theorem dX11_share_57 : decode cX11_share 57 = .ok (.iaload, 1) := by decide +kernel
theorem dX11_share_58 : decode cX11_share 58 = .ok (.if_icmp .ge 45, 3) := by decide +kernel
theorem dX11_share_61 : decode cX11_share 61 = .ok (.iload 6, 2) := by decide +kernel
theorem dX11_share_63 : decode cX11_share 63 = .ok (.iload 4, 2) := by decide +kernel
theorem dX11_share_65 : decode cX11_share 65 = .ok (.if_icmp .ge 38, 3) := by decide +kernel
theorem dX11_share_68 : decode cX11_share 68 = .ok (.iload 5, 2) := by decide +kernel
theorem dX11_share_70 : decode cX11_share 70 = .ok (.aload_n 0, 1) := by decide +kernel
theorem dX11_share_71 : decode cX11_share 71 = .ok (.invokevirtual 189, 3) := by decide +kernel
theorem dX11_share_74 : decode cX11_share 74 = .ok (.getfield 222, 3) := by decide +kernel
theorem dX11_share_77 : decode cX11_share 77 = .ok (.aload_n 0, 1) := by decide +kernel
theorem dX11_share_78 : decode cX11_share 78 = .ok (.getfield 46, 3) := by decide +kernel
theorem dX11_share_81 : decode cX11_share 81 = .ok (.iload 6, 2) := by decide +kernel
theorem dX11_share_83 : decode cX11_share 83 = .ok (.iconst 0, 1) := by decide +kernel
theorem dX11_share_84 : decode cX11_share 84 = .ok (.invokevirtual 270, 3) := by decide +kernel
theorem dX11_share_87 : decode cX11_share 87 = .ok (.iload_n 1, 1) := by decide +kernel
theorem dX11_share_88 : decode cX11_share 88 = .ok (.invokevirtual 226, 3) := by decide +kernel
theorem dX11_share_91 : decode cX11_share 91 = .ok (.invokestatic 261, 3) := by decide +kernel
theorem dX11_share_94 : decode cX11_share 94 = .ok (.iadd, 1) := by decide +kernel
theorem dX11_share_95 : decode cX11_share 95 = .ok (.istore 5, 2) := by decide +kernel
theorem dX11_share_97 : decode cX11_share 97 = .ok (.iinc 6 1, 3) := by decide +kernel
theorem dX11_share_100 : decode cX11_share 100 = .ok (.goto (-53), 3) := by decide +kernel
theorem dX11_share_103 : decode cX11_share 103 = .ok (.iload 5, 2) := by decide +kernel
theorem dX11_share_105 : decode cX11_share 105 = .ok (.ireturn, 1) := by decide +kernel
theorem dX11_canSpread_0 : decode cX11_canSpread 0 = .ok (.aload_n 0, 1) := by decide +kernel
theorem dX11_canSpread_1 : decode cX11_canSpread 1 = .ok (.iconst 2, 1) := by decide +kernel
theorem dX11_canSpread_2 : decode cX11_canSpread 2 = .ok (.iload_n 1, 1) := by decide +kernel
theorem dX11_canSpread_3 : decode cX11_canSpread 3 = .ok (.invokevirtual 141, 3) := by decide +kernel
theorem dX11_canSpread_6 : decode cX11_canSpread 6 = .ok (.ifCond .eq 22, 3) := by decide +kernel
theorem dX11_canSpread_9 : decode cX11_canSpread 9 = .ok (.aload_n 0, 1) := by decide +kernel
theorem dX11_canSpread_10 : decode cX11_canSpread 10 = .ok (.iload_n 2, 1) := by decide +kernel
theorem dX11_canSpread_11 : decode cX11_canSpread 11 = .ok (.invokevirtual 273, 3) := by decide +kernel
theorem dX11_canSpread_14 : decode cX11_canSpread 14 = .ok (.ifCond .eq 14, 3) := by decide +kernel
theorem dX11_canSpread_17 : decode cX11_canSpread 17 = .ok (.iload_n 3, 1) := by decide +kernel
theorem dX11_canSpread_18 : decode cX11_canSpread 18 = .ok (.invokestatic 145, 3) := by decide +kernel
theorem dX11_canSpread_21 : decode cX11_canSpread 21 = .ok (.ifCond .eq 7, 3) := by decide +kernel
theorem dX11_canSpread_24 : decode cX11_canSpread 24 = .ok (.iconst 1, 1) := by decide +kernel
theorem dX11_canSpread_25 : decode cX11_canSpread 25 = .ok (.goto 4, 3) := by decide +kernel
theorem dX11_canSpread_28 : decode cX11_canSpread 28 = .ok (.iconst 0, 1) := by decide +kernel
theorem dX11_canSpread_29 : decode cX11_canSpread 29 = .ok (.ireturn, 1) := by decide +kernel
theorem dX11_isLaw_0 : decode cX11_isLaw 0 = .ok (.iload_n 0, 1) := by decide +kernel
theorem dX11_isLaw_1 : decode cX11_isLaw 1 = .ok (.ifCond .lt 12, 3) := by decide +kernel
theorem dX11_isLaw_4 : decode cX11_isLaw 4 = .ok (.iload_n 0, 1) := by decide +kernel
theorem dX11_isLaw_5 : decode cX11_isLaw 5 = .ok (.iconst 3, 1) := by decide +kernel
theorem dX11_isLaw_6 : decode cX11_isLaw 6 = .ok (.if_icmp .gt 7, 3) := by decide +kernel
theorem dX11_isLaw_9 : decode cX11_isLaw 9 = .ok (.iconst 1, 1) := by decide +kernel
theorem dX11_isLaw_10 : decode cX11_isLaw 10 = .ok (.goto 4, 3) := by decide +kernel
theorem dX11_isLaw_13 : decode cX11_isLaw 13 = .ok (.iconst 0, 1) := by decide +kernel
theorem dX11_isLaw_14 : decode cX11_isLaw 14 = .ok (.ireturn, 1) := by decide +kernel
theorem dX11_soon_0 : decode cX11_soon 0 = .ok (.aload_n 0, 1) := by decide +kernel
theorem dX11_soon_1 : decode cX11_soon 1 = .ok (.iconst 1, 1) := by decide +kernel
theorem dX11_soon_2 : decode cX11_soon 2 = .ok (.iload_n 1, 1) := by decide +kernel
theorem dX11_soon_3 : decode cX11_soon 3 = .ok (.invokevirtual 141, 3) := by decide +kernel
theorem dX11_soon_6 : decode cX11_soon 6 = .ok (.ifCond .eq 22, 3) := by decide +kernel
theorem dX11_soon_9 : decode cX11_soon 9 = .ok (.aload_n 0, 1) := by decide +kernel
theorem dX11_soon_10 : decode cX11_soon 10 = .ok (.iload_n 2, 1) := by decide +kernel
theorem dX11_soon_11 : decode cX11_soon 11 = .ok (.iload_n 3, 1) := by decide +kernel
theorem dX11_soon_12 : decode cX11_soon 12 = .ok (.iload 4, 2) := by decide +kernel
theorem dX11_soon_14 : decode cX11_soon 14 = .ok (.invokevirtual 276, 3) := by decide +kernel
theorem dX11_soon_17 : decode cX11_soon 17 = .ok (.ifCond .eq 11, 3) := by decide +kernel
theorem dX11_soon_20 : decode cX11_soon 20 = .ok (.iload 5, 2) := by decide +kernel
theorem dX11_soon_22 : decode cX11_soon 22 = .ok (.invokestatic 279, 3) := by decide +kernel
theorem dX11_soon_25 : decode cX11_soon 25 = .ok (.ifCond .ne 5, 3) := by decide +kernel
theorem dX11_soon_28 : decode cX11_soon 28 = .ok (.iconst (-1), 1) := by decide +kernel
theorem dX11_soon_29 : decode cX11_soon 29 = .ok (.ireturn, 1) := by decide +kernel
theorem dX11_soon_30 : decode cX11_soon 30 = .ok (.aload_n 0, 1) := by decide +kernel
theorem dX11_soon_31 : decode cX11_soon 31 = .ok (.getfield 77, 3) := by decide +kernel
theorem dX11_soon_34 : decode cX11_soon 34 = .ok (.aload_n 0, 1) := by decide +kernel
theorem dX11_soon_35 : decode cX11_soon 35 = .ok (.getfield 46, 3) := by decide +kernel
theorem dX11_soon_38 : decode cX11_soon 38 = .ok (.iload_n 2, 1) := by decide +kernel
theorem dX11_soon_39 : decode cX11_soon 39 = .ok (.iload_n 3, 1) := by decide +kernel
theorem dX11_soon_40 : decode cX11_soon 40 = .ok (.iload 4, 2) := by decide +kernel
theorem dX11_soon_42 : decode cX11_soon 42 = .ok (.iload 5, 2) := by decide +kernel
theorem dX11_soon_44 : decode cX11_soon 44 = .ok (.iload 6, 2) := by decide +kernel
theorem dX11_soon_46 : decode cX11_soon 46 = .ok (.invokevirtual 282, 3) := by decide +kernel
theorem dX11_soon_49 : decode cX11_soon 49 = .ok (.aload_n 0, 1) := by decide +kernel
theorem dX11_soon_50 : decode cX11_soon 50 = .ok (.getfield 77, 3) := by decide +kernel
theorem dX11_soon_53 : decode cX11_soon 53 = .ok (.getfield 285, 3) := by decide +kernel
theorem dX11_soon_56 : decode cX11_soon 56 = .ok (.iload_n 1, 1) := by decide +kernel
theorem dX11_soon_57 : decode cX11_soon 57 = .ok (.iaload, 1) := by decide +kernel
theorem dX11_soon_58 : decode cX11_soon 58 = .ok (.invokestatic 234, 3) := by decide +kernel
theorem dX11_soon_61 : decode cX11_soon 61 = .ok (.ireturn, 1) := by decide +kernel
theorem dX11_all_0 : decode cX11_all 0 = .ok (.aload_n 0, 1) := by decide +kernel
theorem dX11_all_1 : decode cX11_all 1 = .ok (.iload_n 1, 1) := by decide +kernel
theorem dX11_all_2 : decode cX11_all 2 = .ok (.iload_n 2, 1) := by decide +kernel
theorem dX11_all_3 : decode cX11_all 3 = .ok (.iload_n 3, 1) := by decide +kernel
theorem dX11_all_4 : decode cX11_all 4 = .ok (.invokevirtual 276, 3) := by decide +kernel
theorem dX11_all_7 : decode cX11_all 7 = .ok (.ifCond .eq 11, 3) := by decide +kernel
theorem dX11_all_10 : decode cX11_all 10 = .ok (.iload 4, 2) := by decide +kernel
theorem dX11_all_12 : decode cX11_all 12 = .ok (.invokestatic 279, 3) := by decide +kernel
theorem dX11_all_15 : decode cX11_all 15 = .ok (.ifCond .ne 5, 3) := by decide +kernel
theorem dX11_all_18 : decode cX11_all 18 = .ok (.iconst (-1), 1) := by decide +kernel
theorem dX11_all_19 : decode cX11_all 19 = .ok (.ireturn, 1) := by decide +kernel
theorem dX11_all_20 : decode cX11_all 20 = .ok (.aload_n 0, 1) := by decide +kernel
theorem dX11_all_21 : decode cX11_all 21 = .ok (.getfield 77, 3) := by decide +kernel
theorem dX11_all_24 : decode cX11_all 24 = .ok (.aload_n 0, 1) := by decide +kernel
theorem dX11_all_25 : decode cX11_all 25 = .ok (.getfield 46, 3) := by decide +kernel
theorem dX11_all_28 : decode cX11_all 28 = .ok (.iload_n 1, 1) := by decide +kernel
theorem dX11_all_29 : decode cX11_all 29 = .ok (.iload_n 2, 1) := by decide +kernel
theorem dX11_all_30 : decode cX11_all 30 = .ok (.iload_n 3, 1) := by decide +kernel
theorem dX11_all_31 : decode cX11_all 31 = .ok (.iload 4, 2) := by decide +kernel
theorem dX11_all_33 : decode cX11_all 33 = .ok (.iload 5, 2) := by decide +kernel
theorem dX11_all_35 : decode cX11_all 35 = .ok (.invokevirtual 282, 3) := by decide +kernel
theorem dX11_all_38 : decode cX11_all 38 = .ok (.iload_n 3, 1) := by decide +kernel
theorem dX11_all_39 : decode cX11_all 39 = .ok (.istore 6, 2) := by decide +kernel
theorem dX11_all_41 : decode cX11_all 41 = .ok (.iconst 0, 1) := by decide +kernel
theorem dX11_all_42 : decode cX11_all 42 = .ok (.istore 7, 2) := by decide +kernel
theorem dX11_all_44 : decode cX11_all 44 = .ok (.iload 7, 2) := by decide +kernel
theorem dX11_all_46 : decode cX11_all 46 = .ok (.aload_n 0, 1) := by decide +kernel
theorem dX11_all_47 : decode cX11_all 47 = .ok (.getfield 46, 3) := by decide +kernel
theorem dX11_all_50 : decode cX11_all 50 = .ok (.getfield 137, 3) := by decide +kernel
theorem dX11_all_53 : decode cX11_all 53 = .ok (.iconst 1, 1) := by decide +kernel
theorem dX11_all_54 : decode cX11_all 54 = .ok (.iaload, 1) := by decide +kernel
theorem dX11_all_55 : decode cX11_all 55 = .ok (.if_icmp .ge 26, 3) := by decide +kernel
theorem dX11_all_58 : decode cX11_all 58 = .ok (.iload 6, 2) := by decide +kernel
theorem dX11_all_60 : decode cX11_all 60 = .ok (.aload_n 0, 1) := by decide +kernel
theorem dX11_all_61 : decode cX11_all 61 = .ok (.getfield 77, 3) := by decide +kernel
theorem dX11_all_64 : decode cX11_all 64 = .ok (.getfield 285, 3) := by decide +kernel
theorem dX11_all_67 : decode cX11_all 67 = .ok (.iload 7, 2) := by decide +kernel
theorem dX11_all_69 : decode cX11_all 69 = .ok (.iaload, 1) := by decide +kernel
theorem dX11_all_70 : decode cX11_all 70 = .ok (.invokestatic 288, 3) := by decide +kernel
theorem dX11_all_73 : decode cX11_all 73 = .ok (.istore 6, 2) := by decide +kernel
theorem dX11_all_75 : decode cX11_all 75 = .ok (.iinc 7 1, 3) := by decide +kernel
theorem dX11_all_78 : decode cX11_all 78 = .ok (.goto (-34), 3) := by decide +kernel
theorem dX11_all_81 : decode cX11_all 81 = .ok (.iload 6, 2) := by decide +kernel
theorem dX11_all_83 : decode cX11_all 83 = .ok (.invokestatic 234, 3) := by decide +kernel
theorem dX11_all_86 : decode cX11_all 86 = .ok (.ireturn, 1) := by decide +kernel
theorem dX11_soonFromFirst_0 : decode cX11_soonFromFirst 0 = .ok (.aload_n 0, 1) := by decide +kernel
theorem dX11_soonFromFirst_1 : decode cX11_soonFromFirst 1 = .ok (.getfield 77, 3) := by decide +kernel
theorem dX11_soonFromFirst_4 : decode cX11_soonFromFirst 4 = .ok (.aload_n 0, 1) := by decide +kernel
theorem dX11_soonFromFirst_5 : decode cX11_soonFromFirst 5 = .ok (.getfield 46, 3) := by decide +kernel
theorem dX11_soonFromFirst_8 : decode cX11_soonFromFirst 8 = .ok (.iload_n 2, 1) := by decide +kernel
theorem dX11_soonFromFirst_9 : decode cX11_soonFromFirst 9 = .ok (.aload_n 0, 1) := by decide +kernel
theorem dX11_soonFromFirst_10 : decode cX11_soonFromFirst 10 = .ok (.getfield 46, 3) := by decide +kernel
theorem dX11_soonFromFirst_13 : decode cX11_soonFromFirst 13 = .ok (.iload_n 2, 1) := by decide +kernel
theorem dX11_soonFromFirst_14 : decode cX11_soonFromFirst 14 = .ok (.invokevirtual 293, 3) := by decide +kernel
theorem dX11_soonFromFirst_17 : decode cX11_soonFromFirst 17 = .ok (.iconst 0, 1) := by decide +kernel
theorem dX11_soonFromFirst_18 : decode cX11_soonFromFirst 18 = .ok (.iconst 0, 1) := by decide +kernel
theorem dX11_soonFromFirst_19 : decode cX11_soonFromFirst 19 = .ok (.iconst 0, 1) := by decide +kernel
theorem dX11_soonFromFirst_20 : decode cX11_soonFromFirst 20 = .ok (.invokevirtual 282, 3) := by decide +kernel
theorem dX11_soonFromFirst_23 : decode cX11_soonFromFirst 23 = .ok (.aload_n 0, 1) := by decide +kernel
theorem dX11_soonFromFirst_24 : decode cX11_soonFromFirst 24 = .ok (.getfield 77, 3) := by decide +kernel
theorem dX11_soonFromFirst_27 : decode cX11_soonFromFirst 27 = .ok (.getfield 285, 3) := by decide +kernel
theorem dX11_soonFromFirst_30 : decode cX11_soonFromFirst 30 = .ok (.iload_n 1, 1) := by decide +kernel
theorem dX11_soonFromFirst_31 : decode cX11_soonFromFirst 31 = .ok (.iaload, 1) := by decide +kernel
theorem dX11_soonFromFirst_32 : decode cX11_soonFromFirst 32 = .ok (.ireturn, 1) := by decide +kernel
theorem dX11_can_0 : decode cX11_can 0 = .ok (.iload_n 1, 1) := by decide +kernel
theorem dX11_can_1 : decode cX11_can 1 = .ok (.ifCond .lt 8, 3) := by decide +kernel
theorem dX11_can_4 : decode cX11_can 4 = .ok (.iload_n 1, 1) := by decide +kernel
theorem dX11_can_5 : decode cX11_can 5 = .ok (.iconst 1, 1) := by decide +kernel
theorem dX11_can_6 : decode cX11_can 6 = .ok (.if_icmp .le 5, 3) := by decide +kernel
theorem dX11_can_9 : decode cX11_can 9 = .ok (.iconst (-1), 1) := by decide +kernel
theorem dX11_can_10 : decode cX11_can 10 = .ok (.ireturn, 1) := by decide +kernel
theorem dX11_can_11 : decode cX11_can 11 = .ok (.iconst 0, 1) := by decide +kernel
theorem dX11_can_12 : decode cX11_can 12 = .ok (.istore_n 2, 1) := by decide +kernel
theorem dX11_can_13 : decode cX11_can 13 = .ok (.iconst 0, 1) := by decide +kernel
theorem dX11_can_14 : decode cX11_can 14 = .ok (.istore_n 3, 1) := by decide +kernel
theorem dX11_can_15 : decode cX11_can 15 = .ok (.iconst 0, 1) := by decide +kernel
theorem dX11_can_16 : decode cX11_can 16 = .ok (.istore 4, 2) := by decide +kernel
theorem dX11_can_18 : decode cX11_can 18 = .ok (.iload 4, 2) := by decide +kernel
theorem dX11_can_20 : decode cX11_can 20 = .ok (.aload_n 0, 1) := by decide +kernel
theorem dX11_can_21 : decode cX11_can 21 = .ok (.getfield 46, 3) := by decide +kernel
theorem dX11_can_24 : decode cX11_can 24 = .ok (.getfield 137, 3) := by decide +kernel
theorem dX11_can_27 : decode cX11_can 27 = .ok (.bipush 6, 2) := by decide +kernel
theorem dX11_can_29 : decode cX11_can 29 = .ok (.iaload, 1) := by decide +kernel
theorem dX11_can_30 : decode cX11_can 30 = .ok (.if_icmp .ge 69, 3) := by decide +kernel
theorem dX11_can_33 : decode cX11_can 33 = .ok (.aload_n 0, 1) := by decide +kernel
theorem dX11_can_34 : decode cX11_can 34 = .ok (.getfield 46, 3) := by decide +kernel
theorem dX11_can_37 : decode cX11_can 37 = .ok (.getfield 296, 3) := by decide +kernel
theorem dX11_can_40 : decode cX11_can 40 = .ok (.iload 4, 2) := by decide +kernel
theorem dX11_can_42 : decode cX11_can 42 = .ok (.iaload, 1) := by decide +kernel
theorem dX11_can_43 : decode cX11_can 43 = .ok (.istore 5, 2) := by decide +kernel
theorem dX11_can_45 : decode cX11_can 45 = .ok (.aload_n 0, 1) := by decide +kernel
theorem dX11_can_46 : decode cX11_can 46 = .ok (.aload_n 0, 1) := by decide +kernel
theorem dX11_can_47 : decode cX11_can 47 = .ok (.getfield 46, 3) := by decide +kernel
theorem dX11_can_50 : decode cX11_can 50 = .ok (.getfield 299, 3) := by decide +kernel
theorem dX11_can_53 : decode cX11_can 53 = .ok (.iload 4, 2) := by decide +kernel
theorem dX11_can_55 : decode cX11_can 55 = .ok (.iaload, 1) := by decide +kernel
theorem dX11_can_56 : decode cX11_can 56 = .ok (.iload 5, 2) := by decide +kernel
theorem dX11_can_58 : decode cX11_can 58 = .ok (.invokevirtual 302, 3) := by decide +kernel
theorem dX11_can_61 : decode cX11_can 61 = .ok (.aload_n 0, 1) := by decide +kernel
theorem dX11_can_62 : decode cX11_can 62 = .ok (.getfield 46, 3) := by decide +kernel
theorem dX11_can_65 : decode cX11_can 65 = .ok (.getfield 305, 3) := by decide +kernel
theorem dX11_can_68 : decode cX11_can 68 = .ok (.iload 4, 2) := by decide +kernel
theorem dX11_can_70 : decode cX11_can 70 = .ok (.iaload, 1) := by decide +kernel
theorem dX11_can_71 : decode cX11_can 71 = .ok (.if_icmp .gt 9, 3) := by decide +kernel
theorem dX11_can_74 : decode cX11_can 74 = .ok (.iinc 2 1, 3) := by decide +kernel
theorem dX11_can_77 : decode cX11_can 77 = .ok (.goto 16, 3) := by decide +kernel
theorem dX11_can_80 : decode cX11_can 80 = .ok (.iload_n 3, 1) := by decide +kernel
theorem dX11_can_81 : decode cX11_can 81 = .ok (.aload_n 0, 1) := by decide +kernel
theorem dX11_can_82 : decode cX11_can 82 = .ok (.getfield 46, 3) := by decide +kernel
theorem dX11_can_85 : decode cX11_can 85 = .ok (.getfield 245, 3) := by decide +kernel
theorem dX11_can_88 : decode cX11_can 88 = .ok (.iload 5, 2) := by decide +kernel
theorem dX11_can_90 : decode cX11_can 90 = .ok (.iaload, 1) := by decide +kernel
theorem dX11_can_91 : decode cX11_can 91 = .ok (.iadd, 1) := by decide +kernel
theorem dX11_can_92 : decode cX11_can 92 = .ok (.istore_n 3, 1) := by decide +kernel
theorem dX11_can_93 : decode cX11_can 93 = .ok (.iinc 4 1, 3) := by decide +kernel
theorem dX11_can_96 : decode cX11_can 96 = .ok (.goto (-78), 3) := by decide +kernel
theorem dX11_can_99 : decode cX11_can 99 = .ok (.iload_n 1, 1) := by decide +kernel
theorem dX11_can_100 : decode cX11_can 100 = .ok (.ifCond .ne 7, 3) := by decide +kernel
theorem dX11_can_103 : decode cX11_can 103 = .ok (.iload_n 2, 1) := by decide +kernel
theorem dX11_can_104 : decode cX11_can 104 = .ok (.goto 4, 3) := by decide +kernel
theorem dX11_can_107 : decode cX11_can 107 = .ok (.iload_n 3, 1) := by decide +kernel
theorem dX11_can_108 : decode cX11_can 108 = .ok (.ireturn, 1) := by decide +kernel
theorem dX11_task_0 : decode cX11_task 0 = .ok (.aload_n 0, 1) := by decide +kernel
theorem dX11_task_1 : decode cX11_task 1 = .ok (.bipush 8, 2) := by decide +kernel
theorem dX11_task_3 : decode cX11_task 3 = .ok (.iload_n 1, 1) := by decide +kernel
theorem dX11_task_4 : decode cX11_task 4 = .ok (.invokevirtual 141, 3) := by decide +kernel
theorem dX11_task_7 : decode cX11_task 7 = .ok (.ifCond .eq 12, 3) := by decide +kernel
theorem dX11_task_10 : decode cX11_task 10 = .ok (.aload_n 0, 1) := by decide +kernel
theorem dX11_task_11 : decode cX11_task 11 = .ok (.iconst 1, 1) := by decide +kernel
theorem dX11_task_12 : decode cX11_task 12 = .ok (.iload_n 2, 1) := by decide +kernel
theorem dX11_task_13 : decode cX11_task 13 = .ok (.invokevirtual 141, 3) := by decide +kernel
theorem dX11_task_16 : decode cX11_task 16 = .ok (.ifCond .ne 5, 3) := by decide +kernel
theorem dX11_task_19 : decode cX11_task 19 = .ok (.iconst (-1), 1) := by decide +kernel
theorem dX11_task_20 : decode cX11_task 20 = .ok (.ireturn, 1) := by decide +kernel
theorem dX11_task_21 : decode cX11_task 21 = .ok (.iconst 0, 1) := by decide +kernel
theorem dX11_task_22 : decode cX11_task 22 = .ok (.istore_n 3, 1) := by decide +kernel
theorem dX11_task_23 : decode cX11_task 23 = .ok (.iconst 0, 1) := by decide +kernel
theorem dX11_task_24 : decode cX11_task 24 = .ok (.istore 4, 2) := by decide +kernel
theorem dX11_task_26 : decode cX11_task 26 = .ok (.iload 4, 2) := by decide +kernel
theorem dX11_task_28 : decode cX11_task 28 = .ok (.aload_n 0, 1) := by decide +kernel
theorem dX11_task_29 : decode cX11_task 29 = .ok (.getfield 46, 3) := by decide +kernel
theorem dX11_task_32 : decode cX11_task 32 = .ok (.getfield 137, 3) := by decide +kernel
theorem dX11_task_35 : decode cX11_task 35 = .ok (.iconst 2, 1) := by decide +kernel
theorem dX11_task_36 : decode cX11_task 36 = .ok (.iaload, 1) := by decide +kernel
theorem dX11_task_37 : decode cX11_task 37 = .ok (.if_icmp .ge 38, 3) := by decide +kernel
theorem dX11_task_40 : decode cX11_task 40 = .ok (.aload_n 0, 1) := by decide +kernel
theorem dX11_task_41 : decode cX11_task 41 = .ok (.getfield 46, 3) := by decide +kernel
theorem dX11_task_44 : decode cX11_task 44 = .ok (.getfield 308, 3) := by decide +kernel
theorem dX11_task_47 : decode cX11_task 47 = .ok (.iload_n 1, 1) := by decide +kernel
theorem dX11_task_48 : decode cX11_task 48 = .ok (.iaload, 1) := by decide +kernel
theorem dX11_task_49 : decode cX11_task 49 = .ok (.iload 4, 2) := by decide +kernel
theorem dX11_task_51 : decode cX11_task 51 = .ok (.invokestatic 248, 3) := by decide +kernel
theorem dX11_task_54 : decode cX11_task 54 = .ok (.ifCond .eq 15, 3) := by decide +kernel
theorem dX11_task_57 : decode cX11_task 57 = .ok (.iload_n 3, 1) := by decide +kernel
theorem dX11_task_58 : decode cX11_task 58 = .ok (.aload_n 0, 1) := by decide +kernel
theorem dX11_task_59 : decode cX11_task 59 = .ok (.iload_n 2, 1) := by decide +kernel
theorem dX11_task_60 : decode cX11_task 60 = .ok (.iload 4, 2) := by decide +kernel
theorem dX11_task_62 : decode cX11_task 62 = .ok (.invokevirtual 302, 3) := by decide +kernel
theorem dX11_task_65 : decode cX11_task 65 = .ok (.invokestatic 288, 3) := by decide +kernel
theorem dX11_task_68 : decode cX11_task 68 = .ok (.istore_n 3, 1) := by decide +kernel
theorem dX11_task_69 : decode cX11_task 69 = .ok (.iinc 4 1, 3) := by decide +kernel
theorem dX11_task_72 : decode cX11_task 72 = .ok (.goto (-46), 3) := by decide +kernel
theorem dX11_task_75 : decode cX11_task 75 = .ok (.iload_n 3, 1) := by decide +kernel
theorem dX11_task_76 : decode cX11_task 76 = .ok (.invokestatic 234, 3) := by decide +kernel
theorem dX11_task_79 : decode cX11_task 79 = .ok (.ireturn, 1) := by decide +kernel
theorem dX11_cheap_0 : decode cX11_cheap 0 = .ok (.aload_n 0, 1) := by decide +kernel
theorem dX11_cheap_1 : decode cX11_cheap 1 = .ok (.iconst 1, 1) := by decide +kernel
theorem dX11_cheap_2 : decode cX11_cheap 2 = .ok (.iload_n 1, 1) := by decide +kernel
theorem dX11_cheap_3 : decode cX11_cheap 3 = .ok (.invokevirtual 141, 3) := by decide +kernel
theorem dX11_cheap_6 : decode cX11_cheap 6 = .ok (.ifCond .eq 25, 3) := by decide +kernel
theorem dX11_cheap_9 : decode cX11_cheap 9 = .ok (.aload_n 0, 1) := by decide +kernel
theorem dX11_cheap_10 : decode cX11_cheap 10 = .ok (.iload_n 2, 1) := by decide +kernel
theorem dX11_cheap_11 : decode cX11_cheap 11 = .ok (.iload_n 3, 1) := by decide +kernel
theorem dX11_cheap_12 : decode cX11_cheap 12 = .ok (.iload 4, 2) := by decide +kernel
theorem dX11_cheap_14 : decode cX11_cheap 14 = .ok (.invokevirtual 276, 3) := by decide +kernel
theorem dX11_cheap_17 : decode cX11_cheap 17 = .ok (.ifCond .eq 14, 3) := by decide +kernel
theorem dX11_cheap_20 : decode cX11_cheap 20 = .ok (.iload 5, 2) := by decide +kernel
theorem dX11_cheap_22 : decode cX11_cheap 22 = .ok (.ifCond .lt 9, 3) := by decide +kernel
theorem dX11_cheap_25 : decode cX11_cheap 25 = .ok (.iload 5, 2) := by decide +kernel
theorem dX11_cheap_27 : decode cX11_cheap 27 = .ok (.iconst 1, 1) := by decide +kernel
theorem dX11_cheap_28 : decode cX11_cheap 28 = .ok (.if_icmp .le 5, 3) := by decide +kernel
theorem dX11_cheap_31 : decode cX11_cheap 31 = .ok (.iconst (-1), 1) := by decide +kernel
theorem dX11_cheap_32 : decode cX11_cheap 32 = .ok (.ireturn, 1) := by decide +kernel
theorem dX11_cheap_33 : decode cX11_cheap 33 = .ok (.aload_n 0, 1) := by decide +kernel
theorem dX11_cheap_34 : decode cX11_cheap 34 = .ok (.getfield 84, 3) := by decide +kernel
theorem dX11_cheap_37 : decode cX11_cheap 37 = .ok (.iload_n 1, 1) := by decide +kernel
theorem dX11_cheap_38 : decode cX11_cheap 38 = .ok (.iload_n 2, 1) := by decide +kernel
theorem dX11_cheap_39 : decode cX11_cheap 39 = .ok (.invokevirtual 311, 3) := by decide +kernel
theorem dX11_cheap_42 : decode cX11_cheap 42 = .ok (.aload_n 0, 1) := by decide +kernel
theorem dX11_cheap_43 : decode cX11_cheap 43 = .ok (.getfield 84, 3) := by decide +kernel
theorem dX11_cheap_46 : decode cX11_cheap 46 = .ok (.aload_n 0, 1) := by decide +kernel
theorem dX11_cheap_47 : decode cX11_cheap 47 = .ok (.getfield 46, 3) := by decide +kernel
theorem dX11_cheap_50 : decode cX11_cheap 50 = .ok (.iload 4, 2) := by decide +kernel
theorem dX11_cheap_52 : decode cX11_cheap 52 = .ok (.iload_n 3, 1) := by decide +kernel
theorem dX11_cheap_53 : decode cX11_cheap 53 = .ok (.invokevirtual 315, 3) := by decide +kernel
theorem dX11_cheap_56 : decode cX11_cheap 56 = .ok (.istore 6, 2) := by decide +kernel
theorem dX11_cheap_58 : decode cX11_cheap 58 = .ok (.iload 6, 2) := by decide +kernel
theorem dX11_cheap_60 : decode cX11_cheap 60 = .ok (.ldc_w 319, 3) := by decide +kernel
theorem dX11_cheap_63 : decode cX11_cheap 63 = .ok (.if_icmp .ne 6, 3) := by decide +kernel
theorem dX11_cheap_66 : decode cX11_cheap 66 = .ok (.bipush (-2), 2) := by decide +kernel
theorem dX11_cheap_68 : decode cX11_cheap 68 = .ok (.ireturn, 1) := by decide +kernel
theorem dX11_cheap_69 : decode cX11_cheap 69 = .ok (.iload 5, 2) := by decide +kernel
theorem dX11_cheap_71 : decode cX11_cheap 71 = .ok (.ifCond .ne 11, 3) := by decide +kernel
theorem dX11_cheap_74 : decode cX11_cheap 74 = .ok (.iload 6, 2) := by decide +kernel
theorem dX11_cheap_76 : decode cX11_cheap 76 = .ok (.bipush 32, 2) := by decide +kernel
theorem dX11_cheap_78 : decode cX11_cheap 78 = .ok (.idiv, 1) := by decide +kernel
theorem dX11_cheap_79 : decode cX11_cheap 79 = .ok (.goto 8, 3) := by decide +kernel
theorem dX11_cheap_82 : decode cX11_cheap 82 = .ok (.iload 6, 2) := by decide +kernel
theorem dX11_cheap_84 : decode cX11_cheap 84 = .ok (.bipush 32, 2) := by decide +kernel
theorem dX11_cheap_86 : decode cX11_cheap 86 = .ok (.irem, 1) := by decide +kernel
theorem dX11_cheap_87 : decode cX11_cheap 87 = .ok (.ireturn, 1) := by decide +kernel
theorem dX11_cheapAt_0 : decode cX11_cheapAt 0 = .ok (.aload_n 0, 1) := by decide +kernel
theorem dX11_cheapAt_1 : decode cX11_cheapAt 1 = .ok (.iconst 1, 1) := by decide +kernel
theorem dX11_cheapAt_2 : decode cX11_cheapAt 2 = .ok (.iload_n 1, 1) := by decide +kernel
theorem dX11_cheapAt_3 : decode cX11_cheapAt 3 = .ok (.invokevirtual 141, 3) := by decide +kernel
theorem dX11_cheapAt_6 : decode cX11_cheapAt 6 = .ok (.ifCond .eq 19, 3) := by decide +kernel
theorem dX11_cheapAt_9 : decode cX11_cheapAt 9 = .ok (.aload_n 0, 1) := by decide +kernel
theorem dX11_cheapAt_10 : decode cX11_cheapAt 10 = .ok (.iload_n 2, 1) := by decide +kernel
theorem dX11_cheapAt_11 : decode cX11_cheapAt 11 = .ok (.iload_n 3, 1) := by decide +kernel
theorem dX11_cheapAt_12 : decode cX11_cheapAt 12 = .ok (.iload 4, 2) := by decide +kernel
theorem dX11_cheapAt_14 : decode cX11_cheapAt 14 = .ok (.invokevirtual 276, 3) := by decide +kernel
theorem dX11_cheapAt_17 : decode cX11_cheapAt 17 = .ok (.ifCond .eq 8, 3) := by decide +kernel
theorem dX11_cheapAt_20 : decode cX11_cheapAt 20 = .ok (.iload 5, 2) := by decide +kernel
theorem dX11_cheapAt_22 : decode cX11_cheapAt 22 = .ok (.ifCond .ge 5, 3) := by decide +kernel
theorem dX11_cheapAt_25 : decode cX11_cheapAt 25 = .ok (.iconst (-1), 1) := by decide +kernel
theorem dX11_cheapAt_26 : decode cX11_cheapAt 26 = .ok (.ireturn, 1) := by decide +kernel
theorem dX11_cheapAt_27 : decode cX11_cheapAt 27 = .ok (.aload_n 0, 1) := by decide +kernel
theorem dX11_cheapAt_28 : decode cX11_cheapAt 28 = .ok (.getfield 84, 3) := by decide +kernel
theorem dX11_cheapAt_31 : decode cX11_cheapAt 31 = .ok (.iload_n 1, 1) := by decide +kernel
theorem dX11_cheapAt_32 : decode cX11_cheapAt 32 = .ok (.iload_n 2, 1) := by decide +kernel
theorem dX11_cheapAt_33 : decode cX11_cheapAt 33 = .ok (.invokevirtual 311, 3) := by decide +kernel
theorem dX11_cheapAt_36 : decode cX11_cheapAt 36 = .ok (.aload_n 0, 1) := by decide +kernel
theorem dX11_cheapAt_37 : decode cX11_cheapAt 37 = .ok (.getfield 84, 3) := by decide +kernel
theorem dX11_cheapAt_40 : decode cX11_cheapAt 40 = .ok (.aload_n 0, 1) := by decide +kernel
theorem dX11_cheapAt_41 : decode cX11_cheapAt 41 = .ok (.getfield 46, 3) := by decide +kernel
theorem dX11_cheapAt_44 : decode cX11_cheapAt 44 = .ok (.iload 4, 2) := by decide +kernel
theorem dX11_cheapAt_46 : decode cX11_cheapAt 46 = .ok (.iload_n 3, 1) := by decide +kernel
theorem dX11_cheapAt_47 : decode cX11_cheapAt 47 = .ok (.iload 5, 2) := by decide +kernel
theorem dX11_cheapAt_49 : decode cX11_cheapAt 49 = .ok (.invokevirtual 320, 3) := by decide +kernel
theorem dX11_cheapAt_52 : decode cX11_cheapAt 52 = .ok (.ireturn, 1) := by decide +kernel
theorem dX11_secret_0 : decode cX11_secret 0 = .ok (.aload_n 0, 1) := by decide +kernel
theorem dX11_secret_1 : decode cX11_secret 1 = .ok (.iconst 1, 1) := by decide +kernel
theorem dX11_secret_2 : decode cX11_secret 2 = .ok (.iload_n 1, 1) := by decide +kernel
theorem dX11_secret_3 : decode cX11_secret 3 = .ok (.invokevirtual 141, 3) := by decide +kernel
theorem dX11_secret_6 : decode cX11_secret 6 = .ok (.ifCond .eq 10, 3) := by decide +kernel
theorem dX11_secret_9 : decode cX11_secret 9 = .ok (.iload_n 2, 1) := by decide +kernel
theorem dX11_secret_10 : decode cX11_secret 10 = .ok (.invokestatic 145, 3) := by decide +kernel
theorem dX11_secret_13 : decode cX11_secret 13 = .ok (.ifCond .ne 5, 3) := by decide +kernel
theorem dX11_secret_16 : decode cX11_secret 16 = .ok (.iconst (-1), 1) := by decide +kernel
theorem dX11_secret_17 : decode cX11_secret 17 = .ok (.ireturn, 1) := by decide +kernel
theorem dX11_secret_18 : decode cX11_secret 18 = .ok (.aload_n 0, 1) := by decide +kernel
theorem dX11_secret_19 : decode cX11_secret 19 = .ok (.getfield 46, 3) := by decide +kernel
theorem dX11_secret_22 : decode cX11_secret 22 = .ok (.iload_n 1, 1) := by decide +kernel
theorem dX11_secret_23 : decode cX11_secret 23 = .ok (.iload_n 2, 1) := by decide +kernel
theorem dX11_secret_24 : decode cX11_secret 24 = .ok (.invokevirtual 324, 3) := by decide +kernel
theorem dX11_secret_27 : decode cX11_secret 27 = .ok (.istore_n 3, 1) := by decide +kernel
theorem dX11_secret_28 : decode cX11_secret 28 = .ok (.iload_n 3, 1) := by decide +kernel
theorem dX11_secret_29 : decode cX11_secret 29 = .ok (.ifCond .eq 12, 3) := by decide +kernel
theorem dX11_secret_32 : decode cX11_secret 32 = .ok (.aload_n 0, 1) := by decide +kernel
theorem dX11_secret_33 : decode cX11_secret 33 = .ok (.iload_n 1, 1) := by decide +kernel
theorem dX11_secret_34 : decode cX11_secret 34 = .ok (.iload_n 2, 1) := by decide +kernel
theorem dX11_secret_35 : decode cX11_secret 35 = .ok (.invokevirtual 327, 3) := by decide +kernel
theorem dX11_secret_38 : decode cX11_secret 38 = .ok (.ifCond .eq 6, 3) := by decide +kernel
theorem dX11_secret_41 : decode cX11_secret 41 = .ok (.bipush (-2), 2) := by decide +kernel
theorem dX11_secret_43 : decode cX11_secret 43 = .ok (.ireturn, 1) := by decide +kernel
theorem dX11_secret_44 : decode cX11_secret 44 = .ok (.iload_n 3, 1) := by decide +kernel
theorem dX11_secret_45 : decode cX11_secret 45 = .ok (.invokestatic 330, 3) := by decide +kernel
theorem dX11_secret_48 : decode cX11_secret 48 = .ok (.ireturn, 1) := by decide +kernel
theorem dX11_below_0 : decode cX11_below 0 = .ok (.aload_n 0, 1) := by decide +kernel
theorem dX11_below_1 : decode cX11_below 1 = .ok (.iconst 1, 1) := by decide +kernel
theorem dX11_below_2 : decode cX11_below 2 = .ok (.iload_n 1, 1) := by decide +kernel
theorem dX11_below_3 : decode cX11_below 3 = .ok (.invokevirtual 141, 3) := by decide +kernel
theorem dX11_below_6 : decode cX11_below 6 = .ok (.ifCond .eq 10, 3) := by decide +kernel
theorem dX11_below_9 : decode cX11_below 9 = .ok (.iload_n 2, 1) := by decide +kernel
theorem dX11_below_10 : decode cX11_below 10 = .ok (.invokestatic 145, 3) := by decide +kernel
theorem dX11_below_13 : decode cX11_below 13 = .ok (.ifCond .ne 5, 3) := by decide +kernel
theorem dX11_below_16 : decode cX11_below 16 = .ok (.iconst (-1), 1) := by decide +kernel
theorem dX11_below_17 : decode cX11_below 17 = .ok (.ireturn, 1) := by decide +kernel
theorem dX11_below_18 : decode cX11_below 18 = .ok (.aload_n 0, 1) := by decide +kernel
theorem dX11_below_19 : decode cX11_below 19 = .ok (.iload_n 1, 1) := by decide +kernel
theorem dX11_below_20 : decode cX11_below 20 = .ok (.iload_n 2, 1) := by decide +kernel
theorem dX11_below_21 : decode cX11_below 21 = .ok (.invokevirtual 327, 3) := by decide +kernel
theorem dX11_below_24 : decode cX11_below 24 = .ok (.ireturn, 1) := by decide +kernel
theorem dX11_youngerHearers_0 : decode cX11_youngerHearers 0 = .ok (.aload_n 0, 1) := by decide +kernel
theorem dX11_youngerHearers_1 : decode cX11_youngerHearers 1 = .ok (.getfield 46, 3) := by decide +kernel
theorem dX11_youngerHearers_4 : decode cX11_youngerHearers 4 = .ok (.aload_n 0, 1) := by decide +kernel
theorem dX11_youngerHearers_5 : decode cX11_youngerHearers 5 = .ok (.getfield 46, 3) := by decide +kernel
theorem dX11_youngerHearers_8 : decode cX11_youngerHearers 8 = .ok (.iload_n 1, 1) := by decide +kernel
theorem dX11_youngerHearers_9 : decode cX11_youngerHearers 9 = .ok (.iload_n 2, 1) := by decide +kernel
theorem dX11_youngerHearers_10 : decode cX11_youngerHearers 10 = .ok (.invokevirtual 153, 3) := by decide +kernel
theorem dX11_youngerHearers_13 : decode cX11_youngerHearers 13 = .ok (.iload_n 2, 1) := by decide +kernel
theorem dX11_youngerHearers_14 : decode cX11_youngerHearers 14 = .ok (.invokevirtual 156, 3) := by decide +kernel
theorem dX11_youngerHearers_17 : decode cX11_youngerHearers 17 = .ok (.istore_n 3, 1) := by decide +kernel
theorem dX11_youngerHearers_18 : decode cX11_youngerHearers 18 = .ok (.iconst 0, 1) := by decide +kernel
theorem dX11_youngerHearers_19 : decode cX11_youngerHearers 19 = .ok (.istore 4, 2) := by decide +kernel
theorem dX11_youngerHearers_21 : decode cX11_youngerHearers 21 = .ok (.iconst 0, 1) := by decide +kernel
theorem dX11_youngerHearers_22 : decode cX11_youngerHearers 22 = .ok (.istore 5, 2) := by decide +kernel
theorem dX11_youngerHearers_24 : decode cX11_youngerHearers 24 = .ok (.iload 5, 2) := by decide +kernel
theorem dX11_youngerHearers_26 : decode cX11_youngerHearers 26 = .ok (.aload_n 0, 1) := by decide +kernel
theorem dX11_youngerHearers_27 : decode cX11_youngerHearers 27 = .ok (.getfield 46, 3) := by decide +kernel
theorem dX11_youngerHearers_30 : decode cX11_youngerHearers 30 = .ok (.getfield 137, 3) := by decide +kernel
theorem dX11_youngerHearers_33 : decode cX11_youngerHearers 33 = .ok (.iconst 1, 1) := by decide +kernel
theorem dX11_youngerHearers_34 : decode cX11_youngerHearers 34 = .ok (.iaload, 1) := by decide +kernel
theorem dX11_youngerHearers_35 : decode cX11_youngerHearers 35 = .ok (.if_icmp .ge 49, 3) := by decide +kernel
theorem dX11_youngerHearers_38 : decode cX11_youngerHearers 38 = .ok (.iload_n 3, 1) := by decide +kernel
theorem dX11_youngerHearers_39 : decode cX11_youngerHearers 39 = .ok (.iload 5, 2) := by decide +kernel
theorem dX11_youngerHearers_41 : decode cX11_youngerHearers 41 = .ok (.invokestatic 248, 3) := by decide +kernel
theorem dX11_youngerHearers_44 : decode cX11_youngerHearers 44 = .ok (.ifCond .eq 34, 3) := by decide +kernel
theorem dX11_youngerHearers_47 : decode cX11_youngerHearers 47 = .ok (.aload_n 0, 1) := by decide +kernel
theorem dX11_youngerHearers_48 : decode cX11_youngerHearers 48 = .ok (.getfield 46, 3) := by decide +kernel
theorem dX11_youngerHearers_51 : decode cX11_youngerHearers 51 = .ok (.iload 5, 2) := by decide +kernel
theorem dX11_youngerHearers_53 : decode cX11_youngerHearers 53 = .ok (.iload_n 2, 1) := by decide +kernel
theorem dX11_youngerHearers_54 : decode cX11_youngerHearers 54 = .ok (.invokevirtual 149, 3) := by decide +kernel
theorem dX11_youngerHearers_57 : decode cX11_youngerHearers 57 = .ok (.aload_n 0, 1) := by decide +kernel
theorem dX11_youngerHearers_58 : decode cX11_youngerHearers 58 = .ok (.getfield 46, 3) := by decide +kernel
theorem dX11_youngerHearers_61 : decode cX11_youngerHearers 61 = .ok (.iload_n 1, 1) := by decide +kernel
theorem dX11_youngerHearers_62 : decode cX11_youngerHearers 62 = .ok (.iload_n 2, 1) := by decide +kernel
theorem dX11_youngerHearers_63 : decode cX11_youngerHearers 63 = .ok (.invokevirtual 149, 3) := by decide +kernel
theorem dX11_youngerHearers_66 : decode cX11_youngerHearers 66 = .ok (.if_icmp .ge 12, 3) := by decide +kernel
theorem dX11_youngerHearers_69 : decode cX11_youngerHearers 69 = .ok (.iload 4, 2) := by decide +kernel
theorem dX11_youngerHearers_71 : decode cX11_youngerHearers 71 = .ok (.iconst 1, 1) := by decide +kernel
theorem dX11_youngerHearers_72 : decode cX11_youngerHearers 72 = .ok (.iload 5, 2) := by decide +kernel
theorem dX11_youngerHearers_74 : decode cX11_youngerHearers 74 = .ok (.ishl, 1) := by decide +kernel
theorem dX11_youngerHearers_75 : decode cX11_youngerHearers 75 = .ok (.ior, 1) := by decide +kernel
theorem dX11_youngerHearers_76 : decode cX11_youngerHearers 76 = .ok (.istore 4, 2) := by decide +kernel
theorem dX11_youngerHearers_78 : decode cX11_youngerHearers 78 = .ok (.iinc 5 1, 3) := by decide +kernel
theorem dX11_youngerHearers_81 : decode cX11_youngerHearers 81 = .ok (.goto (-57), 3) := by decide +kernel
theorem dX11_youngerHearers_84 : decode cX11_youngerHearers 84 = .ok (.iload 4, 2) := by decide +kernel
theorem dX11_youngerHearers_86 : decode cX11_youngerHearers 86 = .ok (.ireturn, 1) := by decide +kernel
theorem dX11_stand_0 : decode cX11_stand 0 = .ok (.aload_n 0, 1) := by decide +kernel
theorem dX11_stand_1 : decode cX11_stand 1 = .ok (.iconst 0, 1) := by decide +kernel
theorem dX11_stand_2 : decode cX11_stand 2 = .ok (.iload_n 1, 1) := by decide +kernel
theorem dX11_stand_3 : decode cX11_stand 3 = .ok (.invokevirtual 141, 3) := by decide +kernel
theorem dX11_stand_6 : decode cX11_stand 6 = .ok (.ifCond .eq 18, 3) := by decide +kernel
theorem dX11_stand_9 : decode cX11_stand 9 = .ok (.iload_n 2, 1) := by decide +kernel
theorem dX11_stand_10 : decode cX11_stand 10 = .ok (.invokestatic 145, 3) := by decide +kernel
theorem dX11_stand_13 : decode cX11_stand 13 = .ok (.ifCond .eq 11, 3) := by decide +kernel
theorem dX11_stand_16 : decode cX11_stand 16 = .ok (.aload_n 0, 1) := by decide +kernel
theorem dX11_stand_17 : decode cX11_stand 17 = .ok (.iload_n 3, 1) := by decide +kernel
theorem dX11_stand_18 : decode cX11_stand 18 = .ok (.invokevirtual 273, 3) := by decide +kernel
theorem dX11_stand_21 : decode cX11_stand 21 = .ok (.ifCond .ne 5, 3) := by decide +kernel
theorem dX11_stand_24 : decode cX11_stand 24 = .ok (.iconst (-1), 1) := by decide +kernel
theorem dX11_stand_25 : decode cX11_stand 25 = .ok (.ireturn, 1) := by decide +kernel
theorem dX11_stand_26 : decode cX11_stand 26 = .ok (.iload_n 3, 1) := by decide +kernel
theorem dX11_stand_27 : decode cX11_stand 27 = .ok (.aload_n 0, 1) := by decide +kernel
theorem dX11_stand_28 : decode cX11_stand 28 = .ok (.getfield 46, 3) := by decide +kernel
theorem dX11_stand_31 : decode cX11_stand 31 = .ok (.iload_n 1, 1) := by decide +kernel
theorem dX11_stand_32 : decode cX11_stand 32 = .ok (.iload_n 2, 1) := by decide +kernel
theorem dX11_stand_33 : decode cX11_stand 33 = .ok (.invokevirtual 156, 3) := by decide +kernel
theorem dX11_stand_36 : decode cX11_stand 36 = .ok (.iconst (-1), 1) := by decide +kernel
theorem dX11_stand_37 : decode cX11_stand 37 = .ok (.ixor, 1) := by decide +kernel
theorem dX11_stand_38 : decode cX11_stand 38 = .ok (.iand, 1) := by decide +kernel
theorem dX11_stand_39 : decode cX11_stand 39 = .ok (.ireturn, 1) := by decide +kernel
theorem dX11_best_0 : decode cX11_best 0 = .ok (.aload_n 0, 1) := by decide +kernel
theorem dX11_best_1 : decode cX11_best 1 = .ok (.iconst 1, 1) := by decide +kernel
theorem dX11_best_2 : decode cX11_best 2 = .ok (.iload_n 1, 1) := by decide +kernel
theorem dX11_best_3 : decode cX11_best 3 = .ok (.invokevirtual 141, 3) := by decide +kernel
theorem dX11_best_6 : decode cX11_best 6 = .ok (.ifCond .eq 18, 3) := by decide +kernel
theorem dX11_best_9 : decode cX11_best 9 = .ok (.iload_n 2, 1) := by decide +kernel
theorem dX11_best_10 : decode cX11_best 10 = .ok (.invokestatic 145, 3) := by decide +kernel
theorem dX11_best_13 : decode cX11_best 13 = .ok (.ifCond .eq 11, 3) := by decide +kernel
theorem dX11_best_16 : decode cX11_best 16 = .ok (.aload_n 0, 1) := by decide +kernel
theorem dX11_best_17 : decode cX11_best 17 = .ok (.iload_n 3, 1) := by decide +kernel
theorem dX11_best_18 : decode cX11_best 18 = .ok (.invokevirtual 273, 3) := by decide +kernel
theorem dX11_best_21 : decode cX11_best 21 = .ok (.ifCond .ne 5, 3) := by decide +kernel
theorem dX11_best_24 : decode cX11_best 24 = .ok (.iconst (-1), 1) := by decide +kernel
theorem dX11_best_25 : decode cX11_best 25 = .ok (.ireturn, 1) := by decide +kernel
theorem dX11_best_26 : decode cX11_best 26 = .ok (.iload_n 2, 1) := by decide +kernel
theorem dX11_best_27 : decode cX11_best 27 = .ok (.istore 4, 2) := by decide +kernel
theorem dX11_best_29 : decode cX11_best 29 = .ok (.iload 4, 2) := by decide +kernel
theorem dX11_best_31 : decode cX11_best 31 = .ok (.bipush 24, 2) := by decide +kernel
theorem dX11_best_33 : decode cX11_best 33 = .ok (.if_icmp .ge 55, 3) := by decide +kernel
theorem dX11_best_36 : decode cX11_best 36 = .ok (.aload_n 0, 1) := by decide +kernel
theorem dX11_best_37 : decode cX11_best 37 = .ok (.getfield 46, 3) := by decide +kernel
theorem dX11_best_40 : decode cX11_best 40 = .ok (.aload_n 0, 1) := by decide +kernel
theorem dX11_best_41 : decode cX11_best 41 = .ok (.getfield 46, 3) := by decide +kernel
theorem dX11_best_44 : decode cX11_best 44 = .ok (.iload_n 1, 1) := by decide +kernel
theorem dX11_best_45 : decode cX11_best 45 = .ok (.iload 4, 2) := by decide +kernel
theorem dX11_best_47 : decode cX11_best 47 = .ok (.invokevirtual 153, 3) := by decide +kernel
theorem dX11_best_50 : decode cX11_best 50 = .ok (.iload 4, 2) := by decide +kernel
theorem dX11_best_52 : decode cX11_best 52 = .ok (.invokevirtual 156, 3) := by decide +kernel
theorem dX11_best_55 : decode cX11_best 55 = .ok (.istore 5, 2) := by decide +kernel
theorem dX11_best_57 : decode cX11_best 57 = .ok (.iload_n 3, 1) := by decide +kernel
theorem dX11_best_58 : decode cX11_best 58 = .ok (.iload 5, 2) := by decide +kernel
theorem dX11_best_60 : decode cX11_best 60 = .ok (.iconst (-1), 1) := by decide +kernel
theorem dX11_best_61 : decode cX11_best 61 = .ok (.ixor, 1) := by decide +kernel
theorem dX11_best_62 : decode cX11_best 62 = .ok (.iand, 1) := by decide +kernel
theorem dX11_best_63 : decode cX11_best 63 = .ok (.ifCond .ne 19, 3) := by decide +kernel
theorem dX11_best_66 : decode cX11_best 66 = .ok (.aload_n 0, 1) := by decide +kernel
theorem dX11_best_67 : decode cX11_best 67 = .ok (.getfield 46, 3) := by decide +kernel
theorem dX11_best_70 : decode cX11_best 70 = .ok (.iload_n 1, 1) := by decide +kernel
theorem dX11_best_71 : decode cX11_best 71 = .ok (.iload 4, 2) := by decide +kernel
theorem dX11_best_73 : decode cX11_best 73 = .ok (.invokevirtual 324, 3) := by decide +kernel
theorem dX11_best_76 : decode cX11_best 76 = .ok (.ifCond .eq 6, 3) := by decide +kernel
theorem dX11_best_79 : decode cX11_best 79 = .ok (.iload 4, 2) := by decide +kernel
theorem dX11_best_81 : decode cX11_best 81 = .ok (.ireturn, 1) := by decide +kernel
theorem dX11_best_82 : decode cX11_best 82 = .ok (.iinc 4 1, 3) := by decide +kernel
theorem dX11_best_85 : decode cX11_best 85 = .ok (.goto (-56), 3) := by decide +kernel
theorem dX11_best_88 : decode cX11_best 88 = .ok (.bipush (-2), 2) := by decide +kernel
theorem dX11_best_90 : decode cX11_best 90 = .ok (.ireturn, 1) := by decide +kernel
theorem dX11_rule_0 : decode cX11_rule 0 = .ok (.iload_n 1, 1) := by decide +kernel
theorem dX11_rule_1 : decode cX11_rule 1 = .ok (.ifCond .lt 8, 3) := by decide +kernel
theorem dX11_rule_4 : decode cX11_rule 4 = .ok (.iload_n 1, 1) := by decide +kernel
theorem dX11_rule_5 : decode cX11_rule 5 = .ok (.iconst 2, 1) := by decide +kernel
theorem dX11_rule_6 : decode cX11_rule 6 = .ok (.if_icmp .le 5, 3) := by decide +kernel
theorem dX11_rule_9 : decode cX11_rule 9 = .ok (.iconst (-1), 1) := by decide +kernel
theorem dX11_rule_10 : decode cX11_rule 10 = .ok (.ireturn, 1) := by decide +kernel
theorem dX11_rule_11 : decode cX11_rule 11 = .ok (.aload_n 0, 1) := by decide +kernel
theorem dX11_rule_12 : decode cX11_rule 12 = .ok (.getfield 91, 3) := by decide +kernel
theorem dX11_rule_15 : decode cX11_rule 15 = .ok (.aload_n 0, 1) := by decide +kernel
theorem dX11_rule_16 : decode cX11_rule 16 = .ok (.getfield 46, 3) := by decide +kernel
theorem dX11_rule_19 : decode cX11_rule 19 = .ok (.invokevirtual 333, 3) := by decide +kernel
theorem dX11_rule_22 : decode cX11_rule 22 = .ok (.iload_n 1, 1) := by decide +kernel
theorem dX11_rule_23 : decode cX11_rule 23 = .ok (.ifCond .ne 18, 3) := by decide +kernel
theorem dX11_rule_26 : decode cX11_rule 26 = .ok (.aload_n 0, 1) := by decide +kernel
theorem dX11_rule_27 : decode cX11_rule 27 = .ok (.getfield 91, 3) := by decide +kernel
theorem dX11_rule_30 : decode cX11_rule 30 = .ok (.getfield 336, 3) := by decide +kernel
theorem dX11_rule_33 : decode cX11_rule 33 = .ok (.aload_n 0, 1) := by decide +kernel
theorem dX11_rule_34 : decode cX11_rule 34 = .ok (.getfield 46, 3) := by decide +kernel
theorem dX11_rule_37 : decode cX11_rule 37 = .ok (.invokevirtual 255, 3) := by decide +kernel
theorem dX11_rule_40 : decode cX11_rule 40 = .ok (.ireturn, 1) := by decide +kernel
theorem dX11_rule_41 : decode cX11_rule 41 = .ok (.iload_n 1, 1) := by decide +kernel
theorem dX11_rule_42 : decode cX11_rule 42 = .ok (.iconst 1, 1) := by decide +kernel
theorem dX11_rule_43 : decode cX11_rule 43 = .ok (.if_icmp .ne 13, 3) := by decide +kernel
theorem dX11_rule_46 : decode cX11_rule 46 = .ok (.aload_n 0, 1) := by decide +kernel
theorem dX11_rule_47 : decode cX11_rule 47 = .ok (.getfield 91, 3) := by decide +kernel
theorem dX11_rule_50 : decode cX11_rule 50 = .ok (.getfield 337, 3) := by decide +kernel
theorem dX11_rule_53 : decode cX11_rule 53 = .ok (.goto 10, 3) := by decide +kernel
theorem dX11_rule_56 : decode cX11_rule 56 = .ok (.aload_n 0, 1) := by decide +kernel
theorem dX11_rule_57 : decode cX11_rule 57 = .ok (.getfield 91, 3) := by decide +kernel
theorem dX11_rule_60 : decode cX11_rule 60 = .ok (.getfield 338, 3) := by decide +kernel
theorem dX11_rule_63 : decode cX11_rule 63 = .ok (.ireturn, 1) := by decide +kernel
theorem dX11_ruled_0 : decode cX11_ruled 0 = .ok (.aload_n 0, 1) := by decide +kernel
theorem dX11_ruled_1 : decode cX11_ruled 1 = .ok (.iconst 1, 1) := by decide +kernel
theorem dX11_ruled_2 : decode cX11_ruled 2 = .ok (.iload_n 1, 1) := by decide +kernel
theorem dX11_ruled_3 : decode cX11_ruled 3 = .ok (.invokevirtual 141, 3) := by decide +kernel
theorem dX11_ruled_6 : decode cX11_ruled 6 = .ok (.ifCond .eq 10, 3) := by decide +kernel
theorem dX11_ruled_9 : decode cX11_ruled 9 = .ok (.iload_n 2, 1) := by decide +kernel
theorem dX11_ruled_10 : decode cX11_ruled 10 = .ok (.invokestatic 219, 3) := by decide +kernel
theorem dX11_ruled_13 : decode cX11_ruled 13 = .ok (.ifCond .ne 5, 3) := by decide +kernel
theorem dX11_ruled_16 : decode cX11_ruled 16 = .ok (.iconst (-1), 1) := by decide +kernel
theorem dX11_ruled_17 : decode cX11_ruled 17 = .ok (.ireturn, 1) := by decide +kernel
theorem dX11_ruled_18 : decode cX11_ruled 18 = .ok (.aload_n 0, 1) := by decide +kernel
theorem dX11_ruled_19 : decode cX11_ruled 19 = .ok (.getfield 91, 3) := by decide +kernel
theorem dX11_ruled_22 : decode cX11_ruled 22 = .ok (.aload_n 0, 1) := by decide +kernel
theorem dX11_ruled_23 : decode cX11_ruled 23 = .ok (.getfield 46, 3) := by decide +kernel
theorem dX11_ruled_26 : decode cX11_ruled 26 = .ok (.invokevirtual 333, 3) := by decide +kernel
theorem dX11_ruled_29 : decode cX11_ruled 29 = .ok (.aload_n 0, 1) := by decide +kernel
theorem dX11_ruled_30 : decode cX11_ruled 30 = .ok (.getfield 91, 3) := by decide +kernel
theorem dX11_ruled_33 : decode cX11_ruled 33 = .ok (.getfield 336, 3) := by decide +kernel
theorem dX11_ruled_36 : decode cX11_ruled 36 = .ok (.iload_n 1, 1) := by decide +kernel
theorem dX11_ruled_37 : decode cX11_ruled 37 = .ok (.iload_n 2, 1) := by decide +kernel
theorem dX11_ruled_38 : decode cX11_ruled 38 = .ok (.invokevirtual 226, 3) := by decide +kernel
theorem dX11_ruled_41 : decode cX11_ruled 41 = .ok (.ireturn, 1) := by decide +kernel
theorem dX11_isFrail_0 : decode cX11_isFrail 0 = .ok (.iload_n 0, 1) := by decide +kernel
theorem dX11_isFrail_1 : decode cX11_isFrail 1 = .ok (.ifCond .lt 13, 3) := by decide +kernel
theorem dX11_isFrail_4 : decode cX11_isFrail 4 = .ok (.iload_n 0, 1) := by decide +kernel
theorem dX11_isFrail_5 : decode cX11_isFrail 5 = .ok (.bipush 100, 2) := by decide +kernel
theorem dX11_isFrail_7 : decode cX11_isFrail 7 = .ok (.if_icmp .gt 7, 3) := by decide +kernel
theorem dX11_isFrail_10 : decode cX11_isFrail 10 = .ok (.iconst 1, 1) := by decide +kernel
theorem dX11_isFrail_11 : decode cX11_isFrail 11 = .ok (.goto 4, 3) := by decide +kernel
theorem dX11_isFrail_14 : decode cX11_isFrail 14 = .ok (.iconst 0, 1) := by decide +kernel
theorem dX11_isFrail_15 : decode cX11_isFrail 15 = .ok (.ireturn, 1) := by decide +kernel
theorem dX11_goDay_0 : decode cX11_goDay 0 = .ok (.aload_n 0, 1) := by decide +kernel
theorem dX11_goDay_1 : decode cX11_goDay 1 = .ok (.getfield 71, 3) := by decide +kernel
theorem dX11_goDay_4 : decode cX11_goDay 4 = .ok (.iload_n 1, 1) := by decide +kernel
theorem dX11_goDay_5 : decode cX11_goDay 5 = .ok (.iload_n 2, 1) := by decide +kernel
theorem dX11_goDay_6 : decode cX11_goDay 6 = .ok (.aload_n 0, 1) := by decide +kernel
theorem dX11_goDay_7 : decode cX11_goDay 7 = .ok (.getfield 46, 3) := by decide +kernel
theorem dX11_goDay_10 : decode cX11_goDay 10 = .ok (.getfield 137, 3) := by decide +kernel
theorem dX11_goDay_13 : decode cX11_goDay 13 = .ok (.iconst 1, 1) := by decide +kernel
theorem dX11_goDay_14 : decode cX11_goDay 14 = .ok (.iaload, 1) := by decide +kernel
theorem dX11_goDay_15 : decode cX11_goDay 15 = .ok (.invokevirtual 341, 3) := by decide +kernel
theorem dX11_goDay_18 : decode cX11_goDay 18 = .ok (.aload_n 0, 1) := by decide +kernel
theorem dX11_goDay_19 : decode cX11_goDay 19 = .ok (.getfield 71, 3) := by decide +kernel
theorem dX11_goDay_22 : decode cX11_goDay 22 = .ok (.aload_n 0, 1) := by decide +kernel
theorem dX11_goDay_23 : decode cX11_goDay 23 = .ok (.getfield 46, 3) := by decide +kernel
theorem dX11_goDay_26 : decode cX11_goDay 26 = .ok (.aload_n 0, 1) := by decide +kernel
theorem dX11_goDay_27 : decode cX11_goDay 27 = .ok (.getfield 56, 3) := by decide +kernel
theorem dX11_goDay_30 : decode cX11_goDay 30 = .ok (.invokevirtual 208, 3) := by decide +kernel
theorem dX11_goDay_33 : decode cX11_goDay 33 = .ok (.return_, 1) := by decide +kernel
theorem dX11_day_0 : decode cX11_day 0 = .ok (.iload_n 2, 1) := by decide +kernel
theorem dX11_day_1 : decode cX11_day 1 = .ok (.invokestatic 345, 3) := by decide +kernel
theorem dX11_day_4 : decode cX11_day 4 = .ok (.ifCond .eq 12, 3) := by decide +kernel
theorem dX11_day_7 : decode cX11_day 7 = .ok (.iload_n 3, 1) := by decide +kernel
theorem dX11_day_8 : decode cX11_day 8 = .ok (.ifCond .lt 8, 3) := by decide +kernel
theorem dX11_day_11 : decode cX11_day 11 = .ok (.iload_n 3, 1) := by decide +kernel
theorem dX11_day_12 : decode cX11_day 12 = .ok (.iconst 3, 1) := by decide +kernel
theorem dX11_day_13 : decode cX11_day 13 = .ok (.if_icmp .le 5, 3) := by decide +kernel
theorem dX11_day_16 : decode cX11_day 16 = .ok (.iconst (-1), 1) := by decide +kernel
theorem dX11_day_17 : decode cX11_day 17 = .ok (.ireturn, 1) := by decide +kernel
theorem dX11_day_18 : decode cX11_day 18 = .ok (.aload_n 0, 1) := by decide +kernel
theorem dX11_day_19 : decode cX11_day 19 = .ok (.iload_n 1, 1) := by decide +kernel
theorem dX11_day_20 : decode cX11_day 20 = .ok (.iload_n 2, 1) := by decide +kernel
theorem dX11_day_21 : decode cX11_day 21 = .ok (.invokevirtual 348, 3) := by decide +kernel
theorem dX11_day_24 : decode cX11_day 24 = .ok (.iload_n 3, 1) := by decide +kernel
theorem dX11_day_25 : decode cX11_day 25 = .ok (.tableswitch 68 0 2 #[27, 41, 53], 27) := by decide +kernel
theorem dX11_day_52 : decode cX11_day 52 = .ok (.aload_n 0, 1) := by decide +kernel
theorem dX11_day_53 : decode cX11_day 53 = .ok (.getfield 71, 3) := by decide +kernel
theorem dX11_day_56 : decode cX11_day 56 = .ok (.bipush 23, 2) := by decide +kernel
theorem dX11_day_58 : decode cX11_day 58 = .ok (.aload_n 0, 1) := by decide +kernel
theorem dX11_day_59 : decode cX11_day 59 = .ok (.getfield 46, 3) := by decide +kernel
theorem dX11_day_62 : decode cX11_day 62 = .ok (.invokevirtual 351, 3) := by decide +kernel
theorem dX11_day_65 : decode cX11_day 65 = .ok (.ireturn, 1) := by decide +kernel
theorem dX11_day_66 : decode cX11_day 66 = .ok (.aload_n 0, 1) := by decide +kernel
theorem dX11_day_67 : decode cX11_day 67 = .ok (.getfield 71, 3) := by decide +kernel
theorem dX11_day_70 : decode cX11_day 70 = .ok (.aload_n 0, 1) := by decide +kernel
theorem dX11_day_71 : decode cX11_day 71 = .ok (.getfield 46, 3) := by decide +kernel
theorem dX11_day_74 : decode cX11_day 74 = .ok (.invokevirtual 355, 3) := by decide +kernel
theorem dX11_day_77 : decode cX11_day 77 = .ok (.ireturn, 1) := by decide +kernel
theorem dX11_day_78 : decode cX11_day 78 = .ok (.aload_n 0, 1) := by decide +kernel
theorem dX11_day_79 : decode cX11_day 79 = .ok (.getfield 71, 3) := by decide +kernel
theorem dX11_day_82 : decode cX11_day 82 = .ok (.getfield 222, 3) := by decide +kernel
theorem dX11_day_85 : decode cX11_day 85 = .ok (.aload_n 0, 1) := by decide +kernel
theorem dX11_day_86 : decode cX11_day 86 = .ok (.getfield 46, 3) := by decide +kernel
theorem dX11_day_89 : decode cX11_day 89 = .ok (.invokevirtual 255, 3) := by decide +kernel
theorem dX11_day_92 : decode cX11_day 92 = .ok (.ireturn, 1) := by decide +kernel
theorem dX11_day_93 : decode cX11_day 93 = .ok (.aload_n 0, 1) := by decide +kernel
theorem dX11_day_94 : decode cX11_day 94 = .ok (.getfield 71, 3) := by decide +kernel
theorem dX11_day_97 : decode cX11_day 97 = .ok (.getfield 358, 3) := by decide +kernel
theorem dX11_day_100 : decode cX11_day 100 = .ok (.ireturn, 1) := by decide +kernel
theorem dX11_kept_0 : decode cX11_kept 0 = .ok (.iload_n 2, 1) := by decide +kernel
theorem dX11_kept_1 : decode cX11_kept 1 = .ok (.iconst 1, 1) := by decide +kernel
theorem dX11_kept_2 : decode cX11_kept 2 = .ok (.if_icmp .lt 26, 3) := by decide +kernel
theorem dX11_kept_5 : decode cX11_kept 5 = .ok (.iload_n 2, 1) := by decide +kernel
theorem dX11_kept_6 : decode cX11_kept 6 = .ok (.bipush 50, 2) := by decide +kernel
theorem dX11_kept_8 : decode cX11_kept 8 = .ok (.if_icmp .gt 20, 3) := by decide +kernel
theorem dX11_kept_11 : decode cX11_kept 11 = .ok (.iload_n 3, 1) := by decide +kernel
theorem dX11_kept_12 : decode cX11_kept 12 = .ok (.invokestatic 345, 3) := by decide +kernel
theorem dX11_kept_15 : decode cX11_kept 15 = .ok (.ifCond .eq 13, 3) := by decide +kernel
theorem dX11_kept_18 : decode cX11_kept 18 = .ok (.aload_n 0, 1) := by decide +kernel
theorem dX11_kept_19 : decode cX11_kept 19 = .ok (.iconst 2, 1) := by decide +kernel
theorem dX11_kept_20 : decode cX11_kept 20 = .ok (.iload 4, 2) := by decide +kernel
theorem dX11_kept_22 : decode cX11_kept 22 = .ok (.invokevirtual 141, 3) := by decide +kernel
theorem dX11_kept_25 : decode cX11_kept 25 = .ok (.ifCond .ne 5, 3) := by decide +kernel
theorem dX11_kept_28 : decode cX11_kept 28 = .ok (.iconst (-1), 1) := by decide +kernel
theorem dX11_kept_29 : decode cX11_kept 29 = .ok (.ireturn, 1) := by decide +kernel
theorem dX11_kept_30 : decode cX11_kept 30 = .ok (.iconst 0, 1) := by decide +kernel
theorem dX11_kept_31 : decode cX11_kept 31 = .ok (.istore 5, 2) := by decide +kernel
theorem dX11_kept_33 : decode cX11_kept 33 = .ok (.iconst 0, 1) := by decide +kernel
theorem dX11_kept_34 : decode cX11_kept 34 = .ok (.istore 6, 2) := by decide +kernel
theorem dX11_kept_36 : decode cX11_kept 36 = .ok (.iload 6, 2) := by decide +kernel
theorem dX11_kept_38 : decode cX11_kept 38 = .ok (.iload_n 2, 1) := by decide +kernel
theorem dX11_kept_39 : decode cX11_kept 39 = .ok (.if_icmp .ge 40, 3) := by decide +kernel
theorem dX11_kept_42 : decode cX11_kept 42 = .ok (.aload_n 0, 1) := by decide +kernel
theorem dX11_kept_43 : decode cX11_kept 43 = .ok (.iload_n 1, 1) := by decide +kernel
theorem dX11_kept_44 : decode cX11_kept 44 = .ok (.iload 6, 2) := by decide +kernel
theorem dX11_kept_46 : decode cX11_kept 46 = .ok (.iadd, 1) := by decide +kernel
theorem dX11_kept_47 : decode cX11_kept 47 = .ok (.iload_n 3, 1) := by decide +kernel
theorem dX11_kept_48 : decode cX11_kept 48 = .ok (.invokevirtual 348, 3) := by decide +kernel
theorem dX11_kept_51 : decode cX11_kept 51 = .ok (.aload_n 0, 1) := by decide +kernel
theorem dX11_kept_52 : decode cX11_kept 52 = .ok (.getfield 71, 3) := by decide +kernel
theorem dX11_kept_55 : decode cX11_kept 55 = .ok (.aload_n 0, 1) := by decide +kernel
theorem dX11_kept_56 : decode cX11_kept 56 = .ok (.getfield 46, 3) := by decide +kernel
theorem dX11_kept_59 : decode cX11_kept 59 = .ok (.invokevirtual 355, 3) := by decide +kernel
theorem dX11_kept_62 : decode cX11_kept 62 = .ok (.iload 4, 2) := by decide +kernel
theorem dX11_kept_64 : decode cX11_kept 64 = .ok (.invokestatic 248, 3) := by decide +kernel
theorem dX11_kept_67 : decode cX11_kept 67 = .ok (.ifCond .ne 6, 3) := by decide +kernel
theorem dX11_kept_70 : decode cX11_kept 70 = .ok (.iinc 5 1, 3) := by decide +kernel
theorem dX11_kept_73 : decode cX11_kept 73 = .ok (.iinc 6 1, 3) := by decide +kernel
theorem dX11_kept_76 : decode cX11_kept 76 = .ok (.goto (-40), 3) := by decide +kernel
theorem dX11_kept_79 : decode cX11_kept 79 = .ok (.iload 5, 2) := by decide +kernel
theorem dX11_kept_81 : decode cX11_kept 81 = .ok (.ireturn, 1) := by decide +kernel
theorem dX11_count_0 : decode cX11_count 0 = .ok (.iload_n 1, 1) := by decide +kernel
theorem dX11_count_1 : decode cX11_count 1 = .ok (.ifCond .lt 25, 3) := by decide +kernel
theorem dX11_count_4 : decode cX11_count 4 = .ok (.iload_n 1, 1) := by decide +kernel
theorem dX11_count_5 : decode cX11_count 5 = .ok (.getstatic 359, 3) := by decide +kernel
theorem dX11_count_8 : decode cX11_count 8 = .ok (.arraylength, 1) := by decide +kernel
theorem dX11_count_9 : decode cX11_count 9 = .ok (.if_icmp .ge 17, 3) := by decide +kernel
theorem dX11_count_12 : decode cX11_count 12 = .ok (.aload_n 0, 1) := by decide +kernel
theorem dX11_count_13 : decode cX11_count 13 = .ok (.getfield 46, 3) := by decide +kernel
theorem dX11_count_16 : decode cX11_count 16 = .ok (.getfield 137, 3) := by decide +kernel
theorem dX11_count_19 : decode cX11_count 19 = .ok (.getstatic 359, 3) := by decide +kernel
theorem dX11_count_22 : decode cX11_count 22 = .ok (.iload_n 1, 1) := by decide +kernel
theorem dX11_count_23 : decode cX11_count 23 = .ok (.iaload, 1) := by decide +kernel
theorem dX11_count_24 : decode cX11_count 24 = .ok (.iaload, 1) := by decide +kernel
theorem dX11_count_25 : decode cX11_count 25 = .ok (.ireturn, 1) := by decide +kernel
theorem dX11_count_26 : decode cX11_count 26 = .ok (.iload_n 1, 1) := by decide +kernel
theorem dX11_count_27 : decode cX11_count 27 = .ok (.tableswitch 46 10 12 #[25, 33, 38], 25) := by decide +kernel
theorem dX11_count_52 : decode cX11_count 52 = .ok (.aload_n 0, 1) := by decide +kernel
theorem dX11_count_53 : decode cX11_count 53 = .ok (.getfield 56, 3) := by decide +kernel
theorem dX11_count_56 : decode cX11_count 56 = .ok (.getfield 186, 3) := by decide +kernel
theorem dX11_count_59 : decode cX11_count 59 = .ok (.ireturn, 1) := by decide +kernel
theorem dX11_count_60 : decode cX11_count 60 = .ok (.aload_n 0, 1) := by decide +kernel
theorem dX11_count_61 : decode cX11_count 61 = .ok (.getfield 13, 3) := by decide +kernel
theorem dX11_count_64 : decode cX11_count 64 = .ok (.ireturn, 1) := by decide +kernel
theorem dX11_count_65 : decode cX11_count 65 = .ok (.aload_n 0, 1) := by decide +kernel
theorem dX11_count_66 : decode cX11_count 66 = .ok (.getfield 56, 3) := by decide +kernel
theorem dX11_count_69 : decode cX11_count 69 = .ok (.invokevirtual 362, 3) := by decide +kernel
theorem dX11_count_72 : decode cX11_count 72 = .ok (.ireturn, 1) := by decide +kernel
theorem dX11_count_73 : decode cX11_count 73 = .ok (.aload_n 0, 1) := by decide +kernel
theorem dX11_count_74 : decode cX11_count 74 = .ok (.iload_n 1, 1) := by decide +kernel
theorem dX11_count_75 : decode cX11_count 75 = .ok (.invokevirtual 365, 3) := by decide +kernel
theorem dX11_count_78 : decode cX11_count 78 = .ok (.ireturn, 1) := by decide +kernel
theorem dX11_countOfOne_0 : decode cX11_countOfOne 0 = .ok (.iload_n 1, 1) := by decide +kernel
theorem dX11_countOfOne_1 : decode cX11_countOfOne 1 = .ok (.bipush 20, 2) := by decide +kernel
theorem dX11_countOfOne_3 : decode cX11_countOfOne 3 = .ok (.if_icmp .lt 28, 3) := by decide +kernel
theorem dX11_countOfOne_6 : decode cX11_countOfOne 6 = .ok (.aload_n 0, 1) := by decide +kernel
theorem dX11_countOfOne_7 : decode cX11_countOfOne 7 = .ok (.iconst 2, 1) := by decide +kernel
theorem dX11_countOfOne_8 : decode cX11_countOfOne 8 = .ok (.iload_n 1, 1) := by decide +kernel
theorem dX11_countOfOne_9 : decode cX11_countOfOne 9 = .ok (.bipush 20, 2) := by decide +kernel
theorem dX11_countOfOne_11 : decode cX11_countOfOne 11 = .ok (.isub, 1) := by decide +kernel
theorem dX11_countOfOne_12 : decode cX11_countOfOne 12 = .ok (.invokevirtual 141, 3) := by decide +kernel
theorem dX11_countOfOne_15 : decode cX11_countOfOne 15 = .ok (.ifCond .eq 16, 3) := by decide +kernel
theorem dX11_countOfOne_18 : decode cX11_countOfOne 18 = .ok (.aload_n 0, 1) := by decide +kernel
theorem dX11_countOfOne_19 : decode cX11_countOfOne 19 = .ok (.getfield 46, 3) := by decide +kernel
theorem dX11_countOfOne_22 : decode cX11_countOfOne 22 = .ok (.getfield 245, 3) := by decide +kernel
theorem dX11_countOfOne_25 : decode cX11_countOfOne 25 = .ok (.iload_n 1, 1) := by decide +kernel
theorem dX11_countOfOne_26 : decode cX11_countOfOne 26 = .ok (.bipush 20, 2) := by decide +kernel
theorem dX11_countOfOne_28 : decode cX11_countOfOne 28 = .ok (.isub, 1) := by decide +kernel
theorem dX11_countOfOne_29 : decode cX11_countOfOne 29 = .ok (.iaload, 1) := by decide +kernel
theorem dX11_countOfOne_30 : decode cX11_countOfOne 30 = .ok (.ireturn, 1) := by decide +kernel
theorem dX11_countOfOne_31 : decode cX11_countOfOne 31 = .ok (.iload_n 1, 1) := by decide +kernel
theorem dX11_countOfOne_32 : decode cX11_countOfOne 32 = .ok (.bipush 30, 2) := by decide +kernel
theorem dX11_countOfOne_34 : decode cX11_countOfOne 34 = .ok (.if_icmp .lt 32, 3) := by decide +kernel
theorem dX11_countOfOne_37 : decode cX11_countOfOne 37 = .ok (.aload_n 0, 1) := by decide +kernel
theorem dX11_countOfOne_38 : decode cX11_countOfOne 38 = .ok (.bipush 8, 2) := by decide +kernel
theorem dX11_countOfOne_40 : decode cX11_countOfOne 40 = .ok (.iload_n 1, 1) := by decide +kernel
theorem dX11_countOfOne_41 : decode cX11_countOfOne 41 = .ok (.bipush 30, 2) := by decide +kernel
theorem dX11_countOfOne_43 : decode cX11_countOfOne 43 = .ok (.isub, 1) := by decide +kernel
theorem dX11_countOfOne_44 : decode cX11_countOfOne 44 = .ok (.invokevirtual 141, 3) := by decide +kernel
theorem dX11_countOfOne_47 : decode cX11_countOfOne 47 = .ok (.ifCond .eq 19, 3) := by decide +kernel
theorem dX11_countOfOne_50 : decode cX11_countOfOne 50 = .ok (.aload_n 0, 1) := by decide +kernel
theorem dX11_countOfOne_51 : decode cX11_countOfOne 51 = .ok (.getfield 46, 3) := by decide +kernel
theorem dX11_countOfOne_54 : decode cX11_countOfOne 54 = .ok (.getfield 308, 3) := by decide +kernel
theorem dX11_countOfOne_57 : decode cX11_countOfOne 57 = .ok (.iload_n 1, 1) := by decide +kernel
theorem dX11_countOfOne_58 : decode cX11_countOfOne 58 = .ok (.bipush 30, 2) := by decide +kernel
theorem dX11_countOfOne_60 : decode cX11_countOfOne 60 = .ok (.isub, 1) := by decide +kernel
theorem dX11_countOfOne_61 : decode cX11_countOfOne 61 = .ok (.iaload, 1) := by decide +kernel
theorem dX11_countOfOne_62 : decode cX11_countOfOne 62 = .ok (.invokestatic 261, 3) := by decide +kernel
theorem dX11_countOfOne_65 : decode cX11_countOfOne 65 = .ok (.ireturn, 1) := by decide +kernel
theorem dX11_countOfOne_66 : decode cX11_countOfOne 66 = .ok (.iload_n 1, 1) := by decide +kernel
theorem dX11_countOfOne_67 : decode cX11_countOfOne 67 = .ok (.bipush 40, 2) := by decide +kernel
theorem dX11_countOfOne_69 : decode cX11_countOfOne 69 = .ok (.if_icmp .lt 29, 3) := by decide +kernel
theorem dX11_countOfOne_72 : decode cX11_countOfOne 72 = .ok (.aload_n 0, 1) := by decide +kernel
theorem dX11_countOfOne_73 : decode cX11_countOfOne 73 = .ok (.bipush 7, 2) := by decide +kernel
theorem dX11_countOfOne_75 : decode cX11_countOfOne 75 = .ok (.iload_n 1, 1) := by decide +kernel
theorem dX11_countOfOne_76 : decode cX11_countOfOne 76 = .ok (.bipush 40, 2) := by decide +kernel
theorem dX11_countOfOne_78 : decode cX11_countOfOne 78 = .ok (.isub, 1) := by decide +kernel
theorem dX11_countOfOne_79 : decode cX11_countOfOne 79 = .ok (.invokevirtual 141, 3) := by decide +kernel
theorem dX11_countOfOne_82 : decode cX11_countOfOne 82 = .ok (.ifCond .eq 16, 3) := by decide +kernel
theorem dX11_countOfOne_85 : decode cX11_countOfOne 85 = .ok (.aload_n 0, 1) := by decide +kernel
theorem dX11_countOfOne_86 : decode cX11_countOfOne 86 = .ok (.getfield 46, 3) := by decide +kernel
theorem dX11_countOfOne_89 : decode cX11_countOfOne 89 = .ok (.getfield 368, 3) := by decide +kernel
theorem dX11_countOfOne_92 : decode cX11_countOfOne 92 = .ok (.iload_n 1, 1) := by decide +kernel
theorem dX11_countOfOne_93 : decode cX11_countOfOne 93 = .ok (.bipush 40, 2) := by decide +kernel
theorem dX11_countOfOne_95 : decode cX11_countOfOne 95 = .ok (.isub, 1) := by decide +kernel
theorem dX11_countOfOne_96 : decode cX11_countOfOne 96 = .ok (.iaload, 1) := by decide +kernel
theorem dX11_countOfOne_97 : decode cX11_countOfOne 97 = .ok (.ireturn, 1) := by decide +kernel
theorem dX11_countOfOne_98 : decode cX11_countOfOne 98 = .ok (.iconst (-1), 1) := by decide +kernel
theorem dX11_countOfOne_99 : decode cX11_countOfOne 99 = .ok (.ireturn, 1) := by decide +kernel
theorem dX11_hasBit_0 : decode cX11_hasBit 0 = .ok (.iload_n 0, 1) := by decide +kernel
theorem dX11_hasBit_1 : decode cX11_hasBit 1 = .ok (.iload_n 1, 1) := by decide +kernel
theorem dX11_hasBit_2 : decode cX11_hasBit 2 = .ok (.iushr, 1) := by decide +kernel
theorem dX11_hasBit_3 : decode cX11_hasBit 3 = .ok (.iconst 1, 1) := by decide +kernel
theorem dX11_hasBit_4 : decode cX11_hasBit 4 = .ok (.iand, 1) := by decide +kernel
theorem dX11_hasBit_5 : decode cX11_hasBit 5 = .ok (.iconst 1, 1) := by decide +kernel
theorem dX11_hasBit_6 : decode cX11_hasBit 6 = .ok (.if_icmp .ne 7, 3) := by decide +kernel
theorem dX11_hasBit_9 : decode cX11_hasBit 9 = .ok (.iconst 1, 1) := by decide +kernel
theorem dX11_hasBit_10 : decode cX11_hasBit 10 = .ok (.goto 4, 3) := by decide +kernel
theorem dX11_hasBit_13 : decode cX11_hasBit 13 = .ok (.iconst 0, 1) := by decide +kernel
theorem dX11_hasBit_14 : decode cX11_hasBit 14 = .ok (.ireturn, 1) := by decide +kernel
theorem dX11_lot_0 : decode cX11_lot 0 = .ok (.iload_n 1, 1) := by decide +kernel
theorem dX11_lot_1 : decode cX11_lot 1 = .ok (.bipush 17, 2) := by decide +kernel
theorem dX11_lot_3 : decode cX11_lot 3 = .ok (.invokestatic 371, 3) := by decide +kernel
theorem dX11_lot_6 : decode cX11_lot 6 = .ok (.iload_n 2, 1) := by decide +kernel
theorem dX11_lot_7 : decode cX11_lot 7 = .ok (.invokestatic 371, 3) := by decide +kernel
theorem dX11_lot_10 : decode cX11_lot 10 = .ok (.istore_n 3, 1) := by decide +kernel
theorem dX11_lot_11 : decode cX11_lot 11 = .ok (.iload_n 0, 1) := by decide +kernel
theorem dX11_lot_12 : decode cX11_lot 12 = .ok (.ifCond .gt 7, 3) := by decide +kernel
theorem dX11_lot_15 : decode cX11_lot 15 = .ok (.iconst 0, 1) := by decide +kernel
theorem dX11_lot_16 : decode cX11_lot 16 = .ok (.goto 8, 3) := by decide +kernel
theorem dX11_lot_19 : decode cX11_lot 19 = .ok (.iload_n 3, 1) := by decide +kernel
theorem dX11_lot_20 : decode cX11_lot 20 = .ok (.iconst 1, 1) := by decide +kernel
theorem dX11_lot_21 : decode cX11_lot 21 = .ok (.iushr, 1) := by decide +kernel
theorem dX11_lot_22 : decode cX11_lot 22 = .ok (.iload_n 0, 1) := by decide +kernel
theorem dX11_lot_23 : decode cX11_lot 23 = .ok (.irem, 1) := by decide +kernel
theorem dX11_lot_24 : decode cX11_lot 24 = .ok (.ireturn, 1) := by decide +kernel
theorem dX11_mix_0 : decode cX11_mix 0 = .ok (.iload_n 0, 1) := by decide +kernel
theorem dX11_mix_1 : decode cX11_mix 1 = .ok (.iload_n 1, 1) := by decide +kernel
theorem dX11_mix_2 : decode cX11_mix 2 = .ok (.ixor, 1) := by decide +kernel
theorem dX11_mix_3 : decode cX11_mix 3 = .ok (.ldc_w 374, 3) := by decide +kernel
theorem dX11_mix_6 : decode cX11_mix 6 = .ok (.imul, 1) := by decide +kernel
theorem dX11_mix_7 : decode cX11_mix 7 = .ok (.sipush 12345, 3) := by decide +kernel
theorem dX11_mix_10 : decode cX11_mix 10 = .ok (.iadd, 1) := by decide +kernel
theorem dX11_mix_11 : decode cX11_mix 11 = .ok (.istore_n 2, 1) := by decide +kernel
theorem dX11_mix_12 : decode cX11_mix 12 = .ok (.iload_n 2, 1) := by decide +kernel
theorem dX11_mix_13 : decode cX11_mix 13 = .ok (.iload_n 2, 1) := by decide +kernel
theorem dX11_mix_14 : decode cX11_mix 14 = .ok (.bipush 15, 2) := by decide +kernel
theorem dX11_mix_16 : decode cX11_mix 16 = .ok (.iushr, 1) := by decide +kernel
theorem dX11_mix_17 : decode cX11_mix 17 = .ok (.ixor, 1) := by decide +kernel
theorem dX11_mix_18 : decode cX11_mix 18 = .ok (.ireturn, 1) := by decide +kernel
