/-! the law: decode rows of its wrappers -/
theorem dL_put_0 : decode cL_put 0 = .ok (.aload_n 3, 1) := by decide +kernel
theorem dL_put_1 : decode cL_put 1 = .ok (.iconst 0, 1) := by decide +kernel
theorem dL_put_2 : decode cL_put 2 = .ok (.aload_n 0, 1) := by decide +kernel
theorem dL_put_3 : decode cL_put 3 = .ok (.iload_n 1, 1) := by decide +kernel
theorem dL_put_4 : decode cL_put 4 = .ok (.iload_n 2, 1) := by decide +kernel
theorem dL_put_5 : decode cL_put 5 = .ok (.invokevirtual 7, 3) := by decide +kernel
theorem dL_put_8 : decode cL_put 8 = .ok (.i2l, 1) := by decide +kernel
theorem dL_put_9 : decode cL_put 9 = .ok (.lastore, 1) := by decide +kernel
theorem dL_put_10 : decode cL_put 10 = .ok (.goto 11, 3) := by decide +kernel
theorem dL_put_13 : decode cL_put 13 = .ok (.astore 4, 2) := by decide +kernel
theorem dL_put_15 : decode cL_put 15 = .ok (.iconst 1, 1) := by decide +kernel
theorem dL_put_16 : decode cL_put 16 = .ok (.ireturn, 1) := by decide +kernel
theorem dL_put_17 : decode cL_put 17 = .ok (.astore 4, 2) := by decide +kernel
theorem dL_put_19 : decode cL_put 19 = .ok (.iconst 2, 1) := by decide +kernel
theorem dL_put_20 : decode cL_put 20 = .ok (.ireturn, 1) := by decide +kernel
theorem dL_put_21 : decode cL_put 21 = .ok (.iconst 0, 1) := by decide +kernel
theorem dL_put_22 : decode cL_put 22 = .ok (.ireturn, 1) := by decide +kernel
theorem dL_take_0 : decode cL_take 0 = .ok (.aload_n 3, 1) := by decide +kernel
theorem dL_take_1 : decode cL_take 1 = .ok (.iconst 0, 1) := by decide +kernel
theorem dL_take_2 : decode cL_take 2 = .ok (.aload_n 0, 1) := by decide +kernel
theorem dL_take_3 : decode cL_take 3 = .ok (.iload_n 1, 1) := by decide +kernel
theorem dL_take_4 : decode cL_take 4 = .ok (.iload_n 2, 1) := by decide +kernel
theorem dL_take_5 : decode cL_take 5 = .ok (.invokevirtual 17, 3) := by decide +kernel
theorem dL_take_8 : decode cL_take 8 = .ok (.i2l, 1) := by decide +kernel
theorem dL_take_9 : decode cL_take 9 = .ok (.lastore, 1) := by decide +kernel
theorem dL_take_10 : decode cL_take 10 = .ok (.goto 11, 3) := by decide +kernel
theorem dL_take_13 : decode cL_take 13 = .ok (.astore 4, 2) := by decide +kernel
theorem dL_take_15 : decode cL_take 15 = .ok (.iconst 1, 1) := by decide +kernel
theorem dL_take_16 : decode cL_take 16 = .ok (.ireturn, 1) := by decide +kernel
theorem dL_take_17 : decode cL_take 17 = .ok (.astore 4, 2) := by decide +kernel
theorem dL_take_19 : decode cL_take 19 = .ok (.iconst 2, 1) := by decide +kernel
theorem dL_take_20 : decode cL_take 20 = .ok (.ireturn, 1) := by decide +kernel
theorem dL_take_21 : decode cL_take 21 = .ok (.iconst 0, 1) := by decide +kernel
theorem dL_take_22 : decode cL_take 22 = .ok (.ireturn, 1) := by decide +kernel
theorem dL_where_0 : decode cL_where 0 = .ok (.aload_n 3, 1) := by decide +kernel
theorem dL_where_1 : decode cL_where 1 = .ok (.iconst 0, 1) := by decide +kernel
theorem dL_where_2 : decode cL_where 2 = .ok (.aload_n 0, 1) := by decide +kernel
theorem dL_where_3 : decode cL_where 3 = .ok (.iload_n 1, 1) := by decide +kernel
theorem dL_where_4 : decode cL_where 4 = .ok (.iload_n 2, 1) := by decide +kernel
theorem dL_where_5 : decode cL_where 5 = .ok (.invokevirtual 20, 3) := by decide +kernel
theorem dL_where_8 : decode cL_where 8 = .ok (.i2l, 1) := by decide +kernel
theorem dL_where_9 : decode cL_where 9 = .ok (.lastore, 1) := by decide +kernel
theorem dL_where_10 : decode cL_where 10 = .ok (.goto 7, 3) := by decide +kernel
theorem dL_where_13 : decode cL_where 13 = .ok (.astore 4, 2) := by decide +kernel
theorem dL_where_15 : decode cL_where 15 = .ok (.iconst 1, 1) := by decide +kernel
theorem dL_where_16 : decode cL_where 16 = .ok (.ireturn, 1) := by decide +kernel
theorem dL_where_17 : decode cL_where 17 = .ok (.iconst 0, 1) := by decide +kernel
theorem dL_where_18 : decode cL_where 18 = .ok (.ireturn, 1) := by decide +kernel
theorem dL_whereByAll_0 : decode cL_whereByAll 0 = .ok (.aload_n 2, 1) := by decide +kernel
theorem dL_whereByAll_1 : decode cL_whereByAll 1 = .ok (.iconst 0, 1) := by decide +kernel
theorem dL_whereByAll_2 : decode cL_whereByAll 2 = .ok (.aload_n 0, 1) := by decide +kernel
theorem dL_whereByAll_3 : decode cL_whereByAll 3 = .ok (.iload_n 1, 1) := by decide +kernel
theorem dL_whereByAll_4 : decode cL_whereByAll 4 = .ok (.invokevirtual 23, 3) := by decide +kernel
theorem dL_whereByAll_7 : decode cL_whereByAll 7 = .ok (.i2l, 1) := by decide +kernel
theorem dL_whereByAll_8 : decode cL_whereByAll 8 = .ok (.lastore, 1) := by decide +kernel
theorem dL_whereByAll_9 : decode cL_whereByAll 9 = .ok (.goto 6, 3) := by decide +kernel
theorem dL_whereByAll_12 : decode cL_whereByAll 12 = .ok (.astore_n 3, 1) := by decide +kernel
theorem dL_whereByAll_13 : decode cL_whereByAll 13 = .ok (.iconst 1, 1) := by decide +kernel
theorem dL_whereByAll_14 : decode cL_whereByAll 14 = .ok (.ireturn, 1) := by decide +kernel
theorem dL_whereByAll_15 : decode cL_whereByAll 15 = .ok (.iconst 0, 1) := by decide +kernel
theorem dL_whereByAll_16 : decode cL_whereByAll 16 = .ok (.ireturn, 1) := by decide +kernel
theorem dL_count_0 : decode cL_count 0 = .ok (.aload_n 3, 1) := by decide +kernel
theorem dL_count_1 : decode cL_count 1 = .ok (.iconst 0, 1) := by decide +kernel
theorem dL_count_2 : decode cL_count 2 = .ok (.aload_n 0, 1) := by decide +kernel
theorem dL_count_3 : decode cL_count 3 = .ok (.iload_n 1, 1) := by decide +kernel
theorem dL_count_4 : decode cL_count 4 = .ok (.iload_n 2, 1) := by decide +kernel
theorem dL_count_5 : decode cL_count 5 = .ok (.invokevirtual 27, 3) := by decide +kernel
theorem dL_count_8 : decode cL_count 8 = .ok (.i2l, 1) := by decide +kernel
theorem dL_count_9 : decode cL_count 9 = .ok (.lastore, 1) := by decide +kernel
theorem dL_count_10 : decode cL_count 10 = .ok (.goto 7, 3) := by decide +kernel
theorem dL_count_13 : decode cL_count 13 = .ok (.astore 4, 2) := by decide +kernel
theorem dL_count_15 : decode cL_count 15 = .ok (.iconst 1, 1) := by decide +kernel
theorem dL_count_16 : decode cL_count 16 = .ok (.ireturn, 1) := by decide +kernel
theorem dL_count_17 : decode cL_count 17 = .ok (.iconst 0, 1) := by decide +kernel
theorem dL_count_18 : decode cL_count 18 = .ok (.ireturn, 1) := by decide +kernel
theorem dL_countByAll_0 : decode cL_countByAll 0 = .ok (.aload_n 2, 1) := by decide +kernel
theorem dL_countByAll_1 : decode cL_countByAll 1 = .ok (.iconst 0, 1) := by decide +kernel
theorem dL_countByAll_2 : decode cL_countByAll 2 = .ok (.aload_n 0, 1) := by decide +kernel
theorem dL_countByAll_3 : decode cL_countByAll 3 = .ok (.iload_n 1, 1) := by decide +kernel
theorem dL_countByAll_4 : decode cL_countByAll 4 = .ok (.invokevirtual 30, 3) := by decide +kernel
theorem dL_countByAll_7 : decode cL_countByAll 7 = .ok (.i2l, 1) := by decide +kernel
theorem dL_countByAll_8 : decode cL_countByAll 8 = .ok (.lastore, 1) := by decide +kernel
theorem dL_countByAll_9 : decode cL_countByAll 9 = .ok (.goto 6, 3) := by decide +kernel
theorem dL_countByAll_12 : decode cL_countByAll 12 = .ok (.astore_n 3, 1) := by decide +kernel
theorem dL_countByAll_13 : decode cL_countByAll 13 = .ok (.iconst 1, 1) := by decide +kernel
theorem dL_countByAll_14 : decode cL_countByAll 14 = .ok (.ireturn, 1) := by decide +kernel
theorem dL_countByAll_15 : decode cL_countByAll 15 = .ok (.iconst 0, 1) := by decide +kernel
theorem dL_countByAll_16 : decode cL_countByAll 16 = .ok (.ireturn, 1) := by decide +kernel
theorem dL_claims_0 : decode cL_claims 0 = .ok (.aload_n 3, 1) := by decide +kernel
theorem dL_claims_1 : decode cL_claims 1 = .ok (.iconst 0, 1) := by decide +kernel
theorem dL_claims_2 : decode cL_claims 2 = .ok (.aload_n 0, 1) := by decide +kernel
theorem dL_claims_3 : decode cL_claims 3 = .ok (.iload_n 1, 1) := by decide +kernel
theorem dL_claims_4 : decode cL_claims 4 = .ok (.iload_n 2, 1) := by decide +kernel
theorem dL_claims_5 : decode cL_claims 5 = .ok (.invokevirtual 33, 3) := by decide +kernel
theorem dL_claims_8 : decode cL_claims 8 = .ok (.i2l, 1) := by decide +kernel
theorem dL_claims_9 : decode cL_claims 9 = .ok (.lastore, 1) := by decide +kernel
theorem dL_claims_10 : decode cL_claims 10 = .ok (.goto 7, 3) := by decide +kernel
theorem dL_claims_13 : decode cL_claims 13 = .ok (.astore 4, 2) := by decide +kernel
theorem dL_claims_15 : decode cL_claims 15 = .ok (.iconst 1, 1) := by decide +kernel
theorem dL_claims_16 : decode cL_claims 16 = .ok (.ireturn, 1) := by decide +kernel
theorem dL_claims_17 : decode cL_claims 17 = .ok (.iconst 0, 1) := by decide +kernel
theorem dL_claims_18 : decode cL_claims 18 = .ok (.ireturn, 1) := by decide +kernel
theorem dL_meet_0 : decode cL_meet 0 = .ok (.aload_n 3, 1) := by decide +kernel
theorem dL_meet_1 : decode cL_meet 1 = .ok (.iconst 0, 1) := by decide +kernel
theorem dL_meet_2 : decode cL_meet 2 = .ok (.aload_n 0, 1) := by decide +kernel
theorem dL_meet_3 : decode cL_meet 3 = .ok (.iload_n 1, 1) := by decide +kernel
theorem dL_meet_4 : decode cL_meet 4 = .ok (.iload_n 2, 1) := by decide +kernel
theorem dL_meet_5 : decode cL_meet 5 = .ok (.invokevirtual 36, 3) := by decide +kernel
theorem dL_meet_8 : decode cL_meet 8 = .ok (.i2l, 1) := by decide +kernel
theorem dL_meet_9 : decode cL_meet 9 = .ok (.lastore, 1) := by decide +kernel
theorem dL_meet_10 : decode cL_meet 10 = .ok (.goto 11, 3) := by decide +kernel
theorem dL_meet_13 : decode cL_meet 13 = .ok (.astore 4, 2) := by decide +kernel
theorem dL_meet_15 : decode cL_meet 15 = .ok (.iconst 1, 1) := by decide +kernel
theorem dL_meet_16 : decode cL_meet 16 = .ok (.ireturn, 1) := by decide +kernel
theorem dL_meet_17 : decode cL_meet 17 = .ok (.astore 4, 2) := by decide +kernel
theorem dL_meet_19 : decode cL_meet 19 = .ok (.iconst 2, 1) := by decide +kernel
theorem dL_meet_20 : decode cL_meet 20 = .ok (.ireturn, 1) := by decide +kernel
theorem dL_meet_21 : decode cL_meet 21 = .ok (.iconst 0, 1) := by decide +kernel
theorem dL_meet_22 : decode cL_meet 22 = .ok (.ireturn, 1) := by decide +kernel
theorem dL_known_0 : decode cL_known 0 = .ok (.aload_n 2, 1) := by decide +kernel
theorem dL_known_1 : decode cL_known 1 = .ok (.iconst 0, 1) := by decide +kernel
theorem dL_known_2 : decode cL_known 2 = .ok (.aload_n 0, 1) := by decide +kernel
theorem dL_known_3 : decode cL_known 3 = .ok (.iload_n 1, 1) := by decide +kernel
theorem dL_known_4 : decode cL_known 4 = .ok (.invokevirtual 41, 3) := by decide +kernel
theorem dL_known_7 : decode cL_known 7 = .ok (.i2l, 1) := by decide +kernel
theorem dL_known_8 : decode cL_known 8 = .ok (.lastore, 1) := by decide +kernel
theorem dL_known_9 : decode cL_known 9 = .ok (.goto 6, 3) := by decide +kernel
theorem dL_known_12 : decode cL_known 12 = .ok (.astore_n 3, 1) := by decide +kernel
theorem dL_known_13 : decode cL_known 13 = .ok (.iconst 1, 1) := by decide +kernel
theorem dL_known_14 : decode cL_known 14 = .ok (.ireturn, 1) := by decide +kernel
theorem dL_known_15 : decode cL_known 15 = .ok (.iconst 0, 1) := by decide +kernel
theorem dL_known_16 : decode cL_known 16 = .ok (.ireturn, 1) := by decide +kernel
theorem dL_clock_0 : decode cL_clock 0 = .ok (.aload_n 2, 1) := by decide +kernel
theorem dL_clock_1 : decode cL_clock 1 = .ok (.iconst 0, 1) := by decide +kernel
theorem dL_clock_2 : decode cL_clock 2 = .ok (.aload_n 0, 1) := by decide +kernel
theorem dL_clock_3 : decode cL_clock 3 = .ok (.iload_n 1, 1) := by decide +kernel
theorem dL_clock_4 : decode cL_clock 4 = .ok (.invokevirtual 44, 3) := by decide +kernel
theorem dL_clock_7 : decode cL_clock 7 = .ok (.i2l, 1) := by decide +kernel
theorem dL_clock_8 : decode cL_clock 8 = .ok (.lastore, 1) := by decide +kernel
theorem dL_clock_9 : decode cL_clock 9 = .ok (.goto 6, 3) := by decide +kernel
theorem dL_clock_12 : decode cL_clock 12 = .ok (.astore_n 3, 1) := by decide +kernel
theorem dL_clock_13 : decode cL_clock 13 = .ok (.iconst 1, 1) := by decide +kernel
theorem dL_clock_14 : decode cL_clock 14 = .ok (.ireturn, 1) := by decide +kernel
theorem dL_clock_15 : decode cL_clock 15 = .ok (.iconst 0, 1) := by decide +kernel
theorem dL_clock_16 : decode cL_clock 16 = .ok (.ireturn, 1) := by decide +kernel
theorem dL_guest_0 : decode cL_guest 0 = .ok (.aload 6, 2) := by decide +kernel
theorem dL_guest_2 : decode cL_guest 2 = .ok (.iconst 0, 1) := by decide +kernel
theorem dL_guest_3 : decode cL_guest 3 = .ok (.aload_n 0, 1) := by decide +kernel
theorem dL_guest_4 : decode cL_guest 4 = .ok (.iload_n 1, 1) := by decide +kernel
theorem dL_guest_5 : decode cL_guest 5 = .ok (.iload_n 2, 1) := by decide +kernel
theorem dL_guest_6 : decode cL_guest 6 = .ok (.iload_n 3, 1) := by decide +kernel
theorem dL_guest_7 : decode cL_guest 7 = .ok (.iload 4, 2) := by decide +kernel
theorem dL_guest_9 : decode cL_guest 9 = .ok (.iload 5, 2) := by decide +kernel
theorem dL_guest_11 : decode cL_guest 11 = .ok (.invokevirtual 47, 3) := by decide +kernel
theorem dL_guest_14 : decode cL_guest 14 = .ok (.i2l, 1) := by decide +kernel
theorem dL_guest_15 : decode cL_guest 15 = .ok (.lastore, 1) := by decide +kernel
theorem dL_guest_16 : decode cL_guest 16 = .ok (.goto 15, 3) := by decide +kernel
theorem dL_guest_19 : decode cL_guest 19 = .ok (.astore 7, 2) := by decide +kernel
theorem dL_guest_21 : decode cL_guest 21 = .ok (.iconst 1, 1) := by decide +kernel
theorem dL_guest_22 : decode cL_guest 22 = .ok (.ireturn, 1) := by decide +kernel
theorem dL_guest_23 : decode cL_guest 23 = .ok (.astore 7, 2) := by decide +kernel
theorem dL_guest_25 : decode cL_guest 25 = .ok (.iconst 2, 1) := by decide +kernel
theorem dL_guest_26 : decode cL_guest 26 = .ok (.ireturn, 1) := by decide +kernel
theorem dL_guest_27 : decode cL_guest 27 = .ok (.astore 7, 2) := by decide +kernel
theorem dL_guest_29 : decode cL_guest 29 = .ok (.iconst 3, 1) := by decide +kernel
theorem dL_guest_30 : decode cL_guest 30 = .ok (.ireturn, 1) := by decide +kernel
theorem dL_guest_31 : decode cL_guest 31 = .ok (.iconst 0, 1) := by decide +kernel
theorem dL_guest_32 : decode cL_guest 32 = .ok (.ireturn, 1) := by decide +kernel
theorem dL_guests_0 : decode cL_guests 0 = .ok (.aload_n 3, 1) := by decide +kernel
theorem dL_guests_1 : decode cL_guests 1 = .ok (.iconst 0, 1) := by decide +kernel
theorem dL_guests_2 : decode cL_guests 2 = .ok (.aload_n 0, 1) := by decide +kernel
theorem dL_guests_3 : decode cL_guests 3 = .ok (.iload_n 1, 1) := by decide +kernel
theorem dL_guests_4 : decode cL_guests 4 = .ok (.iload_n 2, 1) := by decide +kernel
theorem dL_guests_5 : decode cL_guests 5 = .ok (.invokevirtual 51, 3) := by decide +kernel
theorem dL_guests_8 : decode cL_guests 8 = .ok (.i2l, 1) := by decide +kernel
theorem dL_guests_9 : decode cL_guests 9 = .ok (.lastore, 1) := by decide +kernel
theorem dL_guests_10 : decode cL_guests 10 = .ok (.goto 11, 3) := by decide +kernel
theorem dL_guests_13 : decode cL_guests 13 = .ok (.astore 4, 2) := by decide +kernel
theorem dL_guests_15 : decode cL_guests 15 = .ok (.iconst 1, 1) := by decide +kernel
theorem dL_guests_16 : decode cL_guests 16 = .ok (.ireturn, 1) := by decide +kernel
theorem dL_guests_17 : decode cL_guests 17 = .ok (.astore 4, 2) := by decide +kernel
theorem dL_guests_19 : decode cL_guests 19 = .ok (.iconst 2, 1) := by decide +kernel
theorem dL_guests_20 : decode cL_guests 20 = .ok (.ireturn, 1) := by decide +kernel
theorem dL_guests_21 : decode cL_guests 21 = .ok (.iconst 0, 1) := by decide +kernel
theorem dL_guests_22 : decode cL_guests 22 = .ok (.ireturn, 1) := by decide +kernel
theorem dL_setNeed_0 : decode cL_setNeed 0 = .ok (.aload 4, 2) := by decide +kernel
theorem dL_setNeed_2 : decode cL_setNeed 2 = .ok (.iconst 0, 1) := by decide +kernel
theorem dL_setNeed_3 : decode cL_setNeed 3 = .ok (.aload_n 0, 1) := by decide +kernel
theorem dL_setNeed_4 : decode cL_setNeed 4 = .ok (.iload_n 1, 1) := by decide +kernel
theorem dL_setNeed_5 : decode cL_setNeed 5 = .ok (.iload_n 2, 1) := by decide +kernel
theorem dL_setNeed_6 : decode cL_setNeed 6 = .ok (.iload_n 3, 1) := by decide +kernel
theorem dL_setNeed_7 : decode cL_setNeed 7 = .ok (.invokevirtual 54, 3) := by decide +kernel
theorem dL_setNeed_10 : decode cL_setNeed 10 = .ok (.i2l, 1) := by decide +kernel
theorem dL_setNeed_11 : decode cL_setNeed 11 = .ok (.lastore, 1) := by decide +kernel
theorem dL_setNeed_12 : decode cL_setNeed 12 = .ok (.goto 11, 3) := by decide +kernel
theorem dL_setNeed_15 : decode cL_setNeed 15 = .ok (.astore 5, 2) := by decide +kernel
theorem dL_setNeed_17 : decode cL_setNeed 17 = .ok (.iconst 1, 1) := by decide +kernel
theorem dL_setNeed_18 : decode cL_setNeed 18 = .ok (.ireturn, 1) := by decide +kernel
theorem dL_setNeed_19 : decode cL_setNeed 19 = .ok (.astore 5, 2) := by decide +kernel
theorem dL_setNeed_21 : decode cL_setNeed 21 = .ok (.iconst 2, 1) := by decide +kernel
theorem dL_setNeed_22 : decode cL_setNeed 22 = .ok (.ireturn, 1) := by decide +kernel
theorem dL_setNeed_23 : decode cL_setNeed 23 = .ok (.iconst 0, 1) := by decide +kernel
theorem dL_setNeed_24 : decode cL_setNeed 24 = .ok (.ireturn, 1) := by decide +kernel
theorem dL_plan_0 : decode cL_plan 0 = .ok (.aload 4, 2) := by decide +kernel
theorem dL_plan_2 : decode cL_plan 2 = .ok (.iconst 0, 1) := by decide +kernel
theorem dL_plan_3 : decode cL_plan 3 = .ok (.aload_n 0, 1) := by decide +kernel
theorem dL_plan_4 : decode cL_plan 4 = .ok (.iload_n 1, 1) := by decide +kernel
theorem dL_plan_5 : decode cL_plan 5 = .ok (.iload_n 2, 1) := by decide +kernel
theorem dL_plan_6 : decode cL_plan 6 = .ok (.iload_n 3, 1) := by decide +kernel
theorem dL_plan_7 : decode cL_plan 7 = .ok (.invokevirtual 58, 3) := by decide +kernel
theorem dL_plan_10 : decode cL_plan 10 = .ok (.i2l, 1) := by decide +kernel
theorem dL_plan_11 : decode cL_plan 11 = .ok (.lastore, 1) := by decide +kernel
theorem dL_plan_12 : decode cL_plan 12 = .ok (.goto 15, 3) := by decide +kernel
theorem dL_plan_15 : decode cL_plan 15 = .ok (.astore 5, 2) := by decide +kernel
theorem dL_plan_17 : decode cL_plan 17 = .ok (.iconst 1, 1) := by decide +kernel
theorem dL_plan_18 : decode cL_plan 18 = .ok (.ireturn, 1) := by decide +kernel
theorem dL_plan_19 : decode cL_plan 19 = .ok (.astore 5, 2) := by decide +kernel
theorem dL_plan_21 : decode cL_plan 21 = .ok (.iconst 2, 1) := by decide +kernel
theorem dL_plan_22 : decode cL_plan 22 = .ok (.ireturn, 1) := by decide +kernel
theorem dL_plan_23 : decode cL_plan 23 = .ok (.astore 5, 2) := by decide +kernel
theorem dL_plan_25 : decode cL_plan 25 = .ok (.iconst 3, 1) := by decide +kernel
theorem dL_plan_26 : decode cL_plan 26 = .ok (.ireturn, 1) := by decide +kernel
theorem dL_plan_27 : decode cL_plan 27 = .ok (.iconst 0, 1) := by decide +kernel
theorem dL_plan_28 : decode cL_plan 28 = .ok (.ireturn, 1) := by decide +kernel
theorem dL_keep_0 : decode cL_keep 0 = .ok (.aload_n 3, 1) := by decide +kernel
theorem dL_keep_1 : decode cL_keep 1 = .ok (.iconst 0, 1) := by decide +kernel
theorem dL_keep_2 : decode cL_keep 2 = .ok (.aload_n 0, 1) := by decide +kernel
theorem dL_keep_3 : decode cL_keep 3 = .ok (.iload_n 1, 1) := by decide +kernel
theorem dL_keep_4 : decode cL_keep 4 = .ok (.iload_n 2, 1) := by decide +kernel
theorem dL_keep_5 : decode cL_keep 5 = .ok (.invokevirtual 61, 3) := by decide +kernel
theorem dL_keep_8 : decode cL_keep 8 = .ok (.i2l, 1) := by decide +kernel
theorem dL_keep_9 : decode cL_keep 9 = .ok (.lastore, 1) := by decide +kernel
theorem dL_keep_10 : decode cL_keep 10 = .ok (.goto 11, 3) := by decide +kernel
theorem dL_keep_13 : decode cL_keep 13 = .ok (.astore 4, 2) := by decide +kernel
theorem dL_keep_15 : decode cL_keep 15 = .ok (.iconst 1, 1) := by decide +kernel
theorem dL_keep_16 : decode cL_keep 16 = .ok (.ireturn, 1) := by decide +kernel
theorem dL_keep_17 : decode cL_keep 17 = .ok (.astore 4, 2) := by decide +kernel
theorem dL_keep_19 : decode cL_keep 19 = .ok (.iconst 2, 1) := by decide +kernel
theorem dL_keep_20 : decode cL_keep 20 = .ok (.ireturn, 1) := by decide +kernel
theorem dL_keep_21 : decode cL_keep 21 = .ok (.iconst 0, 1) := by decide +kernel
theorem dL_keep_22 : decode cL_keep 22 = .ok (.ireturn, 1) := by decide +kernel
theorem dL_drop_0 : decode cL_drop 0 = .ok (.aload_n 3, 1) := by decide +kernel
theorem dL_drop_1 : decode cL_drop 1 = .ok (.iconst 0, 1) := by decide +kernel
theorem dL_drop_2 : decode cL_drop 2 = .ok (.aload_n 0, 1) := by decide +kernel
theorem dL_drop_3 : decode cL_drop 3 = .ok (.iload_n 1, 1) := by decide +kernel
theorem dL_drop_4 : decode cL_drop 4 = .ok (.iload_n 2, 1) := by decide +kernel
theorem dL_drop_5 : decode cL_drop 5 = .ok (.invokevirtual 64, 3) := by decide +kernel
theorem dL_drop_8 : decode cL_drop 8 = .ok (.i2l, 1) := by decide +kernel
theorem dL_drop_9 : decode cL_drop 9 = .ok (.lastore, 1) := by decide +kernel
theorem dL_drop_10 : decode cL_drop 10 = .ok (.goto 11, 3) := by decide +kernel
theorem dL_drop_13 : decode cL_drop 13 = .ok (.astore 4, 2) := by decide +kernel
theorem dL_drop_15 : decode cL_drop 15 = .ok (.iconst 1, 1) := by decide +kernel
theorem dL_drop_16 : decode cL_drop 16 = .ok (.ireturn, 1) := by decide +kernel
theorem dL_drop_17 : decode cL_drop 17 = .ok (.astore 4, 2) := by decide +kernel
theorem dL_drop_19 : decode cL_drop 19 = .ok (.iconst 2, 1) := by decide +kernel
theorem dL_drop_20 : decode cL_drop 20 = .ok (.ireturn, 1) := by decide +kernel
theorem dL_drop_21 : decode cL_drop 21 = .ok (.iconst 0, 1) := by decide +kernel
theorem dL_drop_22 : decode cL_drop 22 = .ok (.ireturn, 1) := by decide +kernel
theorem dL_bake_0 : decode cL_bake 0 = .ok (.aload_n 3, 1) := by decide +kernel
theorem dL_bake_1 : decode cL_bake 1 = .ok (.iconst 0, 1) := by decide +kernel
theorem dL_bake_2 : decode cL_bake 2 = .ok (.aload_n 0, 1) := by decide +kernel
theorem dL_bake_3 : decode cL_bake 3 = .ok (.iload_n 1, 1) := by decide +kernel
theorem dL_bake_4 : decode cL_bake 4 = .ok (.iload_n 2, 1) := by decide +kernel
theorem dL_bake_5 : decode cL_bake 5 = .ok (.invokevirtual 67, 3) := by decide +kernel
theorem dL_bake_8 : decode cL_bake 8 = .ok (.i2l, 1) := by decide +kernel
theorem dL_bake_9 : decode cL_bake 9 = .ok (.lastore, 1) := by decide +kernel
theorem dL_bake_10 : decode cL_bake 10 = .ok (.goto 11, 3) := by decide +kernel
theorem dL_bake_13 : decode cL_bake 13 = .ok (.astore 4, 2) := by decide +kernel
theorem dL_bake_15 : decode cL_bake 15 = .ok (.iconst 1, 1) := by decide +kernel
theorem dL_bake_16 : decode cL_bake 16 = .ok (.ireturn, 1) := by decide +kernel
theorem dL_bake_17 : decode cL_bake 17 = .ok (.astore 4, 2) := by decide +kernel
theorem dL_bake_19 : decode cL_bake 19 = .ok (.iconst 2, 1) := by decide +kernel
theorem dL_bake_20 : decode cL_bake 20 = .ok (.ireturn, 1) := by decide +kernel
theorem dL_bake_21 : decode cL_bake 21 = .ok (.iconst 0, 1) := by decide +kernel
theorem dL_bake_22 : decode cL_bake 22 = .ok (.ireturn, 1) := by decide +kernel
theorem dL_cake_0 : decode cL_cake 0 = .ok (.aload_n 3, 1) := by decide +kernel
theorem dL_cake_1 : decode cL_cake 1 = .ok (.iconst 0, 1) := by decide +kernel
theorem dL_cake_2 : decode cL_cake 2 = .ok (.aload_n 0, 1) := by decide +kernel
theorem dL_cake_3 : decode cL_cake 3 = .ok (.iload_n 1, 1) := by decide +kernel
theorem dL_cake_4 : decode cL_cake 4 = .ok (.iload_n 2, 1) := by decide +kernel
theorem dL_cake_5 : decode cL_cake 5 = .ok (.invokevirtual 70, 3) := by decide +kernel
theorem dL_cake_8 : decode cL_cake 8 = .ok (.i2l, 1) := by decide +kernel
theorem dL_cake_9 : decode cL_cake 9 = .ok (.lastore, 1) := by decide +kernel
theorem dL_cake_10 : decode cL_cake 10 = .ok (.goto 7, 3) := by decide +kernel
theorem dL_cake_13 : decode cL_cake 13 = .ok (.astore 4, 2) := by decide +kernel
theorem dL_cake_15 : decode cL_cake 15 = .ok (.iconst 1, 1) := by decide +kernel
theorem dL_cake_16 : decode cL_cake 16 = .ok (.ireturn, 1) := by decide +kernel
theorem dL_cake_17 : decode cL_cake 17 = .ok (.iconst 0, 1) := by decide +kernel
theorem dL_cake_18 : decode cL_cake 18 = .ok (.ireturn, 1) := by decide +kernel
theorem dL_keptFor_0 : decode cL_keptFor 0 = .ok (.aload_n 3, 1) := by decide +kernel
theorem dL_keptFor_1 : decode cL_keptFor 1 = .ok (.iconst 0, 1) := by decide +kernel
theorem dL_keptFor_2 : decode cL_keptFor 2 = .ok (.aload_n 0, 1) := by decide +kernel
theorem dL_keptFor_3 : decode cL_keptFor 3 = .ok (.iload_n 1, 1) := by decide +kernel
theorem dL_keptFor_4 : decode cL_keptFor 4 = .ok (.iload_n 2, 1) := by decide +kernel
theorem dL_keptFor_5 : decode cL_keptFor 5 = .ok (.invokevirtual 73, 3) := by decide +kernel
theorem dL_keptFor_8 : decode cL_keptFor 8 = .ok (.i2l, 1) := by decide +kernel
theorem dL_keptFor_9 : decode cL_keptFor 9 = .ok (.lastore, 1) := by decide +kernel
theorem dL_keptFor_10 : decode cL_keptFor 10 = .ok (.goto 7, 3) := by decide +kernel
theorem dL_keptFor_13 : decode cL_keptFor 13 = .ok (.astore 4, 2) := by decide +kernel
theorem dL_keptFor_15 : decode cL_keptFor 15 = .ok (.iconst 1, 1) := by decide +kernel
theorem dL_keptFor_16 : decode cL_keptFor 16 = .ok (.ireturn, 1) := by decide +kernel
theorem dL_keptFor_17 : decode cL_keptFor 17 = .ok (.iconst 0, 1) := by decide +kernel
theorem dL_keptFor_18 : decode cL_keptFor 18 = .ok (.ireturn, 1) := by decide +kernel
theorem dL_keptByAll_0 : decode cL_keptByAll 0 = .ok (.aload_n 2, 1) := by decide +kernel
theorem dL_keptByAll_1 : decode cL_keptByAll 1 = .ok (.iconst 0, 1) := by decide +kernel
theorem dL_keptByAll_2 : decode cL_keptByAll 2 = .ok (.aload_n 0, 1) := by decide +kernel
theorem dL_keptByAll_3 : decode cL_keptByAll 3 = .ok (.iload_n 1, 1) := by decide +kernel
theorem dL_keptByAll_4 : decode cL_keptByAll 4 = .ok (.invokevirtual 76, 3) := by decide +kernel
theorem dL_keptByAll_7 : decode cL_keptByAll 7 = .ok (.i2l, 1) := by decide +kernel
theorem dL_keptByAll_8 : decode cL_keptByAll 8 = .ok (.lastore, 1) := by decide +kernel
theorem dL_keptByAll_9 : decode cL_keptByAll 9 = .ok (.goto 6, 3) := by decide +kernel
theorem dL_keptByAll_12 : decode cL_keptByAll 12 = .ok (.astore_n 3, 1) := by decide +kernel
theorem dL_keptByAll_13 : decode cL_keptByAll 13 = .ok (.iconst 1, 1) := by decide +kernel
theorem dL_keptByAll_14 : decode cL_keptByAll 14 = .ok (.ireturn, 1) := by decide +kernel
theorem dL_keptByAll_15 : decode cL_keptByAll 15 = .ok (.iconst 0, 1) := by decide +kernel
theorem dL_keptByAll_16 : decode cL_keptByAll 16 = .ok (.ireturn, 1) := by decide +kernel
theorem dL_lacks_0 : decode cL_lacks 0 = .ok (.aload 4, 2) := by decide +kernel
theorem dL_lacks_2 : decode cL_lacks 2 = .ok (.iconst 0, 1) := by decide +kernel
theorem dL_lacks_3 : decode cL_lacks 3 = .ok (.aload_n 0, 1) := by decide +kernel
theorem dL_lacks_4 : decode cL_lacks 4 = .ok (.iload_n 1, 1) := by decide +kernel
theorem dL_lacks_5 : decode cL_lacks 5 = .ok (.iload_n 2, 1) := by decide +kernel
theorem dL_lacks_6 : decode cL_lacks 6 = .ok (.iload_n 3, 1) := by decide +kernel
theorem dL_lacks_7 : decode cL_lacks 7 = .ok (.invokevirtual 79, 3) := by decide +kernel
theorem dL_lacks_10 : decode cL_lacks 10 = .ok (.i2l, 1) := by decide +kernel
theorem dL_lacks_11 : decode cL_lacks 11 = .ok (.lastore, 1) := by decide +kernel
theorem dL_lacks_12 : decode cL_lacks 12 = .ok (.goto 7, 3) := by decide +kernel
theorem dL_lacks_15 : decode cL_lacks 15 = .ok (.astore 5, 2) := by decide +kernel
theorem dL_lacks_17 : decode cL_lacks 17 = .ok (.iconst 1, 1) := by decide +kernel
theorem dL_lacks_18 : decode cL_lacks 18 = .ok (.ireturn, 1) := by decide +kernel
theorem dL_lacks_19 : decode cL_lacks 19 = .ok (.iconst 0, 1) := by decide +kernel
theorem dL_lacks_20 : decode cL_lacks 20 = .ok (.ireturn, 1) := by decide +kernel
theorem dL_isUnfit_0 : decode cL_isUnfit 0 = .ok (.aload_n 3, 1) := by decide +kernel
theorem dL_isUnfit_1 : decode cL_isUnfit 1 = .ok (.iconst 0, 1) := by decide +kernel
theorem dL_isUnfit_2 : decode cL_isUnfit 2 = .ok (.aload_n 0, 1) := by decide +kernel
theorem dL_isUnfit_3 : decode cL_isUnfit 3 = .ok (.iload_n 1, 1) := by decide +kernel
theorem dL_isUnfit_4 : decode cL_isUnfit 4 = .ok (.iload_n 2, 1) := by decide +kernel
theorem dL_isUnfit_5 : decode cL_isUnfit 5 = .ok (.invokevirtual 82, 3) := by decide +kernel
theorem dL_isUnfit_8 : decode cL_isUnfit 8 = .ok (.ifCond .eq 7, 3) := by decide +kernel
theorem dL_isUnfit_11 : decode cL_isUnfit 11 = .ok (.lconst 1, 1) := by decide +kernel
theorem dL_isUnfit_12 : decode cL_isUnfit 12 = .ok (.goto 4, 3) := by decide +kernel
theorem dL_isUnfit_15 : decode cL_isUnfit 15 = .ok (.lconst 0, 1) := by decide +kernel
theorem dL_isUnfit_16 : decode cL_isUnfit 16 = .ok (.lastore, 1) := by decide +kernel
theorem dL_isUnfit_17 : decode cL_isUnfit 17 = .ok (.goto 7, 3) := by decide +kernel
theorem dL_isUnfit_20 : decode cL_isUnfit 20 = .ok (.astore 4, 2) := by decide +kernel
theorem dL_isUnfit_22 : decode cL_isUnfit 22 = .ok (.iconst 1, 1) := by decide +kernel
theorem dL_isUnfit_23 : decode cL_isUnfit 23 = .ok (.ireturn, 1) := by decide +kernel
theorem dL_isUnfit_24 : decode cL_isUnfit 24 = .ok (.iconst 0, 1) := by decide +kernel
theorem dL_isUnfit_25 : decode cL_isUnfit 25 = .ok (.ireturn, 1) := by decide +kernel
theorem dL_isSpoilt_0 : decode cL_isSpoilt 0 = .ok (.aload_n 3, 1) := by decide +kernel
theorem dL_isSpoilt_1 : decode cL_isSpoilt 1 = .ok (.iconst 0, 1) := by decide +kernel
theorem dL_isSpoilt_2 : decode cL_isSpoilt 2 = .ok (.aload_n 0, 1) := by decide +kernel
theorem dL_isSpoilt_3 : decode cL_isSpoilt 3 = .ok (.iload_n 1, 1) := by decide +kernel
theorem dL_isSpoilt_4 : decode cL_isSpoilt 4 = .ok (.iload_n 2, 1) := by decide +kernel
theorem dL_isSpoilt_5 : decode cL_isSpoilt 5 = .ok (.invokevirtual 86, 3) := by decide +kernel
theorem dL_isSpoilt_8 : decode cL_isSpoilt 8 = .ok (.ifCond .eq 7, 3) := by decide +kernel
theorem dL_isSpoilt_11 : decode cL_isSpoilt 11 = .ok (.lconst 1, 1) := by decide +kernel
theorem dL_isSpoilt_12 : decode cL_isSpoilt 12 = .ok (.goto 4, 3) := by decide +kernel
theorem dL_isSpoilt_15 : decode cL_isSpoilt 15 = .ok (.lconst 0, 1) := by decide +kernel
theorem dL_isSpoilt_16 : decode cL_isSpoilt 16 = .ok (.lastore, 1) := by decide +kernel
theorem dL_isSpoilt_17 : decode cL_isSpoilt 17 = .ok (.goto 7, 3) := by decide +kernel
theorem dL_isSpoilt_20 : decode cL_isSpoilt 20 = .ok (.astore 4, 2) := by decide +kernel
theorem dL_isSpoilt_22 : decode cL_isSpoilt 22 = .ok (.iconst 1, 1) := by decide +kernel
theorem dL_isSpoilt_23 : decode cL_isSpoilt 23 = .ok (.ireturn, 1) := by decide +kernel
theorem dL_isSpoilt_24 : decode cL_isSpoilt 24 = .ok (.iconst 0, 1) := by decide +kernel
theorem dL_isSpoilt_25 : decode cL_isSpoilt 25 = .ok (.ireturn, 1) := by decide +kernel
theorem dL_missing_0 : decode cL_missing 0 = .ok (.aload_n 3, 1) := by decide +kernel
theorem dL_missing_1 : decode cL_missing 1 = .ok (.iconst 0, 1) := by decide +kernel
theorem dL_missing_2 : decode cL_missing 2 = .ok (.aload_n 0, 1) := by decide +kernel
theorem dL_missing_3 : decode cL_missing 3 = .ok (.iload_n 1, 1) := by decide +kernel
theorem dL_missing_4 : decode cL_missing 4 = .ok (.iload_n 2, 1) := by decide +kernel
theorem dL_missing_5 : decode cL_missing 5 = .ok (.invokevirtual 89, 3) := by decide +kernel
theorem dL_missing_8 : decode cL_missing 8 = .ok (.i2l, 1) := by decide +kernel
theorem dL_missing_9 : decode cL_missing 9 = .ok (.lastore, 1) := by decide +kernel
theorem dL_missing_10 : decode cL_missing 10 = .ok (.goto 7, 3) := by decide +kernel
theorem dL_missing_13 : decode cL_missing 13 = .ok (.astore 4, 2) := by decide +kernel
theorem dL_missing_15 : decode cL_missing 15 = .ok (.iconst 1, 1) := by decide +kernel
theorem dL_missing_16 : decode cL_missing 16 = .ok (.ireturn, 1) := by decide +kernel
theorem dL_missing_17 : decode cL_missing 17 = .ok (.iconst 0, 1) := by decide +kernel
theorem dL_missing_18 : decode cL_missing 18 = .ok (.ireturn, 1) := by decide +kernel
def wvL_put : List Cond := .codeWith yL_put cL_put 5 (some .int) [(0, 10, 13, 13), (0, 10, 17, 15)] :: ([.classLink RL 13 "java/lang/IndexOutOfBoundsException", .classLink RL 15 "java/lang/IllegalStateException", .methodLink RL 7 yX3_put, .instanceMethod yX3_put, .selects RX3 yX3_put yX3_put, .initialized RX3] ++ wsX3_put)
theorem gvL_put_X3_put : GoodIn wvL_put (wsV RL 7 RX3 yX3_put wsX3_put) := goodIn_app (goodIn_of _ (by decide +kernel)) (goodIn_sub (fun _ h => List.mem_cons_of_mem _ (List.mem_append_right _ h)) (by decide +kernel))
def wvL_take : List Cond := .codeWith yL_take cL_take 5 (some .int) [(0, 10, 13, 13), (0, 10, 17, 15)] :: ([.classLink RL 13 "java/lang/IndexOutOfBoundsException", .classLink RL 15 "java/lang/IllegalStateException", .methodLink RL 17 yX3_take, .instanceMethod yX3_take, .selects RX3 yX3_take yX3_take, .initialized RX3] ++ wsX3_take)
theorem gvL_take_X3_take : GoodIn wvL_take (wsV RL 17 RX3 yX3_take wsX3_take) := goodIn_app (goodIn_of _ (by decide +kernel)) (goodIn_sub (fun _ h => List.mem_cons_of_mem _ (List.mem_append_right _ h)) (by decide +kernel))
def wvL_where : List Cond := .codeWith yL_where cL_where 5 (some .int) [(0, 10, 13, 13)] :: ([.classLink RL 13 "java/lang/IndexOutOfBoundsException", .methodLink RL 20 yX3_where, .instanceMethod yX3_where, .selects RX3 yX3_where yX3_where, .initialized RX3] ++ wsX3_where)
theorem gvL_where_X3_where : GoodIn wvL_where (wsV RL 20 RX3 yX3_where wsX3_where) := goodIn_app (goodIn_of _ (by decide +kernel)) (goodIn_sub (fun _ h => List.mem_cons_of_mem _ (List.mem_append_right _ h)) (by decide +kernel))
def wvL_whereByAll : List Cond := .codeWith yL_whereByAll cL_whereByAll 4 (some .int) [(0, 9, 12, 13)] :: ([.classLink RL 13 "java/lang/IndexOutOfBoundsException", .methodLink RL 23 yX3_whereByAll, .instanceMethod yX3_whereByAll, .selects RX3 yX3_whereByAll yX3_whereByAll, .initialized RX3] ++ wsX3_whereByAll)
theorem gvL_whereByAll_X3_whereByAll : GoodIn wvL_whereByAll (wsV RL 23 RX3 yX3_whereByAll wsX3_whereByAll) := goodIn_app (goodIn_of _ (by decide +kernel)) (goodIn_sub (fun _ h => List.mem_cons_of_mem _ (List.mem_append_right _ h)) (by decide +kernel))
def wvL_count : List Cond := .codeWith yL_count cL_count 5 (some .int) [(0, 10, 13, 13)] :: ([.classLink RL 13 "java/lang/IndexOutOfBoundsException", .methodLink RL 27 yX3_count, .instanceMethod yX3_count, .selects RX3 yX3_count yX3_count, .initialized RX3] ++ wsX3_count)
theorem gvL_count_X3_count : GoodIn wvL_count (wsV RL 27 RX3 yX3_count wsX3_count) := goodIn_app (goodIn_of _ (by decide +kernel)) (goodIn_sub (fun _ h => List.mem_cons_of_mem _ (List.mem_append_right _ h)) (by decide +kernel))
def wvL_countByAll : List Cond := .codeWith yL_countByAll cL_countByAll 4 (some .int) [(0, 9, 12, 13)] :: ([.classLink RL 13 "java/lang/IndexOutOfBoundsException", .methodLink RL 30 yX3_countByAll, .instanceMethod yX3_countByAll, .selects RX3 yX3_countByAll yX3_countByAll, .initialized RX3] ++ wsX3_countByAll)
theorem gvL_countByAll_X3_countByAll : GoodIn wvL_countByAll (wsV RL 30 RX3 yX3_countByAll wsX3_countByAll) := goodIn_app (goodIn_of _ (by decide +kernel)) (goodIn_sub (fun _ h => List.mem_cons_of_mem _ (List.mem_append_right _ h)) (by decide +kernel))
def wvL_claims : List Cond := .codeWith yL_claims cL_claims 5 (some .int) [(0, 10, 13, 13)] :: ([.classLink RL 13 "java/lang/IndexOutOfBoundsException", .methodLink RL 33 yX3_claims, .instanceMethod yX3_claims, .selects RX3 yX3_claims yX3_claims, .initialized RX3] ++ wsX3_claims)
theorem gvL_claims_X3_claims : GoodIn wvL_claims (wsV RL 33 RX3 yX3_claims wsX3_claims) := goodIn_app (goodIn_of _ (by decide +kernel)) (goodIn_sub (fun _ h => List.mem_cons_of_mem _ (List.mem_append_right _ h)) (by decide +kernel))
def wvL_meet : List Cond := .codeWith yL_meet cL_meet 5 (some .int) [(0, 10, 13, 13), (0, 10, 17, 39)] :: ([.classLink RL 13 "java/lang/IndexOutOfBoundsException", .classLink RL 39 "java/lang/IllegalArgumentException", .methodLink RL 36 yX3_meet, .instanceMethod yX3_meet, .selects RX3 yX3_meet yX3_meet, .initialized RX3] ++ wsX3_meet)
theorem gvL_meet_X3_meet : GoodIn wvL_meet (wsV RL 36 RX3 yX3_meet wsX3_meet) := goodIn_app (goodIn_of _ (by decide +kernel)) (goodIn_sub (fun _ h => List.mem_cons_of_mem _ (List.mem_append_right _ h)) (by decide +kernel))
def wvL_known : List Cond := .codeWith yL_known cL_known 4 (some .int) [(0, 9, 12, 13)] :: ([.classLink RL 13 "java/lang/IndexOutOfBoundsException", .methodLink RL 41 yX3_known, .instanceMethod yX3_known, .selects RX3 yX3_known yX3_known, .initialized RX3] ++ wsX3_known)
theorem gvL_known_X3_known : GoodIn wvL_known (wsV RL 41 RX3 yX3_known wsX3_known) := goodIn_app (goodIn_of _ (by decide +kernel)) (goodIn_sub (fun _ h => List.mem_cons_of_mem _ (List.mem_append_right _ h)) (by decide +kernel))
def wvL_clock : List Cond := .codeWith yL_clock cL_clock 4 (some .int) [(0, 9, 12, 13)] :: ([.classLink RL 13 "java/lang/IndexOutOfBoundsException", .methodLink RL 44 yX3_clock, .instanceMethod yX3_clock, .selects RX3 yX3_clock yX3_clock, .initialized RX3] ++ wsX3_clock)
theorem gvL_clock_X3_clock : GoodIn wvL_clock (wsV RL 44 RX3 yX3_clock wsX3_clock) := goodIn_app (goodIn_of _ (by decide +kernel)) (goodIn_sub (fun _ h => List.mem_cons_of_mem _ (List.mem_append_right _ h)) (by decide +kernel))
def wvL_guest : List Cond := .codeWith yL_guest cL_guest 8 (some .int) [(0, 16, 19, 13), (0, 16, 23, 39), (0, 16, 27, 15)] :: ([.classLink RL 13 "java/lang/IndexOutOfBoundsException", .classLink RL 39 "java/lang/IllegalArgumentException", .classLink RL 15 "java/lang/IllegalStateException", .methodLink RL 47 yX3_guest, .instanceMethod yX3_guest, .selects RX3 yX3_guest yX3_guest, .initialized RX3] ++ wsX3_guest)
theorem gvL_guest_X3_guest : GoodIn wvL_guest (wsV RL 47 RX3 yX3_guest wsX3_guest) := goodIn_app (goodIn_of _ (by decide +kernel)) (goodIn_sub (fun _ h => List.mem_cons_of_mem _ (List.mem_append_right _ h)) (by decide +kernel))
def wvL_guests : List Cond := .codeWith yL_guests cL_guests 5 (some .int) [(0, 10, 13, 13), (0, 10, 17, 39)] :: ([.classLink RL 13 "java/lang/IndexOutOfBoundsException", .classLink RL 39 "java/lang/IllegalArgumentException", .methodLink RL 51 yX3_guests, .instanceMethod yX3_guests, .selects RX3 yX3_guests yX3_guests, .initialized RX3] ++ wsX3_guests)
theorem gvL_guests_X3_guests : GoodIn wvL_guests (wsV RL 51 RX3 yX3_guests wsX3_guests) := goodIn_app (goodIn_of _ (by decide +kernel)) (goodIn_sub (fun _ h => List.mem_cons_of_mem _ (List.mem_append_right _ h)) (by decide +kernel))
def wvL_setNeed : List Cond := .codeWith yL_setNeed cL_setNeed 6 (some .int) [(0, 12, 15, 13), (0, 12, 19, 39)] :: ([.classLink RL 13 "java/lang/IndexOutOfBoundsException", .classLink RL 39 "java/lang/IllegalArgumentException", .methodLink RL 54 yX3_setNeed, .instanceMethod yX3_setNeed, .selects RX3 yX3_setNeed yX3_setNeed, .initialized RX3] ++ wsX3_setNeed)
theorem gvL_setNeed_X3_setNeed : GoodIn wvL_setNeed (wsV RL 54 RX3 yX3_setNeed wsX3_setNeed) := goodIn_app (goodIn_of _ (by decide +kernel)) (goodIn_sub (fun _ h => List.mem_cons_of_mem _ (List.mem_append_right _ h)) (by decide +kernel))
def wvL_plan : List Cond := .codeWith yL_plan cL_plan 6 (some .int) [(0, 12, 15, 13), (0, 12, 19, 39), (0, 12, 23, 15)] :: ([.classLink RL 13 "java/lang/IndexOutOfBoundsException", .classLink RL 39 "java/lang/IllegalArgumentException", .classLink RL 15 "java/lang/IllegalStateException", .methodLink RL 58 yX3_plan, .instanceMethod yX3_plan, .selects RX3 yX3_plan yX3_plan, .initialized RX3] ++ wsX3_plan)
theorem gvL_plan_X3_plan : GoodIn wvL_plan (wsV RL 58 RX3 yX3_plan wsX3_plan) := goodIn_app (goodIn_of _ (by decide +kernel)) (goodIn_sub (fun _ h => List.mem_cons_of_mem _ (List.mem_append_right _ h)) (by decide +kernel))
def wvL_keep : List Cond := .codeWith yL_keep cL_keep 5 (some .int) [(0, 10, 13, 13), (0, 10, 17, 15)] :: ([.classLink RL 13 "java/lang/IndexOutOfBoundsException", .classLink RL 15 "java/lang/IllegalStateException", .methodLink RL 61 yX3_keep, .instanceMethod yX3_keep, .selects RX3 yX3_keep yX3_keep, .initialized RX3] ++ wsX3_keep)
theorem gvL_keep_X3_keep : GoodIn wvL_keep (wsV RL 61 RX3 yX3_keep wsX3_keep) := goodIn_app (goodIn_of _ (by decide +kernel)) (goodIn_sub (fun _ h => List.mem_cons_of_mem _ (List.mem_append_right _ h)) (by decide +kernel))
def wvL_drop : List Cond := .codeWith yL_drop cL_drop 5 (some .int) [(0, 10, 13, 13), (0, 10, 17, 15)] :: ([.classLink RL 13 "java/lang/IndexOutOfBoundsException", .classLink RL 15 "java/lang/IllegalStateException", .methodLink RL 64 yX3_drop, .instanceMethod yX3_drop, .selects RX3 yX3_drop yX3_drop, .initialized RX3] ++ wsX3_drop)
theorem gvL_drop_X3_drop : GoodIn wvL_drop (wsV RL 64 RX3 yX3_drop wsX3_drop) := goodIn_app (goodIn_of _ (by decide +kernel)) (goodIn_sub (fun _ h => List.mem_cons_of_mem _ (List.mem_append_right _ h)) (by decide +kernel))
def wvL_bake : List Cond := .codeWith yL_bake cL_bake 5 (some .int) [(0, 10, 13, 13), (0, 10, 17, 15)] :: ([.classLink RL 13 "java/lang/IndexOutOfBoundsException", .classLink RL 15 "java/lang/IllegalStateException", .methodLink RL 67 yX3_bake, .instanceMethod yX3_bake, .selects RX3 yX3_bake yX3_bake, .initialized RX3] ++ wsX3_bake)
theorem gvL_bake_X3_bake : GoodIn wvL_bake (wsV RL 67 RX3 yX3_bake wsX3_bake) := goodIn_app (goodIn_of _ (by decide +kernel)) (goodIn_sub (fun _ h => List.mem_cons_of_mem _ (List.mem_append_right _ h)) (by decide +kernel))
def wvL_cake : List Cond := .codeWith yL_cake cL_cake 5 (some .int) [(0, 10, 13, 13)] :: ([.classLink RL 13 "java/lang/IndexOutOfBoundsException", .methodLink RL 70 yX3_cake, .instanceMethod yX3_cake, .selects RX3 yX3_cake yX3_cake, .initialized RX3] ++ wsX3_cake)
theorem gvL_cake_X3_cake : GoodIn wvL_cake (wsV RL 70 RX3 yX3_cake wsX3_cake) := goodIn_app (goodIn_of _ (by decide +kernel)) (goodIn_sub (fun _ h => List.mem_cons_of_mem _ (List.mem_append_right _ h)) (by decide +kernel))
def wvL_keptFor : List Cond := .codeWith yL_keptFor cL_keptFor 5 (some .int) [(0, 10, 13, 13)] :: ([.classLink RL 13 "java/lang/IndexOutOfBoundsException", .methodLink RL 73 yX3_keptFor, .instanceMethod yX3_keptFor, .selects RX3 yX3_keptFor yX3_keptFor, .initialized RX3] ++ wsX3_keptFor)
theorem gvL_keptFor_X3_keptFor : GoodIn wvL_keptFor (wsV RL 73 RX3 yX3_keptFor wsX3_keptFor) := goodIn_app (goodIn_of _ (by decide +kernel)) (goodIn_sub (fun _ h => List.mem_cons_of_mem _ (List.mem_append_right _ h)) (by decide +kernel))
def wvL_keptByAll : List Cond := .codeWith yL_keptByAll cL_keptByAll 4 (some .int) [(0, 9, 12, 13)] :: ([.classLink RL 13 "java/lang/IndexOutOfBoundsException", .methodLink RL 76 yX3_keptByAll, .instanceMethod yX3_keptByAll, .selects RX3 yX3_keptByAll yX3_keptByAll, .initialized RX3] ++ wsX3_keptByAll)
theorem gvL_keptByAll_X3_keptByAll : GoodIn wvL_keptByAll (wsV RL 76 RX3 yX3_keptByAll wsX3_keptByAll) := goodIn_app (goodIn_of _ (by decide +kernel)) (goodIn_sub (fun _ h => List.mem_cons_of_mem _ (List.mem_append_right _ h)) (by decide +kernel))
def wvL_lacks : List Cond := .codeWith yL_lacks cL_lacks 6 (some .int) [(0, 12, 15, 13)] :: ([.classLink RL 13 "java/lang/IndexOutOfBoundsException", .methodLink RL 79 yX3_lacks, .instanceMethod yX3_lacks, .selects RX3 yX3_lacks yX3_lacks, .initialized RX3] ++ wsX3_lacks)
theorem gvL_lacks_X3_lacks : GoodIn wvL_lacks (wsV RL 79 RX3 yX3_lacks wsX3_lacks) := goodIn_app (goodIn_of _ (by decide +kernel)) (goodIn_sub (fun _ h => List.mem_cons_of_mem _ (List.mem_append_right _ h)) (by decide +kernel))
def wvL_isUnfit : List Cond := .codeWith yL_isUnfit cL_isUnfit 5 (some .int) [(0, 17, 20, 13)] :: ([.classLink RL 13 "java/lang/IndexOutOfBoundsException", .methodLink RL 82 yX3_isUnfit, .instanceMethod yX3_isUnfit, .selects RX3 yX3_isUnfit yX3_isUnfit, .initialized RX3] ++ wsX3_isUnfit)
theorem gvL_isUnfit_X3_isUnfit : GoodIn wvL_isUnfit (wsV RL 82 RX3 yX3_isUnfit wsX3_isUnfit) := goodIn_app (goodIn_of _ (by decide +kernel)) (goodIn_sub (fun _ h => List.mem_cons_of_mem _ (List.mem_append_right _ h)) (by decide +kernel))
def wvL_isSpoilt : List Cond := .codeWith yL_isSpoilt cL_isSpoilt 5 (some .int) [(0, 17, 20, 13)] :: ([.classLink RL 13 "java/lang/IndexOutOfBoundsException", .methodLink RL 86 yX3_isSpoilt, .instanceMethod yX3_isSpoilt, .selects RX3 yX3_isSpoilt yX3_isSpoilt, .initialized RX3] ++ wsX3_isSpoilt)
theorem gvL_isSpoilt_X3_isSpoilt : GoodIn wvL_isSpoilt (wsV RL 86 RX3 yX3_isSpoilt wsX3_isSpoilt) := goodIn_app (goodIn_of _ (by decide +kernel)) (goodIn_sub (fun _ h => List.mem_cons_of_mem _ (List.mem_append_right _ h)) (by decide +kernel))
def wvL_missing : List Cond := .codeWith yL_missing cL_missing 5 (some .int) [(0, 10, 13, 13)] :: ([.classLink RL 13 "java/lang/IndexOutOfBoundsException", .methodLink RL 89 yX3_missing, .instanceMethod yX3_missing, .selects RX3 yX3_missing yX3_missing, .initialized RX3] ++ wsX3_missing)
theorem gvL_missing_X3_missing : GoodIn wvL_missing (wsV RL 89 RX3 yX3_missing wsX3_missing) := goodIn_app (goodIn_of _ (by decide +kernel)) (goodIn_sub (fun _ h => List.mem_cons_of_mem _ (List.mem_append_right _ h)) (by decide +kernel))
