/-! what the law's instructions are -/
theorem dL_peninsula_0 : decode cL_peninsula 0 = .ok (.aload_n 2, 1) := by decide +kernel
theorem dL_peninsula_1 : decode cL_peninsula 1 = .ok (.iconst 0, 1) := by decide +kernel
theorem dL_peninsula_2 : decode cL_peninsula 2 = .ok (.aload_n 0, 1) := by decide +kernel
theorem dL_peninsula_3 : decode cL_peninsula 3 = .ok (.iload_n 1, 1) := by decide +kernel
theorem dL_peninsula_4 : decode cL_peninsula 4 = .ok (.invokevirtual 7, 3) := by decide +kernel
theorem dL_peninsula_7 : decode cL_peninsula 7 = .ok (.i2l, 1) := by decide +kernel
theorem dL_peninsula_8 : decode cL_peninsula 8 = .ok (.lastore, 1) := by decide +kernel
theorem dL_peninsula_9 : decode cL_peninsula 9 = .ok (.goto 6, 3) := by decide +kernel
theorem dL_peninsula_12 : decode cL_peninsula 12 = .ok (.astore_n 3, 1) := by decide +kernel
theorem dL_peninsula_13 : decode cL_peninsula 13 = .ok (.iconst 1, 1) := by decide +kernel
theorem dL_peninsula_14 : decode cL_peninsula 14 = .ok (.ireturn, 1) := by decide +kernel
theorem dL_peninsula_15 : decode cL_peninsula 15 = .ok (.iconst 0, 1) := by decide +kernel
theorem dL_peninsula_16 : decode cL_peninsula 16 = .ok (.ireturn, 1) := by decide +kernel
theorem dL_law_0 : decode cL_law 0 = .ok (.aload_n 2, 1) := by decide +kernel
theorem dL_law_1 : decode cL_law 1 = .ok (.iconst 0, 1) := by decide +kernel
theorem dL_law_2 : decode cL_law 2 = .ok (.aload_n 0, 1) := by decide +kernel
theorem dL_law_3 : decode cL_law 3 = .ok (.iload_n 1, 1) := by decide +kernel
theorem dL_law_4 : decode cL_law 4 = .ok (.invokevirtual 15, 3) := by decide +kernel
theorem dL_law_7 : decode cL_law 7 = .ok (.i2l, 1) := by decide +kernel
theorem dL_law_8 : decode cL_law 8 = .ok (.lastore, 1) := by decide +kernel
theorem dL_law_9 : decode cL_law 9 = .ok (.goto 6, 3) := by decide +kernel
theorem dL_law_12 : decode cL_law 12 = .ok (.astore_n 3, 1) := by decide +kernel
theorem dL_law_13 : decode cL_law 13 = .ok (.iconst 1, 1) := by decide +kernel
theorem dL_law_14 : decode cL_law 14 = .ok (.ireturn, 1) := by decide +kernel
theorem dL_law_15 : decode cL_law 15 = .ok (.iconst 0, 1) := by decide +kernel
theorem dL_law_16 : decode cL_law 16 = .ok (.ireturn, 1) := by decide +kernel
theorem dL_work_0 : decode cL_work 0 = .ok (.aload_n 2, 1) := by decide +kernel
theorem dL_work_1 : decode cL_work 1 = .ok (.iconst 0, 1) := by decide +kernel
theorem dL_work_2 : decode cL_work 2 = .ok (.aload_n 0, 1) := by decide +kernel
theorem dL_work_3 : decode cL_work 3 = .ok (.iload_n 1, 1) := by decide +kernel
theorem dL_work_4 : decode cL_work 4 = .ok (.invokevirtual 18, 3) := by decide +kernel
theorem dL_work_7 : decode cL_work 7 = .ok (.i2l, 1) := by decide +kernel
theorem dL_work_8 : decode cL_work 8 = .ok (.lastore, 1) := by decide +kernel
theorem dL_work_9 : decode cL_work 9 = .ok (.goto 6, 3) := by decide +kernel
theorem dL_work_12 : decode cL_work 12 = .ok (.astore_n 3, 1) := by decide +kernel
theorem dL_work_13 : decode cL_work 13 = .ok (.iconst 1, 1) := by decide +kernel
theorem dL_work_14 : decode cL_work 14 = .ok (.ireturn, 1) := by decide +kernel
theorem dL_work_15 : decode cL_work 15 = .ok (.iconst 0, 1) := by decide +kernel
theorem dL_work_16 : decode cL_work 16 = .ok (.ireturn, 1) := by decide +kernel
theorem dL_book_0 : decode cL_book 0 = .ok (.aload_n 2, 1) := by decide +kernel
theorem dL_book_1 : decode cL_book 1 = .ok (.iconst 0, 1) := by decide +kernel
theorem dL_book_2 : decode cL_book 2 = .ok (.aload_n 0, 1) := by decide +kernel
theorem dL_book_3 : decode cL_book 3 = .ok (.iload_n 1, 1) := by decide +kernel
theorem dL_book_4 : decode cL_book 4 = .ok (.invokevirtual 21, 3) := by decide +kernel
theorem dL_book_7 : decode cL_book 7 = .ok (.i2l, 1) := by decide +kernel
theorem dL_book_8 : decode cL_book 8 = .ok (.lastore, 1) := by decide +kernel
theorem dL_book_9 : decode cL_book 9 = .ok (.goto 6, 3) := by decide +kernel
theorem dL_book_12 : decode cL_book 12 = .ok (.astore_n 3, 1) := by decide +kernel
theorem dL_book_13 : decode cL_book 13 = .ok (.iconst 1, 1) := by decide +kernel
theorem dL_book_14 : decode cL_book 14 = .ok (.ireturn, 1) := by decide +kernel
theorem dL_book_15 : decode cL_book 15 = .ok (.iconst 0, 1) := by decide +kernel
theorem dL_book_16 : decode cL_book 16 = .ok (.ireturn, 1) := by decide +kernel
theorem dL_told_0 : decode cL_told 0 = .ok (.aload_n 2, 1) := by decide +kernel
theorem dL_told_1 : decode cL_told 1 = .ok (.iconst 0, 1) := by decide +kernel
theorem dL_told_2 : decode cL_told 2 = .ok (.aload_n 0, 1) := by decide +kernel
theorem dL_told_3 : decode cL_told 3 = .ok (.iload_n 1, 1) := by decide +kernel
theorem dL_told_4 : decode cL_told 4 = .ok (.invokevirtual 24, 3) := by decide +kernel
theorem dL_told_7 : decode cL_told 7 = .ok (.i2l, 1) := by decide +kernel
theorem dL_told_8 : decode cL_told 8 = .ok (.lastore, 1) := by decide +kernel
theorem dL_told_9 : decode cL_told 9 = .ok (.goto 6, 3) := by decide +kernel
theorem dL_told_12 : decode cL_told 12 = .ok (.astore_n 3, 1) := by decide +kernel
theorem dL_told_13 : decode cL_told 13 = .ok (.iconst 1, 1) := by decide +kernel
theorem dL_told_14 : decode cL_told 14 = .ok (.ireturn, 1) := by decide +kernel
theorem dL_told_15 : decode cL_told 15 = .ok (.iconst 0, 1) := by decide +kernel
theorem dL_told_16 : decode cL_told 16 = .ok (.ireturn, 1) := by decide +kernel
theorem dL_person_0 : decode cL_person 0 = .ok (.aload_n 3, 1) := by decide +kernel
theorem dL_person_1 : decode cL_person 1 = .ok (.iconst 0, 1) := by decide +kernel
theorem dL_person_2 : decode cL_person 2 = .ok (.aload_n 0, 1) := by decide +kernel
theorem dL_person_3 : decode cL_person 3 = .ok (.iload_n 1, 1) := by decide +kernel
theorem dL_person_4 : decode cL_person 4 = .ok (.iload_n 2, 1) := by decide +kernel
theorem dL_person_5 : decode cL_person 5 = .ok (.invokevirtual 27, 3) := by decide +kernel
theorem dL_person_8 : decode cL_person 8 = .ok (.i2l, 1) := by decide +kernel
theorem dL_person_9 : decode cL_person 9 = .ok (.lastore, 1) := by decide +kernel
theorem dL_person_10 : decode cL_person 10 = .ok (.goto 11, 3) := by decide +kernel
theorem dL_person_13 : decode cL_person 13 = .ok (.astore 4, 2) := by decide +kernel
theorem dL_person_15 : decode cL_person 15 = .ok (.iconst 1, 1) := by decide +kernel
theorem dL_person_16 : decode cL_person 16 = .ok (.ireturn, 1) := by decide +kernel
theorem dL_person_17 : decode cL_person 17 = .ok (.astore 4, 2) := by decide +kernel
theorem dL_person_19 : decode cL_person 19 = .ok (.iconst 2, 1) := by decide +kernel
theorem dL_person_20 : decode cL_person 20 = .ok (.ireturn, 1) := by decide +kernel
theorem dL_person_21 : decode cL_person 21 = .ok (.iconst 0, 1) := by decide +kernel
theorem dL_person_22 : decode cL_person 22 = .ok (.ireturn, 1) := by decide +kernel
theorem dL_will_0 : decode cL_will 0 = .ok (.aload_n 3, 1) := by decide +kernel
theorem dL_will_1 : decode cL_will 1 = .ok (.iconst 0, 1) := by decide +kernel
theorem dL_will_2 : decode cL_will 2 = .ok (.aload_n 0, 1) := by decide +kernel
theorem dL_will_3 : decode cL_will 3 = .ok (.iload_n 1, 1) := by decide +kernel
theorem dL_will_4 : decode cL_will 4 = .ok (.iload_n 2, 1) := by decide +kernel
theorem dL_will_5 : decode cL_will 5 = .ok (.invokevirtual 33, 3) := by decide +kernel
theorem dL_will_8 : decode cL_will 8 = .ok (.i2l, 1) := by decide +kernel
theorem dL_will_9 : decode cL_will 9 = .ok (.lastore, 1) := by decide +kernel
theorem dL_will_10 : decode cL_will 10 = .ok (.goto 7, 3) := by decide +kernel
theorem dL_will_13 : decode cL_will 13 = .ok (.astore 4, 2) := by decide +kernel
theorem dL_will_15 : decode cL_will 15 = .ok (.iconst 1, 1) := by decide +kernel
theorem dL_will_16 : decode cL_will 16 = .ok (.ireturn, 1) := by decide +kernel
theorem dL_will_17 : decode cL_will 17 = .ok (.iconst 0, 1) := by decide +kernel
theorem dL_will_18 : decode cL_will 18 = .ok (.ireturn, 1) := by decide +kernel
theorem dL_lends_0 : decode cL_lends 0 = .ok (.aload_n 3, 1) := by decide +kernel
theorem dL_lends_1 : decode cL_lends 1 = .ok (.iconst 0, 1) := by decide +kernel
theorem dL_lends_2 : decode cL_lends 2 = .ok (.aload_n 0, 1) := by decide +kernel
theorem dL_lends_3 : decode cL_lends 3 = .ok (.iload_n 1, 1) := by decide +kernel
theorem dL_lends_4 : decode cL_lends 4 = .ok (.iload_n 2, 1) := by decide +kernel
theorem dL_lends_5 : decode cL_lends 5 = .ok (.invokevirtual 36, 3) := by decide +kernel
theorem dL_lends_8 : decode cL_lends 8 = .ok (.ifCond .eq 7, 3) := by decide +kernel
theorem dL_lends_11 : decode cL_lends 11 = .ok (.lconst 1, 1) := by decide +kernel
theorem dL_lends_12 : decode cL_lends 12 = .ok (.goto 4, 3) := by decide +kernel
theorem dL_lends_15 : decode cL_lends 15 = .ok (.lconst 0, 1) := by decide +kernel
theorem dL_lends_16 : decode cL_lends 16 = .ok (.lastore, 1) := by decide +kernel
theorem dL_lends_17 : decode cL_lends 17 = .ok (.goto 7, 3) := by decide +kernel
theorem dL_lends_20 : decode cL_lends 20 = .ok (.astore 4, 2) := by decide +kernel
theorem dL_lends_22 : decode cL_lends 22 = .ok (.iconst 1, 1) := by decide +kernel
theorem dL_lends_23 : decode cL_lends 23 = .ok (.ireturn, 1) := by decide +kernel
theorem dL_lends_24 : decode cL_lends 24 = .ok (.iconst 0, 1) := by decide +kernel
theorem dL_lends_25 : decode cL_lends 25 = .ok (.ireturn, 1) := by decide +kernel
theorem dL_would_0 : decode cL_would 0 = .ok (.aload 9, 2) := by decide +kernel
theorem dL_would_2 : decode cL_would 2 = .ok (.iconst 0, 1) := by decide +kernel
theorem dL_would_3 : decode cL_would 3 = .ok (.aload_n 0, 1) := by decide +kernel
theorem dL_would_4 : decode cL_would 4 = .ok (.iload_n 1, 1) := by decide +kernel
theorem dL_would_5 : decode cL_would 5 = .ok (.iload_n 2, 1) := by decide +kernel
theorem dL_would_6 : decode cL_would 6 = .ok (.iload_n 3, 1) := by decide +kernel
theorem dL_would_7 : decode cL_would 7 = .ok (.iload 4, 2) := by decide +kernel
theorem dL_would_9 : decode cL_would 9 = .ok (.iload 5, 2) := by decide +kernel
theorem dL_would_11 : decode cL_would 11 = .ok (.iload 6, 2) := by decide +kernel
theorem dL_would_13 : decode cL_would 13 = .ok (.iload 7, 2) := by decide +kernel
theorem dL_would_15 : decode cL_would 15 = .ok (.iload 8, 2) := by decide +kernel
theorem dL_would_17 : decode cL_would 17 = .ok (.invokevirtual 40, 3) := by decide +kernel
theorem dL_would_20 : decode cL_would 20 = .ok (.i2l, 1) := by decide +kernel
theorem dL_would_21 : decode cL_would 21 = .ok (.lastore, 1) := by decide +kernel
theorem dL_would_22 : decode cL_would 22 = .ok (.goto 7, 3) := by decide +kernel
theorem dL_would_25 : decode cL_would 25 = .ok (.astore 10, 2) := by decide +kernel
theorem dL_would_27 : decode cL_would 27 = .ok (.iconst 1, 1) := by decide +kernel
theorem dL_would_28 : decode cL_would 28 = .ok (.ireturn, 1) := by decide +kernel
theorem dL_would_29 : decode cL_would 29 = .ok (.iconst 0, 1) := by decide +kernel
theorem dL_would_30 : decode cL_would 30 = .ok (.ireturn, 1) := by decide +kernel
theorem dL_lender_0 : decode cL_lender 0 = .ok (.aload_n 2, 1) := by decide +kernel
theorem dL_lender_1 : decode cL_lender 1 = .ok (.iconst 0, 1) := by decide +kernel
theorem dL_lender_2 : decode cL_lender 2 = .ok (.aload_n 0, 1) := by decide +kernel
theorem dL_lender_3 : decode cL_lender 3 = .ok (.iload_n 1, 1) := by decide +kernel
theorem dL_lender_4 : decode cL_lender 4 = .ok (.invokevirtual 44, 3) := by decide +kernel
theorem dL_lender_7 : decode cL_lender 7 = .ok (.i2l, 1) := by decide +kernel
theorem dL_lender_8 : decode cL_lender 8 = .ok (.lastore, 1) := by decide +kernel
theorem dL_lender_9 : decode cL_lender 9 = .ok (.goto 6, 3) := by decide +kernel
theorem dL_lender_12 : decode cL_lender 12 = .ok (.astore_n 3, 1) := by decide +kernel
theorem dL_lender_13 : decode cL_lender 13 = .ok (.iconst 1, 1) := by decide +kernel
theorem dL_lender_14 : decode cL_lender 14 = .ok (.ireturn, 1) := by decide +kernel
theorem dL_lender_15 : decode cL_lender 15 = .ok (.iconst 0, 1) := by decide +kernel
theorem dL_lender_16 : decode cL_lender 16 = .ok (.ireturn, 1) := by decide +kernel
theorem dL_ahead_0 : decode cL_ahead 0 = .ok (.aload_n 3, 1) := by decide +kernel
theorem dL_ahead_1 : decode cL_ahead 1 = .ok (.iconst 0, 1) := by decide +kernel
theorem dL_ahead_2 : decode cL_ahead 2 = .ok (.aload_n 0, 1) := by decide +kernel
theorem dL_ahead_3 : decode cL_ahead 3 = .ok (.iload_n 1, 1) := by decide +kernel
theorem dL_ahead_4 : decode cL_ahead 4 = .ok (.iload_n 2, 1) := by decide +kernel
theorem dL_ahead_5 : decode cL_ahead 5 = .ok (.invokevirtual 47, 3) := by decide +kernel
theorem dL_ahead_8 : decode cL_ahead 8 = .ok (.i2l, 1) := by decide +kernel
theorem dL_ahead_9 : decode cL_ahead 9 = .ok (.lastore, 1) := by decide +kernel
theorem dL_ahead_10 : decode cL_ahead 10 = .ok (.goto 7, 3) := by decide +kernel
theorem dL_ahead_13 : decode cL_ahead 13 = .ok (.astore 4, 2) := by decide +kernel
theorem dL_ahead_15 : decode cL_ahead 15 = .ok (.iconst 1, 1) := by decide +kernel
theorem dL_ahead_16 : decode cL_ahead 16 = .ok (.ireturn, 1) := by decide +kernel
theorem dL_ahead_17 : decode cL_ahead 17 = .ok (.iconst 0, 1) := by decide +kernel
theorem dL_ahead_18 : decode cL_ahead 18 = .ok (.ireturn, 1) := by decide +kernel
theorem dL_truly_0 : decode cL_truly 0 = .ok (.aload_n 2, 1) := by decide +kernel
theorem dL_truly_1 : decode cL_truly 1 = .ok (.iconst 0, 1) := by decide +kernel
theorem dL_truly_2 : decode cL_truly 2 = .ok (.aload_n 0, 1) := by decide +kernel
theorem dL_truly_3 : decode cL_truly 3 = .ok (.iload_n 1, 1) := by decide +kernel
theorem dL_truly_4 : decode cL_truly 4 = .ok (.invokevirtual 50, 3) := by decide +kernel
theorem dL_truly_7 : decode cL_truly 7 = .ok (.i2l, 1) := by decide +kernel
theorem dL_truly_8 : decode cL_truly 8 = .ok (.lastore, 1) := by decide +kernel
theorem dL_truly_9 : decode cL_truly 9 = .ok (.goto 6, 3) := by decide +kernel
theorem dL_truly_12 : decode cL_truly 12 = .ok (.astore_n 3, 1) := by decide +kernel
theorem dL_truly_13 : decode cL_truly 13 = .ok (.iconst 1, 1) := by decide +kernel
theorem dL_truly_14 : decode cL_truly 14 = .ok (.ireturn, 1) := by decide +kernel
theorem dL_truly_15 : decode cL_truly 15 = .ok (.iconst 0, 1) := by decide +kernel
theorem dL_truly_16 : decode cL_truly 16 = .ok (.ireturn, 1) := by decide +kernel
theorem dL_chain_0 : decode cL_chain 0 = .ok (.aload_n 2, 1) := by decide +kernel
theorem dL_chain_1 : decode cL_chain 1 = .ok (.iconst 0, 1) := by decide +kernel
theorem dL_chain_2 : decode cL_chain 2 = .ok (.aload_n 0, 1) := by decide +kernel
theorem dL_chain_3 : decode cL_chain 3 = .ok (.iload_n 1, 1) := by decide +kernel
theorem dL_chain_4 : decode cL_chain 4 = .ok (.invokevirtual 53, 3) := by decide +kernel
theorem dL_chain_7 : decode cL_chain 7 = .ok (.i2l, 1) := by decide +kernel
theorem dL_chain_8 : decode cL_chain 8 = .ok (.lastore, 1) := by decide +kernel
theorem dL_chain_9 : decode cL_chain 9 = .ok (.goto 6, 3) := by decide +kernel
theorem dL_chain_12 : decode cL_chain 12 = .ok (.astore_n 3, 1) := by decide +kernel
theorem dL_chain_13 : decode cL_chain 13 = .ok (.iconst 1, 1) := by decide +kernel
theorem dL_chain_14 : decode cL_chain 14 = .ok (.ireturn, 1) := by decide +kernel
theorem dL_chain_15 : decode cL_chain 15 = .ok (.iconst 0, 1) := by decide +kernel
theorem dL_chain_16 : decode cL_chain 16 = .ok (.ireturn, 1) := by decide +kernel
theorem dL_served_0 : decode cL_served 0 = .ok (.aload_n 3, 1) := by decide +kernel
theorem dL_served_1 : decode cL_served 1 = .ok (.iconst 0, 1) := by decide +kernel
theorem dL_served_2 : decode cL_served 2 = .ok (.aload_n 0, 1) := by decide +kernel
theorem dL_served_3 : decode cL_served 3 = .ok (.iload_n 1, 1) := by decide +kernel
theorem dL_served_4 : decode cL_served 4 = .ok (.iload_n 2, 1) := by decide +kernel
theorem dL_served_5 : decode cL_served 5 = .ok (.invokevirtual 56, 3) := by decide +kernel
theorem dL_served_8 : decode cL_served 8 = .ok (.i2l, 1) := by decide +kernel
theorem dL_served_9 : decode cL_served 9 = .ok (.lastore, 1) := by decide +kernel
theorem dL_served_10 : decode cL_served 10 = .ok (.goto 7, 3) := by decide +kernel
theorem dL_served_13 : decode cL_served 13 = .ok (.astore 4, 2) := by decide +kernel
theorem dL_served_15 : decode cL_served 15 = .ok (.iconst 1, 1) := by decide +kernel
theorem dL_served_16 : decode cL_served 16 = .ok (.ireturn, 1) := by decide +kernel
theorem dL_served_17 : decode cL_served 17 = .ok (.iconst 0, 1) := by decide +kernel
theorem dL_served_18 : decode cL_served 18 = .ok (.ireturn, 1) := by decide +kernel
theorem dL_giver_0 : decode cL_giver 0 = .ok (.aload_n 3, 1) := by decide +kernel
theorem dL_giver_1 : decode cL_giver 1 = .ok (.iconst 0, 1) := by decide +kernel
theorem dL_giver_2 : decode cL_giver 2 = .ok (.aload_n 0, 1) := by decide +kernel
theorem dL_giver_3 : decode cL_giver 3 = .ok (.iload_n 1, 1) := by decide +kernel
theorem dL_giver_4 : decode cL_giver 4 = .ok (.iload_n 2, 1) := by decide +kernel
theorem dL_giver_5 : decode cL_giver 5 = .ok (.invokevirtual 59, 3) := by decide +kernel
theorem dL_giver_8 : decode cL_giver 8 = .ok (.i2l, 1) := by decide +kernel
theorem dL_giver_9 : decode cL_giver 9 = .ok (.lastore, 1) := by decide +kernel
theorem dL_giver_10 : decode cL_giver 10 = .ok (.goto 11, 3) := by decide +kernel
theorem dL_giver_13 : decode cL_giver 13 = .ok (.astore 4, 2) := by decide +kernel
theorem dL_giver_15 : decode cL_giver 15 = .ok (.iconst 1, 1) := by decide +kernel
theorem dL_giver_16 : decode cL_giver 16 = .ok (.ireturn, 1) := by decide +kernel
theorem dL_giver_17 : decode cL_giver 17 = .ok (.astore 4, 2) := by decide +kernel
theorem dL_giver_19 : decode cL_giver 19 = .ok (.iconst 2, 1) := by decide +kernel
theorem dL_giver_20 : decode cL_giver 20 = .ok (.ireturn, 1) := by decide +kernel
theorem dL_giver_21 : decode cL_giver 21 = .ok (.iconst 0, 1) := by decide +kernel
theorem dL_giver_22 : decode cL_giver 22 = .ok (.ireturn, 1) := by decide +kernel
theorem dL_order_0 : decode cL_order 0 = .ok (.aload_n 3, 1) := by decide +kernel
theorem dL_order_1 : decode cL_order 1 = .ok (.iconst 0, 1) := by decide +kernel
theorem dL_order_2 : decode cL_order 2 = .ok (.aload_n 0, 1) := by decide +kernel
theorem dL_order_3 : decode cL_order 3 = .ok (.iload_n 1, 1) := by decide +kernel
theorem dL_order_4 : decode cL_order 4 = .ok (.iload_n 2, 1) := by decide +kernel
theorem dL_order_5 : decode cL_order 5 = .ok (.invokevirtual 62, 3) := by decide +kernel
theorem dL_order_8 : decode cL_order 8 = .ok (.i2l, 1) := by decide +kernel
theorem dL_order_9 : decode cL_order 9 = .ok (.lastore, 1) := by decide +kernel
theorem dL_order_10 : decode cL_order 10 = .ok (.goto 7, 3) := by decide +kernel
theorem dL_order_13 : decode cL_order 13 = .ok (.astore 4, 2) := by decide +kernel
theorem dL_order_15 : decode cL_order 15 = .ok (.iconst 1, 1) := by decide +kernel
theorem dL_order_16 : decode cL_order 16 = .ok (.ireturn, 1) := by decide +kernel
theorem dL_order_17 : decode cL_order 17 = .ok (.iconst 0, 1) := by decide +kernel
theorem dL_order_18 : decode cL_order 18 = .ok (.ireturn, 1) := by decide +kernel
theorem dL_fits_0 : decode cL_fits 0 = .ok (.aload_n 3, 1) := by decide +kernel
theorem dL_fits_1 : decode cL_fits 1 = .ok (.iconst 0, 1) := by decide +kernel
theorem dL_fits_2 : decode cL_fits 2 = .ok (.aload_n 0, 1) := by decide +kernel
theorem dL_fits_3 : decode cL_fits 3 = .ok (.iload_n 1, 1) := by decide +kernel
theorem dL_fits_4 : decode cL_fits 4 = .ok (.iload_n 2, 1) := by decide +kernel
theorem dL_fits_5 : decode cL_fits 5 = .ok (.invokevirtual 65, 3) := by decide +kernel
theorem dL_fits_8 : decode cL_fits 8 = .ok (.i2l, 1) := by decide +kernel
theorem dL_fits_9 : decode cL_fits 9 = .ok (.lastore, 1) := by decide +kernel
theorem dL_fits_10 : decode cL_fits 10 = .ok (.goto 7, 3) := by decide +kernel
theorem dL_fits_13 : decode cL_fits 13 = .ok (.astore 4, 2) := by decide +kernel
theorem dL_fits_15 : decode cL_fits 15 = .ok (.iconst 1, 1) := by decide +kernel
theorem dL_fits_16 : decode cL_fits 16 = .ok (.ireturn, 1) := by decide +kernel
theorem dL_fits_17 : decode cL_fits 17 = .ok (.iconst 0, 1) := by decide +kernel
theorem dL_fits_18 : decode cL_fits 18 = .ok (.ireturn, 1) := by decide +kernel
theorem dL_look_0 : decode cL_look 0 = .ok (.aload_n 3, 1) := by decide +kernel
theorem dL_look_1 : decode cL_look 1 = .ok (.iconst 0, 1) := by decide +kernel
theorem dL_look_2 : decode cL_look 2 = .ok (.aload_n 0, 1) := by decide +kernel
theorem dL_look_3 : decode cL_look 3 = .ok (.iload_n 1, 1) := by decide +kernel
theorem dL_look_4 : decode cL_look 4 = .ok (.iload_n 2, 1) := by decide +kernel
theorem dL_look_5 : decode cL_look 5 = .ok (.invokevirtual 68, 3) := by decide +kernel
theorem dL_look_8 : decode cL_look 8 = .ok (.i2l, 1) := by decide +kernel
theorem dL_look_9 : decode cL_look 9 = .ok (.lastore, 1) := by decide +kernel
theorem dL_look_10 : decode cL_look 10 = .ok (.goto 7, 3) := by decide +kernel
theorem dL_look_13 : decode cL_look 13 = .ok (.astore 4, 2) := by decide +kernel
theorem dL_look_15 : decode cL_look 15 = .ok (.iconst 1, 1) := by decide +kernel
theorem dL_look_16 : decode cL_look 16 = .ok (.ireturn, 1) := by decide +kernel
theorem dL_look_17 : decode cL_look 17 = .ok (.iconst 0, 1) := by decide +kernel
theorem dL_look_18 : decode cL_look 18 = .ok (.ireturn, 1) := by decide +kernel
theorem dL_neighbours_0 : decode cL_neighbours 0 = .ok (.aload 4, 2) := by decide +kernel
theorem dL_neighbours_2 : decode cL_neighbours 2 = .ok (.iconst 0, 1) := by decide +kernel
theorem dL_neighbours_3 : decode cL_neighbours 3 = .ok (.aload_n 0, 1) := by decide +kernel
theorem dL_neighbours_4 : decode cL_neighbours 4 = .ok (.iload_n 1, 1) := by decide +kernel
theorem dL_neighbours_5 : decode cL_neighbours 5 = .ok (.iload_n 2, 1) := by decide +kernel
theorem dL_neighbours_6 : decode cL_neighbours 6 = .ok (.iload_n 3, 1) := by decide +kernel
theorem dL_neighbours_7 : decode cL_neighbours 7 = .ok (.invokevirtual 71, 3) := by decide +kernel
theorem dL_neighbours_10 : decode cL_neighbours 10 = .ok (.i2l, 1) := by decide +kernel
theorem dL_neighbours_11 : decode cL_neighbours 11 = .ok (.lastore, 1) := by decide +kernel
theorem dL_neighbours_12 : decode cL_neighbours 12 = .ok (.goto 7, 3) := by decide +kernel
theorem dL_neighbours_15 : decode cL_neighbours 15 = .ok (.astore 5, 2) := by decide +kernel
theorem dL_neighbours_17 : decode cL_neighbours 17 = .ok (.iconst 1, 1) := by decide +kernel
theorem dL_neighbours_18 : decode cL_neighbours 18 = .ok (.ireturn, 1) := by decide +kernel
theorem dL_neighbours_19 : decode cL_neighbours 19 = .ok (.iconst 0, 1) := by decide +kernel
theorem dL_neighbours_20 : decode cL_neighbours 20 = .ok (.ireturn, 1) := by decide +kernel
theorem dL_home_0 : decode cL_home 0 = .ok (.aload 5, 2) := by decide +kernel
theorem dL_home_2 : decode cL_home 2 = .ok (.iconst 0, 1) := by decide +kernel
theorem dL_home_3 : decode cL_home 3 = .ok (.aload_n 0, 1) := by decide +kernel
theorem dL_home_4 : decode cL_home 4 = .ok (.iload_n 1, 1) := by decide +kernel
theorem dL_home_5 : decode cL_home 5 = .ok (.iload_n 2, 1) := by decide +kernel
theorem dL_home_6 : decode cL_home 6 = .ok (.iload_n 3, 1) := by decide +kernel
theorem dL_home_7 : decode cL_home 7 = .ok (.iload 4, 2) := by decide +kernel
theorem dL_home_9 : decode cL_home 9 = .ok (.invokevirtual 75, 3) := by decide +kernel
theorem dL_home_12 : decode cL_home 12 = .ok (.lastore, 1) := by decide +kernel
theorem dL_home_13 : decode cL_home 13 = .ok (.goto 7, 3) := by decide +kernel
theorem dL_home_16 : decode cL_home 16 = .ok (.astore 6, 2) := by decide +kernel
theorem dL_home_18 : decode cL_home 18 = .ok (.iconst 1, 1) := by decide +kernel
theorem dL_home_19 : decode cL_home 19 = .ok (.ireturn, 1) := by decide +kernel
theorem dL_home_20 : decode cL_home 20 = .ok (.iconst 0, 1) := by decide +kernel
theorem dL_home_21 : decode cL_home 21 = .ok (.ireturn, 1) := by decide +kernel
theorem dL_flowers_0 : decode cL_flowers 0 = .ok (.aload 4, 2) := by decide +kernel
theorem dL_flowers_2 : decode cL_flowers 2 = .ok (.iconst 0, 1) := by decide +kernel
theorem dL_flowers_3 : decode cL_flowers 3 = .ok (.aload_n 0, 1) := by decide +kernel
theorem dL_flowers_4 : decode cL_flowers 4 = .ok (.iload_n 1, 1) := by decide +kernel
theorem dL_flowers_5 : decode cL_flowers 5 = .ok (.iload_n 2, 1) := by decide +kernel
theorem dL_flowers_6 : decode cL_flowers 6 = .ok (.iload_n 3, 1) := by decide +kernel
theorem dL_flowers_7 : decode cL_flowers 7 = .ok (.invokevirtual 79, 3) := by decide +kernel
theorem dL_flowers_10 : decode cL_flowers 10 = .ok (.i2l, 1) := by decide +kernel
theorem dL_flowers_11 : decode cL_flowers 11 = .ok (.lastore, 1) := by decide +kernel
theorem dL_flowers_12 : decode cL_flowers 12 = .ok (.goto 11, 3) := by decide +kernel
theorem dL_flowers_15 : decode cL_flowers 15 = .ok (.astore 5, 2) := by decide +kernel
theorem dL_flowers_17 : decode cL_flowers 17 = .ok (.iconst 1, 1) := by decide +kernel
theorem dL_flowers_18 : decode cL_flowers 18 = .ok (.ireturn, 1) := by decide +kernel
theorem dL_flowers_19 : decode cL_flowers 19 = .ok (.astore 5, 2) := by decide +kernel
theorem dL_flowers_21 : decode cL_flowers 21 = .ok (.iconst 2, 1) := by decide +kernel
theorem dL_flowers_22 : decode cL_flowers 22 = .ok (.ireturn, 1) := by decide +kernel
theorem dL_flowers_23 : decode cL_flowers 23 = .ok (.iconst 0, 1) := by decide +kernel
theorem dL_flowers_24 : decode cL_flowers 24 = .ok (.ireturn, 1) := by decide +kernel
theorem dL_honoured_0 : decode cL_honoured 0 = .ok (.aload_n 2, 1) := by decide +kernel
theorem dL_honoured_1 : decode cL_honoured 1 = .ok (.iconst 0, 1) := by decide +kernel
theorem dL_honoured_2 : decode cL_honoured 2 = .ok (.aload_n 0, 1) := by decide +kernel
theorem dL_honoured_3 : decode cL_honoured 3 = .ok (.iload_n 1, 1) := by decide +kernel
theorem dL_honoured_4 : decode cL_honoured 4 = .ok (.invokevirtual 82, 3) := by decide +kernel
theorem dL_honoured_7 : decode cL_honoured 7 = .ok (.i2l, 1) := by decide +kernel
theorem dL_honoured_8 : decode cL_honoured 8 = .ok (.lastore, 1) := by decide +kernel
theorem dL_honoured_9 : decode cL_honoured 9 = .ok (.goto 6, 3) := by decide +kernel
theorem dL_honoured_12 : decode cL_honoured 12 = .ok (.astore_n 3, 1) := by decide +kernel
theorem dL_honoured_13 : decode cL_honoured 13 = .ok (.iconst 1, 1) := by decide +kernel
theorem dL_honoured_14 : decode cL_honoured 14 = .ok (.ireturn, 1) := by decide +kernel
theorem dL_honoured_15 : decode cL_honoured 15 = .ok (.iconst 0, 1) := by decide +kernel
theorem dL_honoured_16 : decode cL_honoured 16 = .ok (.ireturn, 1) := by decide +kernel
theorem dL_sued_0 : decode cL_sued 0 = .ok (.aload_n 2, 1) := by decide +kernel
theorem dL_sued_1 : decode cL_sued 1 = .ok (.iconst 0, 1) := by decide +kernel
theorem dL_sued_2 : decode cL_sued 2 = .ok (.aload_n 0, 1) := by decide +kernel
theorem dL_sued_3 : decode cL_sued 3 = .ok (.iload_n 1, 1) := by decide +kernel
theorem dL_sued_4 : decode cL_sued 4 = .ok (.invokevirtual 85, 3) := by decide +kernel
theorem dL_sued_7 : decode cL_sued 7 = .ok (.i2l, 1) := by decide +kernel
theorem dL_sued_8 : decode cL_sued 8 = .ok (.lastore, 1) := by decide +kernel
theorem dL_sued_9 : decode cL_sued 9 = .ok (.goto 6, 3) := by decide +kernel
theorem dL_sued_12 : decode cL_sued 12 = .ok (.astore_n 3, 1) := by decide +kernel
theorem dL_sued_13 : decode cL_sued 13 = .ok (.iconst 1, 1) := by decide +kernel
theorem dL_sued_14 : decode cL_sued 14 = .ok (.ireturn, 1) := by decide +kernel
theorem dL_sued_15 : decode cL_sued 15 = .ok (.iconst 0, 1) := by decide +kernel
theorem dL_sued_16 : decode cL_sued 16 = .ok (.ireturn, 1) := by decide +kernel
theorem dL_free_0 : decode cL_free 0 = .ok (.aload_n 2, 1) := by decide +kernel
theorem dL_free_1 : decode cL_free 1 = .ok (.iconst 0, 1) := by decide +kernel
theorem dL_free_2 : decode cL_free 2 = .ok (.aload_n 0, 1) := by decide +kernel
theorem dL_free_3 : decode cL_free 3 = .ok (.iload_n 1, 1) := by decide +kernel
theorem dL_free_4 : decode cL_free 4 = .ok (.invokevirtual 88, 3) := by decide +kernel
theorem dL_free_7 : decode cL_free 7 = .ok (.i2l, 1) := by decide +kernel
theorem dL_free_8 : decode cL_free 8 = .ok (.lastore, 1) := by decide +kernel
theorem dL_free_9 : decode cL_free 9 = .ok (.goto 6, 3) := by decide +kernel
theorem dL_free_12 : decode cL_free 12 = .ok (.astore_n 3, 1) := by decide +kernel
theorem dL_free_13 : decode cL_free 13 = .ok (.iconst 1, 1) := by decide +kernel
theorem dL_free_14 : decode cL_free 14 = .ok (.ireturn, 1) := by decide +kernel
theorem dL_free_15 : decode cL_free 15 = .ok (.iconst 0, 1) := by decide +kernel
theorem dL_free_16 : decode cL_free 16 = .ok (.ireturn, 1) := by decide +kernel
theorem dL_kin_0 : decode cL_kin 0 = .ok (.aload_n 2, 1) := by decide +kernel
theorem dL_kin_1 : decode cL_kin 1 = .ok (.iconst 0, 1) := by decide +kernel
theorem dL_kin_2 : decode cL_kin 2 = .ok (.aload_n 0, 1) := by decide +kernel
theorem dL_kin_3 : decode cL_kin 3 = .ok (.iload_n 1, 1) := by decide +kernel
theorem dL_kin_4 : decode cL_kin 4 = .ok (.invokevirtual 91, 3) := by decide +kernel
theorem dL_kin_7 : decode cL_kin 7 = .ok (.i2l, 1) := by decide +kernel
theorem dL_kin_8 : decode cL_kin 8 = .ok (.lastore, 1) := by decide +kernel
theorem dL_kin_9 : decode cL_kin 9 = .ok (.goto 6, 3) := by decide +kernel
theorem dL_kin_12 : decode cL_kin 12 = .ok (.astore_n 3, 1) := by decide +kernel
theorem dL_kin_13 : decode cL_kin 13 = .ok (.iconst 1, 1) := by decide +kernel
theorem dL_kin_14 : decode cL_kin 14 = .ok (.ireturn, 1) := by decide +kernel
theorem dL_kin_15 : decode cL_kin 15 = .ok (.iconst 0, 1) := by decide +kernel
theorem dL_kin_16 : decode cL_kin 16 = .ok (.ireturn, 1) := by decide +kernel
theorem dL_willing_0 : decode cL_willing 0 = .ok (.aload_n 2, 1) := by decide +kernel
theorem dL_willing_1 : decode cL_willing 1 = .ok (.iconst 0, 1) := by decide +kernel
theorem dL_willing_2 : decode cL_willing 2 = .ok (.aload_n 0, 1) := by decide +kernel
theorem dL_willing_3 : decode cL_willing 3 = .ok (.iload_n 1, 1) := by decide +kernel
theorem dL_willing_4 : decode cL_willing 4 = .ok (.invokevirtual 94, 3) := by decide +kernel
theorem dL_willing_7 : decode cL_willing 7 = .ok (.i2l, 1) := by decide +kernel
theorem dL_willing_8 : decode cL_willing 8 = .ok (.lastore, 1) := by decide +kernel
theorem dL_willing_9 : decode cL_willing 9 = .ok (.goto 6, 3) := by decide +kernel
theorem dL_willing_12 : decode cL_willing 12 = .ok (.astore_n 3, 1) := by decide +kernel
theorem dL_willing_13 : decode cL_willing 13 = .ok (.iconst 1, 1) := by decide +kernel
theorem dL_willing_14 : decode cL_willing 14 = .ok (.ireturn, 1) := by decide +kernel
theorem dL_willing_15 : decode cL_willing 15 = .ok (.iconst 0, 1) := by decide +kernel
theorem dL_willing_16 : decode cL_willing 16 = .ok (.ireturn, 1) := by decide +kernel
theorem dL_below_0 : decode cL_below 0 = .ok (.aload_n 2, 1) := by decide +kernel
theorem dL_below_1 : decode cL_below 1 = .ok (.iconst 0, 1) := by decide +kernel
theorem dL_below_2 : decode cL_below 2 = .ok (.aload_n 0, 1) := by decide +kernel
theorem dL_below_3 : decode cL_below 3 = .ok (.iload_n 1, 1) := by decide +kernel
theorem dL_below_4 : decode cL_below 4 = .ok (.invokevirtual 97, 3) := by decide +kernel
theorem dL_below_7 : decode cL_below 7 = .ok (.i2l, 1) := by decide +kernel
theorem dL_below_8 : decode cL_below 8 = .ok (.lastore, 1) := by decide +kernel
theorem dL_below_9 : decode cL_below 9 = .ok (.goto 6, 3) := by decide +kernel
theorem dL_below_12 : decode cL_below 12 = .ok (.astore_n 3, 1) := by decide +kernel
theorem dL_below_13 : decode cL_below 13 = .ok (.iconst 1, 1) := by decide +kernel
theorem dL_below_14 : decode cL_below 14 = .ok (.ireturn, 1) := by decide +kernel
theorem dL_below_15 : decode cL_below 15 = .ok (.iconst 0, 1) := by decide +kernel
theorem dL_below_16 : decode cL_below 16 = .ok (.ireturn, 1) := by decide +kernel
theorem dL_after_0 : decode cL_after 0 = .ok (.aload_n 3, 1) := by decide +kernel
theorem dL_after_1 : decode cL_after 1 = .ok (.iconst 0, 1) := by decide +kernel
theorem dL_after_2 : decode cL_after 2 = .ok (.aload_n 0, 1) := by decide +kernel
theorem dL_after_3 : decode cL_after 3 = .ok (.iload_n 1, 1) := by decide +kernel
theorem dL_after_4 : decode cL_after 4 = .ok (.iload_n 2, 1) := by decide +kernel
theorem dL_after_5 : decode cL_after 5 = .ok (.invokevirtual 100, 3) := by decide +kernel
theorem dL_after_8 : decode cL_after 8 = .ok (.i2l, 1) := by decide +kernel
theorem dL_after_9 : decode cL_after 9 = .ok (.lastore, 1) := by decide +kernel
theorem dL_after_10 : decode cL_after 10 = .ok (.goto 11, 3) := by decide +kernel
theorem dL_after_13 : decode cL_after 13 = .ok (.astore 4, 2) := by decide +kernel
theorem dL_after_15 : decode cL_after 15 = .ok (.iconst 1, 1) := by decide +kernel
theorem dL_after_16 : decode cL_after 16 = .ok (.ireturn, 1) := by decide +kernel
theorem dL_after_17 : decode cL_after 17 = .ok (.astore 4, 2) := by decide +kernel
theorem dL_after_19 : decode cL_after 19 = .ok (.iconst 2, 1) := by decide +kernel
theorem dL_after_20 : decode cL_after 20 = .ok (.ireturn, 1) := by decide +kernel
theorem dL_after_21 : decode cL_after 21 = .ok (.iconst 0, 1) := by decide +kernel
theorem dL_after_22 : decode cL_after 22 = .ok (.ireturn, 1) := by decide +kernel
theorem dL_latest_0 : decode cL_latest 0 = .ok (.aload_n 2, 1) := by decide +kernel
theorem dL_latest_1 : decode cL_latest 1 = .ok (.iconst 0, 1) := by decide +kernel
theorem dL_latest_2 : decode cL_latest 2 = .ok (.aload_n 0, 1) := by decide +kernel
theorem dL_latest_3 : decode cL_latest 3 = .ok (.iload_n 1, 1) := by decide +kernel
theorem dL_latest_4 : decode cL_latest 4 = .ok (.invokevirtual 103, 3) := by decide +kernel
theorem dL_latest_7 : decode cL_latest 7 = .ok (.i2l, 1) := by decide +kernel
theorem dL_latest_8 : decode cL_latest 8 = .ok (.lastore, 1) := by decide +kernel
theorem dL_latest_9 : decode cL_latest 9 = .ok (.goto 6, 3) := by decide +kernel
theorem dL_latest_12 : decode cL_latest 12 = .ok (.astore_n 3, 1) := by decide +kernel
theorem dL_latest_13 : decode cL_latest 13 = .ok (.iconst 1, 1) := by decide +kernel
theorem dL_latest_14 : decode cL_latest 14 = .ok (.ireturn, 1) := by decide +kernel
theorem dL_latest_15 : decode cL_latest 15 = .ok (.iconst 0, 1) := by decide +kernel
theorem dL_latest_16 : decode cL_latest 16 = .ok (.ireturn, 1) := by decide +kernel
theorem dL_century_0 : decode cL_century 0 = .ok (.aload 5, 2) := by decide +kernel
theorem dL_century_2 : decode cL_century 2 = .ok (.iconst 0, 1) := by decide +kernel
theorem dL_century_3 : decode cL_century 3 = .ok (.aload_n 0, 1) := by decide +kernel
theorem dL_century_4 : decode cL_century 4 = .ok (.iload_n 1, 1) := by decide +kernel
theorem dL_century_5 : decode cL_century 5 = .ok (.iload_n 2, 1) := by decide +kernel
theorem dL_century_6 : decode cL_century 6 = .ok (.iload_n 3, 1) := by decide +kernel
theorem dL_century_7 : decode cL_century 7 = .ok (.iload 4, 2) := by decide +kernel
theorem dL_century_9 : decode cL_century 9 = .ok (.invokevirtual 106, 3) := by decide +kernel
theorem dL_century_12 : decode cL_century 12 = .ok (.i2l, 1) := by decide +kernel
theorem dL_century_13 : decode cL_century 13 = .ok (.lastore, 1) := by decide +kernel
theorem dL_century_14 : decode cL_century 14 = .ok (.goto 7, 3) := by decide +kernel
theorem dL_century_17 : decode cL_century 17 = .ok (.astore 6, 2) := by decide +kernel
theorem dL_century_19 : decode cL_century 19 = .ok (.iconst 1, 1) := by decide +kernel
theorem dL_century_20 : decode cL_century 20 = .ok (.ireturn, 1) := by decide +kernel
theorem dL_century_21 : decode cL_century 21 = .ok (.iconst 0, 1) := by decide +kernel
theorem dL_century_22 : decode cL_century 22 = .ok (.ireturn, 1) := by decide +kernel
theorem dL_span_0 : decode cL_span 0 = .ok (.aload 7, 2) := by decide +kernel
theorem dL_span_2 : decode cL_span 2 = .ok (.iconst 0, 1) := by decide +kernel
theorem dL_span_3 : decode cL_span 3 = .ok (.aload_n 0, 1) := by decide +kernel
theorem dL_span_4 : decode cL_span 4 = .ok (.iload_n 1, 1) := by decide +kernel
theorem dL_span_5 : decode cL_span 5 = .ok (.iload_n 2, 1) := by decide +kernel
theorem dL_span_6 : decode cL_span 6 = .ok (.iload_n 3, 1) := by decide +kernel
theorem dL_span_7 : decode cL_span 7 = .ok (.iload 4, 2) := by decide +kernel
theorem dL_span_9 : decode cL_span 9 = .ok (.iload 5, 2) := by decide +kernel
theorem dL_span_11 : decode cL_span 11 = .ok (.iload 6, 2) := by decide +kernel
theorem dL_span_13 : decode cL_span 13 = .ok (.invokevirtual 110, 3) := by decide +kernel
theorem dL_span_16 : decode cL_span 16 = .ok (.i2l, 1) := by decide +kernel
theorem dL_span_17 : decode cL_span 17 = .ok (.lastore, 1) := by decide +kernel
theorem dL_span_18 : decode cL_span 18 = .ok (.goto 7, 3) := by decide +kernel
theorem dL_span_21 : decode cL_span 21 = .ok (.astore 8, 2) := by decide +kernel
theorem dL_span_23 : decode cL_span 23 = .ok (.iconst 1, 1) := by decide +kernel
theorem dL_span_24 : decode cL_span 24 = .ok (.ireturn, 1) := by decide +kernel
theorem dL_span_25 : decode cL_span 25 = .ok (.iconst 0, 1) := by decide +kernel
theorem dL_span_26 : decode cL_span 26 = .ok (.ireturn, 1) := by decide +kernel
theorem dL_law__0 : decode cL_law_ 0 = .ok (.new 8, 3) := by decide +kernel
theorem dL_law__3 : decode cL_law_ 3 = .ok (.dup, 1) := by decide +kernel
theorem dL_law__4 : decode cL_law_ 4 = .ok (.invokespecial 114, 3) := by decide +kernel
theorem dL_law__7 : decode cL_law_ 7 = .ok (.astore_n 1, 1) := by decide +kernel
theorem dL_law__8 : decode cL_law_ 8 = .ok (.new 115, 3) := by decide +kernel
theorem dL_law__11 : decode cL_law_ 11 = .ok (.dup, 1) := by decide +kernel
theorem dL_law__12 : decode cL_law_ 12 = .ok (.invokespecial 117, 3) := by decide +kernel
theorem dL_law__15 : decode cL_law_ 15 = .ok (.astore_n 2, 1) := by decide +kernel
theorem dL_law__16 : decode cL_law_ 16 = .ok (.iconst 1, 1) := by decide +kernel
theorem dL_law__17 : decode cL_law_ 17 = .ok (.newarray .long, 2) := by decide +kernel
theorem dL_law__19 : decode cL_law_ 19 = .ok (.astore_n 3, 1) := by decide +kernel
theorem dL_law__20 : decode cL_law_ 20 = .ok (.iconst 0, 1) := by decide +kernel
theorem dL_law__21 : decode cL_law_ 21 = .ok (.istore 4, 2) := by decide +kernel
theorem dL_law__23 : decode cL_law_ 23 = .ok (.iload 4, 2) := by decide +kernel
theorem dL_law__25 : decode cL_law_ 25 = .ok (.aload_n 0, 1) := by decide +kernel
theorem dL_law__26 : decode cL_law_ 26 = .ok (.arraylength, 1) := by decide +kernel
theorem dL_law__27 : decode cL_law_ 27 = .ok (.bipush 9, 2) := by decide +kernel
theorem dL_law__29 : decode cL_law_ 29 = .ok (.isub, 1) := by decide +kernel
theorem dL_law__30 : decode cL_law_ 30 = .ok (.if_icmp .gt 2510, 3) := by decide +kernel
theorem dL_law__33 : decode cL_law_ 33 = .ok (.aload_n 0, 1) := by decide +kernel
theorem dL_law__34 : decode cL_law_ 34 = .ok (.iload 4, 2) := by decide +kernel
theorem dL_law__36 : decode cL_law_ 36 = .ok (.iaload, 1) := by decide +kernel
theorem dL_law__37 : decode cL_law_ 37 = .ok (.bipush 63, 2) := by decide +kernel
theorem dL_law__39 : decode cL_law_ 39 = .ok (.iand, 1) := by decide +kernel
theorem dL_law__40 : decode cL_law_ 40 = .ok (.tableswitch 2494 0 38 #[172, 245, 301, 357, 413, 469, 482, 495, 551, 619, 687, 762, 908, 964, 1032, 1088, 1144, 1212, 1280, 1348, 1416, 1484, 1564, 1655, 1735, 1791, 1847, 1903, 1959, 2015, 2071, 2084, 2152, 2208, 2300, 2418, 2431, 2444, 2469], 172) := by decide +kernel
theorem dL_law__212 : decode cL_law_ 212 = .ok (.aload_n 1, 1) := by decide +kernel
theorem dL_law__213 : decode cL_law_ 213 = .ok (.aload_n 0, 1) := by decide +kernel
theorem dL_law__214 : decode cL_law_ 214 = .ok (.iload 4, 2) := by decide +kernel
theorem dL_law__216 : decode cL_law_ 216 = .ok (.iconst 1, 1) := by decide +kernel
theorem dL_law__217 : decode cL_law_ 217 = .ok (.iadd, 1) := by decide +kernel
theorem dL_law__218 : decode cL_law_ 218 = .ok (.iaload, 1) := by decide +kernel
theorem dL_law__219 : decode cL_law_ 219 = .ok (.aload_n 0, 1) := by decide +kernel
theorem dL_law__220 : decode cL_law_ 220 = .ok (.iload 4, 2) := by decide +kernel
theorem dL_law__222 : decode cL_law_ 222 = .ok (.iconst 2, 1) := by decide +kernel
theorem dL_law__223 : decode cL_law_ 223 = .ok (.iadd, 1) := by decide +kernel
theorem dL_law__224 : decode cL_law_ 224 = .ok (.iaload, 1) := by decide +kernel
theorem dL_law__225 : decode cL_law_ 225 = .ok (.aload_n 0, 1) := by decide +kernel
theorem dL_law__226 : decode cL_law_ 226 = .ok (.iload 4, 2) := by decide +kernel
theorem dL_law__228 : decode cL_law_ 228 = .ok (.iconst 3, 1) := by decide +kernel
theorem dL_law__229 : decode cL_law_ 229 = .ok (.iadd, 1) := by decide +kernel
theorem dL_law__230 : decode cL_law_ 230 = .ok (.iaload, 1) := by decide +kernel
theorem dL_law__231 : decode cL_law_ 231 = .ok (.aload_n 0, 1) := by decide +kernel
theorem dL_law__232 : decode cL_law_ 232 = .ok (.iload 4, 2) := by decide +kernel
theorem dL_law__234 : decode cL_law_ 234 = .ok (.iconst 4, 1) := by decide +kernel
theorem dL_law__235 : decode cL_law_ 235 = .ok (.iadd, 1) := by decide +kernel
theorem dL_law__236 : decode cL_law_ 236 = .ok (.iaload, 1) := by decide +kernel
theorem dL_law__237 : decode cL_law_ 237 = .ok (.aload_n 0, 1) := by decide +kernel
theorem dL_law__238 : decode cL_law_ 238 = .ok (.iload 4, 2) := by decide +kernel
theorem dL_law__240 : decode cL_law_ 240 = .ok (.iconst 5, 1) := by decide +kernel
theorem dL_law__241 : decode cL_law_ 241 = .ok (.iadd, 1) := by decide +kernel
theorem dL_law__242 : decode cL_law_ 242 = .ok (.iaload, 1) := by decide +kernel
theorem dL_law__243 : decode cL_law_ 243 = .ok (.invokevirtual 118, 3) := by decide +kernel
theorem dL_law__246 : decode cL_law_ 246 = .ok (.aload_n 2, 1) := by decide +kernel
theorem dL_law__247 : decode cL_law_ 247 = .ok (.aload_n 0, 1) := by decide +kernel
theorem dL_law__248 : decode cL_law_ 248 = .ok (.iload 4, 2) := by decide +kernel
theorem dL_law__250 : decode cL_law_ 250 = .ok (.iconst 1, 1) := by decide +kernel
theorem dL_law__251 : decode cL_law_ 251 = .ok (.iadd, 1) := by decide +kernel
theorem dL_law__252 : decode cL_law_ 252 = .ok (.iaload, 1) := by decide +kernel
theorem dL_law__253 : decode cL_law_ 253 = .ok (.aload_n 0, 1) := by decide +kernel
theorem dL_law__254 : decode cL_law_ 254 = .ok (.iload 4, 2) := by decide +kernel
theorem dL_law__256 : decode cL_law_ 256 = .ok (.iconst 2, 1) := by decide +kernel
theorem dL_law__257 : decode cL_law_ 257 = .ok (.iadd, 1) := by decide +kernel
theorem dL_law__258 : decode cL_law_ 258 = .ok (.iaload, 1) := by decide +kernel
theorem dL_law__259 : decode cL_law_ 259 = .ok (.aload_n 0, 1) := by decide +kernel
theorem dL_law__260 : decode cL_law_ 260 = .ok (.iload 4, 2) := by decide +kernel
theorem dL_law__262 : decode cL_law_ 262 = .ok (.iconst 3, 1) := by decide +kernel
theorem dL_law__263 : decode cL_law_ 263 = .ok (.iadd, 1) := by decide +kernel
theorem dL_law__264 : decode cL_law_ 264 = .ok (.iaload, 1) := by decide +kernel
theorem dL_law__265 : decode cL_law_ 265 = .ok (.aload_n 0, 1) := by decide +kernel
theorem dL_law__266 : decode cL_law_ 266 = .ok (.iload 4, 2) := by decide +kernel
theorem dL_law__268 : decode cL_law_ 268 = .ok (.iconst 4, 1) := by decide +kernel
theorem dL_law__269 : decode cL_law_ 269 = .ok (.iadd, 1) := by decide +kernel
theorem dL_law__270 : decode cL_law_ 270 = .ok (.iaload, 1) := by decide +kernel
theorem dL_law__271 : decode cL_law_ 271 = .ok (.aload_n 0, 1) := by decide +kernel
theorem dL_law__272 : decode cL_law_ 272 = .ok (.iload 4, 2) := by decide +kernel
theorem dL_law__274 : decode cL_law_ 274 = .ok (.iconst 5, 1) := by decide +kernel
theorem dL_law__275 : decode cL_law_ 275 = .ok (.iadd, 1) := by decide +kernel
theorem dL_law__276 : decode cL_law_ 276 = .ok (.iaload, 1) := by decide +kernel
theorem dL_law__277 : decode cL_law_ 277 = .ok (.invokevirtual 122, 3) := by decide +kernel
theorem dL_law__280 : decode cL_law_ 280 = .ok (.if_icmp .eq 2254, 3) := by decide +kernel
theorem dL_law__283 : decode cL_law_ 283 = .ok (.iconst 0, 1) := by decide +kernel
theorem dL_law__284 : decode cL_law_ 284 = .ok (.ireturn, 1) := by decide +kernel
theorem dL_law__285 : decode cL_law_ 285 = .ok (.aload_n 1, 1) := by decide +kernel
theorem dL_law__286 : decode cL_law_ 286 = .ok (.aload_n 0, 1) := by decide +kernel
theorem dL_law__287 : decode cL_law_ 287 = .ok (.iload 4, 2) := by decide +kernel
theorem dL_law__289 : decode cL_law_ 289 = .ok (.iconst 1, 1) := by decide +kernel
theorem dL_law__290 : decode cL_law_ 290 = .ok (.iadd, 1) := by decide +kernel
theorem dL_law__291 : decode cL_law_ 291 = .ok (.iaload, 1) := by decide +kernel
theorem dL_law__292 : decode cL_law_ 292 = .ok (.aload_n 3, 1) := by decide +kernel
theorem dL_law__293 : decode cL_law_ 293 = .ok (.invokestatic 123, 3) := by decide +kernel
theorem dL_law__296 : decode cL_law_ 296 = .ok (.istore 5, 2) := by decide +kernel
theorem dL_law__298 : decode cL_law_ 298 = .ok (.aload_n 2, 1) := by decide +kernel
theorem dL_law__299 : decode cL_law_ 299 = .ok (.aload_n 0, 1) := by decide +kernel
theorem dL_law__300 : decode cL_law_ 300 = .ok (.iload 4, 2) := by decide +kernel
theorem dL_law__302 : decode cL_law_ 302 = .ok (.iconst 1, 1) := by decide +kernel
theorem dL_law__303 : decode cL_law_ 303 = .ok (.iadd, 1) := by decide +kernel
theorem dL_law__304 : decode cL_law_ 304 = .ok (.iaload, 1) := by decide +kernel
theorem dL_law__305 : decode cL_law_ 305 = .ok (.invokevirtual 128, 3) := by decide +kernel
theorem dL_law__308 : decode cL_law_ 308 = .ok (.istore 6, 2) := by decide +kernel
theorem dL_law__310 : decode cL_law_ 310 = .ok (.aload_n 2, 1) := by decide +kernel
theorem dL_law__311 : decode cL_law_ 311 = .ok (.invokevirtual 129, 3) := by decide +kernel
theorem dL_law__314 : decode cL_law_ 314 = .ok (.iload 5, 2) := by decide +kernel
theorem dL_law__316 : decode cL_law_ 316 = .ok (.if_icmp .eq 5, 3) := by decide +kernel
theorem dL_law__319 : decode cL_law_ 319 = .ok (.iconst 0, 1) := by decide +kernel
theorem dL_law__320 : decode cL_law_ 320 = .ok (.ireturn, 1) := by decide +kernel
theorem dL_law__321 : decode cL_law_ 321 = .ok (.iload 5, 2) := by decide +kernel
theorem dL_law__323 : decode cL_law_ 323 = .ok (.ifCond .ne 15, 3) := by decide +kernel
theorem dL_law__326 : decode cL_law_ 326 = .ok (.aload_n 3, 1) := by decide +kernel
theorem dL_law__327 : decode cL_law_ 327 = .ok (.iconst 0, 1) := by decide +kernel
theorem dL_law__328 : decode cL_law_ 328 = .ok (.laload, 1) := by decide +kernel
theorem dL_law__329 : decode cL_law_ 329 = .ok (.iload 6, 2) := by decide +kernel
theorem dL_law__331 : decode cL_law_ 331 = .ok (.i2l, 1) := by decide +kernel
theorem dL_law__332 : decode cL_law_ 332 = .ok (.lcmp, 1) := by decide +kernel
theorem dL_law__333 : decode cL_law_ 333 = .ok (.ifCond .eq 5, 3) := by decide +kernel
theorem dL_law__336 : decode cL_law_ 336 = .ok (.iconst 0, 1) := by decide +kernel
theorem dL_law__337 : decode cL_law_ 337 = .ok (.ireturn, 1) := by decide +kernel
theorem dL_law__338 : decode cL_law_ 338 = .ok (.goto 2196, 3) := by decide +kernel
theorem dL_law__341 : decode cL_law_ 341 = .ok (.aload_n 1, 1) := by decide +kernel
theorem dL_law__342 : decode cL_law_ 342 = .ok (.aload_n 0, 1) := by decide +kernel
theorem dL_law__343 : decode cL_law_ 343 = .ok (.iload 4, 2) := by decide +kernel
theorem dL_law__345 : decode cL_law_ 345 = .ok (.iconst 1, 1) := by decide +kernel
theorem dL_law__346 : decode cL_law_ 346 = .ok (.iadd, 1) := by decide +kernel
theorem dL_law__347 : decode cL_law_ 347 = .ok (.iaload, 1) := by decide +kernel
theorem dL_law__348 : decode cL_law_ 348 = .ok (.aload_n 3, 1) := by decide +kernel
theorem dL_law__349 : decode cL_law_ 349 = .ok (.invokestatic 133, 3) := by decide +kernel
theorem dL_law__352 : decode cL_law_ 352 = .ok (.istore 5, 2) := by decide +kernel
theorem dL_law__354 : decode cL_law_ 354 = .ok (.aload_n 2, 1) := by decide +kernel
theorem dL_law__355 : decode cL_law_ 355 = .ok (.aload_n 0, 1) := by decide +kernel
theorem dL_law__356 : decode cL_law_ 356 = .ok (.iload 4, 2) := by decide +kernel
theorem dL_law__358 : decode cL_law_ 358 = .ok (.iconst 1, 1) := by decide +kernel
theorem dL_law__359 : decode cL_law_ 359 = .ok (.iadd, 1) := by decide +kernel
theorem dL_law__360 : decode cL_law_ 360 = .ok (.iaload, 1) := by decide +kernel
theorem dL_law__361 : decode cL_law_ 361 = .ok (.invokevirtual 135, 3) := by decide +kernel
theorem dL_law__364 : decode cL_law_ 364 = .ok (.istore 6, 2) := by decide +kernel
theorem dL_law__366 : decode cL_law_ 366 = .ok (.aload_n 2, 1) := by decide +kernel
theorem dL_law__367 : decode cL_law_ 367 = .ok (.invokevirtual 129, 3) := by decide +kernel
theorem dL_law__370 : decode cL_law_ 370 = .ok (.iload 5, 2) := by decide +kernel
theorem dL_law__372 : decode cL_law_ 372 = .ok (.if_icmp .eq 5, 3) := by decide +kernel
theorem dL_law__375 : decode cL_law_ 375 = .ok (.iconst 0, 1) := by decide +kernel
theorem dL_law__376 : decode cL_law_ 376 = .ok (.ireturn, 1) := by decide +kernel
theorem dL_law__377 : decode cL_law_ 377 = .ok (.iload 5, 2) := by decide +kernel
theorem dL_law__379 : decode cL_law_ 379 = .ok (.ifCond .ne 15, 3) := by decide +kernel
theorem dL_law__382 : decode cL_law_ 382 = .ok (.aload_n 3, 1) := by decide +kernel
theorem dL_law__383 : decode cL_law_ 383 = .ok (.iconst 0, 1) := by decide +kernel
theorem dL_law__384 : decode cL_law_ 384 = .ok (.laload, 1) := by decide +kernel
theorem dL_law__385 : decode cL_law_ 385 = .ok (.iload 6, 2) := by decide +kernel
theorem dL_law__387 : decode cL_law_ 387 = .ok (.i2l, 1) := by decide +kernel
theorem dL_law__388 : decode cL_law_ 388 = .ok (.lcmp, 1) := by decide +kernel
theorem dL_law__389 : decode cL_law_ 389 = .ok (.ifCond .eq 5, 3) := by decide +kernel
theorem dL_law__392 : decode cL_law_ 392 = .ok (.iconst 0, 1) := by decide +kernel
theorem dL_law__393 : decode cL_law_ 393 = .ok (.ireturn, 1) := by decide +kernel
theorem dL_law__394 : decode cL_law_ 394 = .ok (.goto 2140, 3) := by decide +kernel
theorem dL_law__397 : decode cL_law_ 397 = .ok (.aload_n 1, 1) := by decide +kernel
theorem dL_law__398 : decode cL_law_ 398 = .ok (.aload_n 0, 1) := by decide +kernel
theorem dL_law__399 : decode cL_law_ 399 = .ok (.iload 4, 2) := by decide +kernel
theorem dL_law__401 : decode cL_law_ 401 = .ok (.iconst 1, 1) := by decide +kernel
theorem dL_law__402 : decode cL_law_ 402 = .ok (.iadd, 1) := by decide +kernel
theorem dL_law__403 : decode cL_law_ 403 = .ok (.iaload, 1) := by decide +kernel
theorem dL_law__404 : decode cL_law_ 404 = .ok (.aload_n 3, 1) := by decide +kernel
theorem dL_law__405 : decode cL_law_ 405 = .ok (.invokestatic 136, 3) := by decide +kernel
theorem dL_law__408 : decode cL_law_ 408 = .ok (.istore 5, 2) := by decide +kernel
theorem dL_law__410 : decode cL_law_ 410 = .ok (.aload_n 2, 1) := by decide +kernel
theorem dL_law__411 : decode cL_law_ 411 = .ok (.aload_n 0, 1) := by decide +kernel
theorem dL_law__412 : decode cL_law_ 412 = .ok (.iload 4, 2) := by decide +kernel
theorem dL_law__414 : decode cL_law_ 414 = .ok (.iconst 1, 1) := by decide +kernel
theorem dL_law__415 : decode cL_law_ 415 = .ok (.iadd, 1) := by decide +kernel
theorem dL_law__416 : decode cL_law_ 416 = .ok (.iaload, 1) := by decide +kernel
theorem dL_law__417 : decode cL_law_ 417 = .ok (.invokevirtual 138, 3) := by decide +kernel
theorem dL_law__420 : decode cL_law_ 420 = .ok (.istore 6, 2) := by decide +kernel
theorem dL_law__422 : decode cL_law_ 422 = .ok (.aload_n 2, 1) := by decide +kernel
theorem dL_law__423 : decode cL_law_ 423 = .ok (.invokevirtual 129, 3) := by decide +kernel
theorem dL_law__426 : decode cL_law_ 426 = .ok (.iload 5, 2) := by decide +kernel
theorem dL_law__428 : decode cL_law_ 428 = .ok (.if_icmp .eq 5, 3) := by decide +kernel
theorem dL_law__431 : decode cL_law_ 431 = .ok (.iconst 0, 1) := by decide +kernel
theorem dL_law__432 : decode cL_law_ 432 = .ok (.ireturn, 1) := by decide +kernel
theorem dL_law__433 : decode cL_law_ 433 = .ok (.iload 5, 2) := by decide +kernel
theorem dL_law__435 : decode cL_law_ 435 = .ok (.ifCond .ne 15, 3) := by decide +kernel
theorem dL_law__438 : decode cL_law_ 438 = .ok (.aload_n 3, 1) := by decide +kernel
theorem dL_law__439 : decode cL_law_ 439 = .ok (.iconst 0, 1) := by decide +kernel
theorem dL_law__440 : decode cL_law_ 440 = .ok (.laload, 1) := by decide +kernel
theorem dL_law__441 : decode cL_law_ 441 = .ok (.iload 6, 2) := by decide +kernel
theorem dL_law__443 : decode cL_law_ 443 = .ok (.i2l, 1) := by decide +kernel
theorem dL_law__444 : decode cL_law_ 444 = .ok (.lcmp, 1) := by decide +kernel
theorem dL_law__445 : decode cL_law_ 445 = .ok (.ifCond .eq 5, 3) := by decide +kernel
theorem dL_law__448 : decode cL_law_ 448 = .ok (.iconst 0, 1) := by decide +kernel
theorem dL_law__449 : decode cL_law_ 449 = .ok (.ireturn, 1) := by decide +kernel
theorem dL_law__450 : decode cL_law_ 450 = .ok (.goto 2084, 3) := by decide +kernel
theorem dL_law__453 : decode cL_law_ 453 = .ok (.aload_n 1, 1) := by decide +kernel
theorem dL_law__454 : decode cL_law_ 454 = .ok (.aload_n 0, 1) := by decide +kernel
theorem dL_law__455 : decode cL_law_ 455 = .ok (.iload 4, 2) := by decide +kernel
theorem dL_law__457 : decode cL_law_ 457 = .ok (.iconst 1, 1) := by decide +kernel
theorem dL_law__458 : decode cL_law_ 458 = .ok (.iadd, 1) := by decide +kernel
theorem dL_law__459 : decode cL_law_ 459 = .ok (.iaload, 1) := by decide +kernel
theorem dL_law__460 : decode cL_law_ 460 = .ok (.aload_n 3, 1) := by decide +kernel
theorem dL_law__461 : decode cL_law_ 461 = .ok (.invokestatic 139, 3) := by decide +kernel
theorem dL_law__464 : decode cL_law_ 464 = .ok (.istore 5, 2) := by decide +kernel
theorem dL_law__466 : decode cL_law_ 466 = .ok (.aload_n 2, 1) := by decide +kernel
theorem dL_law__467 : decode cL_law_ 467 = .ok (.aload_n 0, 1) := by decide +kernel
theorem dL_law__468 : decode cL_law_ 468 = .ok (.iload 4, 2) := by decide +kernel
theorem dL_law__470 : decode cL_law_ 470 = .ok (.iconst 1, 1) := by decide +kernel
theorem dL_law__471 : decode cL_law_ 471 = .ok (.iadd, 1) := by decide +kernel
theorem dL_law__472 : decode cL_law_ 472 = .ok (.iaload, 1) := by decide +kernel
theorem dL_law__473 : decode cL_law_ 473 = .ok (.invokevirtual 141, 3) := by decide +kernel
theorem dL_law__476 : decode cL_law_ 476 = .ok (.istore 6, 2) := by decide +kernel
theorem dL_law__478 : decode cL_law_ 478 = .ok (.aload_n 2, 1) := by decide +kernel
theorem dL_law__479 : decode cL_law_ 479 = .ok (.invokevirtual 129, 3) := by decide +kernel
theorem dL_law__482 : decode cL_law_ 482 = .ok (.iload 5, 2) := by decide +kernel
theorem dL_law__484 : decode cL_law_ 484 = .ok (.if_icmp .eq 5, 3) := by decide +kernel
theorem dL_law__487 : decode cL_law_ 487 = .ok (.iconst 0, 1) := by decide +kernel
theorem dL_law__488 : decode cL_law_ 488 = .ok (.ireturn, 1) := by decide +kernel
theorem dL_law__489 : decode cL_law_ 489 = .ok (.iload 5, 2) := by decide +kernel
theorem dL_law__491 : decode cL_law_ 491 = .ok (.ifCond .ne 15, 3) := by decide +kernel
theorem dL_law__494 : decode cL_law_ 494 = .ok (.aload_n 3, 1) := by decide +kernel
theorem dL_law__495 : decode cL_law_ 495 = .ok (.iconst 0, 1) := by decide +kernel
theorem dL_law__496 : decode cL_law_ 496 = .ok (.laload, 1) := by decide +kernel
theorem dL_law__497 : decode cL_law_ 497 = .ok (.iload 6, 2) := by decide +kernel
theorem dL_law__499 : decode cL_law_ 499 = .ok (.i2l, 1) := by decide +kernel
theorem dL_law__500 : decode cL_law_ 500 = .ok (.lcmp, 1) := by decide +kernel
theorem dL_law__501 : decode cL_law_ 501 = .ok (.ifCond .eq 5, 3) := by decide +kernel
theorem dL_law__504 : decode cL_law_ 504 = .ok (.iconst 0, 1) := by decide +kernel
theorem dL_law__505 : decode cL_law_ 505 = .ok (.ireturn, 1) := by decide +kernel
theorem dL_law__506 : decode cL_law_ 506 = .ok (.goto 2028, 3) := by decide +kernel
theorem dL_law__509 : decode cL_law_ 509 = .ok (.aload_n 1, 1) := by decide +kernel
theorem dL_law__510 : decode cL_law_ 510 = .ok (.invokevirtual 142, 3) := by decide +kernel
theorem dL_law__513 : decode cL_law_ 513 = .ok (.aload_n 2, 1) := by decide +kernel
theorem dL_law__514 : decode cL_law_ 514 = .ok (.invokevirtual 145, 3) := by decide +kernel
theorem dL_law__517 : decode cL_law_ 517 = .ok (.if_icmp .eq 2017, 3) := by decide +kernel
theorem dL_law__520 : decode cL_law_ 520 = .ok (.iconst 0, 1) := by decide +kernel
theorem dL_law__521 : decode cL_law_ 521 = .ok (.ireturn, 1) := by decide +kernel
theorem dL_law__522 : decode cL_law_ 522 = .ok (.aload_n 1, 1) := by decide +kernel
theorem dL_law__523 : decode cL_law_ 523 = .ok (.invokevirtual 146, 3) := by decide +kernel
theorem dL_law__526 : decode cL_law_ 526 = .ok (.aload_n 2, 1) := by decide +kernel
theorem dL_law__527 : decode cL_law_ 527 = .ok (.invokevirtual 149, 3) := by decide +kernel
theorem dL_law__530 : decode cL_law_ 530 = .ok (.if_icmp .eq 2004, 3) := by decide +kernel
theorem dL_law__533 : decode cL_law_ 533 = .ok (.iconst 0, 1) := by decide +kernel
theorem dL_law__534 : decode cL_law_ 534 = .ok (.ireturn, 1) := by decide +kernel
theorem dL_law__535 : decode cL_law_ 535 = .ok (.aload_n 1, 1) := by decide +kernel
theorem dL_law__536 : decode cL_law_ 536 = .ok (.aload_n 0, 1) := by decide +kernel
theorem dL_law__537 : decode cL_law_ 537 = .ok (.iload 4, 2) := by decide +kernel
theorem dL_law__539 : decode cL_law_ 539 = .ok (.iconst 1, 1) := by decide +kernel
theorem dL_law__540 : decode cL_law_ 540 = .ok (.iadd, 1) := by decide +kernel
theorem dL_law__541 : decode cL_law_ 541 = .ok (.iaload, 1) := by decide +kernel
theorem dL_law__542 : decode cL_law_ 542 = .ok (.aload_n 3, 1) := by decide +kernel
theorem dL_law__543 : decode cL_law_ 543 = .ok (.invokestatic 150, 3) := by decide +kernel
theorem dL_law__546 : decode cL_law_ 546 = .ok (.istore 5, 2) := by decide +kernel
theorem dL_law__548 : decode cL_law_ 548 = .ok (.aload_n 2, 1) := by decide +kernel
theorem dL_law__549 : decode cL_law_ 549 = .ok (.aload_n 0, 1) := by decide +kernel
theorem dL_law__550 : decode cL_law_ 550 = .ok (.iload 4, 2) := by decide +kernel
theorem dL_law__552 : decode cL_law_ 552 = .ok (.iconst 1, 1) := by decide +kernel
theorem dL_law__553 : decode cL_law_ 553 = .ok (.iadd, 1) := by decide +kernel
theorem dL_law__554 : decode cL_law_ 554 = .ok (.iaload, 1) := by decide +kernel
theorem dL_law__555 : decode cL_law_ 555 = .ok (.invokevirtual 152, 3) := by decide +kernel
theorem dL_law__558 : decode cL_law_ 558 = .ok (.istore 6, 2) := by decide +kernel
theorem dL_law__560 : decode cL_law_ 560 = .ok (.aload_n 2, 1) := by decide +kernel
theorem dL_law__561 : decode cL_law_ 561 = .ok (.invokevirtual 129, 3) := by decide +kernel
theorem dL_law__564 : decode cL_law_ 564 = .ok (.iload 5, 2) := by decide +kernel
theorem dL_law__566 : decode cL_law_ 566 = .ok (.if_icmp .eq 5, 3) := by decide +kernel
theorem dL_law__569 : decode cL_law_ 569 = .ok (.iconst 0, 1) := by decide +kernel
theorem dL_law__570 : decode cL_law_ 570 = .ok (.ireturn, 1) := by decide +kernel
theorem dL_law__571 : decode cL_law_ 571 = .ok (.iload 5, 2) := by decide +kernel
theorem dL_law__573 : decode cL_law_ 573 = .ok (.ifCond .ne 15, 3) := by decide +kernel
theorem dL_law__576 : decode cL_law_ 576 = .ok (.aload_n 3, 1) := by decide +kernel
theorem dL_law__577 : decode cL_law_ 577 = .ok (.iconst 0, 1) := by decide +kernel
theorem dL_law__578 : decode cL_law_ 578 = .ok (.laload, 1) := by decide +kernel
theorem dL_law__579 : decode cL_law_ 579 = .ok (.iload 6, 2) := by decide +kernel
theorem dL_law__581 : decode cL_law_ 581 = .ok (.i2l, 1) := by decide +kernel
theorem dL_law__582 : decode cL_law_ 582 = .ok (.lcmp, 1) := by decide +kernel
theorem dL_law__583 : decode cL_law_ 583 = .ok (.ifCond .eq 5, 3) := by decide +kernel
theorem dL_law__586 : decode cL_law_ 586 = .ok (.iconst 0, 1) := by decide +kernel
theorem dL_law__587 : decode cL_law_ 587 = .ok (.ireturn, 1) := by decide +kernel
theorem dL_law__588 : decode cL_law_ 588 = .ok (.goto 1946, 3) := by decide +kernel
theorem dL_law__591 : decode cL_law_ 591 = .ok (.aload_n 1, 1) := by decide +kernel
theorem dL_law__592 : decode cL_law_ 592 = .ok (.aload_n 0, 1) := by decide +kernel
theorem dL_law__593 : decode cL_law_ 593 = .ok (.iload 4, 2) := by decide +kernel
theorem dL_law__595 : decode cL_law_ 595 = .ok (.iconst 1, 1) := by decide +kernel
theorem dL_law__596 : decode cL_law_ 596 = .ok (.iadd, 1) := by decide +kernel
theorem dL_law__597 : decode cL_law_ 597 = .ok (.iaload, 1) := by decide +kernel
theorem dL_law__598 : decode cL_law_ 598 = .ok (.aload_n 0, 1) := by decide +kernel
theorem dL_law__599 : decode cL_law_ 599 = .ok (.iload 4, 2) := by decide +kernel
theorem dL_law__601 : decode cL_law_ 601 = .ok (.iconst 2, 1) := by decide +kernel
theorem dL_law__602 : decode cL_law_ 602 = .ok (.iadd, 1) := by decide +kernel
theorem dL_law__603 : decode cL_law_ 603 = .ok (.iaload, 1) := by decide +kernel
theorem dL_law__604 : decode cL_law_ 604 = .ok (.aload_n 3, 1) := by decide +kernel
theorem dL_law__605 : decode cL_law_ 605 = .ok (.invokestatic 153, 3) := by decide +kernel
theorem dL_law__608 : decode cL_law_ 608 = .ok (.istore 5, 2) := by decide +kernel
theorem dL_law__610 : decode cL_law_ 610 = .ok (.aload_n 2, 1) := by decide +kernel
theorem dL_law__611 : decode cL_law_ 611 = .ok (.aload_n 0, 1) := by decide +kernel
theorem dL_law__612 : decode cL_law_ 612 = .ok (.iload 4, 2) := by decide +kernel
theorem dL_law__614 : decode cL_law_ 614 = .ok (.iconst 1, 1) := by decide +kernel
theorem dL_law__615 : decode cL_law_ 615 = .ok (.iadd, 1) := by decide +kernel
theorem dL_law__616 : decode cL_law_ 616 = .ok (.iaload, 1) := by decide +kernel
theorem dL_law__617 : decode cL_law_ 617 = .ok (.aload_n 0, 1) := by decide +kernel
theorem dL_law__618 : decode cL_law_ 618 = .ok (.iload 4, 2) := by decide +kernel
theorem dL_law__620 : decode cL_law_ 620 = .ok (.iconst 2, 1) := by decide +kernel
theorem dL_law__621 : decode cL_law_ 621 = .ok (.iadd, 1) := by decide +kernel
theorem dL_law__622 : decode cL_law_ 622 = .ok (.iaload, 1) := by decide +kernel
theorem dL_law__623 : decode cL_law_ 623 = .ok (.invokevirtual 156, 3) := by decide +kernel
theorem dL_law__626 : decode cL_law_ 626 = .ok (.istore 6, 2) := by decide +kernel
theorem dL_law__628 : decode cL_law_ 628 = .ok (.aload_n 2, 1) := by decide +kernel
theorem dL_law__629 : decode cL_law_ 629 = .ok (.invokevirtual 129, 3) := by decide +kernel
theorem dL_law__632 : decode cL_law_ 632 = .ok (.iload 5, 2) := by decide +kernel
theorem dL_law__634 : decode cL_law_ 634 = .ok (.if_icmp .eq 5, 3) := by decide +kernel
theorem dL_law__637 : decode cL_law_ 637 = .ok (.iconst 0, 1) := by decide +kernel
theorem dL_law__638 : decode cL_law_ 638 = .ok (.ireturn, 1) := by decide +kernel
theorem dL_law__639 : decode cL_law_ 639 = .ok (.iload 5, 2) := by decide +kernel
theorem dL_law__641 : decode cL_law_ 641 = .ok (.ifCond .ne 15, 3) := by decide +kernel
theorem dL_law__644 : decode cL_law_ 644 = .ok (.aload_n 3, 1) := by decide +kernel
theorem dL_law__645 : decode cL_law_ 645 = .ok (.iconst 0, 1) := by decide +kernel
theorem dL_law__646 : decode cL_law_ 646 = .ok (.laload, 1) := by decide +kernel
theorem dL_law__647 : decode cL_law_ 647 = .ok (.iload 6, 2) := by decide +kernel
theorem dL_law__649 : decode cL_law_ 649 = .ok (.i2l, 1) := by decide +kernel
theorem dL_law__650 : decode cL_law_ 650 = .ok (.lcmp, 1) := by decide +kernel
theorem dL_law__651 : decode cL_law_ 651 = .ok (.ifCond .eq 5, 3) := by decide +kernel
theorem dL_law__654 : decode cL_law_ 654 = .ok (.iconst 0, 1) := by decide +kernel
theorem dL_law__655 : decode cL_law_ 655 = .ok (.ireturn, 1) := by decide +kernel
theorem dL_law__656 : decode cL_law_ 656 = .ok (.goto 1878, 3) := by decide +kernel
theorem dL_law__659 : decode cL_law_ 659 = .ok (.aload_n 1, 1) := by decide +kernel
theorem dL_law__660 : decode cL_law_ 660 = .ok (.aload_n 0, 1) := by decide +kernel
theorem dL_law__661 : decode cL_law_ 661 = .ok (.iload 4, 2) := by decide +kernel
theorem dL_law__663 : decode cL_law_ 663 = .ok (.iconst 1, 1) := by decide +kernel
theorem dL_law__664 : decode cL_law_ 664 = .ok (.iadd, 1) := by decide +kernel
theorem dL_law__665 : decode cL_law_ 665 = .ok (.iaload, 1) := by decide +kernel
theorem dL_law__666 : decode cL_law_ 666 = .ok (.aload_n 0, 1) := by decide +kernel
theorem dL_law__667 : decode cL_law_ 667 = .ok (.iload 4, 2) := by decide +kernel
theorem dL_law__669 : decode cL_law_ 669 = .ok (.iconst 2, 1) := by decide +kernel
theorem dL_law__670 : decode cL_law_ 670 = .ok (.iadd, 1) := by decide +kernel
theorem dL_law__671 : decode cL_law_ 671 = .ok (.iaload, 1) := by decide +kernel
theorem dL_law__672 : decode cL_law_ 672 = .ok (.aload_n 3, 1) := by decide +kernel
theorem dL_law__673 : decode cL_law_ 673 = .ok (.invokestatic 157, 3) := by decide +kernel
theorem dL_law__676 : decode cL_law_ 676 = .ok (.istore 5, 2) := by decide +kernel
theorem dL_law__678 : decode cL_law_ 678 = .ok (.aload_n 2, 1) := by decide +kernel
theorem dL_law__679 : decode cL_law_ 679 = .ok (.aload_n 0, 1) := by decide +kernel
theorem dL_law__680 : decode cL_law_ 680 = .ok (.iload 4, 2) := by decide +kernel
theorem dL_law__682 : decode cL_law_ 682 = .ok (.iconst 1, 1) := by decide +kernel
theorem dL_law__683 : decode cL_law_ 683 = .ok (.iadd, 1) := by decide +kernel
theorem dL_law__684 : decode cL_law_ 684 = .ok (.iaload, 1) := by decide +kernel
theorem dL_law__685 : decode cL_law_ 685 = .ok (.aload_n 0, 1) := by decide +kernel
theorem dL_law__686 : decode cL_law_ 686 = .ok (.iload 4, 2) := by decide +kernel
theorem dL_law__688 : decode cL_law_ 688 = .ok (.iconst 2, 1) := by decide +kernel
theorem dL_law__689 : decode cL_law_ 689 = .ok (.iadd, 1) := by decide +kernel
theorem dL_law__690 : decode cL_law_ 690 = .ok (.iaload, 1) := by decide +kernel
theorem dL_law__691 : decode cL_law_ 691 = .ok (.invokevirtual 159, 3) := by decide +kernel
theorem dL_law__694 : decode cL_law_ 694 = .ok (.istore 6, 2) := by decide +kernel
theorem dL_law__696 : decode cL_law_ 696 = .ok (.aload_n 2, 1) := by decide +kernel
theorem dL_law__697 : decode cL_law_ 697 = .ok (.invokevirtual 129, 3) := by decide +kernel
theorem dL_law__700 : decode cL_law_ 700 = .ok (.iload 5, 2) := by decide +kernel
theorem dL_law__702 : decode cL_law_ 702 = .ok (.if_icmp .eq 5, 3) := by decide +kernel
theorem dL_law__705 : decode cL_law_ 705 = .ok (.iconst 0, 1) := by decide +kernel
theorem dL_law__706 : decode cL_law_ 706 = .ok (.ireturn, 1) := by decide +kernel
theorem dL_law__707 : decode cL_law_ 707 = .ok (.iload 5, 2) := by decide +kernel
theorem dL_law__709 : decode cL_law_ 709 = .ok (.ifCond .ne 15, 3) := by decide +kernel
theorem dL_law__712 : decode cL_law_ 712 = .ok (.aload_n 3, 1) := by decide +kernel
theorem dL_law__713 : decode cL_law_ 713 = .ok (.iconst 0, 1) := by decide +kernel
theorem dL_law__714 : decode cL_law_ 714 = .ok (.laload, 1) := by decide +kernel
theorem dL_law__715 : decode cL_law_ 715 = .ok (.iload 6, 2) := by decide +kernel
theorem dL_law__717 : decode cL_law_ 717 = .ok (.i2l, 1) := by decide +kernel
theorem dL_law__718 : decode cL_law_ 718 = .ok (.lcmp, 1) := by decide +kernel
theorem dL_law__719 : decode cL_law_ 719 = .ok (.ifCond .eq 5, 3) := by decide +kernel
theorem dL_law__722 : decode cL_law_ 722 = .ok (.iconst 0, 1) := by decide +kernel
theorem dL_law__723 : decode cL_law_ 723 = .ok (.ireturn, 1) := by decide +kernel
theorem dL_law__724 : decode cL_law_ 724 = .ok (.goto 1810, 3) := by decide +kernel
theorem dL_law__727 : decode cL_law_ 727 = .ok (.aload_n 1, 1) := by decide +kernel
theorem dL_law__728 : decode cL_law_ 728 = .ok (.aload_n 0, 1) := by decide +kernel
theorem dL_law__729 : decode cL_law_ 729 = .ok (.iload 4, 2) := by decide +kernel
theorem dL_law__731 : decode cL_law_ 731 = .ok (.iconst 1, 1) := by decide +kernel
theorem dL_law__732 : decode cL_law_ 732 = .ok (.iadd, 1) := by decide +kernel
theorem dL_law__733 : decode cL_law_ 733 = .ok (.iaload, 1) := by decide +kernel
theorem dL_law__734 : decode cL_law_ 734 = .ok (.aload_n 0, 1) := by decide +kernel
theorem dL_law__735 : decode cL_law_ 735 = .ok (.iload 4, 2) := by decide +kernel
theorem dL_law__737 : decode cL_law_ 737 = .ok (.iconst 2, 1) := by decide +kernel
theorem dL_law__738 : decode cL_law_ 738 = .ok (.iadd, 1) := by decide +kernel
theorem dL_law__739 : decode cL_law_ 739 = .ok (.iaload, 1) := by decide +kernel
theorem dL_law__740 : decode cL_law_ 740 = .ok (.aload_n 3, 1) := by decide +kernel
theorem dL_law__741 : decode cL_law_ 741 = .ok (.invokestatic 160, 3) := by decide +kernel
theorem dL_law__744 : decode cL_law_ 744 = .ok (.istore 5, 2) := by decide +kernel
theorem dL_law__746 : decode cL_law_ 746 = .ok (.aload_n 2, 1) := by decide +kernel
theorem dL_law__747 : decode cL_law_ 747 = .ok (.aload_n 0, 1) := by decide +kernel
theorem dL_law__748 : decode cL_law_ 748 = .ok (.iload 4, 2) := by decide +kernel
theorem dL_law__750 : decode cL_law_ 750 = .ok (.iconst 1, 1) := by decide +kernel
theorem dL_law__751 : decode cL_law_ 751 = .ok (.iadd, 1) := by decide +kernel
theorem dL_law__752 : decode cL_law_ 752 = .ok (.iaload, 1) := by decide +kernel
theorem dL_law__753 : decode cL_law_ 753 = .ok (.aload_n 0, 1) := by decide +kernel
theorem dL_law__754 : decode cL_law_ 754 = .ok (.iload 4, 2) := by decide +kernel
theorem dL_law__756 : decode cL_law_ 756 = .ok (.iconst 2, 1) := by decide +kernel
theorem dL_law__757 : decode cL_law_ 757 = .ok (.iadd, 1) := by decide +kernel
theorem dL_law__758 : decode cL_law_ 758 = .ok (.iaload, 1) := by decide +kernel
theorem dL_law__759 : decode cL_law_ 759 = .ok (.invokevirtual 162, 3) := by decide +kernel
theorem dL_law__762 : decode cL_law_ 762 = .ok (.istore 6, 2) := by decide +kernel
theorem dL_law__764 : decode cL_law_ 764 = .ok (.aload_n 2, 1) := by decide +kernel
theorem dL_law__765 : decode cL_law_ 765 = .ok (.invokevirtual 129, 3) := by decide +kernel
theorem dL_law__768 : decode cL_law_ 768 = .ok (.iload 5, 2) := by decide +kernel
theorem dL_law__770 : decode cL_law_ 770 = .ok (.if_icmp .eq 5, 3) := by decide +kernel
theorem dL_law__773 : decode cL_law_ 773 = .ok (.iconst 0, 1) := by decide +kernel
theorem dL_law__774 : decode cL_law_ 774 = .ok (.ireturn, 1) := by decide +kernel
theorem dL_law__775 : decode cL_law_ 775 = .ok (.iload 5, 2) := by decide +kernel
theorem dL_law__777 : decode cL_law_ 777 = .ok (.ifCond .ne 22, 3) := by decide +kernel
theorem dL_law__780 : decode cL_law_ 780 = .ok (.aload_n 3, 1) := by decide +kernel
theorem dL_law__781 : decode cL_law_ 781 = .ok (.iconst 0, 1) := by decide +kernel
theorem dL_law__782 : decode cL_law_ 782 = .ok (.laload, 1) := by decide +kernel
theorem dL_law__783 : decode cL_law_ 783 = .ok (.iload 6, 2) := by decide +kernel
theorem dL_law__785 : decode cL_law_ 785 = .ok (.ifCond .eq 7, 3) := by decide +kernel
theorem dL_law__788 : decode cL_law_ 788 = .ok (.lconst 1, 1) := by decide +kernel
theorem dL_law__789 : decode cL_law_ 789 = .ok (.goto 4, 3) := by decide +kernel
theorem dL_law__792 : decode cL_law_ 792 = .ok (.lconst 0, 1) := by decide +kernel
theorem dL_law__793 : decode cL_law_ 793 = .ok (.lcmp, 1) := by decide +kernel
theorem dL_law__794 : decode cL_law_ 794 = .ok (.ifCond .eq 5, 3) := by decide +kernel
theorem dL_law__797 : decode cL_law_ 797 = .ok (.iconst 0, 1) := by decide +kernel
theorem dL_law__798 : decode cL_law_ 798 = .ok (.ireturn, 1) := by decide +kernel
theorem dL_law__799 : decode cL_law_ 799 = .ok (.goto 1735, 3) := by decide +kernel
theorem dL_law__802 : decode cL_law_ 802 = .ok (.aload_n 1, 1) := by decide +kernel
theorem dL_law__803 : decode cL_law_ 803 = .ok (.aload_n 0, 1) := by decide +kernel
theorem dL_law__804 : decode cL_law_ 804 = .ok (.iload 4, 2) := by decide +kernel
theorem dL_law__806 : decode cL_law_ 806 = .ok (.iconst 1, 1) := by decide +kernel
theorem dL_law__807 : decode cL_law_ 807 = .ok (.iadd, 1) := by decide +kernel
theorem dL_law__808 : decode cL_law_ 808 = .ok (.iaload, 1) := by decide +kernel
theorem dL_law__809 : decode cL_law_ 809 = .ok (.aload_n 0, 1) := by decide +kernel
theorem dL_law__810 : decode cL_law_ 810 = .ok (.iload 4, 2) := by decide +kernel
theorem dL_law__812 : decode cL_law_ 812 = .ok (.iconst 2, 1) := by decide +kernel
theorem dL_law__813 : decode cL_law_ 813 = .ok (.iadd, 1) := by decide +kernel
theorem dL_law__814 : decode cL_law_ 814 = .ok (.iaload, 1) := by decide +kernel
theorem dL_law__815 : decode cL_law_ 815 = .ok (.aload_n 0, 1) := by decide +kernel
theorem dL_law__816 : decode cL_law_ 816 = .ok (.iload 4, 2) := by decide +kernel
theorem dL_law__818 : decode cL_law_ 818 = .ok (.iconst 3, 1) := by decide +kernel
theorem dL_law__819 : decode cL_law_ 819 = .ok (.iadd, 1) := by decide +kernel
theorem dL_law__820 : decode cL_law_ 820 = .ok (.iaload, 1) := by decide +kernel
theorem dL_law__821 : decode cL_law_ 821 = .ok (.aload_n 0, 1) := by decide +kernel
theorem dL_law__822 : decode cL_law_ 822 = .ok (.iload 4, 2) := by decide +kernel
theorem dL_law__824 : decode cL_law_ 824 = .ok (.iconst 4, 1) := by decide +kernel
theorem dL_law__825 : decode cL_law_ 825 = .ok (.iadd, 1) := by decide +kernel
theorem dL_law__826 : decode cL_law_ 826 = .ok (.iaload, 1) := by decide +kernel
theorem dL_law__827 : decode cL_law_ 827 = .ok (.aload_n 0, 1) := by decide +kernel
theorem dL_law__828 : decode cL_law_ 828 = .ok (.iload 4, 2) := by decide +kernel
theorem dL_law__830 : decode cL_law_ 830 = .ok (.iconst 5, 1) := by decide +kernel
theorem dL_law__831 : decode cL_law_ 831 = .ok (.iadd, 1) := by decide +kernel
theorem dL_law__832 : decode cL_law_ 832 = .ok (.iaload, 1) := by decide +kernel
theorem dL_law__833 : decode cL_law_ 833 = .ok (.aload_n 0, 1) := by decide +kernel
theorem dL_law__834 : decode cL_law_ 834 = .ok (.iload 4, 2) := by decide +kernel
theorem dL_law__836 : decode cL_law_ 836 = .ok (.bipush 6, 2) := by decide +kernel
theorem dL_law__838 : decode cL_law_ 838 = .ok (.iadd, 1) := by decide +kernel
theorem dL_law__839 : decode cL_law_ 839 = .ok (.iaload, 1) := by decide +kernel
theorem dL_law__840 : decode cL_law_ 840 = .ok (.aload_n 0, 1) := by decide +kernel
theorem dL_law__841 : decode cL_law_ 841 = .ok (.iload 4, 2) := by decide +kernel
theorem dL_law__843 : decode cL_law_ 843 = .ok (.bipush 7, 2) := by decide +kernel
theorem dL_law__845 : decode cL_law_ 845 = .ok (.iadd, 1) := by decide +kernel
theorem dL_law__846 : decode cL_law_ 846 = .ok (.iaload, 1) := by decide +kernel
theorem dL_law__847 : decode cL_law_ 847 = .ok (.aload_n 0, 1) := by decide +kernel
theorem dL_law__848 : decode cL_law_ 848 = .ok (.iload 4, 2) := by decide +kernel
theorem dL_law__850 : decode cL_law_ 850 = .ok (.bipush 8, 2) := by decide +kernel
theorem dL_law__852 : decode cL_law_ 852 = .ok (.iadd, 1) := by decide +kernel
theorem dL_law__853 : decode cL_law_ 853 = .ok (.iaload, 1) := by decide +kernel
theorem dL_law__854 : decode cL_law_ 854 = .ok (.aload_n 3, 1) := by decide +kernel
theorem dL_law__855 : decode cL_law_ 855 = .ok (.invokestatic 163, 3) := by decide +kernel
theorem dL_law__858 : decode cL_law_ 858 = .ok (.istore 5, 2) := by decide +kernel
theorem dL_law__860 : decode cL_law_ 860 = .ok (.aload_n 2, 1) := by decide +kernel
theorem dL_law__861 : decode cL_law_ 861 = .ok (.aload_n 0, 1) := by decide +kernel
theorem dL_law__862 : decode cL_law_ 862 = .ok (.iload 4, 2) := by decide +kernel
theorem dL_law__864 : decode cL_law_ 864 = .ok (.iconst 1, 1) := by decide +kernel
theorem dL_law__865 : decode cL_law_ 865 = .ok (.iadd, 1) := by decide +kernel
theorem dL_law__866 : decode cL_law_ 866 = .ok (.iaload, 1) := by decide +kernel
theorem dL_law__867 : decode cL_law_ 867 = .ok (.aload_n 0, 1) := by decide +kernel
theorem dL_law__868 : decode cL_law_ 868 = .ok (.iload 4, 2) := by decide +kernel
theorem dL_law__870 : decode cL_law_ 870 = .ok (.iconst 2, 1) := by decide +kernel
theorem dL_law__871 : decode cL_law_ 871 = .ok (.iadd, 1) := by decide +kernel
theorem dL_law__872 : decode cL_law_ 872 = .ok (.iaload, 1) := by decide +kernel
theorem dL_law__873 : decode cL_law_ 873 = .ok (.aload_n 0, 1) := by decide +kernel
theorem dL_law__874 : decode cL_law_ 874 = .ok (.iload 4, 2) := by decide +kernel
theorem dL_law__876 : decode cL_law_ 876 = .ok (.iconst 3, 1) := by decide +kernel
theorem dL_law__877 : decode cL_law_ 877 = .ok (.iadd, 1) := by decide +kernel
theorem dL_law__878 : decode cL_law_ 878 = .ok (.iaload, 1) := by decide +kernel
theorem dL_law__879 : decode cL_law_ 879 = .ok (.aload_n 0, 1) := by decide +kernel
theorem dL_law__880 : decode cL_law_ 880 = .ok (.iload 4, 2) := by decide +kernel
theorem dL_law__882 : decode cL_law_ 882 = .ok (.iconst 4, 1) := by decide +kernel
theorem dL_law__883 : decode cL_law_ 883 = .ok (.iadd, 1) := by decide +kernel
theorem dL_law__884 : decode cL_law_ 884 = .ok (.iaload, 1) := by decide +kernel
theorem dL_law__885 : decode cL_law_ 885 = .ok (.aload_n 0, 1) := by decide +kernel
theorem dL_law__886 : decode cL_law_ 886 = .ok (.iload 4, 2) := by decide +kernel
theorem dL_law__888 : decode cL_law_ 888 = .ok (.iconst 5, 1) := by decide +kernel
theorem dL_law__889 : decode cL_law_ 889 = .ok (.iadd, 1) := by decide +kernel
theorem dL_law__890 : decode cL_law_ 890 = .ok (.iaload, 1) := by decide +kernel
theorem dL_law__891 : decode cL_law_ 891 = .ok (.aload_n 0, 1) := by decide +kernel
theorem dL_law__892 : decode cL_law_ 892 = .ok (.iload 4, 2) := by decide +kernel
theorem dL_law__894 : decode cL_law_ 894 = .ok (.bipush 6, 2) := by decide +kernel
theorem dL_law__896 : decode cL_law_ 896 = .ok (.iadd, 1) := by decide +kernel
theorem dL_law__897 : decode cL_law_ 897 = .ok (.iaload, 1) := by decide +kernel
theorem dL_law__898 : decode cL_law_ 898 = .ok (.aload_n 0, 1) := by decide +kernel
theorem dL_law__899 : decode cL_law_ 899 = .ok (.iload 4, 2) := by decide +kernel
theorem dL_law__901 : decode cL_law_ 901 = .ok (.bipush 7, 2) := by decide +kernel
theorem dL_law__903 : decode cL_law_ 903 = .ok (.iadd, 1) := by decide +kernel
theorem dL_law__904 : decode cL_law_ 904 = .ok (.iaload, 1) := by decide +kernel
theorem dL_law__905 : decode cL_law_ 905 = .ok (.aload_n 0, 1) := by decide +kernel
theorem dL_law__906 : decode cL_law_ 906 = .ok (.iload 4, 2) := by decide +kernel
theorem dL_law__908 : decode cL_law_ 908 = .ok (.bipush 8, 2) := by decide +kernel
theorem dL_law__910 : decode cL_law_ 910 = .ok (.iadd, 1) := by decide +kernel
theorem dL_law__911 : decode cL_law_ 911 = .ok (.iaload, 1) := by decide +kernel
theorem dL_law__912 : decode cL_law_ 912 = .ok (.invokevirtual 166, 3) := by decide +kernel
theorem dL_law__915 : decode cL_law_ 915 = .ok (.istore 6, 2) := by decide +kernel
theorem dL_law__917 : decode cL_law_ 917 = .ok (.aload_n 2, 1) := by decide +kernel
theorem dL_law__918 : decode cL_law_ 918 = .ok (.invokevirtual 129, 3) := by decide +kernel
theorem dL_law__921 : decode cL_law_ 921 = .ok (.iload 5, 2) := by decide +kernel
theorem dL_law__923 : decode cL_law_ 923 = .ok (.if_icmp .eq 5, 3) := by decide +kernel
theorem dL_law__926 : decode cL_law_ 926 = .ok (.iconst 0, 1) := by decide +kernel
theorem dL_law__927 : decode cL_law_ 927 = .ok (.ireturn, 1) := by decide +kernel
theorem dL_law__928 : decode cL_law_ 928 = .ok (.iload 5, 2) := by decide +kernel
theorem dL_law__930 : decode cL_law_ 930 = .ok (.ifCond .ne 15, 3) := by decide +kernel
theorem dL_law__933 : decode cL_law_ 933 = .ok (.aload_n 3, 1) := by decide +kernel
theorem dL_law__934 : decode cL_law_ 934 = .ok (.iconst 0, 1) := by decide +kernel
theorem dL_law__935 : decode cL_law_ 935 = .ok (.laload, 1) := by decide +kernel
theorem dL_law__936 : decode cL_law_ 936 = .ok (.iload 6, 2) := by decide +kernel
theorem dL_law__938 : decode cL_law_ 938 = .ok (.i2l, 1) := by decide +kernel
theorem dL_law__939 : decode cL_law_ 939 = .ok (.lcmp, 1) := by decide +kernel
theorem dL_law__940 : decode cL_law_ 940 = .ok (.ifCond .eq 5, 3) := by decide +kernel
theorem dL_law__943 : decode cL_law_ 943 = .ok (.iconst 0, 1) := by decide +kernel
theorem dL_law__944 : decode cL_law_ 944 = .ok (.ireturn, 1) := by decide +kernel
theorem dL_law__945 : decode cL_law_ 945 = .ok (.goto 1589, 3) := by decide +kernel
theorem dL_law__948 : decode cL_law_ 948 = .ok (.aload_n 1, 1) := by decide +kernel
theorem dL_law__949 : decode cL_law_ 949 = .ok (.aload_n 0, 1) := by decide +kernel
theorem dL_law__950 : decode cL_law_ 950 = .ok (.iload 4, 2) := by decide +kernel
theorem dL_law__952 : decode cL_law_ 952 = .ok (.iconst 1, 1) := by decide +kernel
theorem dL_law__953 : decode cL_law_ 953 = .ok (.iadd, 1) := by decide +kernel
theorem dL_law__954 : decode cL_law_ 954 = .ok (.iaload, 1) := by decide +kernel
theorem dL_law__955 : decode cL_law_ 955 = .ok (.aload_n 3, 1) := by decide +kernel
theorem dL_law__956 : decode cL_law_ 956 = .ok (.invokestatic 167, 3) := by decide +kernel
theorem dL_law__959 : decode cL_law_ 959 = .ok (.istore 5, 2) := by decide +kernel
theorem dL_law__961 : decode cL_law_ 961 = .ok (.aload_n 2, 1) := by decide +kernel
theorem dL_law__962 : decode cL_law_ 962 = .ok (.aload_n 0, 1) := by decide +kernel
theorem dL_law__963 : decode cL_law_ 963 = .ok (.iload 4, 2) := by decide +kernel
theorem dL_law__965 : decode cL_law_ 965 = .ok (.iconst 1, 1) := by decide +kernel
theorem dL_law__966 : decode cL_law_ 966 = .ok (.iadd, 1) := by decide +kernel
theorem dL_law__967 : decode cL_law_ 967 = .ok (.iaload, 1) := by decide +kernel
theorem dL_law__968 : decode cL_law_ 968 = .ok (.invokevirtual 169, 3) := by decide +kernel
theorem dL_law__971 : decode cL_law_ 971 = .ok (.istore 6, 2) := by decide +kernel
theorem dL_law__973 : decode cL_law_ 973 = .ok (.aload_n 2, 1) := by decide +kernel
theorem dL_law__974 : decode cL_law_ 974 = .ok (.invokevirtual 129, 3) := by decide +kernel
theorem dL_law__977 : decode cL_law_ 977 = .ok (.iload 5, 2) := by decide +kernel
theorem dL_law__979 : decode cL_law_ 979 = .ok (.if_icmp .eq 5, 3) := by decide +kernel
theorem dL_law__982 : decode cL_law_ 982 = .ok (.iconst 0, 1) := by decide +kernel
theorem dL_law__983 : decode cL_law_ 983 = .ok (.ireturn, 1) := by decide +kernel
theorem dL_law__984 : decode cL_law_ 984 = .ok (.iload 5, 2) := by decide +kernel
theorem dL_law__986 : decode cL_law_ 986 = .ok (.ifCond .ne 15, 3) := by decide +kernel
theorem dL_law__989 : decode cL_law_ 989 = .ok (.aload_n 3, 1) := by decide +kernel
theorem dL_law__990 : decode cL_law_ 990 = .ok (.iconst 0, 1) := by decide +kernel
theorem dL_law__991 : decode cL_law_ 991 = .ok (.laload, 1) := by decide +kernel
theorem dL_law__992 : decode cL_law_ 992 = .ok (.iload 6, 2) := by decide +kernel
theorem dL_law__994 : decode cL_law_ 994 = .ok (.i2l, 1) := by decide +kernel
theorem dL_law__995 : decode cL_law_ 995 = .ok (.lcmp, 1) := by decide +kernel
theorem dL_law__996 : decode cL_law_ 996 = .ok (.ifCond .eq 5, 3) := by decide +kernel
theorem dL_law__999 : decode cL_law_ 999 = .ok (.iconst 0, 1) := by decide +kernel
theorem dL_law__1000 : decode cL_law_ 1000 = .ok (.ireturn, 1) := by decide +kernel
theorem dL_law__1001 : decode cL_law_ 1001 = .ok (.goto 1533, 3) := by decide +kernel
theorem dL_law__1004 : decode cL_law_ 1004 = .ok (.aload_n 1, 1) := by decide +kernel
theorem dL_law__1005 : decode cL_law_ 1005 = .ok (.aload_n 0, 1) := by decide +kernel
theorem dL_law__1006 : decode cL_law_ 1006 = .ok (.iload 4, 2) := by decide +kernel
theorem dL_law__1008 : decode cL_law_ 1008 = .ok (.iconst 1, 1) := by decide +kernel
theorem dL_law__1009 : decode cL_law_ 1009 = .ok (.iadd, 1) := by decide +kernel
theorem dL_law__1010 : decode cL_law_ 1010 = .ok (.iaload, 1) := by decide +kernel
theorem dL_law__1011 : decode cL_law_ 1011 = .ok (.aload_n 0, 1) := by decide +kernel
theorem dL_law__1012 : decode cL_law_ 1012 = .ok (.iload 4, 2) := by decide +kernel
theorem dL_law__1014 : decode cL_law_ 1014 = .ok (.iconst 2, 1) := by decide +kernel
theorem dL_law__1015 : decode cL_law_ 1015 = .ok (.iadd, 1) := by decide +kernel
theorem dL_law__1016 : decode cL_law_ 1016 = .ok (.iaload, 1) := by decide +kernel
theorem dL_law__1017 : decode cL_law_ 1017 = .ok (.aload_n 3, 1) := by decide +kernel
theorem dL_law__1018 : decode cL_law_ 1018 = .ok (.invokestatic 170, 3) := by decide +kernel
theorem dL_law__1021 : decode cL_law_ 1021 = .ok (.istore 5, 2) := by decide +kernel
theorem dL_law__1023 : decode cL_law_ 1023 = .ok (.aload_n 2, 1) := by decide +kernel
theorem dL_law__1024 : decode cL_law_ 1024 = .ok (.aload_n 0, 1) := by decide +kernel
theorem dL_law__1025 : decode cL_law_ 1025 = .ok (.iload 4, 2) := by decide +kernel
theorem dL_law__1027 : decode cL_law_ 1027 = .ok (.iconst 1, 1) := by decide +kernel
theorem dL_law__1028 : decode cL_law_ 1028 = .ok (.iadd, 1) := by decide +kernel
theorem dL_law__1029 : decode cL_law_ 1029 = .ok (.iaload, 1) := by decide +kernel
theorem dL_law__1030 : decode cL_law_ 1030 = .ok (.aload_n 0, 1) := by decide +kernel
theorem dL_law__1031 : decode cL_law_ 1031 = .ok (.iload 4, 2) := by decide +kernel
theorem dL_law__1033 : decode cL_law_ 1033 = .ok (.iconst 2, 1) := by decide +kernel
theorem dL_law__1034 : decode cL_law_ 1034 = .ok (.iadd, 1) := by decide +kernel
theorem dL_law__1035 : decode cL_law_ 1035 = .ok (.iaload, 1) := by decide +kernel
theorem dL_law__1036 : decode cL_law_ 1036 = .ok (.invokevirtual 172, 3) := by decide +kernel
theorem dL_law__1039 : decode cL_law_ 1039 = .ok (.istore 6, 2) := by decide +kernel
theorem dL_law__1041 : decode cL_law_ 1041 = .ok (.aload_n 2, 1) := by decide +kernel
theorem dL_law__1042 : decode cL_law_ 1042 = .ok (.invokevirtual 129, 3) := by decide +kernel
theorem dL_law__1045 : decode cL_law_ 1045 = .ok (.iload 5, 2) := by decide +kernel
theorem dL_law__1047 : decode cL_law_ 1047 = .ok (.if_icmp .eq 5, 3) := by decide +kernel
theorem dL_law__1050 : decode cL_law_ 1050 = .ok (.iconst 0, 1) := by decide +kernel
theorem dL_law__1051 : decode cL_law_ 1051 = .ok (.ireturn, 1) := by decide +kernel
theorem dL_law__1052 : decode cL_law_ 1052 = .ok (.iload 5, 2) := by decide +kernel
theorem dL_law__1054 : decode cL_law_ 1054 = .ok (.ifCond .ne 15, 3) := by decide +kernel
theorem dL_law__1057 : decode cL_law_ 1057 = .ok (.aload_n 3, 1) := by decide +kernel
theorem dL_law__1058 : decode cL_law_ 1058 = .ok (.iconst 0, 1) := by decide +kernel
theorem dL_law__1059 : decode cL_law_ 1059 = .ok (.laload, 1) := by decide +kernel
theorem dL_law__1060 : decode cL_law_ 1060 = .ok (.iload 6, 2) := by decide +kernel
theorem dL_law__1062 : decode cL_law_ 1062 = .ok (.i2l, 1) := by decide +kernel
theorem dL_law__1063 : decode cL_law_ 1063 = .ok (.lcmp, 1) := by decide +kernel
theorem dL_law__1064 : decode cL_law_ 1064 = .ok (.ifCond .eq 5, 3) := by decide +kernel
theorem dL_law__1067 : decode cL_law_ 1067 = .ok (.iconst 0, 1) := by decide +kernel
theorem dL_law__1068 : decode cL_law_ 1068 = .ok (.ireturn, 1) := by decide +kernel
theorem dL_law__1069 : decode cL_law_ 1069 = .ok (.goto 1465, 3) := by decide +kernel
theorem dL_law__1072 : decode cL_law_ 1072 = .ok (.aload_n 1, 1) := by decide +kernel
theorem dL_law__1073 : decode cL_law_ 1073 = .ok (.aload_n 0, 1) := by decide +kernel
theorem dL_law__1074 : decode cL_law_ 1074 = .ok (.iload 4, 2) := by decide +kernel
theorem dL_law__1076 : decode cL_law_ 1076 = .ok (.iconst 1, 1) := by decide +kernel
theorem dL_law__1077 : decode cL_law_ 1077 = .ok (.iadd, 1) := by decide +kernel
theorem dL_law__1078 : decode cL_law_ 1078 = .ok (.iaload, 1) := by decide +kernel
theorem dL_law__1079 : decode cL_law_ 1079 = .ok (.aload_n 3, 1) := by decide +kernel
theorem dL_law__1080 : decode cL_law_ 1080 = .ok (.invokestatic 173, 3) := by decide +kernel
theorem dL_law__1083 : decode cL_law_ 1083 = .ok (.istore 5, 2) := by decide +kernel
theorem dL_law__1085 : decode cL_law_ 1085 = .ok (.aload_n 2, 1) := by decide +kernel
theorem dL_law__1086 : decode cL_law_ 1086 = .ok (.aload_n 0, 1) := by decide +kernel
theorem dL_law__1087 : decode cL_law_ 1087 = .ok (.iload 4, 2) := by decide +kernel
theorem dL_law__1089 : decode cL_law_ 1089 = .ok (.iconst 1, 1) := by decide +kernel
theorem dL_law__1090 : decode cL_law_ 1090 = .ok (.iadd, 1) := by decide +kernel
theorem dL_law__1091 : decode cL_law_ 1091 = .ok (.iaload, 1) := by decide +kernel
theorem dL_law__1092 : decode cL_law_ 1092 = .ok (.invokevirtual 175, 3) := by decide +kernel
theorem dL_law__1095 : decode cL_law_ 1095 = .ok (.istore 6, 2) := by decide +kernel
theorem dL_law__1097 : decode cL_law_ 1097 = .ok (.aload_n 2, 1) := by decide +kernel
theorem dL_law__1098 : decode cL_law_ 1098 = .ok (.invokevirtual 129, 3) := by decide +kernel
theorem dL_law__1101 : decode cL_law_ 1101 = .ok (.iload 5, 2) := by decide +kernel
theorem dL_law__1103 : decode cL_law_ 1103 = .ok (.if_icmp .eq 5, 3) := by decide +kernel
theorem dL_law__1106 : decode cL_law_ 1106 = .ok (.iconst 0, 1) := by decide +kernel
theorem dL_law__1107 : decode cL_law_ 1107 = .ok (.ireturn, 1) := by decide +kernel
theorem dL_law__1108 : decode cL_law_ 1108 = .ok (.iload 5, 2) := by decide +kernel
theorem dL_law__1110 : decode cL_law_ 1110 = .ok (.ifCond .ne 15, 3) := by decide +kernel
theorem dL_law__1113 : decode cL_law_ 1113 = .ok (.aload_n 3, 1) := by decide +kernel
theorem dL_law__1114 : decode cL_law_ 1114 = .ok (.iconst 0, 1) := by decide +kernel
theorem dL_law__1115 : decode cL_law_ 1115 = .ok (.laload, 1) := by decide +kernel
theorem dL_law__1116 : decode cL_law_ 1116 = .ok (.iload 6, 2) := by decide +kernel
theorem dL_law__1118 : decode cL_law_ 1118 = .ok (.i2l, 1) := by decide +kernel
theorem dL_law__1119 : decode cL_law_ 1119 = .ok (.lcmp, 1) := by decide +kernel
theorem dL_law__1120 : decode cL_law_ 1120 = .ok (.ifCond .eq 5, 3) := by decide +kernel
theorem dL_law__1123 : decode cL_law_ 1123 = .ok (.iconst 0, 1) := by decide +kernel
theorem dL_law__1124 : decode cL_law_ 1124 = .ok (.ireturn, 1) := by decide +kernel
theorem dL_law__1125 : decode cL_law_ 1125 = .ok (.goto 1409, 3) := by decide +kernel
theorem dL_law__1128 : decode cL_law_ 1128 = .ok (.aload_n 1, 1) := by decide +kernel
theorem dL_law__1129 : decode cL_law_ 1129 = .ok (.aload_n 0, 1) := by decide +kernel
theorem dL_law__1130 : decode cL_law_ 1130 = .ok (.iload 4, 2) := by decide +kernel
theorem dL_law__1132 : decode cL_law_ 1132 = .ok (.iconst 1, 1) := by decide +kernel
theorem dL_law__1133 : decode cL_law_ 1133 = .ok (.iadd, 1) := by decide +kernel
theorem dL_law__1134 : decode cL_law_ 1134 = .ok (.iaload, 1) := by decide +kernel
theorem dL_law__1135 : decode cL_law_ 1135 = .ok (.aload_n 3, 1) := by decide +kernel
theorem dL_law__1136 : decode cL_law_ 1136 = .ok (.invokestatic 176, 3) := by decide +kernel
theorem dL_law__1139 : decode cL_law_ 1139 = .ok (.istore 5, 2) := by decide +kernel
theorem dL_law__1141 : decode cL_law_ 1141 = .ok (.aload_n 2, 1) := by decide +kernel
theorem dL_law__1142 : decode cL_law_ 1142 = .ok (.aload_n 0, 1) := by decide +kernel
theorem dL_law__1143 : decode cL_law_ 1143 = .ok (.iload 4, 2) := by decide +kernel
theorem dL_law__1145 : decode cL_law_ 1145 = .ok (.iconst 1, 1) := by decide +kernel
theorem dL_law__1146 : decode cL_law_ 1146 = .ok (.iadd, 1) := by decide +kernel
theorem dL_law__1147 : decode cL_law_ 1147 = .ok (.iaload, 1) := by decide +kernel
theorem dL_law__1148 : decode cL_law_ 1148 = .ok (.invokevirtual 178, 3) := by decide +kernel
theorem dL_law__1151 : decode cL_law_ 1151 = .ok (.istore 6, 2) := by decide +kernel
theorem dL_law__1153 : decode cL_law_ 1153 = .ok (.aload_n 2, 1) := by decide +kernel
theorem dL_law__1154 : decode cL_law_ 1154 = .ok (.invokevirtual 129, 3) := by decide +kernel
theorem dL_law__1157 : decode cL_law_ 1157 = .ok (.iload 5, 2) := by decide +kernel
theorem dL_law__1159 : decode cL_law_ 1159 = .ok (.if_icmp .eq 5, 3) := by decide +kernel
theorem dL_law__1162 : decode cL_law_ 1162 = .ok (.iconst 0, 1) := by decide +kernel
theorem dL_law__1163 : decode cL_law_ 1163 = .ok (.ireturn, 1) := by decide +kernel
theorem dL_law__1164 : decode cL_law_ 1164 = .ok (.iload 5, 2) := by decide +kernel
theorem dL_law__1166 : decode cL_law_ 1166 = .ok (.ifCond .ne 15, 3) := by decide +kernel
theorem dL_law__1169 : decode cL_law_ 1169 = .ok (.aload_n 3, 1) := by decide +kernel
theorem dL_law__1170 : decode cL_law_ 1170 = .ok (.iconst 0, 1) := by decide +kernel
theorem dL_law__1171 : decode cL_law_ 1171 = .ok (.laload, 1) := by decide +kernel
theorem dL_law__1172 : decode cL_law_ 1172 = .ok (.iload 6, 2) := by decide +kernel
theorem dL_law__1174 : decode cL_law_ 1174 = .ok (.i2l, 1) := by decide +kernel
theorem dL_law__1175 : decode cL_law_ 1175 = .ok (.lcmp, 1) := by decide +kernel
theorem dL_law__1176 : decode cL_law_ 1176 = .ok (.ifCond .eq 5, 3) := by decide +kernel
theorem dL_law__1179 : decode cL_law_ 1179 = .ok (.iconst 0, 1) := by decide +kernel
theorem dL_law__1180 : decode cL_law_ 1180 = .ok (.ireturn, 1) := by decide +kernel
theorem dL_law__1181 : decode cL_law_ 1181 = .ok (.goto 1353, 3) := by decide +kernel
theorem dL_law__1184 : decode cL_law_ 1184 = .ok (.aload_n 1, 1) := by decide +kernel
theorem dL_law__1185 : decode cL_law_ 1185 = .ok (.aload_n 0, 1) := by decide +kernel
theorem dL_law__1186 : decode cL_law_ 1186 = .ok (.iload 4, 2) := by decide +kernel
theorem dL_law__1188 : decode cL_law_ 1188 = .ok (.iconst 1, 1) := by decide +kernel
theorem dL_law__1189 : decode cL_law_ 1189 = .ok (.iadd, 1) := by decide +kernel
theorem dL_law__1190 : decode cL_law_ 1190 = .ok (.iaload, 1) := by decide +kernel
theorem dL_law__1191 : decode cL_law_ 1191 = .ok (.aload_n 0, 1) := by decide +kernel
theorem dL_law__1192 : decode cL_law_ 1192 = .ok (.iload 4, 2) := by decide +kernel
theorem dL_law__1194 : decode cL_law_ 1194 = .ok (.iconst 2, 1) := by decide +kernel
theorem dL_law__1195 : decode cL_law_ 1195 = .ok (.iadd, 1) := by decide +kernel
theorem dL_law__1196 : decode cL_law_ 1196 = .ok (.iaload, 1) := by decide +kernel
theorem dL_law__1197 : decode cL_law_ 1197 = .ok (.aload_n 3, 1) := by decide +kernel
theorem dL_law__1198 : decode cL_law_ 1198 = .ok (.invokestatic 179, 3) := by decide +kernel
theorem dL_law__1201 : decode cL_law_ 1201 = .ok (.istore 5, 2) := by decide +kernel
theorem dL_law__1203 : decode cL_law_ 1203 = .ok (.aload_n 2, 1) := by decide +kernel
theorem dL_law__1204 : decode cL_law_ 1204 = .ok (.aload_n 0, 1) := by decide +kernel
theorem dL_law__1205 : decode cL_law_ 1205 = .ok (.iload 4, 2) := by decide +kernel
theorem dL_law__1207 : decode cL_law_ 1207 = .ok (.iconst 1, 1) := by decide +kernel
theorem dL_law__1208 : decode cL_law_ 1208 = .ok (.iadd, 1) := by decide +kernel
theorem dL_law__1209 : decode cL_law_ 1209 = .ok (.iaload, 1) := by decide +kernel
theorem dL_law__1210 : decode cL_law_ 1210 = .ok (.aload_n 0, 1) := by decide +kernel
theorem dL_law__1211 : decode cL_law_ 1211 = .ok (.iload 4, 2) := by decide +kernel
theorem dL_law__1213 : decode cL_law_ 1213 = .ok (.iconst 2, 1) := by decide +kernel
theorem dL_law__1214 : decode cL_law_ 1214 = .ok (.iadd, 1) := by decide +kernel
theorem dL_law__1215 : decode cL_law_ 1215 = .ok (.iaload, 1) := by decide +kernel
theorem dL_law__1216 : decode cL_law_ 1216 = .ok (.invokevirtual 181, 3) := by decide +kernel
theorem dL_law__1219 : decode cL_law_ 1219 = .ok (.istore 6, 2) := by decide +kernel
theorem dL_law__1221 : decode cL_law_ 1221 = .ok (.aload_n 2, 1) := by decide +kernel
theorem dL_law__1222 : decode cL_law_ 1222 = .ok (.invokevirtual 129, 3) := by decide +kernel
theorem dL_law__1225 : decode cL_law_ 1225 = .ok (.iload 5, 2) := by decide +kernel
theorem dL_law__1227 : decode cL_law_ 1227 = .ok (.if_icmp .eq 5, 3) := by decide +kernel
theorem dL_law__1230 : decode cL_law_ 1230 = .ok (.iconst 0, 1) := by decide +kernel
theorem dL_law__1231 : decode cL_law_ 1231 = .ok (.ireturn, 1) := by decide +kernel
theorem dL_law__1232 : decode cL_law_ 1232 = .ok (.iload 5, 2) := by decide +kernel
theorem dL_law__1234 : decode cL_law_ 1234 = .ok (.ifCond .ne 15, 3) := by decide +kernel
theorem dL_law__1237 : decode cL_law_ 1237 = .ok (.aload_n 3, 1) := by decide +kernel
theorem dL_law__1238 : decode cL_law_ 1238 = .ok (.iconst 0, 1) := by decide +kernel
theorem dL_law__1239 : decode cL_law_ 1239 = .ok (.laload, 1) := by decide +kernel
theorem dL_law__1240 : decode cL_law_ 1240 = .ok (.iload 6, 2) := by decide +kernel
theorem dL_law__1242 : decode cL_law_ 1242 = .ok (.i2l, 1) := by decide +kernel
theorem dL_law__1243 : decode cL_law_ 1243 = .ok (.lcmp, 1) := by decide +kernel
theorem dL_law__1244 : decode cL_law_ 1244 = .ok (.ifCond .eq 5, 3) := by decide +kernel
theorem dL_law__1247 : decode cL_law_ 1247 = .ok (.iconst 0, 1) := by decide +kernel
theorem dL_law__1248 : decode cL_law_ 1248 = .ok (.ireturn, 1) := by decide +kernel
theorem dL_law__1249 : decode cL_law_ 1249 = .ok (.goto 1285, 3) := by decide +kernel
theorem dL_law__1252 : decode cL_law_ 1252 = .ok (.aload_n 1, 1) := by decide +kernel
theorem dL_law__1253 : decode cL_law_ 1253 = .ok (.aload_n 0, 1) := by decide +kernel
theorem dL_law__1254 : decode cL_law_ 1254 = .ok (.iload 4, 2) := by decide +kernel
theorem dL_law__1256 : decode cL_law_ 1256 = .ok (.iconst 1, 1) := by decide +kernel
theorem dL_law__1257 : decode cL_law_ 1257 = .ok (.iadd, 1) := by decide +kernel
theorem dL_law__1258 : decode cL_law_ 1258 = .ok (.iaload, 1) := by decide +kernel
theorem dL_law__1259 : decode cL_law_ 1259 = .ok (.aload_n 0, 1) := by decide +kernel
theorem dL_law__1260 : decode cL_law_ 1260 = .ok (.iload 4, 2) := by decide +kernel
theorem dL_law__1262 : decode cL_law_ 1262 = .ok (.iconst 2, 1) := by decide +kernel
theorem dL_law__1263 : decode cL_law_ 1263 = .ok (.iadd, 1) := by decide +kernel
theorem dL_law__1264 : decode cL_law_ 1264 = .ok (.iaload, 1) := by decide +kernel
theorem dL_law__1265 : decode cL_law_ 1265 = .ok (.aload_n 3, 1) := by decide +kernel
theorem dL_law__1266 : decode cL_law_ 1266 = .ok (.invokestatic 182, 3) := by decide +kernel
theorem dL_law__1269 : decode cL_law_ 1269 = .ok (.istore 5, 2) := by decide +kernel
theorem dL_law__1271 : decode cL_law_ 1271 = .ok (.aload_n 2, 1) := by decide +kernel
theorem dL_law__1272 : decode cL_law_ 1272 = .ok (.aload_n 0, 1) := by decide +kernel
theorem dL_law__1273 : decode cL_law_ 1273 = .ok (.iload 4, 2) := by decide +kernel
theorem dL_law__1275 : decode cL_law_ 1275 = .ok (.iconst 1, 1) := by decide +kernel
theorem dL_law__1276 : decode cL_law_ 1276 = .ok (.iadd, 1) := by decide +kernel
theorem dL_law__1277 : decode cL_law_ 1277 = .ok (.iaload, 1) := by decide +kernel
theorem dL_law__1278 : decode cL_law_ 1278 = .ok (.aload_n 0, 1) := by decide +kernel
theorem dL_law__1279 : decode cL_law_ 1279 = .ok (.iload 4, 2) := by decide +kernel
theorem dL_law__1281 : decode cL_law_ 1281 = .ok (.iconst 2, 1) := by decide +kernel
theorem dL_law__1282 : decode cL_law_ 1282 = .ok (.iadd, 1) := by decide +kernel
theorem dL_law__1283 : decode cL_law_ 1283 = .ok (.iaload, 1) := by decide +kernel
theorem dL_law__1284 : decode cL_law_ 1284 = .ok (.invokevirtual 184, 3) := by decide +kernel
theorem dL_law__1287 : decode cL_law_ 1287 = .ok (.istore 6, 2) := by decide +kernel
theorem dL_law__1289 : decode cL_law_ 1289 = .ok (.aload_n 2, 1) := by decide +kernel
theorem dL_law__1290 : decode cL_law_ 1290 = .ok (.invokevirtual 129, 3) := by decide +kernel
theorem dL_law__1293 : decode cL_law_ 1293 = .ok (.iload 5, 2) := by decide +kernel
theorem dL_law__1295 : decode cL_law_ 1295 = .ok (.if_icmp .eq 5, 3) := by decide +kernel
theorem dL_law__1298 : decode cL_law_ 1298 = .ok (.iconst 0, 1) := by decide +kernel
theorem dL_law__1299 : decode cL_law_ 1299 = .ok (.ireturn, 1) := by decide +kernel
theorem dL_law__1300 : decode cL_law_ 1300 = .ok (.iload 5, 2) := by decide +kernel
theorem dL_law__1302 : decode cL_law_ 1302 = .ok (.ifCond .ne 15, 3) := by decide +kernel
theorem dL_law__1305 : decode cL_law_ 1305 = .ok (.aload_n 3, 1) := by decide +kernel
theorem dL_law__1306 : decode cL_law_ 1306 = .ok (.iconst 0, 1) := by decide +kernel
theorem dL_law__1307 : decode cL_law_ 1307 = .ok (.laload, 1) := by decide +kernel
theorem dL_law__1308 : decode cL_law_ 1308 = .ok (.iload 6, 2) := by decide +kernel
theorem dL_law__1310 : decode cL_law_ 1310 = .ok (.i2l, 1) := by decide +kernel
theorem dL_law__1311 : decode cL_law_ 1311 = .ok (.lcmp, 1) := by decide +kernel
theorem dL_law__1312 : decode cL_law_ 1312 = .ok (.ifCond .eq 5, 3) := by decide +kernel
theorem dL_law__1315 : decode cL_law_ 1315 = .ok (.iconst 0, 1) := by decide +kernel
theorem dL_law__1316 : decode cL_law_ 1316 = .ok (.ireturn, 1) := by decide +kernel
theorem dL_law__1317 : decode cL_law_ 1317 = .ok (.goto 1217, 3) := by decide +kernel
theorem dL_law__1320 : decode cL_law_ 1320 = .ok (.aload_n 1, 1) := by decide +kernel
theorem dL_law__1321 : decode cL_law_ 1321 = .ok (.aload_n 0, 1) := by decide +kernel
theorem dL_law__1322 : decode cL_law_ 1322 = .ok (.iload 4, 2) := by decide +kernel
theorem dL_law__1324 : decode cL_law_ 1324 = .ok (.iconst 1, 1) := by decide +kernel
theorem dL_law__1325 : decode cL_law_ 1325 = .ok (.iadd, 1) := by decide +kernel
theorem dL_law__1326 : decode cL_law_ 1326 = .ok (.iaload, 1) := by decide +kernel
theorem dL_law__1327 : decode cL_law_ 1327 = .ok (.aload_n 0, 1) := by decide +kernel
theorem dL_law__1328 : decode cL_law_ 1328 = .ok (.iload 4, 2) := by decide +kernel
theorem dL_law__1330 : decode cL_law_ 1330 = .ok (.iconst 2, 1) := by decide +kernel
theorem dL_law__1331 : decode cL_law_ 1331 = .ok (.iadd, 1) := by decide +kernel
theorem dL_law__1332 : decode cL_law_ 1332 = .ok (.iaload, 1) := by decide +kernel
theorem dL_law__1333 : decode cL_law_ 1333 = .ok (.aload_n 3, 1) := by decide +kernel
theorem dL_law__1334 : decode cL_law_ 1334 = .ok (.invokestatic 185, 3) := by decide +kernel
theorem dL_law__1337 : decode cL_law_ 1337 = .ok (.istore 5, 2) := by decide +kernel
theorem dL_law__1339 : decode cL_law_ 1339 = .ok (.aload_n 2, 1) := by decide +kernel
theorem dL_law__1340 : decode cL_law_ 1340 = .ok (.aload_n 0, 1) := by decide +kernel
theorem dL_law__1341 : decode cL_law_ 1341 = .ok (.iload 4, 2) := by decide +kernel
theorem dL_law__1343 : decode cL_law_ 1343 = .ok (.iconst 1, 1) := by decide +kernel
theorem dL_law__1344 : decode cL_law_ 1344 = .ok (.iadd, 1) := by decide +kernel
theorem dL_law__1345 : decode cL_law_ 1345 = .ok (.iaload, 1) := by decide +kernel
theorem dL_law__1346 : decode cL_law_ 1346 = .ok (.aload_n 0, 1) := by decide +kernel
theorem dL_law__1347 : decode cL_law_ 1347 = .ok (.iload 4, 2) := by decide +kernel
theorem dL_law__1349 : decode cL_law_ 1349 = .ok (.iconst 2, 1) := by decide +kernel
theorem dL_law__1350 : decode cL_law_ 1350 = .ok (.iadd, 1) := by decide +kernel
theorem dL_law__1351 : decode cL_law_ 1351 = .ok (.iaload, 1) := by decide +kernel
theorem dL_law__1352 : decode cL_law_ 1352 = .ok (.invokevirtual 187, 3) := by decide +kernel
theorem dL_law__1355 : decode cL_law_ 1355 = .ok (.istore 6, 2) := by decide +kernel
theorem dL_law__1357 : decode cL_law_ 1357 = .ok (.aload_n 2, 1) := by decide +kernel
theorem dL_law__1358 : decode cL_law_ 1358 = .ok (.invokevirtual 129, 3) := by decide +kernel
theorem dL_law__1361 : decode cL_law_ 1361 = .ok (.iload 5, 2) := by decide +kernel
theorem dL_law__1363 : decode cL_law_ 1363 = .ok (.if_icmp .eq 5, 3) := by decide +kernel
theorem dL_law__1366 : decode cL_law_ 1366 = .ok (.iconst 0, 1) := by decide +kernel
theorem dL_law__1367 : decode cL_law_ 1367 = .ok (.ireturn, 1) := by decide +kernel
theorem dL_law__1368 : decode cL_law_ 1368 = .ok (.iload 5, 2) := by decide +kernel
theorem dL_law__1370 : decode cL_law_ 1370 = .ok (.ifCond .ne 15, 3) := by decide +kernel
theorem dL_law__1373 : decode cL_law_ 1373 = .ok (.aload_n 3, 1) := by decide +kernel
theorem dL_law__1374 : decode cL_law_ 1374 = .ok (.iconst 0, 1) := by decide +kernel
theorem dL_law__1375 : decode cL_law_ 1375 = .ok (.laload, 1) := by decide +kernel
theorem dL_law__1376 : decode cL_law_ 1376 = .ok (.iload 6, 2) := by decide +kernel
theorem dL_law__1378 : decode cL_law_ 1378 = .ok (.i2l, 1) := by decide +kernel
theorem dL_law__1379 : decode cL_law_ 1379 = .ok (.lcmp, 1) := by decide +kernel
theorem dL_law__1380 : decode cL_law_ 1380 = .ok (.ifCond .eq 5, 3) := by decide +kernel
theorem dL_law__1383 : decode cL_law_ 1383 = .ok (.iconst 0, 1) := by decide +kernel
theorem dL_law__1384 : decode cL_law_ 1384 = .ok (.ireturn, 1) := by decide +kernel
theorem dL_law__1385 : decode cL_law_ 1385 = .ok (.goto 1149, 3) := by decide +kernel
theorem dL_law__1388 : decode cL_law_ 1388 = .ok (.aload_n 1, 1) := by decide +kernel
theorem dL_law__1389 : decode cL_law_ 1389 = .ok (.aload_n 0, 1) := by decide +kernel
theorem dL_law__1390 : decode cL_law_ 1390 = .ok (.iload 4, 2) := by decide +kernel
theorem dL_law__1392 : decode cL_law_ 1392 = .ok (.iconst 1, 1) := by decide +kernel
theorem dL_law__1393 : decode cL_law_ 1393 = .ok (.iadd, 1) := by decide +kernel
theorem dL_law__1394 : decode cL_law_ 1394 = .ok (.iaload, 1) := by decide +kernel
theorem dL_law__1395 : decode cL_law_ 1395 = .ok (.aload_n 0, 1) := by decide +kernel
theorem dL_law__1396 : decode cL_law_ 1396 = .ok (.iload 4, 2) := by decide +kernel
theorem dL_law__1398 : decode cL_law_ 1398 = .ok (.iconst 2, 1) := by decide +kernel
theorem dL_law__1399 : decode cL_law_ 1399 = .ok (.iadd, 1) := by decide +kernel
theorem dL_law__1400 : decode cL_law_ 1400 = .ok (.iaload, 1) := by decide +kernel
theorem dL_law__1401 : decode cL_law_ 1401 = .ok (.aload_n 3, 1) := by decide +kernel
theorem dL_law__1402 : decode cL_law_ 1402 = .ok (.invokestatic 188, 3) := by decide +kernel
theorem dL_law__1405 : decode cL_law_ 1405 = .ok (.istore 5, 2) := by decide +kernel
theorem dL_law__1407 : decode cL_law_ 1407 = .ok (.aload_n 2, 1) := by decide +kernel
theorem dL_law__1408 : decode cL_law_ 1408 = .ok (.aload_n 0, 1) := by decide +kernel
theorem dL_law__1409 : decode cL_law_ 1409 = .ok (.iload 4, 2) := by decide +kernel
theorem dL_law__1411 : decode cL_law_ 1411 = .ok (.iconst 1, 1) := by decide +kernel
theorem dL_law__1412 : decode cL_law_ 1412 = .ok (.iadd, 1) := by decide +kernel
theorem dL_law__1413 : decode cL_law_ 1413 = .ok (.iaload, 1) := by decide +kernel
theorem dL_law__1414 : decode cL_law_ 1414 = .ok (.aload_n 0, 1) := by decide +kernel
theorem dL_law__1415 : decode cL_law_ 1415 = .ok (.iload 4, 2) := by decide +kernel
theorem dL_law__1417 : decode cL_law_ 1417 = .ok (.iconst 2, 1) := by decide +kernel
theorem dL_law__1418 : decode cL_law_ 1418 = .ok (.iadd, 1) := by decide +kernel
theorem dL_law__1419 : decode cL_law_ 1419 = .ok (.iaload, 1) := by decide +kernel
theorem dL_law__1420 : decode cL_law_ 1420 = .ok (.invokevirtual 190, 3) := by decide +kernel
theorem dL_law__1423 : decode cL_law_ 1423 = .ok (.istore 6, 2) := by decide +kernel
theorem dL_law__1425 : decode cL_law_ 1425 = .ok (.aload_n 2, 1) := by decide +kernel
theorem dL_law__1426 : decode cL_law_ 1426 = .ok (.invokevirtual 129, 3) := by decide +kernel
theorem dL_law__1429 : decode cL_law_ 1429 = .ok (.iload 5, 2) := by decide +kernel
theorem dL_law__1431 : decode cL_law_ 1431 = .ok (.if_icmp .eq 5, 3) := by decide +kernel
theorem dL_law__1434 : decode cL_law_ 1434 = .ok (.iconst 0, 1) := by decide +kernel
theorem dL_law__1435 : decode cL_law_ 1435 = .ok (.ireturn, 1) := by decide +kernel
theorem dL_law__1436 : decode cL_law_ 1436 = .ok (.iload 5, 2) := by decide +kernel
theorem dL_law__1438 : decode cL_law_ 1438 = .ok (.ifCond .ne 15, 3) := by decide +kernel
theorem dL_law__1441 : decode cL_law_ 1441 = .ok (.aload_n 3, 1) := by decide +kernel
theorem dL_law__1442 : decode cL_law_ 1442 = .ok (.iconst 0, 1) := by decide +kernel
theorem dL_law__1443 : decode cL_law_ 1443 = .ok (.laload, 1) := by decide +kernel
theorem dL_law__1444 : decode cL_law_ 1444 = .ok (.iload 6, 2) := by decide +kernel
theorem dL_law__1446 : decode cL_law_ 1446 = .ok (.i2l, 1) := by decide +kernel
theorem dL_law__1447 : decode cL_law_ 1447 = .ok (.lcmp, 1) := by decide +kernel
theorem dL_law__1448 : decode cL_law_ 1448 = .ok (.ifCond .eq 5, 3) := by decide +kernel
theorem dL_law__1451 : decode cL_law_ 1451 = .ok (.iconst 0, 1) := by decide +kernel
theorem dL_law__1452 : decode cL_law_ 1452 = .ok (.ireturn, 1) := by decide +kernel
theorem dL_law__1453 : decode cL_law_ 1453 = .ok (.goto 1081, 3) := by decide +kernel
theorem dL_law__1456 : decode cL_law_ 1456 = .ok (.aload_n 1, 1) := by decide +kernel
theorem dL_law__1457 : decode cL_law_ 1457 = .ok (.aload_n 0, 1) := by decide +kernel
theorem dL_law__1458 : decode cL_law_ 1458 = .ok (.iload 4, 2) := by decide +kernel
theorem dL_law__1460 : decode cL_law_ 1460 = .ok (.iconst 1, 1) := by decide +kernel
theorem dL_law__1461 : decode cL_law_ 1461 = .ok (.iadd, 1) := by decide +kernel
theorem dL_law__1462 : decode cL_law_ 1462 = .ok (.iaload, 1) := by decide +kernel
theorem dL_law__1463 : decode cL_law_ 1463 = .ok (.aload_n 0, 1) := by decide +kernel
theorem dL_law__1464 : decode cL_law_ 1464 = .ok (.iload 4, 2) := by decide +kernel
theorem dL_law__1466 : decode cL_law_ 1466 = .ok (.iconst 2, 1) := by decide +kernel
theorem dL_law__1467 : decode cL_law_ 1467 = .ok (.iadd, 1) := by decide +kernel
theorem dL_law__1468 : decode cL_law_ 1468 = .ok (.iaload, 1) := by decide +kernel
theorem dL_law__1469 : decode cL_law_ 1469 = .ok (.aload_n 3, 1) := by decide +kernel
theorem dL_law__1470 : decode cL_law_ 1470 = .ok (.invokestatic 191, 3) := by decide +kernel
theorem dL_law__1473 : decode cL_law_ 1473 = .ok (.istore 5, 2) := by decide +kernel
theorem dL_law__1475 : decode cL_law_ 1475 = .ok (.aload_n 2, 1) := by decide +kernel
theorem dL_law__1476 : decode cL_law_ 1476 = .ok (.aload_n 0, 1) := by decide +kernel
theorem dL_law__1477 : decode cL_law_ 1477 = .ok (.iload 4, 2) := by decide +kernel
theorem dL_law__1479 : decode cL_law_ 1479 = .ok (.iconst 1, 1) := by decide +kernel
theorem dL_law__1480 : decode cL_law_ 1480 = .ok (.iadd, 1) := by decide +kernel
theorem dL_law__1481 : decode cL_law_ 1481 = .ok (.iaload, 1) := by decide +kernel
theorem dL_law__1482 : decode cL_law_ 1482 = .ok (.aload_n 0, 1) := by decide +kernel
theorem dL_law__1483 : decode cL_law_ 1483 = .ok (.iload 4, 2) := by decide +kernel
theorem dL_law__1485 : decode cL_law_ 1485 = .ok (.iconst 2, 1) := by decide +kernel
theorem dL_law__1486 : decode cL_law_ 1486 = .ok (.iadd, 1) := by decide +kernel
theorem dL_law__1487 : decode cL_law_ 1487 = .ok (.iaload, 1) := by decide +kernel
theorem dL_law__1488 : decode cL_law_ 1488 = .ok (.invokevirtual 193, 3) := by decide +kernel
theorem dL_law__1491 : decode cL_law_ 1491 = .ok (.istore 6, 2) := by decide +kernel
theorem dL_law__1493 : decode cL_law_ 1493 = .ok (.aload_n 2, 1) := by decide +kernel
theorem dL_law__1494 : decode cL_law_ 1494 = .ok (.invokevirtual 129, 3) := by decide +kernel
theorem dL_law__1497 : decode cL_law_ 1497 = .ok (.iload 5, 2) := by decide +kernel
theorem dL_law__1499 : decode cL_law_ 1499 = .ok (.if_icmp .eq 5, 3) := by decide +kernel
theorem dL_law__1502 : decode cL_law_ 1502 = .ok (.iconst 0, 1) := by decide +kernel
theorem dL_law__1503 : decode cL_law_ 1503 = .ok (.ireturn, 1) := by decide +kernel
theorem dL_law__1504 : decode cL_law_ 1504 = .ok (.iload 5, 2) := by decide +kernel
theorem dL_law__1506 : decode cL_law_ 1506 = .ok (.ifCond .ne 15, 3) := by decide +kernel
theorem dL_law__1509 : decode cL_law_ 1509 = .ok (.aload_n 3, 1) := by decide +kernel
theorem dL_law__1510 : decode cL_law_ 1510 = .ok (.iconst 0, 1) := by decide +kernel
theorem dL_law__1511 : decode cL_law_ 1511 = .ok (.laload, 1) := by decide +kernel
theorem dL_law__1512 : decode cL_law_ 1512 = .ok (.iload 6, 2) := by decide +kernel
theorem dL_law__1514 : decode cL_law_ 1514 = .ok (.i2l, 1) := by decide +kernel
theorem dL_law__1515 : decode cL_law_ 1515 = .ok (.lcmp, 1) := by decide +kernel
theorem dL_law__1516 : decode cL_law_ 1516 = .ok (.ifCond .eq 5, 3) := by decide +kernel
theorem dL_law__1519 : decode cL_law_ 1519 = .ok (.iconst 0, 1) := by decide +kernel
theorem dL_law__1520 : decode cL_law_ 1520 = .ok (.ireturn, 1) := by decide +kernel
theorem dL_law__1521 : decode cL_law_ 1521 = .ok (.goto 1013, 3) := by decide +kernel
theorem dL_law__1524 : decode cL_law_ 1524 = .ok (.aload_n 1, 1) := by decide +kernel
theorem dL_law__1525 : decode cL_law_ 1525 = .ok (.aload_n 0, 1) := by decide +kernel
theorem dL_law__1526 : decode cL_law_ 1526 = .ok (.iload 4, 2) := by decide +kernel
theorem dL_law__1528 : decode cL_law_ 1528 = .ok (.iconst 1, 1) := by decide +kernel
theorem dL_law__1529 : decode cL_law_ 1529 = .ok (.iadd, 1) := by decide +kernel
theorem dL_law__1530 : decode cL_law_ 1530 = .ok (.iaload, 1) := by decide +kernel
theorem dL_law__1531 : decode cL_law_ 1531 = .ok (.aload_n 0, 1) := by decide +kernel
theorem dL_law__1532 : decode cL_law_ 1532 = .ok (.iload 4, 2) := by decide +kernel
theorem dL_law__1534 : decode cL_law_ 1534 = .ok (.iconst 2, 1) := by decide +kernel
theorem dL_law__1535 : decode cL_law_ 1535 = .ok (.iadd, 1) := by decide +kernel
theorem dL_law__1536 : decode cL_law_ 1536 = .ok (.iaload, 1) := by decide +kernel
theorem dL_law__1537 : decode cL_law_ 1537 = .ok (.aload_n 0, 1) := by decide +kernel
theorem dL_law__1538 : decode cL_law_ 1538 = .ok (.iload 4, 2) := by decide +kernel
theorem dL_law__1540 : decode cL_law_ 1540 = .ok (.iconst 3, 1) := by decide +kernel
theorem dL_law__1541 : decode cL_law_ 1541 = .ok (.iadd, 1) := by decide +kernel
theorem dL_law__1542 : decode cL_law_ 1542 = .ok (.iaload, 1) := by decide +kernel
theorem dL_law__1543 : decode cL_law_ 1543 = .ok (.aload_n 3, 1) := by decide +kernel
theorem dL_law__1544 : decode cL_law_ 1544 = .ok (.invokestatic 194, 3) := by decide +kernel
theorem dL_law__1547 : decode cL_law_ 1547 = .ok (.istore 5, 2) := by decide +kernel
theorem dL_law__1549 : decode cL_law_ 1549 = .ok (.aload_n 2, 1) := by decide +kernel
theorem dL_law__1550 : decode cL_law_ 1550 = .ok (.aload_n 0, 1) := by decide +kernel
theorem dL_law__1551 : decode cL_law_ 1551 = .ok (.iload 4, 2) := by decide +kernel
theorem dL_law__1553 : decode cL_law_ 1553 = .ok (.iconst 1, 1) := by decide +kernel
theorem dL_law__1554 : decode cL_law_ 1554 = .ok (.iadd, 1) := by decide +kernel
theorem dL_law__1555 : decode cL_law_ 1555 = .ok (.iaload, 1) := by decide +kernel
theorem dL_law__1556 : decode cL_law_ 1556 = .ok (.aload_n 0, 1) := by decide +kernel
theorem dL_law__1557 : decode cL_law_ 1557 = .ok (.iload 4, 2) := by decide +kernel
theorem dL_law__1559 : decode cL_law_ 1559 = .ok (.iconst 2, 1) := by decide +kernel
theorem dL_law__1560 : decode cL_law_ 1560 = .ok (.iadd, 1) := by decide +kernel
theorem dL_law__1561 : decode cL_law_ 1561 = .ok (.iaload, 1) := by decide +kernel
theorem dL_law__1562 : decode cL_law_ 1562 = .ok (.aload_n 0, 1) := by decide +kernel
theorem dL_law__1563 : decode cL_law_ 1563 = .ok (.iload 4, 2) := by decide +kernel
theorem dL_law__1565 : decode cL_law_ 1565 = .ok (.iconst 3, 1) := by decide +kernel
theorem dL_law__1566 : decode cL_law_ 1566 = .ok (.iadd, 1) := by decide +kernel
theorem dL_law__1567 : decode cL_law_ 1567 = .ok (.iaload, 1) := by decide +kernel
theorem dL_law__1568 : decode cL_law_ 1568 = .ok (.invokevirtual 197, 3) := by decide +kernel
theorem dL_law__1571 : decode cL_law_ 1571 = .ok (.istore 6, 2) := by decide +kernel
theorem dL_law__1573 : decode cL_law_ 1573 = .ok (.aload_n 2, 1) := by decide +kernel
theorem dL_law__1574 : decode cL_law_ 1574 = .ok (.invokevirtual 129, 3) := by decide +kernel
theorem dL_law__1577 : decode cL_law_ 1577 = .ok (.iload 5, 2) := by decide +kernel
theorem dL_law__1579 : decode cL_law_ 1579 = .ok (.if_icmp .eq 5, 3) := by decide +kernel
theorem dL_law__1582 : decode cL_law_ 1582 = .ok (.iconst 0, 1) := by decide +kernel
theorem dL_law__1583 : decode cL_law_ 1583 = .ok (.ireturn, 1) := by decide +kernel
theorem dL_law__1584 : decode cL_law_ 1584 = .ok (.iload 5, 2) := by decide +kernel
theorem dL_law__1586 : decode cL_law_ 1586 = .ok (.ifCond .ne 15, 3) := by decide +kernel
theorem dL_law__1589 : decode cL_law_ 1589 = .ok (.aload_n 3, 1) := by decide +kernel
theorem dL_law__1590 : decode cL_law_ 1590 = .ok (.iconst 0, 1) := by decide +kernel
theorem dL_law__1591 : decode cL_law_ 1591 = .ok (.laload, 1) := by decide +kernel
theorem dL_law__1592 : decode cL_law_ 1592 = .ok (.iload 6, 2) := by decide +kernel
theorem dL_law__1594 : decode cL_law_ 1594 = .ok (.i2l, 1) := by decide +kernel
theorem dL_law__1595 : decode cL_law_ 1595 = .ok (.lcmp, 1) := by decide +kernel
theorem dL_law__1596 : decode cL_law_ 1596 = .ok (.ifCond .eq 5, 3) := by decide +kernel
theorem dL_law__1599 : decode cL_law_ 1599 = .ok (.iconst 0, 1) := by decide +kernel
theorem dL_law__1600 : decode cL_law_ 1600 = .ok (.ireturn, 1) := by decide +kernel
theorem dL_law__1601 : decode cL_law_ 1601 = .ok (.goto 933, 3) := by decide +kernel
theorem dL_law__1604 : decode cL_law_ 1604 = .ok (.aload_n 1, 1) := by decide +kernel
theorem dL_law__1605 : decode cL_law_ 1605 = .ok (.aload_n 0, 1) := by decide +kernel
theorem dL_law__1606 : decode cL_law_ 1606 = .ok (.iload 4, 2) := by decide +kernel
theorem dL_law__1608 : decode cL_law_ 1608 = .ok (.iconst 1, 1) := by decide +kernel
theorem dL_law__1609 : decode cL_law_ 1609 = .ok (.iadd, 1) := by decide +kernel
theorem dL_law__1610 : decode cL_law_ 1610 = .ok (.iaload, 1) := by decide +kernel
theorem dL_law__1611 : decode cL_law_ 1611 = .ok (.aload_n 0, 1) := by decide +kernel
theorem dL_law__1612 : decode cL_law_ 1612 = .ok (.iload 4, 2) := by decide +kernel
theorem dL_law__1614 : decode cL_law_ 1614 = .ok (.iconst 2, 1) := by decide +kernel
theorem dL_law__1615 : decode cL_law_ 1615 = .ok (.iadd, 1) := by decide +kernel
theorem dL_law__1616 : decode cL_law_ 1616 = .ok (.iaload, 1) := by decide +kernel
theorem dL_law__1617 : decode cL_law_ 1617 = .ok (.aload_n 0, 1) := by decide +kernel
theorem dL_law__1618 : decode cL_law_ 1618 = .ok (.iload 4, 2) := by decide +kernel
theorem dL_law__1620 : decode cL_law_ 1620 = .ok (.iconst 3, 1) := by decide +kernel
theorem dL_law__1621 : decode cL_law_ 1621 = .ok (.iadd, 1) := by decide +kernel
theorem dL_law__1622 : decode cL_law_ 1622 = .ok (.iaload, 1) := by decide +kernel
theorem dL_law__1623 : decode cL_law_ 1623 = .ok (.aload_n 0, 1) := by decide +kernel
theorem dL_law__1624 : decode cL_law_ 1624 = .ok (.iload 4, 2) := by decide +kernel
theorem dL_law__1626 : decode cL_law_ 1626 = .ok (.iconst 4, 1) := by decide +kernel
theorem dL_law__1627 : decode cL_law_ 1627 = .ok (.iadd, 1) := by decide +kernel
theorem dL_law__1628 : decode cL_law_ 1628 = .ok (.iaload, 1) := by decide +kernel
theorem dL_law__1629 : decode cL_law_ 1629 = .ok (.aload_n 3, 1) := by decide +kernel
theorem dL_law__1630 : decode cL_law_ 1630 = .ok (.invokestatic 198, 3) := by decide +kernel
theorem dL_law__1633 : decode cL_law_ 1633 = .ok (.istore 5, 2) := by decide +kernel
theorem dL_law__1635 : decode cL_law_ 1635 = .ok (.aload_n 2, 1) := by decide +kernel
theorem dL_law__1636 : decode cL_law_ 1636 = .ok (.aload_n 0, 1) := by decide +kernel
theorem dL_law__1637 : decode cL_law_ 1637 = .ok (.iload 4, 2) := by decide +kernel
theorem dL_law__1639 : decode cL_law_ 1639 = .ok (.iconst 1, 1) := by decide +kernel
theorem dL_law__1640 : decode cL_law_ 1640 = .ok (.iadd, 1) := by decide +kernel
theorem dL_law__1641 : decode cL_law_ 1641 = .ok (.iaload, 1) := by decide +kernel
theorem dL_law__1642 : decode cL_law_ 1642 = .ok (.aload_n 0, 1) := by decide +kernel
theorem dL_law__1643 : decode cL_law_ 1643 = .ok (.iload 4, 2) := by decide +kernel
theorem dL_law__1645 : decode cL_law_ 1645 = .ok (.iconst 2, 1) := by decide +kernel
theorem dL_law__1646 : decode cL_law_ 1646 = .ok (.iadd, 1) := by decide +kernel
theorem dL_law__1647 : decode cL_law_ 1647 = .ok (.iaload, 1) := by decide +kernel
theorem dL_law__1648 : decode cL_law_ 1648 = .ok (.aload_n 0, 1) := by decide +kernel
theorem dL_law__1649 : decode cL_law_ 1649 = .ok (.iload 4, 2) := by decide +kernel
theorem dL_law__1651 : decode cL_law_ 1651 = .ok (.iconst 3, 1) := by decide +kernel
theorem dL_law__1652 : decode cL_law_ 1652 = .ok (.iadd, 1) := by decide +kernel
theorem dL_law__1653 : decode cL_law_ 1653 = .ok (.iaload, 1) := by decide +kernel
theorem dL_law__1654 : decode cL_law_ 1654 = .ok (.aload_n 0, 1) := by decide +kernel
theorem dL_law__1655 : decode cL_law_ 1655 = .ok (.iload 4, 2) := by decide +kernel
theorem dL_law__1657 : decode cL_law_ 1657 = .ok (.iconst 4, 1) := by decide +kernel
theorem dL_law__1658 : decode cL_law_ 1658 = .ok (.iadd, 1) := by decide +kernel
theorem dL_law__1659 : decode cL_law_ 1659 = .ok (.iaload, 1) := by decide +kernel
theorem dL_law__1660 : decode cL_law_ 1660 = .ok (.invokevirtual 201, 3) := by decide +kernel
theorem dL_law__1663 : decode cL_law_ 1663 = .ok (.lstore 6, 2) := by decide +kernel
theorem dL_law__1665 : decode cL_law_ 1665 = .ok (.aload_n 2, 1) := by decide +kernel
theorem dL_law__1666 : decode cL_law_ 1666 = .ok (.invokevirtual 129, 3) := by decide +kernel
theorem dL_law__1669 : decode cL_law_ 1669 = .ok (.iload 5, 2) := by decide +kernel
theorem dL_law__1671 : decode cL_law_ 1671 = .ok (.if_icmp .eq 5, 3) := by decide +kernel
theorem dL_law__1674 : decode cL_law_ 1674 = .ok (.iconst 0, 1) := by decide +kernel
theorem dL_law__1675 : decode cL_law_ 1675 = .ok (.ireturn, 1) := by decide +kernel
theorem dL_law__1676 : decode cL_law_ 1676 = .ok (.iload 5, 2) := by decide +kernel
theorem dL_law__1678 : decode cL_law_ 1678 = .ok (.ifCond .ne 14, 3) := by decide +kernel
theorem dL_law__1681 : decode cL_law_ 1681 = .ok (.aload_n 3, 1) := by decide +kernel
theorem dL_law__1682 : decode cL_law_ 1682 = .ok (.iconst 0, 1) := by decide +kernel
theorem dL_law__1683 : decode cL_law_ 1683 = .ok (.laload, 1) := by decide +kernel
theorem dL_law__1684 : decode cL_law_ 1684 = .ok (.lload 6, 2) := by decide +kernel
theorem dL_law__1686 : decode cL_law_ 1686 = .ok (.lcmp, 1) := by decide +kernel
theorem dL_law__1687 : decode cL_law_ 1687 = .ok (.ifCond .eq 5, 3) := by decide +kernel
theorem dL_law__1690 : decode cL_law_ 1690 = .ok (.iconst 0, 1) := by decide +kernel
theorem dL_law__1691 : decode cL_law_ 1691 = .ok (.ireturn, 1) := by decide +kernel
theorem dL_law__1692 : decode cL_law_ 1692 = .ok (.goto 842, 3) := by decide +kernel
theorem dL_law__1695 : decode cL_law_ 1695 = .ok (.aload_n 1, 1) := by decide +kernel
theorem dL_law__1696 : decode cL_law_ 1696 = .ok (.aload_n 0, 1) := by decide +kernel
theorem dL_law__1697 : decode cL_law_ 1697 = .ok (.iload 4, 2) := by decide +kernel
theorem dL_law__1699 : decode cL_law_ 1699 = .ok (.iconst 1, 1) := by decide +kernel
theorem dL_law__1700 : decode cL_law_ 1700 = .ok (.iadd, 1) := by decide +kernel
theorem dL_law__1701 : decode cL_law_ 1701 = .ok (.iaload, 1) := by decide +kernel
theorem dL_law__1702 : decode cL_law_ 1702 = .ok (.aload_n 0, 1) := by decide +kernel
theorem dL_law__1703 : decode cL_law_ 1703 = .ok (.iload 4, 2) := by decide +kernel
theorem dL_law__1705 : decode cL_law_ 1705 = .ok (.iconst 2, 1) := by decide +kernel
theorem dL_law__1706 : decode cL_law_ 1706 = .ok (.iadd, 1) := by decide +kernel
theorem dL_law__1707 : decode cL_law_ 1707 = .ok (.iaload, 1) := by decide +kernel
theorem dL_law__1708 : decode cL_law_ 1708 = .ok (.aload_n 0, 1) := by decide +kernel
theorem dL_law__1709 : decode cL_law_ 1709 = .ok (.iload 4, 2) := by decide +kernel
theorem dL_law__1711 : decode cL_law_ 1711 = .ok (.iconst 3, 1) := by decide +kernel
theorem dL_law__1712 : decode cL_law_ 1712 = .ok (.iadd, 1) := by decide +kernel
theorem dL_law__1713 : decode cL_law_ 1713 = .ok (.iaload, 1) := by decide +kernel
theorem dL_law__1714 : decode cL_law_ 1714 = .ok (.aload_n 3, 1) := by decide +kernel
theorem dL_law__1715 : decode cL_law_ 1715 = .ok (.invokestatic 202, 3) := by decide +kernel
theorem dL_law__1718 : decode cL_law_ 1718 = .ok (.istore 5, 2) := by decide +kernel
theorem dL_law__1720 : decode cL_law_ 1720 = .ok (.aload_n 2, 1) := by decide +kernel
theorem dL_law__1721 : decode cL_law_ 1721 = .ok (.aload_n 0, 1) := by decide +kernel
theorem dL_law__1722 : decode cL_law_ 1722 = .ok (.iload 4, 2) := by decide +kernel
theorem dL_law__1724 : decode cL_law_ 1724 = .ok (.iconst 1, 1) := by decide +kernel
theorem dL_law__1725 : decode cL_law_ 1725 = .ok (.iadd, 1) := by decide +kernel
theorem dL_law__1726 : decode cL_law_ 1726 = .ok (.iaload, 1) := by decide +kernel
theorem dL_law__1727 : decode cL_law_ 1727 = .ok (.aload_n 0, 1) := by decide +kernel
theorem dL_law__1728 : decode cL_law_ 1728 = .ok (.iload 4, 2) := by decide +kernel
theorem dL_law__1730 : decode cL_law_ 1730 = .ok (.iconst 2, 1) := by decide +kernel
theorem dL_law__1731 : decode cL_law_ 1731 = .ok (.iadd, 1) := by decide +kernel
theorem dL_law__1732 : decode cL_law_ 1732 = .ok (.iaload, 1) := by decide +kernel
theorem dL_law__1733 : decode cL_law_ 1733 = .ok (.aload_n 0, 1) := by decide +kernel
theorem dL_law__1734 : decode cL_law_ 1734 = .ok (.iload 4, 2) := by decide +kernel
theorem dL_law__1736 : decode cL_law_ 1736 = .ok (.iconst 3, 1) := by decide +kernel
theorem dL_law__1737 : decode cL_law_ 1737 = .ok (.iadd, 1) := by decide +kernel
theorem dL_law__1738 : decode cL_law_ 1738 = .ok (.iaload, 1) := by decide +kernel
theorem dL_law__1739 : decode cL_law_ 1739 = .ok (.invokevirtual 204, 3) := by decide +kernel
theorem dL_law__1742 : decode cL_law_ 1742 = .ok (.istore 6, 2) := by decide +kernel
theorem dL_law__1744 : decode cL_law_ 1744 = .ok (.aload_n 2, 1) := by decide +kernel
theorem dL_law__1745 : decode cL_law_ 1745 = .ok (.invokevirtual 129, 3) := by decide +kernel
theorem dL_law__1748 : decode cL_law_ 1748 = .ok (.iload 5, 2) := by decide +kernel
theorem dL_law__1750 : decode cL_law_ 1750 = .ok (.if_icmp .eq 5, 3) := by decide +kernel
theorem dL_law__1753 : decode cL_law_ 1753 = .ok (.iconst 0, 1) := by decide +kernel
theorem dL_law__1754 : decode cL_law_ 1754 = .ok (.ireturn, 1) := by decide +kernel
theorem dL_law__1755 : decode cL_law_ 1755 = .ok (.iload 5, 2) := by decide +kernel
theorem dL_law__1757 : decode cL_law_ 1757 = .ok (.ifCond .ne 15, 3) := by decide +kernel
theorem dL_law__1760 : decode cL_law_ 1760 = .ok (.aload_n 3, 1) := by decide +kernel
theorem dL_law__1761 : decode cL_law_ 1761 = .ok (.iconst 0, 1) := by decide +kernel
theorem dL_law__1762 : decode cL_law_ 1762 = .ok (.laload, 1) := by decide +kernel
theorem dL_law__1763 : decode cL_law_ 1763 = .ok (.iload 6, 2) := by decide +kernel
theorem dL_law__1765 : decode cL_law_ 1765 = .ok (.i2l, 1) := by decide +kernel
theorem dL_law__1766 : decode cL_law_ 1766 = .ok (.lcmp, 1) := by decide +kernel
theorem dL_law__1767 : decode cL_law_ 1767 = .ok (.ifCond .eq 5, 3) := by decide +kernel
theorem dL_law__1770 : decode cL_law_ 1770 = .ok (.iconst 0, 1) := by decide +kernel
theorem dL_law__1771 : decode cL_law_ 1771 = .ok (.ireturn, 1) := by decide +kernel
theorem dL_law__1772 : decode cL_law_ 1772 = .ok (.goto 762, 3) := by decide +kernel
theorem dL_law__1775 : decode cL_law_ 1775 = .ok (.aload_n 1, 1) := by decide +kernel
theorem dL_law__1776 : decode cL_law_ 1776 = .ok (.aload_n 0, 1) := by decide +kernel
theorem dL_law__1777 : decode cL_law_ 1777 = .ok (.iload 4, 2) := by decide +kernel
theorem dL_law__1779 : decode cL_law_ 1779 = .ok (.iconst 1, 1) := by decide +kernel
theorem dL_law__1780 : decode cL_law_ 1780 = .ok (.iadd, 1) := by decide +kernel
theorem dL_law__1781 : decode cL_law_ 1781 = .ok (.iaload, 1) := by decide +kernel
theorem dL_law__1782 : decode cL_law_ 1782 = .ok (.aload_n 3, 1) := by decide +kernel
theorem dL_law__1783 : decode cL_law_ 1783 = .ok (.invokestatic 205, 3) := by decide +kernel
theorem dL_law__1786 : decode cL_law_ 1786 = .ok (.istore 5, 2) := by decide +kernel
theorem dL_law__1788 : decode cL_law_ 1788 = .ok (.aload_n 2, 1) := by decide +kernel
theorem dL_law__1789 : decode cL_law_ 1789 = .ok (.aload_n 0, 1) := by decide +kernel
theorem dL_law__1790 : decode cL_law_ 1790 = .ok (.iload 4, 2) := by decide +kernel
theorem dL_law__1792 : decode cL_law_ 1792 = .ok (.iconst 1, 1) := by decide +kernel
theorem dL_law__1793 : decode cL_law_ 1793 = .ok (.iadd, 1) := by decide +kernel
theorem dL_law__1794 : decode cL_law_ 1794 = .ok (.iaload, 1) := by decide +kernel
theorem dL_law__1795 : decode cL_law_ 1795 = .ok (.invokevirtual 207, 3) := by decide +kernel
theorem dL_law__1798 : decode cL_law_ 1798 = .ok (.istore 6, 2) := by decide +kernel
theorem dL_law__1800 : decode cL_law_ 1800 = .ok (.aload_n 2, 1) := by decide +kernel
theorem dL_law__1801 : decode cL_law_ 1801 = .ok (.invokevirtual 129, 3) := by decide +kernel
theorem dL_law__1804 : decode cL_law_ 1804 = .ok (.iload 5, 2) := by decide +kernel
theorem dL_law__1806 : decode cL_law_ 1806 = .ok (.if_icmp .eq 5, 3) := by decide +kernel
theorem dL_law__1809 : decode cL_law_ 1809 = .ok (.iconst 0, 1) := by decide +kernel
theorem dL_law__1810 : decode cL_law_ 1810 = .ok (.ireturn, 1) := by decide +kernel
theorem dL_law__1811 : decode cL_law_ 1811 = .ok (.iload 5, 2) := by decide +kernel
theorem dL_law__1813 : decode cL_law_ 1813 = .ok (.ifCond .ne 15, 3) := by decide +kernel
theorem dL_law__1816 : decode cL_law_ 1816 = .ok (.aload_n 3, 1) := by decide +kernel
theorem dL_law__1817 : decode cL_law_ 1817 = .ok (.iconst 0, 1) := by decide +kernel
theorem dL_law__1818 : decode cL_law_ 1818 = .ok (.laload, 1) := by decide +kernel
theorem dL_law__1819 : decode cL_law_ 1819 = .ok (.iload 6, 2) := by decide +kernel
theorem dL_law__1821 : decode cL_law_ 1821 = .ok (.i2l, 1) := by decide +kernel
theorem dL_law__1822 : decode cL_law_ 1822 = .ok (.lcmp, 1) := by decide +kernel
theorem dL_law__1823 : decode cL_law_ 1823 = .ok (.ifCond .eq 5, 3) := by decide +kernel
theorem dL_law__1826 : decode cL_law_ 1826 = .ok (.iconst 0, 1) := by decide +kernel
theorem dL_law__1827 : decode cL_law_ 1827 = .ok (.ireturn, 1) := by decide +kernel
theorem dL_law__1828 : decode cL_law_ 1828 = .ok (.goto 706, 3) := by decide +kernel
theorem dL_law__1831 : decode cL_law_ 1831 = .ok (.aload_n 1, 1) := by decide +kernel
theorem dL_law__1832 : decode cL_law_ 1832 = .ok (.aload_n 0, 1) := by decide +kernel
theorem dL_law__1833 : decode cL_law_ 1833 = .ok (.iload 4, 2) := by decide +kernel
theorem dL_law__1835 : decode cL_law_ 1835 = .ok (.iconst 1, 1) := by decide +kernel
theorem dL_law__1836 : decode cL_law_ 1836 = .ok (.iadd, 1) := by decide +kernel
theorem dL_law__1837 : decode cL_law_ 1837 = .ok (.iaload, 1) := by decide +kernel
theorem dL_law__1838 : decode cL_law_ 1838 = .ok (.aload_n 3, 1) := by decide +kernel
theorem dL_law__1839 : decode cL_law_ 1839 = .ok (.invokestatic 208, 3) := by decide +kernel
theorem dL_law__1842 : decode cL_law_ 1842 = .ok (.istore 5, 2) := by decide +kernel
theorem dL_law__1844 : decode cL_law_ 1844 = .ok (.aload_n 2, 1) := by decide +kernel
theorem dL_law__1845 : decode cL_law_ 1845 = .ok (.aload_n 0, 1) := by decide +kernel
theorem dL_law__1846 : decode cL_law_ 1846 = .ok (.iload 4, 2) := by decide +kernel
theorem dL_law__1848 : decode cL_law_ 1848 = .ok (.iconst 1, 1) := by decide +kernel
theorem dL_law__1849 : decode cL_law_ 1849 = .ok (.iadd, 1) := by decide +kernel
theorem dL_law__1850 : decode cL_law_ 1850 = .ok (.iaload, 1) := by decide +kernel
theorem dL_law__1851 : decode cL_law_ 1851 = .ok (.invokevirtual 210, 3) := by decide +kernel
theorem dL_law__1854 : decode cL_law_ 1854 = .ok (.istore 6, 2) := by decide +kernel
theorem dL_law__1856 : decode cL_law_ 1856 = .ok (.aload_n 2, 1) := by decide +kernel
theorem dL_law__1857 : decode cL_law_ 1857 = .ok (.invokevirtual 129, 3) := by decide +kernel
theorem dL_law__1860 : decode cL_law_ 1860 = .ok (.iload 5, 2) := by decide +kernel
theorem dL_law__1862 : decode cL_law_ 1862 = .ok (.if_icmp .eq 5, 3) := by decide +kernel
theorem dL_law__1865 : decode cL_law_ 1865 = .ok (.iconst 0, 1) := by decide +kernel
theorem dL_law__1866 : decode cL_law_ 1866 = .ok (.ireturn, 1) := by decide +kernel
theorem dL_law__1867 : decode cL_law_ 1867 = .ok (.iload 5, 2) := by decide +kernel
theorem dL_law__1869 : decode cL_law_ 1869 = .ok (.ifCond .ne 15, 3) := by decide +kernel
theorem dL_law__1872 : decode cL_law_ 1872 = .ok (.aload_n 3, 1) := by decide +kernel
theorem dL_law__1873 : decode cL_law_ 1873 = .ok (.iconst 0, 1) := by decide +kernel
theorem dL_law__1874 : decode cL_law_ 1874 = .ok (.laload, 1) := by decide +kernel
theorem dL_law__1875 : decode cL_law_ 1875 = .ok (.iload 6, 2) := by decide +kernel
theorem dL_law__1877 : decode cL_law_ 1877 = .ok (.i2l, 1) := by decide +kernel
theorem dL_law__1878 : decode cL_law_ 1878 = .ok (.lcmp, 1) := by decide +kernel
theorem dL_law__1879 : decode cL_law_ 1879 = .ok (.ifCond .eq 5, 3) := by decide +kernel
theorem dL_law__1882 : decode cL_law_ 1882 = .ok (.iconst 0, 1) := by decide +kernel
theorem dL_law__1883 : decode cL_law_ 1883 = .ok (.ireturn, 1) := by decide +kernel
theorem dL_law__1884 : decode cL_law_ 1884 = .ok (.goto 650, 3) := by decide +kernel
theorem dL_law__1887 : decode cL_law_ 1887 = .ok (.aload_n 1, 1) := by decide +kernel
theorem dL_law__1888 : decode cL_law_ 1888 = .ok (.aload_n 0, 1) := by decide +kernel
theorem dL_law__1889 : decode cL_law_ 1889 = .ok (.iload 4, 2) := by decide +kernel
theorem dL_law__1891 : decode cL_law_ 1891 = .ok (.iconst 1, 1) := by decide +kernel
theorem dL_law__1892 : decode cL_law_ 1892 = .ok (.iadd, 1) := by decide +kernel
theorem dL_law__1893 : decode cL_law_ 1893 = .ok (.iaload, 1) := by decide +kernel
theorem dL_law__1894 : decode cL_law_ 1894 = .ok (.aload_n 3, 1) := by decide +kernel
theorem dL_law__1895 : decode cL_law_ 1895 = .ok (.invokestatic 211, 3) := by decide +kernel
theorem dL_law__1898 : decode cL_law_ 1898 = .ok (.istore 5, 2) := by decide +kernel
theorem dL_law__1900 : decode cL_law_ 1900 = .ok (.aload_n 2, 1) := by decide +kernel
theorem dL_law__1901 : decode cL_law_ 1901 = .ok (.aload_n 0, 1) := by decide +kernel
theorem dL_law__1902 : decode cL_law_ 1902 = .ok (.iload 4, 2) := by decide +kernel
theorem dL_law__1904 : decode cL_law_ 1904 = .ok (.iconst 1, 1) := by decide +kernel
theorem dL_law__1905 : decode cL_law_ 1905 = .ok (.iadd, 1) := by decide +kernel
theorem dL_law__1906 : decode cL_law_ 1906 = .ok (.iaload, 1) := by decide +kernel
theorem dL_law__1907 : decode cL_law_ 1907 = .ok (.invokevirtual 213, 3) := by decide +kernel
theorem dL_law__1910 : decode cL_law_ 1910 = .ok (.istore 6, 2) := by decide +kernel
theorem dL_law__1912 : decode cL_law_ 1912 = .ok (.aload_n 2, 1) := by decide +kernel
theorem dL_law__1913 : decode cL_law_ 1913 = .ok (.invokevirtual 129, 3) := by decide +kernel
theorem dL_law__1916 : decode cL_law_ 1916 = .ok (.iload 5, 2) := by decide +kernel
theorem dL_law__1918 : decode cL_law_ 1918 = .ok (.if_icmp .eq 5, 3) := by decide +kernel
theorem dL_law__1921 : decode cL_law_ 1921 = .ok (.iconst 0, 1) := by decide +kernel
theorem dL_law__1922 : decode cL_law_ 1922 = .ok (.ireturn, 1) := by decide +kernel
theorem dL_law__1923 : decode cL_law_ 1923 = .ok (.iload 5, 2) := by decide +kernel
theorem dL_law__1925 : decode cL_law_ 1925 = .ok (.ifCond .ne 15, 3) := by decide +kernel
theorem dL_law__1928 : decode cL_law_ 1928 = .ok (.aload_n 3, 1) := by decide +kernel
theorem dL_law__1929 : decode cL_law_ 1929 = .ok (.iconst 0, 1) := by decide +kernel
theorem dL_law__1930 : decode cL_law_ 1930 = .ok (.laload, 1) := by decide +kernel
theorem dL_law__1931 : decode cL_law_ 1931 = .ok (.iload 6, 2) := by decide +kernel
theorem dL_law__1933 : decode cL_law_ 1933 = .ok (.i2l, 1) := by decide +kernel
theorem dL_law__1934 : decode cL_law_ 1934 = .ok (.lcmp, 1) := by decide +kernel
theorem dL_law__1935 : decode cL_law_ 1935 = .ok (.ifCond .eq 5, 3) := by decide +kernel
theorem dL_law__1938 : decode cL_law_ 1938 = .ok (.iconst 0, 1) := by decide +kernel
theorem dL_law__1939 : decode cL_law_ 1939 = .ok (.ireturn, 1) := by decide +kernel
theorem dL_law__1940 : decode cL_law_ 1940 = .ok (.goto 594, 3) := by decide +kernel
theorem dL_law__1943 : decode cL_law_ 1943 = .ok (.aload_n 1, 1) := by decide +kernel
theorem dL_law__1944 : decode cL_law_ 1944 = .ok (.aload_n 0, 1) := by decide +kernel
theorem dL_law__1945 : decode cL_law_ 1945 = .ok (.iload 4, 2) := by decide +kernel
theorem dL_law__1947 : decode cL_law_ 1947 = .ok (.iconst 1, 1) := by decide +kernel
theorem dL_law__1948 : decode cL_law_ 1948 = .ok (.iadd, 1) := by decide +kernel
theorem dL_law__1949 : decode cL_law_ 1949 = .ok (.iaload, 1) := by decide +kernel
theorem dL_law__1950 : decode cL_law_ 1950 = .ok (.aload_n 3, 1) := by decide +kernel
theorem dL_law__1951 : decode cL_law_ 1951 = .ok (.invokestatic 214, 3) := by decide +kernel
theorem dL_law__1954 : decode cL_law_ 1954 = .ok (.istore 5, 2) := by decide +kernel
theorem dL_law__1956 : decode cL_law_ 1956 = .ok (.aload_n 2, 1) := by decide +kernel
theorem dL_law__1957 : decode cL_law_ 1957 = .ok (.aload_n 0, 1) := by decide +kernel
theorem dL_law__1958 : decode cL_law_ 1958 = .ok (.iload 4, 2) := by decide +kernel
theorem dL_law__1960 : decode cL_law_ 1960 = .ok (.iconst 1, 1) := by decide +kernel
theorem dL_law__1961 : decode cL_law_ 1961 = .ok (.iadd, 1) := by decide +kernel
theorem dL_law__1962 : decode cL_law_ 1962 = .ok (.iaload, 1) := by decide +kernel
theorem dL_law__1963 : decode cL_law_ 1963 = .ok (.invokevirtual 216, 3) := by decide +kernel
theorem dL_law__1966 : decode cL_law_ 1966 = .ok (.istore 6, 2) := by decide +kernel
theorem dL_law__1968 : decode cL_law_ 1968 = .ok (.aload_n 2, 1) := by decide +kernel
theorem dL_law__1969 : decode cL_law_ 1969 = .ok (.invokevirtual 129, 3) := by decide +kernel
theorem dL_law__1972 : decode cL_law_ 1972 = .ok (.iload 5, 2) := by decide +kernel
theorem dL_law__1974 : decode cL_law_ 1974 = .ok (.if_icmp .eq 5, 3) := by decide +kernel
theorem dL_law__1977 : decode cL_law_ 1977 = .ok (.iconst 0, 1) := by decide +kernel
theorem dL_law__1978 : decode cL_law_ 1978 = .ok (.ireturn, 1) := by decide +kernel
theorem dL_law__1979 : decode cL_law_ 1979 = .ok (.iload 5, 2) := by decide +kernel
theorem dL_law__1981 : decode cL_law_ 1981 = .ok (.ifCond .ne 15, 3) := by decide +kernel
theorem dL_law__1984 : decode cL_law_ 1984 = .ok (.aload_n 3, 1) := by decide +kernel
theorem dL_law__1985 : decode cL_law_ 1985 = .ok (.iconst 0, 1) := by decide +kernel
theorem dL_law__1986 : decode cL_law_ 1986 = .ok (.laload, 1) := by decide +kernel
theorem dL_law__1987 : decode cL_law_ 1987 = .ok (.iload 6, 2) := by decide +kernel
theorem dL_law__1989 : decode cL_law_ 1989 = .ok (.i2l, 1) := by decide +kernel
theorem dL_law__1990 : decode cL_law_ 1990 = .ok (.lcmp, 1) := by decide +kernel
theorem dL_law__1991 : decode cL_law_ 1991 = .ok (.ifCond .eq 5, 3) := by decide +kernel
theorem dL_law__1994 : decode cL_law_ 1994 = .ok (.iconst 0, 1) := by decide +kernel
theorem dL_law__1995 : decode cL_law_ 1995 = .ok (.ireturn, 1) := by decide +kernel
theorem dL_law__1996 : decode cL_law_ 1996 = .ok (.goto 538, 3) := by decide +kernel
theorem dL_law__1999 : decode cL_law_ 1999 = .ok (.aload_n 1, 1) := by decide +kernel
theorem dL_law__2000 : decode cL_law_ 2000 = .ok (.aload_n 0, 1) := by decide +kernel
theorem dL_law__2001 : decode cL_law_ 2001 = .ok (.iload 4, 2) := by decide +kernel
theorem dL_law__2003 : decode cL_law_ 2003 = .ok (.iconst 1, 1) := by decide +kernel
theorem dL_law__2004 : decode cL_law_ 2004 = .ok (.iadd, 1) := by decide +kernel
theorem dL_law__2005 : decode cL_law_ 2005 = .ok (.iaload, 1) := by decide +kernel
theorem dL_law__2006 : decode cL_law_ 2006 = .ok (.aload_n 3, 1) := by decide +kernel
theorem dL_law__2007 : decode cL_law_ 2007 = .ok (.invokestatic 217, 3) := by decide +kernel
theorem dL_law__2010 : decode cL_law_ 2010 = .ok (.istore 5, 2) := by decide +kernel
theorem dL_law__2012 : decode cL_law_ 2012 = .ok (.aload_n 2, 1) := by decide +kernel
theorem dL_law__2013 : decode cL_law_ 2013 = .ok (.aload_n 0, 1) := by decide +kernel
theorem dL_law__2014 : decode cL_law_ 2014 = .ok (.iload 4, 2) := by decide +kernel
theorem dL_law__2016 : decode cL_law_ 2016 = .ok (.iconst 1, 1) := by decide +kernel
theorem dL_law__2017 : decode cL_law_ 2017 = .ok (.iadd, 1) := by decide +kernel
theorem dL_law__2018 : decode cL_law_ 2018 = .ok (.iaload, 1) := by decide +kernel
theorem dL_law__2019 : decode cL_law_ 2019 = .ok (.invokevirtual 219, 3) := by decide +kernel
theorem dL_law__2022 : decode cL_law_ 2022 = .ok (.istore 6, 2) := by decide +kernel
theorem dL_law__2024 : decode cL_law_ 2024 = .ok (.aload_n 2, 1) := by decide +kernel
theorem dL_law__2025 : decode cL_law_ 2025 = .ok (.invokevirtual 129, 3) := by decide +kernel
theorem dL_law__2028 : decode cL_law_ 2028 = .ok (.iload 5, 2) := by decide +kernel
theorem dL_law__2030 : decode cL_law_ 2030 = .ok (.if_icmp .eq 5, 3) := by decide +kernel
theorem dL_law__2033 : decode cL_law_ 2033 = .ok (.iconst 0, 1) := by decide +kernel
theorem dL_law__2034 : decode cL_law_ 2034 = .ok (.ireturn, 1) := by decide +kernel
theorem dL_law__2035 : decode cL_law_ 2035 = .ok (.iload 5, 2) := by decide +kernel
theorem dL_law__2037 : decode cL_law_ 2037 = .ok (.ifCond .ne 15, 3) := by decide +kernel
theorem dL_law__2040 : decode cL_law_ 2040 = .ok (.aload_n 3, 1) := by decide +kernel
theorem dL_law__2041 : decode cL_law_ 2041 = .ok (.iconst 0, 1) := by decide +kernel
theorem dL_law__2042 : decode cL_law_ 2042 = .ok (.laload, 1) := by decide +kernel
theorem dL_law__2043 : decode cL_law_ 2043 = .ok (.iload 6, 2) := by decide +kernel
theorem dL_law__2045 : decode cL_law_ 2045 = .ok (.i2l, 1) := by decide +kernel
theorem dL_law__2046 : decode cL_law_ 2046 = .ok (.lcmp, 1) := by decide +kernel
theorem dL_law__2047 : decode cL_law_ 2047 = .ok (.ifCond .eq 5, 3) := by decide +kernel
theorem dL_law__2050 : decode cL_law_ 2050 = .ok (.iconst 0, 1) := by decide +kernel
theorem dL_law__2051 : decode cL_law_ 2051 = .ok (.ireturn, 1) := by decide +kernel
theorem dL_law__2052 : decode cL_law_ 2052 = .ok (.goto 482, 3) := by decide +kernel
theorem dL_law__2055 : decode cL_law_ 2055 = .ok (.aload_n 1, 1) := by decide +kernel
theorem dL_law__2056 : decode cL_law_ 2056 = .ok (.aload_n 0, 1) := by decide +kernel
theorem dL_law__2057 : decode cL_law_ 2057 = .ok (.iload 4, 2) := by decide +kernel
theorem dL_law__2059 : decode cL_law_ 2059 = .ok (.iconst 1, 1) := by decide +kernel
theorem dL_law__2060 : decode cL_law_ 2060 = .ok (.iadd, 1) := by decide +kernel
theorem dL_law__2061 : decode cL_law_ 2061 = .ok (.iaload, 1) := by decide +kernel
theorem dL_law__2062 : decode cL_law_ 2062 = .ok (.aload_n 3, 1) := by decide +kernel
theorem dL_law__2063 : decode cL_law_ 2063 = .ok (.invokestatic 220, 3) := by decide +kernel
theorem dL_law__2066 : decode cL_law_ 2066 = .ok (.istore 5, 2) := by decide +kernel
theorem dL_law__2068 : decode cL_law_ 2068 = .ok (.aload_n 2, 1) := by decide +kernel
theorem dL_law__2069 : decode cL_law_ 2069 = .ok (.aload_n 0, 1) := by decide +kernel
theorem dL_law__2070 : decode cL_law_ 2070 = .ok (.iload 4, 2) := by decide +kernel
theorem dL_law__2072 : decode cL_law_ 2072 = .ok (.iconst 1, 1) := by decide +kernel
theorem dL_law__2073 : decode cL_law_ 2073 = .ok (.iadd, 1) := by decide +kernel
theorem dL_law__2074 : decode cL_law_ 2074 = .ok (.iaload, 1) := by decide +kernel
theorem dL_law__2075 : decode cL_law_ 2075 = .ok (.invokevirtual 222, 3) := by decide +kernel
theorem dL_law__2078 : decode cL_law_ 2078 = .ok (.istore 6, 2) := by decide +kernel
theorem dL_law__2080 : decode cL_law_ 2080 = .ok (.aload_n 2, 1) := by decide +kernel
theorem dL_law__2081 : decode cL_law_ 2081 = .ok (.invokevirtual 129, 3) := by decide +kernel
theorem dL_law__2084 : decode cL_law_ 2084 = .ok (.iload 5, 2) := by decide +kernel
theorem dL_law__2086 : decode cL_law_ 2086 = .ok (.if_icmp .eq 5, 3) := by decide +kernel
theorem dL_law__2089 : decode cL_law_ 2089 = .ok (.iconst 0, 1) := by decide +kernel
theorem dL_law__2090 : decode cL_law_ 2090 = .ok (.ireturn, 1) := by decide +kernel
theorem dL_law__2091 : decode cL_law_ 2091 = .ok (.iload 5, 2) := by decide +kernel
theorem dL_law__2093 : decode cL_law_ 2093 = .ok (.ifCond .ne 15, 3) := by decide +kernel
theorem dL_law__2096 : decode cL_law_ 2096 = .ok (.aload_n 3, 1) := by decide +kernel
theorem dL_law__2097 : decode cL_law_ 2097 = .ok (.iconst 0, 1) := by decide +kernel
theorem dL_law__2098 : decode cL_law_ 2098 = .ok (.laload, 1) := by decide +kernel
theorem dL_law__2099 : decode cL_law_ 2099 = .ok (.iload 6, 2) := by decide +kernel
theorem dL_law__2101 : decode cL_law_ 2101 = .ok (.i2l, 1) := by decide +kernel
theorem dL_law__2102 : decode cL_law_ 2102 = .ok (.lcmp, 1) := by decide +kernel
theorem dL_law__2103 : decode cL_law_ 2103 = .ok (.ifCond .eq 5, 3) := by decide +kernel
theorem dL_law__2106 : decode cL_law_ 2106 = .ok (.iconst 0, 1) := by decide +kernel
theorem dL_law__2107 : decode cL_law_ 2107 = .ok (.ireturn, 1) := by decide +kernel
theorem dL_law__2108 : decode cL_law_ 2108 = .ok (.goto 426, 3) := by decide +kernel
theorem dL_law__2111 : decode cL_law_ 2111 = .ok (.aload_n 1, 1) := by decide +kernel
theorem dL_law__2112 : decode cL_law_ 2112 = .ok (.invokevirtual 223, 3) := by decide +kernel
theorem dL_law__2115 : decode cL_law_ 2115 = .ok (.aload_n 2, 1) := by decide +kernel
theorem dL_law__2116 : decode cL_law_ 2116 = .ok (.invokevirtual 226, 3) := by decide +kernel
theorem dL_law__2119 : decode cL_law_ 2119 = .ok (.if_icmp .eq 415, 3) := by decide +kernel
theorem dL_law__2122 : decode cL_law_ 2122 = .ok (.iconst 0, 1) := by decide +kernel
theorem dL_law__2123 : decode cL_law_ 2123 = .ok (.ireturn, 1) := by decide +kernel
theorem dL_law__2124 : decode cL_law_ 2124 = .ok (.aload_n 1, 1) := by decide +kernel
theorem dL_law__2125 : decode cL_law_ 2125 = .ok (.aload_n 0, 1) := by decide +kernel
theorem dL_law__2126 : decode cL_law_ 2126 = .ok (.iload 4, 2) := by decide +kernel
theorem dL_law__2128 : decode cL_law_ 2128 = .ok (.iconst 1, 1) := by decide +kernel
theorem dL_law__2129 : decode cL_law_ 2129 = .ok (.iadd, 1) := by decide +kernel
theorem dL_law__2130 : decode cL_law_ 2130 = .ok (.iaload, 1) := by decide +kernel
theorem dL_law__2131 : decode cL_law_ 2131 = .ok (.aload_n 0, 1) := by decide +kernel
theorem dL_law__2132 : decode cL_law_ 2132 = .ok (.iload 4, 2) := by decide +kernel
theorem dL_law__2134 : decode cL_law_ 2134 = .ok (.iconst 2, 1) := by decide +kernel
theorem dL_law__2135 : decode cL_law_ 2135 = .ok (.iadd, 1) := by decide +kernel
theorem dL_law__2136 : decode cL_law_ 2136 = .ok (.iaload, 1) := by decide +kernel
theorem dL_law__2137 : decode cL_law_ 2137 = .ok (.aload_n 3, 1) := by decide +kernel
theorem dL_law__2138 : decode cL_law_ 2138 = .ok (.invokestatic 227, 3) := by decide +kernel
theorem dL_law__2141 : decode cL_law_ 2141 = .ok (.istore 5, 2) := by decide +kernel
theorem dL_law__2143 : decode cL_law_ 2143 = .ok (.aload_n 2, 1) := by decide +kernel
theorem dL_law__2144 : decode cL_law_ 2144 = .ok (.aload_n 0, 1) := by decide +kernel
theorem dL_law__2145 : decode cL_law_ 2145 = .ok (.iload 4, 2) := by decide +kernel
theorem dL_law__2147 : decode cL_law_ 2147 = .ok (.iconst 1, 1) := by decide +kernel
theorem dL_law__2148 : decode cL_law_ 2148 = .ok (.iadd, 1) := by decide +kernel
theorem dL_law__2149 : decode cL_law_ 2149 = .ok (.iaload, 1) := by decide +kernel
theorem dL_law__2150 : decode cL_law_ 2150 = .ok (.aload_n 0, 1) := by decide +kernel
theorem dL_law__2151 : decode cL_law_ 2151 = .ok (.iload 4, 2) := by decide +kernel
theorem dL_law__2153 : decode cL_law_ 2153 = .ok (.iconst 2, 1) := by decide +kernel
theorem dL_law__2154 : decode cL_law_ 2154 = .ok (.iadd, 1) := by decide +kernel
theorem dL_law__2155 : decode cL_law_ 2155 = .ok (.iaload, 1) := by decide +kernel
theorem dL_law__2156 : decode cL_law_ 2156 = .ok (.invokevirtual 229, 3) := by decide +kernel
theorem dL_law__2159 : decode cL_law_ 2159 = .ok (.istore 6, 2) := by decide +kernel
theorem dL_law__2161 : decode cL_law_ 2161 = .ok (.aload_n 2, 1) := by decide +kernel
theorem dL_law__2162 : decode cL_law_ 2162 = .ok (.invokevirtual 129, 3) := by decide +kernel
theorem dL_law__2165 : decode cL_law_ 2165 = .ok (.iload 5, 2) := by decide +kernel
theorem dL_law__2167 : decode cL_law_ 2167 = .ok (.if_icmp .eq 5, 3) := by decide +kernel
theorem dL_law__2170 : decode cL_law_ 2170 = .ok (.iconst 0, 1) := by decide +kernel
theorem dL_law__2171 : decode cL_law_ 2171 = .ok (.ireturn, 1) := by decide +kernel
theorem dL_law__2172 : decode cL_law_ 2172 = .ok (.iload 5, 2) := by decide +kernel
theorem dL_law__2174 : decode cL_law_ 2174 = .ok (.ifCond .ne 15, 3) := by decide +kernel
theorem dL_law__2177 : decode cL_law_ 2177 = .ok (.aload_n 3, 1) := by decide +kernel
theorem dL_law__2178 : decode cL_law_ 2178 = .ok (.iconst 0, 1) := by decide +kernel
theorem dL_law__2179 : decode cL_law_ 2179 = .ok (.laload, 1) := by decide +kernel
theorem dL_law__2180 : decode cL_law_ 2180 = .ok (.iload 6, 2) := by decide +kernel
theorem dL_law__2182 : decode cL_law_ 2182 = .ok (.i2l, 1) := by decide +kernel
theorem dL_law__2183 : decode cL_law_ 2183 = .ok (.lcmp, 1) := by decide +kernel
theorem dL_law__2184 : decode cL_law_ 2184 = .ok (.ifCond .eq 5, 3) := by decide +kernel
theorem dL_law__2187 : decode cL_law_ 2187 = .ok (.iconst 0, 1) := by decide +kernel
theorem dL_law__2188 : decode cL_law_ 2188 = .ok (.ireturn, 1) := by decide +kernel
theorem dL_law__2189 : decode cL_law_ 2189 = .ok (.goto 345, 3) := by decide +kernel
theorem dL_law__2192 : decode cL_law_ 2192 = .ok (.aload_n 1, 1) := by decide +kernel
theorem dL_law__2193 : decode cL_law_ 2193 = .ok (.aload_n 0, 1) := by decide +kernel
theorem dL_law__2194 : decode cL_law_ 2194 = .ok (.iload 4, 2) := by decide +kernel
theorem dL_law__2196 : decode cL_law_ 2196 = .ok (.iconst 1, 1) := by decide +kernel
theorem dL_law__2197 : decode cL_law_ 2197 = .ok (.iadd, 1) := by decide +kernel
theorem dL_law__2198 : decode cL_law_ 2198 = .ok (.iaload, 1) := by decide +kernel
theorem dL_law__2199 : decode cL_law_ 2199 = .ok (.aload_n 3, 1) := by decide +kernel
theorem dL_law__2200 : decode cL_law_ 2200 = .ok (.invokestatic 230, 3) := by decide +kernel
theorem dL_law__2203 : decode cL_law_ 2203 = .ok (.istore 5, 2) := by decide +kernel
theorem dL_law__2205 : decode cL_law_ 2205 = .ok (.aload_n 2, 1) := by decide +kernel
theorem dL_law__2206 : decode cL_law_ 2206 = .ok (.aload_n 0, 1) := by decide +kernel
theorem dL_law__2207 : decode cL_law_ 2207 = .ok (.iload 4, 2) := by decide +kernel
theorem dL_law__2209 : decode cL_law_ 2209 = .ok (.iconst 1, 1) := by decide +kernel
theorem dL_law__2210 : decode cL_law_ 2210 = .ok (.iadd, 1) := by decide +kernel
theorem dL_law__2211 : decode cL_law_ 2211 = .ok (.iaload, 1) := by decide +kernel
theorem dL_law__2212 : decode cL_law_ 2212 = .ok (.invokevirtual 232, 3) := by decide +kernel
theorem dL_law__2215 : decode cL_law_ 2215 = .ok (.istore 6, 2) := by decide +kernel
theorem dL_law__2217 : decode cL_law_ 2217 = .ok (.aload_n 2, 1) := by decide +kernel
theorem dL_law__2218 : decode cL_law_ 2218 = .ok (.invokevirtual 129, 3) := by decide +kernel
theorem dL_law__2221 : decode cL_law_ 2221 = .ok (.iload 5, 2) := by decide +kernel
theorem dL_law__2223 : decode cL_law_ 2223 = .ok (.if_icmp .eq 5, 3) := by decide +kernel
theorem dL_law__2226 : decode cL_law_ 2226 = .ok (.iconst 0, 1) := by decide +kernel
theorem dL_law__2227 : decode cL_law_ 2227 = .ok (.ireturn, 1) := by decide +kernel
theorem dL_law__2228 : decode cL_law_ 2228 = .ok (.iload 5, 2) := by decide +kernel
theorem dL_law__2230 : decode cL_law_ 2230 = .ok (.ifCond .ne 15, 3) := by decide +kernel
theorem dL_law__2233 : decode cL_law_ 2233 = .ok (.aload_n 3, 1) := by decide +kernel
theorem dL_law__2234 : decode cL_law_ 2234 = .ok (.iconst 0, 1) := by decide +kernel
theorem dL_law__2235 : decode cL_law_ 2235 = .ok (.laload, 1) := by decide +kernel
theorem dL_law__2236 : decode cL_law_ 2236 = .ok (.iload 6, 2) := by decide +kernel
theorem dL_law__2238 : decode cL_law_ 2238 = .ok (.i2l, 1) := by decide +kernel
theorem dL_law__2239 : decode cL_law_ 2239 = .ok (.lcmp, 1) := by decide +kernel
theorem dL_law__2240 : decode cL_law_ 2240 = .ok (.ifCond .eq 5, 3) := by decide +kernel
theorem dL_law__2243 : decode cL_law_ 2243 = .ok (.iconst 0, 1) := by decide +kernel
theorem dL_law__2244 : decode cL_law_ 2244 = .ok (.ireturn, 1) := by decide +kernel
theorem dL_law__2245 : decode cL_law_ 2245 = .ok (.goto 289, 3) := by decide +kernel
theorem dL_law__2248 : decode cL_law_ 2248 = .ok (.aload_n 1, 1) := by decide +kernel
theorem dL_law__2249 : decode cL_law_ 2249 = .ok (.aload_n 0, 1) := by decide +kernel
theorem dL_law__2250 : decode cL_law_ 2250 = .ok (.iload 4, 2) := by decide +kernel
theorem dL_law__2252 : decode cL_law_ 2252 = .ok (.iconst 1, 1) := by decide +kernel
theorem dL_law__2253 : decode cL_law_ 2253 = .ok (.iadd, 1) := by decide +kernel
theorem dL_law__2254 : decode cL_law_ 2254 = .ok (.iaload, 1) := by decide +kernel
theorem dL_law__2255 : decode cL_law_ 2255 = .ok (.aload_n 0, 1) := by decide +kernel
theorem dL_law__2256 : decode cL_law_ 2256 = .ok (.iload 4, 2) := by decide +kernel
theorem dL_law__2258 : decode cL_law_ 2258 = .ok (.iconst 2, 1) := by decide +kernel
theorem dL_law__2259 : decode cL_law_ 2259 = .ok (.iadd, 1) := by decide +kernel
theorem dL_law__2260 : decode cL_law_ 2260 = .ok (.iaload, 1) := by decide +kernel
theorem dL_law__2261 : decode cL_law_ 2261 = .ok (.aload_n 0, 1) := by decide +kernel
theorem dL_law__2262 : decode cL_law_ 2262 = .ok (.iload 4, 2) := by decide +kernel
theorem dL_law__2264 : decode cL_law_ 2264 = .ok (.iconst 3, 1) := by decide +kernel
theorem dL_law__2265 : decode cL_law_ 2265 = .ok (.iadd, 1) := by decide +kernel
theorem dL_law__2266 : decode cL_law_ 2266 = .ok (.iaload, 1) := by decide +kernel
theorem dL_law__2267 : decode cL_law_ 2267 = .ok (.aload_n 0, 1) := by decide +kernel
theorem dL_law__2268 : decode cL_law_ 2268 = .ok (.iload 4, 2) := by decide +kernel
theorem dL_law__2270 : decode cL_law_ 2270 = .ok (.iconst 4, 1) := by decide +kernel
theorem dL_law__2271 : decode cL_law_ 2271 = .ok (.iadd, 1) := by decide +kernel
theorem dL_law__2272 : decode cL_law_ 2272 = .ok (.iaload, 1) := by decide +kernel
theorem dL_law__2273 : decode cL_law_ 2273 = .ok (.aload_n 3, 1) := by decide +kernel
theorem dL_law__2274 : decode cL_law_ 2274 = .ok (.invokestatic 233, 3) := by decide +kernel
theorem dL_law__2277 : decode cL_law_ 2277 = .ok (.istore 5, 2) := by decide +kernel
theorem dL_law__2279 : decode cL_law_ 2279 = .ok (.aload_n 2, 1) := by decide +kernel
theorem dL_law__2280 : decode cL_law_ 2280 = .ok (.aload_n 0, 1) := by decide +kernel
theorem dL_law__2281 : decode cL_law_ 2281 = .ok (.iload 4, 2) := by decide +kernel
theorem dL_law__2283 : decode cL_law_ 2283 = .ok (.iconst 1, 1) := by decide +kernel
theorem dL_law__2284 : decode cL_law_ 2284 = .ok (.iadd, 1) := by decide +kernel
theorem dL_law__2285 : decode cL_law_ 2285 = .ok (.iaload, 1) := by decide +kernel
theorem dL_law__2286 : decode cL_law_ 2286 = .ok (.aload_n 0, 1) := by decide +kernel
theorem dL_law__2287 : decode cL_law_ 2287 = .ok (.iload 4, 2) := by decide +kernel
theorem dL_law__2289 : decode cL_law_ 2289 = .ok (.iconst 2, 1) := by decide +kernel
theorem dL_law__2290 : decode cL_law_ 2290 = .ok (.iadd, 1) := by decide +kernel
theorem dL_law__2291 : decode cL_law_ 2291 = .ok (.iaload, 1) := by decide +kernel
theorem dL_law__2292 : decode cL_law_ 2292 = .ok (.aload_n 0, 1) := by decide +kernel
theorem dL_law__2293 : decode cL_law_ 2293 = .ok (.iload 4, 2) := by decide +kernel
theorem dL_law__2295 : decode cL_law_ 2295 = .ok (.iconst 3, 1) := by decide +kernel
theorem dL_law__2296 : decode cL_law_ 2296 = .ok (.iadd, 1) := by decide +kernel
theorem dL_law__2297 : decode cL_law_ 2297 = .ok (.iaload, 1) := by decide +kernel
theorem dL_law__2298 : decode cL_law_ 2298 = .ok (.aload_n 0, 1) := by decide +kernel
theorem dL_law__2299 : decode cL_law_ 2299 = .ok (.iload 4, 2) := by decide +kernel
theorem dL_law__2301 : decode cL_law_ 2301 = .ok (.iconst 4, 1) := by decide +kernel
theorem dL_law__2302 : decode cL_law_ 2302 = .ok (.iadd, 1) := by decide +kernel
theorem dL_law__2303 : decode cL_law_ 2303 = .ok (.iaload, 1) := by decide +kernel
theorem dL_law__2304 : decode cL_law_ 2304 = .ok (.invokevirtual 235, 3) := by decide +kernel
theorem dL_law__2307 : decode cL_law_ 2307 = .ok (.istore 6, 2) := by decide +kernel
theorem dL_law__2309 : decode cL_law_ 2309 = .ok (.aload_n 2, 1) := by decide +kernel
theorem dL_law__2310 : decode cL_law_ 2310 = .ok (.invokevirtual 129, 3) := by decide +kernel
theorem dL_law__2313 : decode cL_law_ 2313 = .ok (.iload 5, 2) := by decide +kernel
theorem dL_law__2315 : decode cL_law_ 2315 = .ok (.if_icmp .eq 5, 3) := by decide +kernel
theorem dL_law__2318 : decode cL_law_ 2318 = .ok (.iconst 0, 1) := by decide +kernel
theorem dL_law__2319 : decode cL_law_ 2319 = .ok (.ireturn, 1) := by decide +kernel
theorem dL_law__2320 : decode cL_law_ 2320 = .ok (.iload 5, 2) := by decide +kernel
theorem dL_law__2322 : decode cL_law_ 2322 = .ok (.ifCond .ne 15, 3) := by decide +kernel
theorem dL_law__2325 : decode cL_law_ 2325 = .ok (.aload_n 3, 1) := by decide +kernel
theorem dL_law__2326 : decode cL_law_ 2326 = .ok (.iconst 0, 1) := by decide +kernel
theorem dL_law__2327 : decode cL_law_ 2327 = .ok (.laload, 1) := by decide +kernel
theorem dL_law__2328 : decode cL_law_ 2328 = .ok (.iload 6, 2) := by decide +kernel
theorem dL_law__2330 : decode cL_law_ 2330 = .ok (.i2l, 1) := by decide +kernel
theorem dL_law__2331 : decode cL_law_ 2331 = .ok (.lcmp, 1) := by decide +kernel
theorem dL_law__2332 : decode cL_law_ 2332 = .ok (.ifCond .eq 5, 3) := by decide +kernel
theorem dL_law__2335 : decode cL_law_ 2335 = .ok (.iconst 0, 1) := by decide +kernel
theorem dL_law__2336 : decode cL_law_ 2336 = .ok (.ireturn, 1) := by decide +kernel
theorem dL_law__2337 : decode cL_law_ 2337 = .ok (.goto 197, 3) := by decide +kernel
theorem dL_law__2340 : decode cL_law_ 2340 = .ok (.aload_n 1, 1) := by decide +kernel
theorem dL_law__2341 : decode cL_law_ 2341 = .ok (.aload_n 0, 1) := by decide +kernel
theorem dL_law__2342 : decode cL_law_ 2342 = .ok (.iload 4, 2) := by decide +kernel
theorem dL_law__2344 : decode cL_law_ 2344 = .ok (.iconst 1, 1) := by decide +kernel
theorem dL_law__2345 : decode cL_law_ 2345 = .ok (.iadd, 1) := by decide +kernel
theorem dL_law__2346 : decode cL_law_ 2346 = .ok (.iaload, 1) := by decide +kernel
theorem dL_law__2347 : decode cL_law_ 2347 = .ok (.aload_n 0, 1) := by decide +kernel
theorem dL_law__2348 : decode cL_law_ 2348 = .ok (.iload 4, 2) := by decide +kernel
theorem dL_law__2350 : decode cL_law_ 2350 = .ok (.iconst 2, 1) := by decide +kernel
theorem dL_law__2351 : decode cL_law_ 2351 = .ok (.iadd, 1) := by decide +kernel
theorem dL_law__2352 : decode cL_law_ 2352 = .ok (.iaload, 1) := by decide +kernel
theorem dL_law__2353 : decode cL_law_ 2353 = .ok (.aload_n 0, 1) := by decide +kernel
theorem dL_law__2354 : decode cL_law_ 2354 = .ok (.iload 4, 2) := by decide +kernel
theorem dL_law__2356 : decode cL_law_ 2356 = .ok (.iconst 3, 1) := by decide +kernel
theorem dL_law__2357 : decode cL_law_ 2357 = .ok (.iadd, 1) := by decide +kernel
theorem dL_law__2358 : decode cL_law_ 2358 = .ok (.iaload, 1) := by decide +kernel
theorem dL_law__2359 : decode cL_law_ 2359 = .ok (.aload_n 0, 1) := by decide +kernel
theorem dL_law__2360 : decode cL_law_ 2360 = .ok (.iload 4, 2) := by decide +kernel
theorem dL_law__2362 : decode cL_law_ 2362 = .ok (.iconst 4, 1) := by decide +kernel
theorem dL_law__2363 : decode cL_law_ 2363 = .ok (.iadd, 1) := by decide +kernel
theorem dL_law__2364 : decode cL_law_ 2364 = .ok (.iaload, 1) := by decide +kernel
theorem dL_law__2365 : decode cL_law_ 2365 = .ok (.aload_n 0, 1) := by decide +kernel
theorem dL_law__2366 : decode cL_law_ 2366 = .ok (.iload 4, 2) := by decide +kernel
theorem dL_law__2368 : decode cL_law_ 2368 = .ok (.iconst 5, 1) := by decide +kernel
theorem dL_law__2369 : decode cL_law_ 2369 = .ok (.iadd, 1) := by decide +kernel
theorem dL_law__2370 : decode cL_law_ 2370 = .ok (.iaload, 1) := by decide +kernel
theorem dL_law__2371 : decode cL_law_ 2371 = .ok (.aload_n 0, 1) := by decide +kernel
theorem dL_law__2372 : decode cL_law_ 2372 = .ok (.iload 4, 2) := by decide +kernel
theorem dL_law__2374 : decode cL_law_ 2374 = .ok (.bipush 6, 2) := by decide +kernel
theorem dL_law__2376 : decode cL_law_ 2376 = .ok (.iadd, 1) := by decide +kernel
theorem dL_law__2377 : decode cL_law_ 2377 = .ok (.iaload, 1) := by decide +kernel
theorem dL_law__2378 : decode cL_law_ 2378 = .ok (.aload_n 3, 1) := by decide +kernel
theorem dL_law__2379 : decode cL_law_ 2379 = .ok (.invokestatic 236, 3) := by decide +kernel
theorem dL_law__2382 : decode cL_law_ 2382 = .ok (.istore 5, 2) := by decide +kernel
theorem dL_law__2384 : decode cL_law_ 2384 = .ok (.aload_n 2, 1) := by decide +kernel
theorem dL_law__2385 : decode cL_law_ 2385 = .ok (.aload_n 0, 1) := by decide +kernel
theorem dL_law__2386 : decode cL_law_ 2386 = .ok (.iload 4, 2) := by decide +kernel
theorem dL_law__2388 : decode cL_law_ 2388 = .ok (.iconst 1, 1) := by decide +kernel
theorem dL_law__2389 : decode cL_law_ 2389 = .ok (.iadd, 1) := by decide +kernel
theorem dL_law__2390 : decode cL_law_ 2390 = .ok (.iaload, 1) := by decide +kernel
theorem dL_law__2391 : decode cL_law_ 2391 = .ok (.aload_n 0, 1) := by decide +kernel
theorem dL_law__2392 : decode cL_law_ 2392 = .ok (.iload 4, 2) := by decide +kernel
theorem dL_law__2394 : decode cL_law_ 2394 = .ok (.iconst 2, 1) := by decide +kernel
theorem dL_law__2395 : decode cL_law_ 2395 = .ok (.iadd, 1) := by decide +kernel
theorem dL_law__2396 : decode cL_law_ 2396 = .ok (.iaload, 1) := by decide +kernel
theorem dL_law__2397 : decode cL_law_ 2397 = .ok (.aload_n 0, 1) := by decide +kernel
theorem dL_law__2398 : decode cL_law_ 2398 = .ok (.iload 4, 2) := by decide +kernel
theorem dL_law__2400 : decode cL_law_ 2400 = .ok (.iconst 3, 1) := by decide +kernel
theorem dL_law__2401 : decode cL_law_ 2401 = .ok (.iadd, 1) := by decide +kernel
theorem dL_law__2402 : decode cL_law_ 2402 = .ok (.iaload, 1) := by decide +kernel
theorem dL_law__2403 : decode cL_law_ 2403 = .ok (.aload_n 0, 1) := by decide +kernel
theorem dL_law__2404 : decode cL_law_ 2404 = .ok (.iload 4, 2) := by decide +kernel
theorem dL_law__2406 : decode cL_law_ 2406 = .ok (.iconst 4, 1) := by decide +kernel
theorem dL_law__2407 : decode cL_law_ 2407 = .ok (.iadd, 1) := by decide +kernel
theorem dL_law__2408 : decode cL_law_ 2408 = .ok (.iaload, 1) := by decide +kernel
theorem dL_law__2409 : decode cL_law_ 2409 = .ok (.aload_n 0, 1) := by decide +kernel
theorem dL_law__2410 : decode cL_law_ 2410 = .ok (.iload 4, 2) := by decide +kernel
theorem dL_law__2412 : decode cL_law_ 2412 = .ok (.iconst 5, 1) := by decide +kernel
theorem dL_law__2413 : decode cL_law_ 2413 = .ok (.iadd, 1) := by decide +kernel
theorem dL_law__2414 : decode cL_law_ 2414 = .ok (.iaload, 1) := by decide +kernel
theorem dL_law__2415 : decode cL_law_ 2415 = .ok (.aload_n 0, 1) := by decide +kernel
theorem dL_law__2416 : decode cL_law_ 2416 = .ok (.iload 4, 2) := by decide +kernel
theorem dL_law__2418 : decode cL_law_ 2418 = .ok (.bipush 6, 2) := by decide +kernel
theorem dL_law__2420 : decode cL_law_ 2420 = .ok (.iadd, 1) := by decide +kernel
theorem dL_law__2421 : decode cL_law_ 2421 = .ok (.iaload, 1) := by decide +kernel
theorem dL_law__2422 : decode cL_law_ 2422 = .ok (.invokevirtual 239, 3) := by decide +kernel
theorem dL_law__2425 : decode cL_law_ 2425 = .ok (.istore 6, 2) := by decide +kernel
theorem dL_law__2427 : decode cL_law_ 2427 = .ok (.aload_n 2, 1) := by decide +kernel
theorem dL_law__2428 : decode cL_law_ 2428 = .ok (.invokevirtual 129, 3) := by decide +kernel
theorem dL_law__2431 : decode cL_law_ 2431 = .ok (.iload 5, 2) := by decide +kernel
theorem dL_law__2433 : decode cL_law_ 2433 = .ok (.if_icmp .eq 5, 3) := by decide +kernel
theorem dL_law__2436 : decode cL_law_ 2436 = .ok (.iconst 0, 1) := by decide +kernel
theorem dL_law__2437 : decode cL_law_ 2437 = .ok (.ireturn, 1) := by decide +kernel
theorem dL_law__2438 : decode cL_law_ 2438 = .ok (.iload 5, 2) := by decide +kernel
theorem dL_law__2440 : decode cL_law_ 2440 = .ok (.ifCond .ne 15, 3) := by decide +kernel
theorem dL_law__2443 : decode cL_law_ 2443 = .ok (.aload_n 3, 1) := by decide +kernel
theorem dL_law__2444 : decode cL_law_ 2444 = .ok (.iconst 0, 1) := by decide +kernel
theorem dL_law__2445 : decode cL_law_ 2445 = .ok (.laload, 1) := by decide +kernel
theorem dL_law__2446 : decode cL_law_ 2446 = .ok (.iload 6, 2) := by decide +kernel
theorem dL_law__2448 : decode cL_law_ 2448 = .ok (.i2l, 1) := by decide +kernel
theorem dL_law__2449 : decode cL_law_ 2449 = .ok (.lcmp, 1) := by decide +kernel
theorem dL_law__2450 : decode cL_law_ 2450 = .ok (.ifCond .eq 5, 3) := by decide +kernel
theorem dL_law__2453 : decode cL_law_ 2453 = .ok (.iconst 0, 1) := by decide +kernel
theorem dL_law__2454 : decode cL_law_ 2454 = .ok (.ireturn, 1) := by decide +kernel
theorem dL_law__2455 : decode cL_law_ 2455 = .ok (.goto 79, 3) := by decide +kernel
theorem dL_law__2458 : decode cL_law_ 2458 = .ok (.aload_n 1, 1) := by decide +kernel
theorem dL_law__2459 : decode cL_law_ 2459 = .ok (.invokevirtual 240, 3) := by decide +kernel
theorem dL_law__2462 : decode cL_law_ 2462 = .ok (.aload_n 2, 1) := by decide +kernel
theorem dL_law__2463 : decode cL_law_ 2463 = .ok (.invokevirtual 243, 3) := by decide +kernel
theorem dL_law__2466 : decode cL_law_ 2466 = .ok (.if_icmp .eq 68, 3) := by decide +kernel
theorem dL_law__2469 : decode cL_law_ 2469 = .ok (.iconst 0, 1) := by decide +kernel
theorem dL_law__2470 : decode cL_law_ 2470 = .ok (.ireturn, 1) := by decide +kernel
theorem dL_law__2471 : decode cL_law_ 2471 = .ok (.aload_n 1, 1) := by decide +kernel
theorem dL_law__2472 : decode cL_law_ 2472 = .ok (.invokevirtual 244, 3) := by decide +kernel
theorem dL_law__2475 : decode cL_law_ 2475 = .ok (.aload_n 2, 1) := by decide +kernel
theorem dL_law__2476 : decode cL_law_ 2476 = .ok (.invokevirtual 247, 3) := by decide +kernel
theorem dL_law__2479 : decode cL_law_ 2479 = .ok (.if_icmp .eq 55, 3) := by decide +kernel
theorem dL_law__2482 : decode cL_law_ 2482 = .ok (.iconst 0, 1) := by decide +kernel
theorem dL_law__2483 : decode cL_law_ 2483 = .ok (.ireturn, 1) := by decide +kernel
theorem dL_law__2484 : decode cL_law_ 2484 = .ok (.aload_n 1, 1) := by decide +kernel
theorem dL_law__2485 : decode cL_law_ 2485 = .ok (.aload_n 0, 1) := by decide +kernel
theorem dL_law__2486 : decode cL_law_ 2486 = .ok (.iload 4, 2) := by decide +kernel
theorem dL_law__2488 : decode cL_law_ 2488 = .ok (.iconst 1, 1) := by decide +kernel
theorem dL_law__2489 : decode cL_law_ 2489 = .ok (.iadd, 1) := by decide +kernel
theorem dL_law__2490 : decode cL_law_ 2490 = .ok (.iaload, 1) := by decide +kernel
theorem dL_law__2491 : decode cL_law_ 2491 = .ok (.invokevirtual 248, 3) := by decide +kernel
theorem dL_law__2494 : decode cL_law_ 2494 = .ok (.aload_n 2, 1) := by decide +kernel
theorem dL_law__2495 : decode cL_law_ 2495 = .ok (.aload_n 0, 1) := by decide +kernel
theorem dL_law__2496 : decode cL_law_ 2496 = .ok (.iload 4, 2) := by decide +kernel
theorem dL_law__2498 : decode cL_law_ 2498 = .ok (.iconst 1, 1) := by decide +kernel
theorem dL_law__2499 : decode cL_law_ 2499 = .ok (.iadd, 1) := by decide +kernel
theorem dL_law__2500 : decode cL_law_ 2500 = .ok (.iaload, 1) := by decide +kernel
theorem dL_law__2501 : decode cL_law_ 2501 = .ok (.invokevirtual 251, 3) := by decide +kernel
theorem dL_law__2504 : decode cL_law_ 2504 = .ok (.if_icmp .eq 30, 3) := by decide +kernel
theorem dL_law__2507 : decode cL_law_ 2507 = .ok (.iconst 0, 1) := by decide +kernel
theorem dL_law__2508 : decode cL_law_ 2508 = .ok (.ireturn, 1) := by decide +kernel
theorem dL_law__2509 : decode cL_law_ 2509 = .ok (.aload_n 1, 1) := by decide +kernel
theorem dL_law__2510 : decode cL_law_ 2510 = .ok (.aload_n 0, 1) := by decide +kernel
theorem dL_law__2511 : decode cL_law_ 2511 = .ok (.iload 4, 2) := by decide +kernel
theorem dL_law__2513 : decode cL_law_ 2513 = .ok (.iconst 1, 1) := by decide +kernel
theorem dL_law__2514 : decode cL_law_ 2514 = .ok (.iadd, 1) := by decide +kernel
theorem dL_law__2515 : decode cL_law_ 2515 = .ok (.iaload, 1) := by decide +kernel
theorem dL_law__2516 : decode cL_law_ 2516 = .ok (.invokevirtual 252, 3) := by decide +kernel
theorem dL_law__2519 : decode cL_law_ 2519 = .ok (.aload_n 2, 1) := by decide +kernel
theorem dL_law__2520 : decode cL_law_ 2520 = .ok (.aload_n 0, 1) := by decide +kernel
theorem dL_law__2521 : decode cL_law_ 2521 = .ok (.iload 4, 2) := by decide +kernel
theorem dL_law__2523 : decode cL_law_ 2523 = .ok (.iconst 1, 1) := by decide +kernel
theorem dL_law__2524 : decode cL_law_ 2524 = .ok (.iadd, 1) := by decide +kernel
theorem dL_law__2525 : decode cL_law_ 2525 = .ok (.iaload, 1) := by decide +kernel
theorem dL_law__2526 : decode cL_law_ 2526 = .ok (.invokevirtual 255, 3) := by decide +kernel
theorem dL_law__2529 : decode cL_law_ 2529 = .ok (.if_icmp .eq 5, 3) := by decide +kernel
theorem dL_law__2532 : decode cL_law_ 2532 = .ok (.iconst 0, 1) := by decide +kernel
theorem dL_law__2533 : decode cL_law_ 2533 = .ok (.ireturn, 1) := by decide +kernel
theorem dL_law__2534 : decode cL_law_ 2534 = .ok (.iinc 4 9, 3) := by decide +kernel
theorem dL_law__2537 : decode cL_law_ 2537 = .ok (.goto (-2514), 3) := by decide +kernel
theorem dL_law__2540 : decode cL_law_ 2540 = .ok (.iconst 1, 1) := by decide +kernel
theorem dL_law__2541 : decode cL_law_ 2541 = .ok (.ireturn, 1) := by decide +kernel
