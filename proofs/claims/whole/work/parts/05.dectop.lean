theorem dX10_init_0 : decode cX10_init 0 = .ok (.aload_n 0, 1) := by decide +kernel
theorem dX10_init_1 : decode cX10_init 1 = .ok (.invokespecial 1, 3) := by decide +kernel
theorem dX10_init_4 : decode cX10_init 4 = .ok (.aload_n 0, 1) := by decide +kernel
theorem dX10_init_5 : decode cX10_init 5 = .ok (.new 7, 3) := by decide +kernel
theorem dX10_init_8 : decode cX10_init 8 = .ok (.dup, 1) := by decide +kernel
theorem dX10_init_9 : decode cX10_init 9 = .ok (.invokespecial 9, 3) := by decide +kernel
theorem dX10_init_12 : decode cX10_init 12 = .ok (.putfield 10, 3) := by decide +kernel
theorem dX10_init_15 : decode cX10_init 15 = .ok (.aload_n 0, 1) := by decide +kernel
theorem dX10_init_16 : decode cX10_init 16 = .ok (.aload_n 0, 1) := by decide +kernel
theorem dX10_init_17 : decode cX10_init 17 = .ok (.getfield 10, 3) := by decide +kernel
theorem dX10_init_20 : decode cX10_init 20 = .ok (.getfield 16, 3) := by decide +kernel
theorem dX10_init_23 : decode cX10_init 23 = .ok (.getfield 20, 3) := by decide +kernel
theorem dX10_init_26 : decode cX10_init 26 = .ok (.putfield 26, 3) := by decide +kernel
theorem dX10_init_29 : decode cX10_init 29 = .ok (.aload_n 0, 1) := by decide +kernel
theorem dX10_init_30 : decode cX10_init 30 = .ok (.new 27, 3) := by decide +kernel
theorem dX10_init_33 : decode cX10_init 33 = .ok (.dup, 1) := by decide +kernel
theorem dX10_init_34 : decode cX10_init 34 = .ok (.invokespecial 29, 3) := by decide +kernel
theorem dX10_init_37 : decode cX10_init 37 = .ok (.putfield 30, 3) := by decide +kernel
theorem dX10_init_40 : decode cX10_init 40 = .ok (.aload_n 0, 1) := by decide +kernel
theorem dX10_init_41 : decode cX10_init 41 = .ok (.new 27, 3) := by decide +kernel
theorem dX10_init_44 : decode cX10_init 44 = .ok (.dup, 1) := by decide +kernel
theorem dX10_init_45 : decode cX10_init 45 = .ok (.invokespecial 29, 3) := by decide +kernel
theorem dX10_init_48 : decode cX10_init 48 = .ok (.putfield 34, 3) := by decide +kernel
theorem dX10_init_51 : decode cX10_init 51 = .ok (.aload_n 0, 1) := by decide +kernel
theorem dX10_init_52 : decode cX10_init 52 = .ok (.new 37, 3) := by decide +kernel
theorem dX10_init_55 : decode cX10_init 55 = .ok (.dup, 1) := by decide +kernel
theorem dX10_init_56 : decode cX10_init 56 = .ok (.invokespecial 39, 3) := by decide +kernel
theorem dX10_init_59 : decode cX10_init 59 = .ok (.putfield 40, 3) := by decide +kernel
theorem dX10_init_62 : decode cX10_init 62 = .ok (.aload_n 0, 1) := by decide +kernel
theorem dX10_init_63 : decode cX10_init 63 = .ok (.iconst (-1), 1) := by decide +kernel
theorem dX10_init_64 : decode cX10_init 64 = .ok (.putfield 44, 3) := by decide +kernel
theorem dX10_init_67 : decode cX10_init 67 = .ok (.return_, 1) := by decide +kernel
theorem dX10_feed_0 : decode cX10_feed 0 = .ok (.aload_n 0, 1) := by decide +kernel
theorem dX10_feed_1 : decode cX10_feed 1 = .ok (.getfield 26, 3) := by decide +kernel
theorem dX10_feed_4 : decode cX10_feed 4 = .ok (.getfield 48, 3) := by decide +kernel
theorem dX10_feed_7 : decode cX10_feed 7 = .ok (.sipush 1980, 3) := by decide +kernel
theorem dX10_feed_10 : decode cX10_feed 10 = .ok (.if_icmp .le 13, 3) := by decide +kernel
theorem dX10_feed_13 : decode cX10_feed 13 = .ok (.new 53, 3) := by decide +kernel
theorem dX10_feed_16 : decode cX10_feed 16 = .ok (.dup, 1) := by decide +kernel
theorem dX10_feed_17 : decode cX10_feed 17 = .ok (.ldc 55, 2) := by decide +kernel
theorem dX10_feed_19 : decode cX10_feed 19 = .ok (.invokespecial 57, 3) := by decide +kernel
theorem dX10_feed_22 : decode cX10_feed 22 = .ok (.athrow, 1) := by decide +kernel
theorem dX10_feed_23 : decode cX10_feed 23 = .ok (.aload_n 0, 1) := by decide +kernel
theorem dX10_feed_24 : decode cX10_feed 24 = .ok (.getfield 26, 3) := by decide +kernel
theorem dX10_feed_27 : decode cX10_feed 27 = .ok (.iload_n 1, 1) := by decide +kernel
theorem dX10_feed_28 : decode cX10_feed 28 = .ok (.invokevirtual 60, 3) := by decide +kernel
theorem dX10_feed_31 : decode cX10_feed 31 = .ok (.aload_n 0, 1) := by decide +kernel
theorem dX10_feed_32 : decode cX10_feed 32 = .ok (.getfield 26, 3) := by decide +kernel
theorem dX10_feed_35 : decode cX10_feed 35 = .ok (.iload_n 2, 1) := by decide +kernel
theorem dX10_feed_36 : decode cX10_feed 36 = .ok (.invokevirtual 60, 3) := by decide +kernel
theorem dX10_feed_39 : decode cX10_feed 39 = .ok (.aload_n 0, 1) := by decide +kernel
theorem dX10_feed_40 : decode cX10_feed 40 = .ok (.getfield 26, 3) := by decide +kernel
theorem dX10_feed_43 : decode cX10_feed 43 = .ok (.iload_n 3, 1) := by decide +kernel
theorem dX10_feed_44 : decode cX10_feed 44 = .ok (.invokevirtual 60, 3) := by decide +kernel
theorem dX10_feed_47 : decode cX10_feed 47 = .ok (.aload_n 0, 1) := by decide +kernel
theorem dX10_feed_48 : decode cX10_feed 48 = .ok (.getfield 26, 3) := by decide +kernel
theorem dX10_feed_51 : decode cX10_feed 51 = .ok (.iload 4, 2) := by decide +kernel
theorem dX10_feed_53 : decode cX10_feed 53 = .ok (.invokevirtual 60, 3) := by decide +kernel
theorem dX10_feed_56 : decode cX10_feed 56 = .ok (.aload_n 0, 1) := by decide +kernel
theorem dX10_feed_57 : decode cX10_feed 57 = .ok (.getfield 26, 3) := by decide +kernel
theorem dX10_feed_60 : decode cX10_feed 60 = .ok (.iload 5, 2) := by decide +kernel
theorem dX10_feed_62 : decode cX10_feed 62 = .ok (.invokevirtual 60, 3) := by decide +kernel
theorem dX10_feed_65 : decode cX10_feed 65 = .ok (.aload_n 0, 1) := by decide +kernel
theorem dX10_feed_66 : decode cX10_feed 66 = .ok (.getfield 26, 3) := by decide +kernel
theorem dX10_feed_69 : decode cX10_feed 69 = .ok (.getfield 48, 3) := by decide +kernel
theorem dX10_feed_72 : decode cX10_feed 72 = .ok (.ireturn, 1) := by decide +kernel
theorem dX10_trim_0 : decode cX10_trim 0 = .ok (.iload_n 1, 1) := by decide +kernel
theorem dX10_trim_1 : decode cX10_trim 1 = .ok (.ifCond .lt 14, 3) := by decide +kernel
theorem dX10_trim_4 : decode cX10_trim 4 = .ok (.iload_n 1, 1) := by decide +kernel
theorem dX10_trim_5 : decode cX10_trim 5 = .ok (.aload_n 0, 1) := by decide +kernel
theorem dX10_trim_6 : decode cX10_trim 6 = .ok (.getfield 26, 3) := by decide +kernel
theorem dX10_trim_9 : decode cX10_trim 9 = .ok (.getfield 48, 3) := by decide +kernel
theorem dX10_trim_12 : decode cX10_trim 12 = .ok (.if_icmp .le 13, 3) := by decide +kernel
theorem dX10_trim_15 : decode cX10_trim 15 = .ok (.new 64, 3) := by decide +kernel
theorem dX10_trim_18 : decode cX10_trim 18 = .ok (.dup, 1) := by decide +kernel
theorem dX10_trim_19 : decode cX10_trim 19 = .ok (.ldc 66, 2) := by decide +kernel
theorem dX10_trim_21 : decode cX10_trim 21 = .ok (.invokespecial 68, 3) := by decide +kernel
theorem dX10_trim_24 : decode cX10_trim 24 = .ok (.athrow, 1) := by decide +kernel
theorem dX10_trim_25 : decode cX10_trim 25 = .ok (.aload_n 0, 1) := by decide +kernel
theorem dX10_trim_26 : decode cX10_trim 26 = .ok (.getfield 26, 3) := by decide +kernel
theorem dX10_trim_29 : decode cX10_trim 29 = .ok (.iload_n 1, 1) := by decide +kernel
theorem dX10_trim_30 : decode cX10_trim 30 = .ok (.putfield 48, 3) := by decide +kernel
theorem dX10_trim_33 : decode cX10_trim 33 = .ok (.iload_n 1, 1) := by decide +kernel
theorem dX10_trim_34 : decode cX10_trim 34 = .ok (.ireturn, 1) := by decide +kernel
theorem dX10_teach_0 : decode cX10_teach 0 = .ok (.aload_n 0, 1) := by decide +kernel
theorem dX10_teach_1 : decode cX10_teach 1 = .ok (.getfield 10, 3) := by decide +kernel
theorem dX10_teach_4 : decode cX10_teach 4 = .ok (.invokevirtual 69, 3) := by decide +kernel
theorem dX10_teach_7 : decode cX10_teach 7 = .ok (.istore_n 1, 1) := by decide +kernel
theorem dX10_teach_8 : decode cX10_teach 8 = .ok (.aload_n 0, 1) := by decide +kernel
theorem dX10_teach_9 : decode cX10_teach 9 = .ok (.aload_n 0, 1) := by decide +kernel
theorem dX10_teach_10 : decode cX10_teach 10 = .ok (.getfield 10, 3) := by decide +kernel
theorem dX10_teach_13 : decode cX10_teach 13 = .ok (.getfield 73, 3) := by decide +kernel
theorem dX10_teach_16 : decode cX10_teach 16 = .ok (.putfield 44, 3) := by decide +kernel
theorem dX10_teach_19 : decode cX10_teach 19 = .ok (.aload_n 0, 1) := by decide +kernel
theorem dX10_teach_20 : decode cX10_teach 20 = .ok (.getfield 26, 3) := by decide +kernel
theorem dX10_teach_23 : decode cX10_teach 23 = .ok (.iconst 0, 1) := by decide +kernel
theorem dX10_teach_24 : decode cX10_teach 24 = .ok (.putfield 48, 3) := by decide +kernel
theorem dX10_teach_27 : decode cX10_teach 27 = .ok (.iload_n 1, 1) := by decide +kernel
theorem dX10_teach_28 : decode cX10_teach 28 = .ok (.ifCond .ne 25, 3) := by decide +kernel
theorem dX10_teach_31 : decode cX10_teach 31 = .ok (.aload_n 0, 1) := by decide +kernel
theorem dX10_teach_32 : decode cX10_teach 32 = .ok (.aload_n 0, 1) := by decide +kernel
theorem dX10_teach_33 : decode cX10_teach 33 = .ok (.getfield 10, 3) := by decide +kernel
theorem dX10_teach_36 : decode cX10_teach 36 = .ok (.aload_n 0, 1) := by decide +kernel
theorem dX10_teach_37 : decode cX10_teach 37 = .ok (.getfield 40, 3) := by decide +kernel
theorem dX10_teach_40 : decode cX10_teach 40 = .ok (.invokevirtual 74, 3) := by decide +kernel
theorem dX10_teach_43 : decode cX10_teach 43 = .ok (.putfield 40, 3) := by decide +kernel
theorem dX10_teach_46 : decode cX10_teach 46 = .ok (.aload_n 0, 1) := by decide +kernel
theorem dX10_teach_47 : decode cX10_teach 47 = .ok (.getfield 30, 3) := by decide +kernel
theorem dX10_teach_50 : decode cX10_teach 50 = .ok (.invokevirtual 78, 3) := by decide +kernel
theorem dX10_teach_53 : decode cX10_teach 53 = .ok (.iload_n 1, 1) := by decide +kernel
theorem dX10_teach_54 : decode cX10_teach 54 = .ok (.ireturn, 1) := by decide +kernel
theorem dX10_errorAt_0 : decode cX10_errorAt 0 = .ok (.aload_n 0, 1) := by decide +kernel
theorem dX10_errorAt_1 : decode cX10_errorAt 1 = .ok (.getfield 44, 3) := by decide +kernel
theorem dX10_errorAt_4 : decode cX10_errorAt 4 = .ok (.ireturn, 1) := by decide +kernel
theorem dX10_length_0 : decode cX10_length 0 = .ok (.aload_n 0, 1) := by decide +kernel
theorem dX10_length_1 : decode cX10_length 1 = .ok (.getfield 30, 3) := by decide +kernel
theorem dX10_length_4 : decode cX10_length 4 = .ok (.getfield 81, 3) := by decide +kernel
theorem dX10_length_7 : decode cX10_length 7 = .ok (.getfield 85, 3) := by decide +kernel
theorem dX10_length_10 : decode cX10_length 10 = .ok (.ireturn, 1) := by decide +kernel
theorem dX10_insults_0 : decode cX10_insults 0 = .ok (.aload_n 0, 1) := by decide +kernel
theorem dX10_insults_1 : decode cX10_insults 1 = .ok (.getfield 40, 3) := by decide +kernel
theorem dX10_insults_4 : decode cX10_insults 4 = .ok (.getfield 90, 3) := by decide +kernel
theorem dX10_insults_7 : decode cX10_insults 7 = .ok (.ireturn, 1) := by decide +kernel
theorem dX10_day_0 : decode cX10_day 0 = .ok (.aload_n 0, 1) := by decide +kernel
theorem dX10_day_1 : decode cX10_day 1 = .ok (.getfield 30, 3) := by decide +kernel
theorem dX10_day_4 : decode cX10_day 4 = .ok (.getfield 93, 3) := by decide +kernel
theorem dX10_day_7 : decode cX10_day 7 = .ok (.ireturn, 1) := by decide +kernel
theorem dX10_ordersCarriedOut_0 : decode cX10_ordersCarriedOut 0 = .ok (.aload_n 0, 1) := by decide +kernel
theorem dX10_ordersCarriedOut_1 : decode cX10_ordersCarriedOut 1 = .ok (.getfield 30, 3) := by decide +kernel
theorem dX10_ordersCarriedOut_4 : decode cX10_ordersCarriedOut 4 = .ok (.getfield 96, 3) := by decide +kernel
theorem dX10_ordersCarriedOut_7 : decode cX10_ordersCarriedOut 7 = .ok (.ireturn, 1) := by decide +kernel
theorem dX10_kinds_0 : decode cX10_kinds 0 = .ok (.aload_n 0, 1) := by decide +kernel
theorem dX10_kinds_1 : decode cX10_kinds 1 = .ok (.getfield 30, 3) := by decide +kernel
theorem dX10_kinds_4 : decode cX10_kinds 4 = .ok (.getfield 81, 3) := by decide +kernel
theorem dX10_kinds_7 : decode cX10_kinds 7 = .ok (.invokevirtual 99, 3) := by decide +kernel
theorem dX10_kinds_10 : decode cX10_kinds 10 = .ok (.ireturn, 1) := by decide +kernel
theorem dX10_letterAt_0 : decode cX10_letterAt 0 = .ok (.aload_n 0, 1) := by decide +kernel
theorem dX10_letterAt_1 : decode cX10_letterAt 1 = .ok (.iload_n 1, 1) := by decide +kernel
theorem dX10_letterAt_2 : decode cX10_letterAt 2 = .ok (.invokevirtual 102, 3) := by decide +kernel
theorem dX10_letterAt_5 : decode cX10_letterAt 5 = .ok (.aload_n 0, 1) := by decide +kernel
theorem dX10_letterAt_6 : decode cX10_letterAt 6 = .ok (.getfield 30, 3) := by decide +kernel
theorem dX10_letterAt_9 : decode cX10_letterAt 9 = .ok (.getfield 81, 3) := by decide +kernel
theorem dX10_letterAt_12 : decode cX10_letterAt 12 = .ok (.getfield 105, 3) := by decide +kernel
theorem dX10_letterAt_15 : decode cX10_letterAt 15 = .ok (.iload_n 1, 1) := by decide +kernel
theorem dX10_letterAt_16 : decode cX10_letterAt 16 = .ok (.iaload, 1) := by decide +kernel
theorem dX10_letterAt_17 : decode cX10_letterAt 17 = .ok (.ireturn, 1) := by decide +kernel
theorem dX10_rankOf_0 : decode cX10_rankOf 0 = .ok (.aload_n 0, 1) := by decide +kernel
theorem dX10_rankOf_1 : decode cX10_rankOf 1 = .ok (.iload_n 1, 1) := by decide +kernel
theorem dX10_rankOf_2 : decode cX10_rankOf 2 = .ok (.invokevirtual 102, 3) := by decide +kernel
theorem dX10_rankOf_5 : decode cX10_rankOf 5 = .ok (.aload_n 0, 1) := by decide +kernel
theorem dX10_rankOf_6 : decode cX10_rankOf 6 = .ok (.getfield 30, 3) := by decide +kernel
theorem dX10_rankOf_9 : decode cX10_rankOf 9 = .ok (.getfield 81, 3) := by decide +kernel
theorem dX10_rankOf_12 : decode cX10_rankOf 12 = .ok (.iload_n 1, 1) := by decide +kernel
theorem dX10_rankOf_13 : decode cX10_rankOf 13 = .ok (.invokevirtual 109, 3) := by decide +kernel
theorem dX10_rankOf_16 : decode cX10_rankOf 16 = .ok (.ireturn, 1) := by decide +kernel
theorem dX10_placeAt_0 : decode cX10_placeAt 0 = .ok (.aload_n 0, 1) := by decide +kernel
theorem dX10_placeAt_1 : decode cX10_placeAt 1 = .ok (.iload_n 1, 1) := by decide +kernel
theorem dX10_placeAt_2 : decode cX10_placeAt 2 = .ok (.invokevirtual 102, 3) := by decide +kernel
theorem dX10_placeAt_5 : decode cX10_placeAt 5 = .ok (.aload_n 0, 1) := by decide +kernel
theorem dX10_placeAt_6 : decode cX10_placeAt 6 = .ok (.getfield 30, 3) := by decide +kernel
theorem dX10_placeAt_9 : decode cX10_placeAt 9 = .ok (.getfield 81, 3) := by decide +kernel
theorem dX10_placeAt_12 : decode cX10_placeAt 12 = .ok (.iload_n 1, 1) := by decide +kernel
theorem dX10_placeAt_13 : decode cX10_placeAt 13 = .ok (.invokevirtual 113, 3) := by decide +kernel
theorem dX10_placeAt_16 : decode cX10_placeAt 16 = .ok (.ireturn, 1) := by decide +kernel
theorem dX10_sharedAt_0 : decode cX10_sharedAt 0 = .ok (.aload_n 0, 1) := by decide +kernel
theorem dX10_sharedAt_1 : decode cX10_sharedAt 1 = .ok (.iload_n 1, 1) := by decide +kernel
theorem dX10_sharedAt_2 : decode cX10_sharedAt 2 = .ok (.invokevirtual 102, 3) := by decide +kernel
theorem dX10_sharedAt_5 : decode cX10_sharedAt 5 = .ok (.aload_n 0, 1) := by decide +kernel
theorem dX10_sharedAt_6 : decode cX10_sharedAt 6 = .ok (.getfield 30, 3) := by decide +kernel
theorem dX10_sharedAt_9 : decode cX10_sharedAt 9 = .ok (.getfield 81, 3) := by decide +kernel
theorem dX10_sharedAt_12 : decode cX10_sharedAt 12 = .ok (.iload_n 1, 1) := by decide +kernel
theorem dX10_sharedAt_13 : decode cX10_sharedAt 13 = .ok (.invokevirtual 116, 3) := by decide +kernel
theorem dX10_sharedAt_16 : decode cX10_sharedAt 16 = .ok (.ireturn, 1) := by decide +kernel
theorem dX10_shared_0 : decode cX10_shared 0 = .ok (.aload_n 0, 1) := by decide +kernel
theorem dX10_shared_1 : decode cX10_shared 1 = .ok (.iload_n 1, 1) := by decide +kernel
theorem dX10_shared_2 : decode cX10_shared 2 = .ok (.invokevirtual 102, 3) := by decide +kernel
theorem dX10_shared_5 : decode cX10_shared 5 = .ok (.aload_n 0, 1) := by decide +kernel
theorem dX10_shared_6 : decode cX10_shared 6 = .ok (.iload_n 2, 1) := by decide +kernel
theorem dX10_shared_7 : decode cX10_shared 7 = .ok (.invokevirtual 102, 3) := by decide +kernel
theorem dX10_shared_10 : decode cX10_shared 10 = .ok (.aload_n 0, 1) := by decide +kernel
theorem dX10_shared_11 : decode cX10_shared 11 = .ok (.getfield 30, 3) := by decide +kernel
theorem dX10_shared_14 : decode cX10_shared 14 = .ok (.getfield 81, 3) := by decide +kernel
theorem dX10_shared_17 : decode cX10_shared 17 = .ok (.iload_n 1, 1) := by decide +kernel
theorem dX10_shared_18 : decode cX10_shared 18 = .ok (.iload_n 2, 1) := by decide +kernel
theorem dX10_shared_19 : decode cX10_shared 19 = .ok (.invokevirtual 119, 3) := by decide +kernel
theorem dX10_shared_22 : decode cX10_shared 22 = .ok (.ireturn, 1) := by decide +kernel
theorem dX10_isAhead_0 : decode cX10_isAhead 0 = .ok (.aload_n 0, 1) := by decide +kernel
theorem dX10_isAhead_1 : decode cX10_isAhead 1 = .ok (.iload_n 1, 1) := by decide +kernel
theorem dX10_isAhead_2 : decode cX10_isAhead 2 = .ok (.invokevirtual 102, 3) := by decide +kernel
theorem dX10_isAhead_5 : decode cX10_isAhead 5 = .ok (.aload_n 0, 1) := by decide +kernel
theorem dX10_isAhead_6 : decode cX10_isAhead 6 = .ok (.iload_n 2, 1) := by decide +kernel
theorem dX10_isAhead_7 : decode cX10_isAhead 7 = .ok (.invokevirtual 102, 3) := by decide +kernel
theorem dX10_isAhead_10 : decode cX10_isAhead 10 = .ok (.aload_n 0, 1) := by decide +kernel
theorem dX10_isAhead_11 : decode cX10_isAhead 11 = .ok (.getfield 30, 3) := by decide +kernel
theorem dX10_isAhead_14 : decode cX10_isAhead 14 = .ok (.getfield 81, 3) := by decide +kernel
theorem dX10_isAhead_17 : decode cX10_isAhead 17 = .ok (.iload_n 1, 1) := by decide +kernel
theorem dX10_isAhead_18 : decode cX10_isAhead 18 = .ok (.invokevirtual 109, 3) := by decide +kernel
theorem dX10_isAhead_21 : decode cX10_isAhead 21 = .ok (.aload_n 0, 1) := by decide +kernel
theorem dX10_isAhead_22 : decode cX10_isAhead 22 = .ok (.getfield 30, 3) := by decide +kernel
theorem dX10_isAhead_25 : decode cX10_isAhead 25 = .ok (.getfield 81, 3) := by decide +kernel
theorem dX10_isAhead_28 : decode cX10_isAhead 28 = .ok (.iload_n 2, 1) := by decide +kernel
theorem dX10_isAhead_29 : decode cX10_isAhead 29 = .ok (.invokevirtual 109, 3) := by decide +kernel
theorem dX10_isAhead_32 : decode cX10_isAhead 32 = .ok (.if_icmp .ge 7, 3) := by decide +kernel
theorem dX10_isAhead_35 : decode cX10_isAhead 35 = .ok (.iconst 1, 1) := by decide +kernel
theorem dX10_isAhead_36 : decode cX10_isAhead 36 = .ok (.goto 4, 3) := by decide +kernel
theorem dX10_isAhead_39 : decode cX10_isAhead 39 = .ok (.iconst 0, 1) := by decide +kernel
theorem dX10_isAhead_40 : decode cX10_isAhead 40 = .ok (.ireturn, 1) := by decide +kernel
theorem dX10_longestRepeat_0 : decode cX10_longestRepeat 0 = .ok (.aload_n 0, 1) := by decide +kernel
theorem dX10_longestRepeat_1 : decode cX10_longestRepeat 1 = .ok (.getfield 30, 3) := by decide +kernel
theorem dX10_longestRepeat_4 : decode cX10_longestRepeat 4 = .ok (.getfield 81, 3) := by decide +kernel
theorem dX10_longestRepeat_7 : decode cX10_longestRepeat 7 = .ok (.invokevirtual 123, 3) := by decide +kernel
theorem dX10_longestRepeat_10 : decode cX10_longestRepeat 10 = .ok (.ireturn, 1) := by decide +kernel
theorem dX10_repeatPlace_0 : decode cX10_repeatPlace 0 = .ok (.aload_n 0, 1) := by decide +kernel
theorem dX10_repeatPlace_1 : decode cX10_repeatPlace 1 = .ok (.getfield 30, 3) := by decide +kernel
theorem dX10_repeatPlace_4 : decode cX10_repeatPlace 4 = .ok (.getfield 81, 3) := by decide +kernel
theorem dX10_repeatPlace_7 : decode cX10_repeatPlace 7 = .ok (.invokevirtual 126, 3) := by decide +kernel
theorem dX10_repeatPlace_10 : decode cX10_repeatPlace 10 = .ok (.ireturn, 1) := by decide +kernel
theorem dX10_repeatCount_0 : decode cX10_repeatCount 0 = .ok (.aload_n 0, 1) := by decide +kernel
theorem dX10_repeatCount_1 : decode cX10_repeatCount 1 = .ok (.getfield 30, 3) := by decide +kernel
theorem dX10_repeatCount_4 : decode cX10_repeatCount 4 = .ok (.getfield 81, 3) := by decide +kernel
theorem dX10_repeatCount_7 : decode cX10_repeatCount 7 = .ok (.invokevirtual 129, 3) := by decide +kernel
theorem dX10_repeatCount_10 : decode cX10_repeatCount 10 = .ok (.ireturn, 1) := by decide +kernel
theorem dX10_kindsOf_0 : decode cX10_kindsOf 0 = .ok (.aload_n 0, 1) := by decide +kernel
theorem dX10_kindsOf_1 : decode cX10_kindsOf 1 = .ok (.iload_n 1, 1) := by decide +kernel
theorem dX10_kindsOf_2 : decode cX10_kindsOf 2 = .ok (.invokevirtual 132, 3) := by decide +kernel
theorem dX10_kindsOf_5 : decode cX10_kindsOf 5 = .ok (.aload_n 0, 1) := by decide +kernel
theorem dX10_kindsOf_6 : decode cX10_kindsOf 6 = .ok (.getfield 30, 3) := by decide +kernel
theorem dX10_kindsOf_9 : decode cX10_kindsOf 9 = .ok (.getfield 81, 3) := by decide +kernel
theorem dX10_kindsOf_12 : decode cX10_kindsOf 12 = .ok (.iload_n 1, 1) := by decide +kernel
theorem dX10_kindsOf_13 : decode cX10_kindsOf 13 = .ok (.invokevirtual 135, 3) := by decide +kernel
theorem dX10_kindsOf_16 : decode cX10_kindsOf 16 = .ok (.ireturn, 1) := by decide +kernel
theorem dX10_repeatedOf_0 : decode cX10_repeatedOf 0 = .ok (.aload_n 0, 1) := by decide +kernel
theorem dX10_repeatedOf_1 : decode cX10_repeatedOf 1 = .ok (.iload_n 1, 1) := by decide +kernel
theorem dX10_repeatedOf_2 : decode cX10_repeatedOf 2 = .ok (.invokevirtual 132, 3) := by decide +kernel
theorem dX10_repeatedOf_5 : decode cX10_repeatedOf 5 = .ok (.aload_n 0, 1) := by decide +kernel
theorem dX10_repeatedOf_6 : decode cX10_repeatedOf 6 = .ok (.getfield 30, 3) := by decide +kernel
theorem dX10_repeatedOf_9 : decode cX10_repeatedOf 9 = .ok (.getfield 81, 3) := by decide +kernel
theorem dX10_repeatedOf_12 : decode cX10_repeatedOf 12 = .ok (.iload_n 1, 1) := by decide +kernel
theorem dX10_repeatedOf_13 : decode cX10_repeatedOf 13 = .ok (.invokevirtual 138, 3) := by decide +kernel
theorem dX10_repeatedOf_16 : decode cX10_repeatedOf 16 = .ok (.ireturn, 1) := by decide +kernel
theorem dX10_mockedAtEnd_0 : decode cX10_mockedAtEnd 0 = .ok (.aload_n 0, 1) := by decide +kernel
theorem dX10_mockedAtEnd_1 : decode cX10_mockedAtEnd 1 = .ok (.getfield 30, 3) := by decide +kernel
theorem dX10_mockedAtEnd_4 : decode cX10_mockedAtEnd 4 = .ok (.getfield 81, 3) := by decide +kernel
theorem dX10_mockedAtEnd_7 : decode cX10_mockedAtEnd 7 = .ok (.invokevirtual 141, 3) := by decide +kernel
theorem dX10_mockedAtEnd_10 : decode cX10_mockedAtEnd 10 = .ok (.ireturn, 1) := by decide +kernel
theorem dX10_lettersOf_0 : decode cX10_lettersOf 0 = .ok (.aload_n 0, 1) := by decide +kernel
theorem dX10_lettersOf_1 : decode cX10_lettersOf 1 = .ok (.iload_n 1, 1) := by decide +kernel
theorem dX10_lettersOf_2 : decode cX10_lettersOf 2 = .ok (.invokevirtual 144, 3) := by decide +kernel
theorem dX10_lettersOf_5 : decode cX10_lettersOf 5 = .ok (.aload_n 0, 1) := by decide +kernel
theorem dX10_lettersOf_6 : decode cX10_lettersOf 6 = .ok (.getfield 40, 3) := by decide +kernel
theorem dX10_lettersOf_9 : decode cX10_lettersOf 9 = .ok (.iload_n 1, 1) := by decide +kernel
theorem dX10_lettersOf_10 : decode cX10_lettersOf 10 = .ok (.invokevirtual 147, 3) := by decide +kernel
theorem dX10_lettersOf_13 : decode cX10_lettersOf 13 = .ok (.getfield 151, 3) := by decide +kernel
theorem dX10_lettersOf_16 : decode cX10_lettersOf 16 = .ok (.ireturn, 1) := by decide +kernel
theorem dX10_countOf_0 : decode cX10_countOf 0 = .ok (.aload_n 0, 1) := by decide +kernel
theorem dX10_countOf_1 : decode cX10_countOf 1 = .ok (.iload_n 1, 1) := by decide +kernel
theorem dX10_countOf_2 : decode cX10_countOf 2 = .ok (.invokevirtual 144, 3) := by decide +kernel
theorem dX10_countOf_5 : decode cX10_countOf 5 = .ok (.aload_n 0, 1) := by decide +kernel
theorem dX10_countOf_6 : decode cX10_countOf 6 = .ok (.getfield 30, 3) := by decide +kernel
theorem dX10_countOf_9 : decode cX10_countOf 9 = .ok (.getfield 81, 3) := by decide +kernel
theorem dX10_countOf_12 : decode cX10_countOf 12 = .ok (.aload_n 0, 1) := by decide +kernel
theorem dX10_countOf_13 : decode cX10_countOf 13 = .ok (.getfield 40, 3) := by decide +kernel
theorem dX10_countOf_16 : decode cX10_countOf 16 = .ok (.iload_n 1, 1) := by decide +kernel
theorem dX10_countOf_17 : decode cX10_countOf 17 = .ok (.invokevirtual 147, 3) := by decide +kernel
theorem dX10_countOf_20 : decode cX10_countOf 20 = .ok (.invokevirtual 154, 3) := by decide +kernel
theorem dX10_countOf_23 : decode cX10_countOf 23 = .ok (.ireturn, 1) := by decide +kernel
theorem dX10_firstOf_0 : decode cX10_firstOf 0 = .ok (.aload_n 0, 1) := by decide +kernel
theorem dX10_firstOf_1 : decode cX10_firstOf 1 = .ok (.iload_n 1, 1) := by decide +kernel
theorem dX10_firstOf_2 : decode cX10_firstOf 2 = .ok (.invokevirtual 144, 3) := by decide +kernel
theorem dX10_firstOf_5 : decode cX10_firstOf 5 = .ok (.aload_n 0, 1) := by decide +kernel
theorem dX10_firstOf_6 : decode cX10_firstOf 6 = .ok (.getfield 30, 3) := by decide +kernel
theorem dX10_firstOf_9 : decode cX10_firstOf 9 = .ok (.getfield 81, 3) := by decide +kernel
theorem dX10_firstOf_12 : decode cX10_firstOf 12 = .ok (.aload_n 0, 1) := by decide +kernel
theorem dX10_firstOf_13 : decode cX10_firstOf 13 = .ok (.getfield 40, 3) := by decide +kernel
theorem dX10_firstOf_16 : decode cX10_firstOf 16 = .ok (.iload_n 1, 1) := by decide +kernel
theorem dX10_firstOf_17 : decode cX10_firstOf 17 = .ok (.invokevirtual 147, 3) := by decide +kernel
theorem dX10_firstOf_20 : decode cX10_firstOf 20 = .ok (.invokevirtual 158, 3) := by decide +kernel
theorem dX10_firstOf_23 : decode cX10_firstOf 23 = .ok (.ireturn, 1) := by decide +kernel
theorem dX10_lastOf_0 : decode cX10_lastOf 0 = .ok (.aload_n 0, 1) := by decide +kernel
theorem dX10_lastOf_1 : decode cX10_lastOf 1 = .ok (.iload_n 1, 1) := by decide +kernel
theorem dX10_lastOf_2 : decode cX10_lastOf 2 = .ok (.invokevirtual 144, 3) := by decide +kernel
theorem dX10_lastOf_5 : decode cX10_lastOf 5 = .ok (.aload_n 0, 1) := by decide +kernel
theorem dX10_lastOf_6 : decode cX10_lastOf 6 = .ok (.getfield 30, 3) := by decide +kernel
theorem dX10_lastOf_9 : decode cX10_lastOf 9 = .ok (.getfield 81, 3) := by decide +kernel
theorem dX10_lastOf_12 : decode cX10_lastOf 12 = .ok (.aload_n 0, 1) := by decide +kernel
theorem dX10_lastOf_13 : decode cX10_lastOf 13 = .ok (.getfield 40, 3) := by decide +kernel
theorem dX10_lastOf_16 : decode cX10_lastOf 16 = .ok (.iload_n 1, 1) := by decide +kernel
theorem dX10_lastOf_17 : decode cX10_lastOf 17 = .ok (.invokevirtual 147, 3) := by decide +kernel
theorem dX10_lastOf_20 : decode cX10_lastOf 20 = .ok (.invokevirtual 161, 3) := by decide +kernel
theorem dX10_lastOf_23 : decode cX10_lastOf 23 = .ok (.ireturn, 1) := by decide +kernel
theorem dX10_stepsTo_0 : decode cX10_stepsTo 0 = .ok (.aload_n 0, 1) := by decide +kernel
theorem dX10_stepsTo_1 : decode cX10_stepsTo 1 = .ok (.iload_n 1, 1) := by decide +kernel
theorem dX10_stepsTo_2 : decode cX10_stepsTo 2 = .ok (.invokevirtual 144, 3) := by decide +kernel
theorem dX10_stepsTo_5 : decode cX10_stepsTo 5 = .ok (.aload_n 0, 1) := by decide +kernel
theorem dX10_stepsTo_6 : decode cX10_stepsTo 6 = .ok (.getfield 30, 3) := by decide +kernel
theorem dX10_stepsTo_9 : decode cX10_stepsTo 9 = .ok (.getfield 81, 3) := by decide +kernel
theorem dX10_stepsTo_12 : decode cX10_stepsTo 12 = .ok (.aload_n 0, 1) := by decide +kernel
theorem dX10_stepsTo_13 : decode cX10_stepsTo 13 = .ok (.getfield 40, 3) := by decide +kernel
theorem dX10_stepsTo_16 : decode cX10_stepsTo 16 = .ok (.iload_n 1, 1) := by decide +kernel
theorem dX10_stepsTo_17 : decode cX10_stepsTo 17 = .ok (.invokevirtual 147, 3) := by decide +kernel
theorem dX10_stepsTo_20 : decode cX10_stepsTo 20 = .ok (.invokevirtual 164, 3) := by decide +kernel
theorem dX10_stepsTo_23 : decode cX10_stepsTo 23 = .ok (.ireturn, 1) := by decide +kernel
theorem dX10_mostSaid_0 : decode cX10_mostSaid 0 = .ok (.iconst (-1), 1) := by decide +kernel
theorem dX10_mostSaid_1 : decode cX10_mostSaid 1 = .ok (.istore_n 1, 1) := by decide +kernel
theorem dX10_mostSaid_2 : decode cX10_mostSaid 2 = .ok (.iconst (-1), 1) := by decide +kernel
theorem dX10_mostSaid_3 : decode cX10_mostSaid 3 = .ok (.istore_n 2, 1) := by decide +kernel
theorem dX10_mostSaid_4 : decode cX10_mostSaid 4 = .ok (.iconst 0, 1) := by decide +kernel
theorem dX10_mostSaid_5 : decode cX10_mostSaid 5 = .ok (.istore_n 3, 1) := by decide +kernel
theorem dX10_mostSaid_6 : decode cX10_mostSaid 6 = .ok (.iload_n 3, 1) := by decide +kernel
theorem dX10_mostSaid_7 : decode cX10_mostSaid 7 = .ok (.aload_n 0, 1) := by decide +kernel
theorem dX10_mostSaid_8 : decode cX10_mostSaid 8 = .ok (.getfield 40, 3) := by decide +kernel
theorem dX10_mostSaid_11 : decode cX10_mostSaid 11 = .ok (.getfield 90, 3) := by decide +kernel
theorem dX10_mostSaid_14 : decode cX10_mostSaid 14 = .ok (.if_icmp .ge 40, 3) := by decide +kernel
theorem dX10_mostSaid_17 : decode cX10_mostSaid 17 = .ok (.aload_n 0, 1) := by decide +kernel
theorem dX10_mostSaid_18 : decode cX10_mostSaid 18 = .ok (.getfield 30, 3) := by decide +kernel
theorem dX10_mostSaid_21 : decode cX10_mostSaid 21 = .ok (.getfield 81, 3) := by decide +kernel
theorem dX10_mostSaid_24 : decode cX10_mostSaid 24 = .ok (.aload_n 0, 1) := by decide +kernel
theorem dX10_mostSaid_25 : decode cX10_mostSaid 25 = .ok (.getfield 40, 3) := by decide +kernel
theorem dX10_mostSaid_28 : decode cX10_mostSaid 28 = .ok (.iload_n 3, 1) := by decide +kernel
theorem dX10_mostSaid_29 : decode cX10_mostSaid 29 = .ok (.invokevirtual 147, 3) := by decide +kernel
theorem dX10_mostSaid_32 : decode cX10_mostSaid 32 = .ok (.invokevirtual 154, 3) := by decide +kernel
theorem dX10_mostSaid_35 : decode cX10_mostSaid 35 = .ok (.istore 4, 2) := by decide +kernel
theorem dX10_mostSaid_37 : decode cX10_mostSaid 37 = .ok (.iload 4, 2) := by decide +kernel
theorem dX10_mostSaid_39 : decode cX10_mostSaid 39 = .ok (.iload_n 2, 1) := by decide +kernel
theorem dX10_mostSaid_40 : decode cX10_mostSaid 40 = .ok (.if_icmp .le 8, 3) := by decide +kernel
theorem dX10_mostSaid_43 : decode cX10_mostSaid 43 = .ok (.iload 4, 2) := by decide +kernel
theorem dX10_mostSaid_45 : decode cX10_mostSaid 45 = .ok (.istore_n 2, 1) := by decide +kernel
theorem dX10_mostSaid_46 : decode cX10_mostSaid 46 = .ok (.iload_n 3, 1) := by decide +kernel
theorem dX10_mostSaid_47 : decode cX10_mostSaid 47 = .ok (.istore_n 1, 1) := by decide +kernel
theorem dX10_mostSaid_48 : decode cX10_mostSaid 48 = .ok (.iinc 3 1, 3) := by decide +kernel
theorem dX10_mostSaid_51 : decode cX10_mostSaid 51 = .ok (.goto (-45), 3) := by decide +kernel
theorem dX10_mostSaid_54 : decode cX10_mostSaid 54 = .ok (.iload_n 1, 1) := by decide +kernel
theorem dX10_mostSaid_55 : decode cX10_mostSaid 55 = .ok (.ireturn, 1) := by decide +kernel
theorem dX10_hear_0 : decode cX10_hear 0 = .ok (.iload_n 1, 1) := by decide +kernel
theorem dX10_hear_1 : decode cX10_hear 1 = .ok (.iconst 1, 1) := by decide +kernel
theorem dX10_hear_2 : decode cX10_hear 2 = .ok (.if_icmp .lt 9, 3) := by decide +kernel
theorem dX10_hear_5 : decode cX10_hear 5 = .ok (.iload_n 1, 1) := by decide +kernel
theorem dX10_hear_6 : decode cX10_hear 6 = .ok (.bipush 26, 2) := by decide +kernel
theorem dX10_hear_8 : decode cX10_hear 8 = .ok (.if_icmp .le 13, 3) := by decide +kernel
theorem dX10_hear_11 : decode cX10_hear 11 = .ok (.new 64, 3) := by decide +kernel
theorem dX10_hear_14 : decode cX10_hear 14 = .ok (.dup, 1) := by decide +kernel
theorem dX10_hear_15 : decode cX10_hear 15 = .ok (.ldc 167, 2) := by decide +kernel
theorem dX10_hear_17 : decode cX10_hear 17 = .ok (.invokespecial 68, 3) := by decide +kernel
theorem dX10_hear_20 : decode cX10_hear 20 = .ok (.athrow, 1) := by decide +kernel
theorem dX10_hear_21 : decode cX10_hear 21 = .ok (.aload_n 0, 1) := by decide +kernel
theorem dX10_hear_22 : decode cX10_hear 22 = .ok (.getfield 30, 3) := by decide +kernel
theorem dX10_hear_25 : decode cX10_hear 25 = .ok (.getfield 81, 3) := by decide +kernel
theorem dX10_hear_28 : decode cX10_hear 28 = .ok (.iload_n 1, 1) := by decide +kernel
theorem dX10_hear_29 : decode cX10_hear 29 = .ok (.invokevirtual 169, 3) := by decide +kernel
theorem dX10_hear_32 : decode cX10_hear 32 = .ok (.aload_n 0, 1) := by decide +kernel
theorem dX10_hear_33 : decode cX10_hear 33 = .ok (.getfield 30, 3) := by decide +kernel
theorem dX10_hear_36 : decode cX10_hear 36 = .ok (.getfield 81, 3) := by decide +kernel
theorem dX10_hear_39 : decode cX10_hear 39 = .ok (.getfield 85, 3) := by decide +kernel
theorem dX10_hear_42 : decode cX10_hear 42 = .ok (.ireturn, 1) := by decide +kernel
theorem dX10_mock_0 : decode cX10_mock 0 = .ok (.aload_n 0, 1) := by decide +kernel
theorem dX10_mock_1 : decode cX10_mock 1 = .ok (.iload_n 1, 1) := by decide +kernel
theorem dX10_mock_2 : decode cX10_mock 2 = .ok (.invokevirtual 144, 3) := by decide +kernel
theorem dX10_mock_5 : decode cX10_mock 5 = .ok (.aload_n 0, 1) := by decide +kernel
theorem dX10_mock_6 : decode cX10_mock 6 = .ok (.getfield 30, 3) := by decide +kernel
theorem dX10_mock_9 : decode cX10_mock 9 = .ok (.getfield 81, 3) := by decide +kernel
theorem dX10_mock_12 : decode cX10_mock 12 = .ok (.aload_n 0, 1) := by decide +kernel
theorem dX10_mock_13 : decode cX10_mock 13 = .ok (.getfield 40, 3) := by decide +kernel
theorem dX10_mock_16 : decode cX10_mock 16 = .ok (.iload_n 1, 1) := by decide +kernel
theorem dX10_mock_17 : decode cX10_mock 17 = .ok (.invokevirtual 147, 3) := by decide +kernel
theorem dX10_mock_20 : decode cX10_mock 20 = .ok (.invokevirtual 172, 3) := by decide +kernel
theorem dX10_mock_23 : decode cX10_mock 23 = .ok (.aload_n 0, 1) := by decide +kernel
theorem dX10_mock_24 : decode cX10_mock 24 = .ok (.getfield 30, 3) := by decide +kernel
theorem dX10_mock_27 : decode cX10_mock 27 = .ok (.getfield 81, 3) := by decide +kernel
theorem dX10_mock_30 : decode cX10_mock 30 = .ok (.getfield 85, 3) := by decide +kernel
theorem dX10_mock_33 : decode cX10_mock 33 = .ok (.ireturn, 1) := by decide +kernel
theorem dX10_echo_0 : decode cX10_echo 0 = .ok (.aload_n 0, 1) := by decide +kernel
theorem dX10_echo_1 : decode cX10_echo 1 = .ok (.iload_n 1, 1) := by decide +kernel
theorem dX10_echo_2 : decode cX10_echo 2 = .ok (.invokevirtual 176, 3) := by decide +kernel
theorem dX10_echo_5 : decode cX10_echo 5 = .ok (.aload_n 0, 1) := by decide +kernel
theorem dX10_echo_6 : decode cX10_echo 6 = .ok (.getfield 30, 3) := by decide +kernel
theorem dX10_echo_9 : decode cX10_echo 9 = .ok (.getfield 81, 3) := by decide +kernel
theorem dX10_echo_12 : decode cX10_echo 12 = .ok (.iload_n 1, 1) := by decide +kernel
theorem dX10_echo_13 : decode cX10_echo 13 = .ok (.invokevirtual 179, 3) := by decide +kernel
theorem dX10_echo_16 : decode cX10_echo 16 = .ok (.aload_n 0, 1) := by decide +kernel
theorem dX10_echo_17 : decode cX10_echo 17 = .ok (.getfield 30, 3) := by decide +kernel
theorem dX10_echo_20 : decode cX10_echo 20 = .ok (.getfield 81, 3) := by decide +kernel
theorem dX10_echo_23 : decode cX10_echo 23 = .ok (.getfield 85, 3) := by decide +kernel
theorem dX10_echo_26 : decode cX10_echo 26 = .ok (.ireturn, 1) := by decide +kernel
theorem dX10_forget_0 : decode cX10_forget 0 = .ok (.aload_n 0, 1) := by decide +kernel
theorem dX10_forget_1 : decode cX10_forget 1 = .ok (.iload_n 1, 1) := by decide +kernel
theorem dX10_forget_2 : decode cX10_forget 2 = .ok (.invokevirtual 176, 3) := by decide +kernel
theorem dX10_forget_5 : decode cX10_forget 5 = .ok (.aload_n 0, 1) := by decide +kernel
theorem dX10_forget_6 : decode cX10_forget 6 = .ok (.getfield 30, 3) := by decide +kernel
theorem dX10_forget_9 : decode cX10_forget 9 = .ok (.getfield 81, 3) := by decide +kernel
theorem dX10_forget_12 : decode cX10_forget 12 = .ok (.iload_n 1, 1) := by decide +kernel
theorem dX10_forget_13 : decode cX10_forget 13 = .ok (.invokevirtual 182, 3) := by decide +kernel
theorem dX10_forget_16 : decode cX10_forget 16 = .ok (.aload_n 0, 1) := by decide +kernel
theorem dX10_forget_17 : decode cX10_forget 17 = .ok (.getfield 30, 3) := by decide +kernel
theorem dX10_forget_20 : decode cX10_forget 20 = .ok (.getfield 81, 3) := by decide +kernel
theorem dX10_forget_23 : decode cX10_forget 23 = .ok (.getfield 85, 3) := by decide +kernel
theorem dX10_forget_26 : decode cX10_forget 26 = .ok (.ireturn, 1) := by decide +kernel
theorem dX10_passDays_0 : decode cX10_passDays 0 = .ok (.aload_n 0, 1) := by decide +kernel
theorem dX10_passDays_1 : decode cX10_passDays 1 = .ok (.iload_n 1, 1) := by decide +kernel
theorem dX10_passDays_2 : decode cX10_passDays 2 = .ok (.invokevirtual 185, 3) := by decide +kernel
theorem dX10_passDays_5 : decode cX10_passDays 5 = .ok (.aload_n 0, 1) := by decide +kernel
theorem dX10_passDays_6 : decode cX10_passDays 6 = .ok (.getfield 30, 3) := by decide +kernel
theorem dX10_passDays_9 : decode cX10_passDays 9 = .ok (.getfield 96, 3) := by decide +kernel
theorem dX10_passDays_12 : decode cX10_passDays 12 = .ok (.istore_n 2, 1) := by decide +kernel
theorem dX10_passDays_13 : decode cX10_passDays 13 = .ok (.aload_n 0, 1) := by decide +kernel
theorem dX10_passDays_14 : decode cX10_passDays 14 = .ok (.getfield 30, 3) := by decide +kernel
theorem dX10_passDays_17 : decode cX10_passDays 17 = .ok (.iload_n 1, 1) := by decide +kernel
theorem dX10_passDays_18 : decode cX10_passDays 18 = .ok (.aload_n 0, 1) := by decide +kernel
theorem dX10_passDays_19 : decode cX10_passDays 19 = .ok (.getfield 40, 3) := by decide +kernel
theorem dX10_passDays_22 : decode cX10_passDays 22 = .ok (.invokevirtual 188, 3) := by decide +kernel
theorem dX10_passDays_25 : decode cX10_passDays 25 = .ok (.aload_n 0, 1) := by decide +kernel
theorem dX10_passDays_26 : decode cX10_passDays 26 = .ok (.getfield 30, 3) := by decide +kernel
theorem dX10_passDays_29 : decode cX10_passDays 29 = .ok (.getfield 96, 3) := by decide +kernel
theorem dX10_passDays_32 : decode cX10_passDays 32 = .ok (.iload_n 2, 1) := by decide +kernel
theorem dX10_passDays_33 : decode cX10_passDays 33 = .ok (.isub, 1) := by decide +kernel
theorem dX10_passDays_34 : decode cX10_passDays 34 = .ok (.ireturn, 1) := by decide +kernel
theorem dX10_repeatAfter_0 : decode cX10_repeatAfter 0 = .ok (.aload_n 0, 1) := by decide +kernel
theorem dX10_repeatAfter_1 : decode cX10_repeatAfter 1 = .ok (.iload_n 1, 1) := by decide +kernel
theorem dX10_repeatAfter_2 : decode cX10_repeatAfter 2 = .ok (.invokevirtual 185, 3) := by decide +kernel
theorem dX10_repeatAfter_5 : decode cX10_repeatAfter 5 = .ok (.aload_n 0, 1) := by decide +kernel
theorem dX10_repeatAfter_6 : decode cX10_repeatAfter 6 = .ok (.getfield 34, 3) := by decide +kernel
theorem dX10_repeatAfter_9 : decode cX10_repeatAfter 9 = .ok (.aload_n 0, 1) := by decide +kernel
theorem dX10_repeatAfter_10 : decode cX10_repeatAfter 10 = .ok (.getfield 30, 3) := by decide +kernel
theorem dX10_repeatAfter_13 : decode cX10_repeatAfter 13 = .ok (.invokevirtual 192, 3) := by decide +kernel
theorem dX10_repeatAfter_16 : decode cX10_repeatAfter 16 = .ok (.aload_n 0, 1) := by decide +kernel
theorem dX10_repeatAfter_17 : decode cX10_repeatAfter 17 = .ok (.getfield 34, 3) := by decide +kernel
theorem dX10_repeatAfter_20 : decode cX10_repeatAfter 20 = .ok (.iload_n 1, 1) := by decide +kernel
theorem dX10_repeatAfter_21 : decode cX10_repeatAfter 21 = .ok (.aload_n 0, 1) := by decide +kernel
theorem dX10_repeatAfter_22 : decode cX10_repeatAfter 22 = .ok (.getfield 40, 3) := by decide +kernel
theorem dX10_repeatAfter_25 : decode cX10_repeatAfter 25 = .ok (.invokevirtual 188, 3) := by decide +kernel
theorem dX10_repeatAfter_28 : decode cX10_repeatAfter 28 = .ok (.aload_n 0, 1) := by decide +kernel
theorem dX10_repeatAfter_29 : decode cX10_repeatAfter 29 = .ok (.getfield 34, 3) := by decide +kernel
theorem dX10_repeatAfter_32 : decode cX10_repeatAfter 32 = .ok (.getfield 81, 3) := by decide +kernel
theorem dX10_repeatAfter_35 : decode cX10_repeatAfter 35 = .ok (.invokevirtual 123, 3) := by decide +kernel
theorem dX10_repeatAfter_38 : decode cX10_repeatAfter 38 = .ok (.ireturn, 1) := by decide +kernel
theorem dX10_daysUntilKnown_0 : decode cX10_daysUntilKnown 0 = .ok (.aload_n 0, 1) := by decide +kernel
theorem dX10_daysUntilKnown_1 : decode cX10_daysUntilKnown 1 = .ok (.iload_n 1, 1) := by decide +kernel
theorem dX10_daysUntilKnown_2 : decode cX10_daysUntilKnown 2 = .ok (.invokevirtual 144, 3) := by decide +kernel
theorem dX10_daysUntilKnown_5 : decode cX10_daysUntilKnown 5 = .ok (.aload_n 0, 1) := by decide +kernel
theorem dX10_daysUntilKnown_6 : decode cX10_daysUntilKnown 6 = .ok (.getfield 40, 3) := by decide +kernel
theorem dX10_daysUntilKnown_9 : decode cX10_daysUntilKnown 9 = .ok (.iload_n 1, 1) := by decide +kernel
theorem dX10_daysUntilKnown_10 : decode cX10_daysUntilKnown 10 = .ok (.invokevirtual 147, 3) := by decide +kernel
theorem dX10_daysUntilKnown_13 : decode cX10_daysUntilKnown 13 = .ok (.astore_n 2, 1) := by decide +kernel
theorem dX10_daysUntilKnown_14 : decode cX10_daysUntilKnown 14 = .ok (.aload_n 0, 1) := by decide +kernel
theorem dX10_daysUntilKnown_15 : decode cX10_daysUntilKnown 15 = .ok (.getfield 34, 3) := by decide +kernel
theorem dX10_daysUntilKnown_18 : decode cX10_daysUntilKnown 18 = .ok (.aload_n 0, 1) := by decide +kernel
theorem dX10_daysUntilKnown_19 : decode cX10_daysUntilKnown 19 = .ok (.getfield 30, 3) := by decide +kernel
theorem dX10_daysUntilKnown_22 : decode cX10_daysUntilKnown 22 = .ok (.invokevirtual 192, 3) := by decide +kernel
theorem dX10_daysUntilKnown_25 : decode cX10_daysUntilKnown 25 = .ok (.iconst 0, 1) := by decide +kernel
theorem dX10_daysUntilKnown_26 : decode cX10_daysUntilKnown 26 = .ok (.istore_n 3, 1) := by decide +kernel
theorem dX10_daysUntilKnown_27 : decode cX10_daysUntilKnown 27 = .ok (.iload_n 3, 1) := by decide +kernel
theorem dX10_daysUntilKnown_28 : decode cX10_daysUntilKnown 28 = .ok (.bipush 30, 2) := by decide +kernel
theorem dX10_daysUntilKnown_30 : decode cX10_daysUntilKnown 30 = .ok (.if_icmp .gt 37, 3) := by decide +kernel
theorem dX10_daysUntilKnown_33 : decode cX10_daysUntilKnown 33 = .ok (.aload_n 0, 1) := by decide +kernel
theorem dX10_daysUntilKnown_34 : decode cX10_daysUntilKnown 34 = .ok (.getfield 34, 3) := by decide +kernel
theorem dX10_daysUntilKnown_37 : decode cX10_daysUntilKnown 37 = .ok (.getfield 81, 3) := by decide +kernel
theorem dX10_daysUntilKnown_40 : decode cX10_daysUntilKnown 40 = .ok (.aload_n 2, 1) := by decide +kernel
theorem dX10_daysUntilKnown_41 : decode cX10_daysUntilKnown 41 = .ok (.invokevirtual 196, 3) := by decide +kernel
theorem dX10_daysUntilKnown_44 : decode cX10_daysUntilKnown 44 = .ok (.ifCond .eq 5, 3) := by decide +kernel
theorem dX10_daysUntilKnown_47 : decode cX10_daysUntilKnown 47 = .ok (.iload_n 3, 1) := by decide +kernel
theorem dX10_daysUntilKnown_48 : decode cX10_daysUntilKnown 48 = .ok (.ireturn, 1) := by decide +kernel
theorem dX10_daysUntilKnown_49 : decode cX10_daysUntilKnown 49 = .ok (.aload_n 0, 1) := by decide +kernel
theorem dX10_daysUntilKnown_50 : decode cX10_daysUntilKnown 50 = .ok (.getfield 34, 3) := by decide +kernel
theorem dX10_daysUntilKnown_53 : decode cX10_daysUntilKnown 53 = .ok (.iconst 1, 1) := by decide +kernel
theorem dX10_daysUntilKnown_54 : decode cX10_daysUntilKnown 54 = .ok (.aload_n 0, 1) := by decide +kernel
theorem dX10_daysUntilKnown_55 : decode cX10_daysUntilKnown 55 = .ok (.getfield 40, 3) := by decide +kernel
theorem dX10_daysUntilKnown_58 : decode cX10_daysUntilKnown 58 = .ok (.invokevirtual 188, 3) := by decide +kernel
theorem dX10_daysUntilKnown_61 : decode cX10_daysUntilKnown 61 = .ok (.iinc 3 1, 3) := by decide +kernel
theorem dX10_daysUntilKnown_64 : decode cX10_daysUntilKnown 64 = .ok (.goto (-37), 3) := by decide +kernel
theorem dX10_daysUntilKnown_67 : decode cX10_daysUntilKnown 67 = .ok (.iconst (-1), 1) := by decide +kernel
theorem dX10_daysUntilKnown_68 : decode cX10_daysUntilKnown 68 = .ok (.ireturn, 1) := by decide +kernel
theorem dX10_bestLetter_0 : decode cX10_bestLetter 0 = .ok (.iconst 1, 1) := by decide +kernel
theorem dX10_bestLetter_1 : decode cX10_bestLetter 1 = .ok (.istore_n 1, 1) := by decide +kernel
theorem dX10_bestLetter_2 : decode cX10_bestLetter 2 = .ok (.iconst (-1), 1) := by decide +kernel
theorem dX10_bestLetter_3 : decode cX10_bestLetter 3 = .ok (.istore_n 2, 1) := by decide +kernel
theorem dX10_bestLetter_4 : decode cX10_bestLetter 4 = .ok (.iconst 1, 1) := by decide +kernel
theorem dX10_bestLetter_5 : decode cX10_bestLetter 5 = .ok (.istore_n 3, 1) := by decide +kernel
theorem dX10_bestLetter_6 : decode cX10_bestLetter 6 = .ok (.iload_n 3, 1) := by decide +kernel
theorem dX10_bestLetter_7 : decode cX10_bestLetter 7 = .ok (.bipush 26, 2) := by decide +kernel
theorem dX10_bestLetter_9 : decode cX10_bestLetter 9 = .ok (.if_icmp .gt 60, 3) := by decide +kernel
theorem dX10_bestLetter_12 : decode cX10_bestLetter 12 = .ok (.aload_n 0, 1) := by decide +kernel
theorem dX10_bestLetter_13 : decode cX10_bestLetter 13 = .ok (.getfield 34, 3) := by decide +kernel
theorem dX10_bestLetter_16 : decode cX10_bestLetter 16 = .ok (.getfield 81, 3) := by decide +kernel
theorem dX10_bestLetter_19 : decode cX10_bestLetter 19 = .ok (.aload_n 0, 1) := by decide +kernel
theorem dX10_bestLetter_20 : decode cX10_bestLetter 20 = .ok (.getfield 30, 3) := by decide +kernel
theorem dX10_bestLetter_23 : decode cX10_bestLetter 23 = .ok (.getfield 81, 3) := by decide +kernel
theorem dX10_bestLetter_26 : decode cX10_bestLetter 26 = .ok (.invokevirtual 200, 3) := by decide +kernel
theorem dX10_bestLetter_29 : decode cX10_bestLetter 29 = .ok (.aload_n 0, 1) := by decide +kernel
theorem dX10_bestLetter_30 : decode cX10_bestLetter 30 = .ok (.getfield 34, 3) := by decide +kernel
theorem dX10_bestLetter_33 : decode cX10_bestLetter 33 = .ok (.getfield 81, 3) := by decide +kernel
theorem dX10_bestLetter_36 : decode cX10_bestLetter 36 = .ok (.iload_n 3, 1) := by decide +kernel
theorem dX10_bestLetter_37 : decode cX10_bestLetter 37 = .ok (.invokevirtual 169, 3) := by decide +kernel
theorem dX10_bestLetter_40 : decode cX10_bestLetter 40 = .ok (.aload_n 0, 1) := by decide +kernel
theorem dX10_bestLetter_41 : decode cX10_bestLetter 41 = .ok (.getfield 34, 3) := by decide +kernel
theorem dX10_bestLetter_44 : decode cX10_bestLetter 44 = .ok (.getfield 81, 3) := by decide +kernel
theorem dX10_bestLetter_47 : decode cX10_bestLetter 47 = .ok (.invokevirtual 123, 3) := by decide +kernel
theorem dX10_bestLetter_50 : decode cX10_bestLetter 50 = .ok (.istore 4, 2) := by decide +kernel
theorem dX10_bestLetter_52 : decode cX10_bestLetter 52 = .ok (.iload 4, 2) := by decide +kernel
theorem dX10_bestLetter_54 : decode cX10_bestLetter 54 = .ok (.iload_n 2, 1) := by decide +kernel
theorem dX10_bestLetter_55 : decode cX10_bestLetter 55 = .ok (.if_icmp .le 8, 3) := by decide +kernel
theorem dX10_bestLetter_58 : decode cX10_bestLetter 58 = .ok (.iload 4, 2) := by decide +kernel
theorem dX10_bestLetter_60 : decode cX10_bestLetter 60 = .ok (.istore_n 2, 1) := by decide +kernel
theorem dX10_bestLetter_61 : decode cX10_bestLetter 61 = .ok (.iload_n 3, 1) := by decide +kernel
theorem dX10_bestLetter_62 : decode cX10_bestLetter 62 = .ok (.istore_n 1, 1) := by decide +kernel
theorem dX10_bestLetter_63 : decode cX10_bestLetter 63 = .ok (.iinc 3 1, 3) := by decide +kernel
theorem dX10_bestLetter_66 : decode cX10_bestLetter 66 = .ok (.goto (-60), 3) := by decide +kernel
theorem dX10_bestLetter_69 : decode cX10_bestLetter 69 = .ok (.iload_n 1, 1) := by decide +kernel
theorem dX10_bestLetter_70 : decode cX10_bestLetter 70 = .ok (.ireturn, 1) := by decide +kernel
theorem dX10_meanShared_0 : decode cX10_meanShared 0 = .ok (.aload_n 0, 1) := by decide +kernel
theorem dX10_meanShared_1 : decode cX10_meanShared 1 = .ok (.getfield 30, 3) := by decide +kernel
theorem dX10_meanShared_4 : decode cX10_meanShared 4 = .ok (.getfield 81, 3) := by decide +kernel
theorem dX10_meanShared_7 : decode cX10_meanShared 7 = .ok (.getfield 85, 3) := by decide +kernel
theorem dX10_meanShared_10 : decode cX10_meanShared 10 = .ok (.istore_n 1, 1) := by decide +kernel
theorem dX10_meanShared_11 : decode cX10_meanShared 11 = .ok (.iload_n 1, 1) := by decide +kernel
theorem dX10_meanShared_12 : decode cX10_meanShared 12 = .ok (.ifCond .ne 5, 3) := by decide +kernel
theorem dX10_meanShared_15 : decode cX10_meanShared 15 = .ok (.dconst 0, 1) := by decide +kernel
theorem dX10_meanShared_16 : decode cX10_meanShared 16 = .ok (.dreturn, 1) := by decide +kernel
theorem dX10_meanShared_17 : decode cX10_meanShared 17 = .ok (.aload_n 0, 1) := by decide +kernel
theorem dX10_meanShared_18 : decode cX10_meanShared 18 = .ok (.getfield 30, 3) := by decide +kernel
theorem dX10_meanShared_21 : decode cX10_meanShared 21 = .ok (.getfield 81, 3) := by decide +kernel
theorem dX10_meanShared_24 : decode cX10_meanShared 24 = .ok (.invokevirtual 203, 3) := by decide +kernel
theorem dX10_meanShared_27 : decode cX10_meanShared 27 = .ok (.i2d, 1) := by decide +kernel
theorem dX10_meanShared_28 : decode cX10_meanShared 28 = .ok (.iload_n 1, 1) := by decide +kernel
theorem dX10_meanShared_29 : decode cX10_meanShared 29 = .ok (.i2d, 1) := by decide +kernel
theorem dX10_meanShared_30 : decode cX10_meanShared 30 = .ok (.ddiv, 1) := by decide +kernel
theorem dX10_meanShared_31 : decode cX10_meanShared 31 = .ok (.dreturn, 1) := by decide +kernel
theorem dX10_digest_0 : decode cX10_digest 0 = .ok (.ldc2_w 206, 3) := by decide +kernel
theorem dX10_digest_3 : decode cX10_digest 3 = .ok (.lstore_n 1, 1) := by decide +kernel
theorem dX10_digest_4 : decode cX10_digest 4 = .ok (.lload_n 1, 1) := by decide +kernel
theorem dX10_digest_5 : decode cX10_digest 5 = .ok (.aload_n 0, 1) := by decide +kernel
theorem dX10_digest_6 : decode cX10_digest 6 = .ok (.invokevirtual 208, 3) := by decide +kernel
theorem dX10_digest_9 : decode cX10_digest 9 = .ok (.invokestatic 211, 3) := by decide +kernel
theorem dX10_digest_12 : decode cX10_digest 12 = .ok (.lstore_n 1, 1) := by decide +kernel
theorem dX10_digest_13 : decode cX10_digest 13 = .ok (.lload_n 1, 1) := by decide +kernel
theorem dX10_digest_14 : decode cX10_digest 14 = .ok (.aload_n 0, 1) := by decide +kernel
theorem dX10_digest_15 : decode cX10_digest 15 = .ok (.invokevirtual 215, 3) := by decide +kernel
theorem dX10_digest_18 : decode cX10_digest 18 = .ok (.invokestatic 211, 3) := by decide +kernel
theorem dX10_digest_21 : decode cX10_digest 21 = .ok (.lstore_n 1, 1) := by decide +kernel
theorem dX10_digest_22 : decode cX10_digest 22 = .ok (.lload_n 1, 1) := by decide +kernel
theorem dX10_digest_23 : decode cX10_digest 23 = .ok (.aload_n 0, 1) := by decide +kernel
theorem dX10_digest_24 : decode cX10_digest 24 = .ok (.invokevirtual 218, 3) := by decide +kernel
theorem dX10_digest_27 : decode cX10_digest 27 = .ok (.invokestatic 211, 3) := by decide +kernel
theorem dX10_digest_30 : decode cX10_digest 30 = .ok (.lstore_n 1, 1) := by decide +kernel
theorem dX10_digest_31 : decode cX10_digest 31 = .ok (.lload_n 1, 1) := by decide +kernel
theorem dX10_digest_32 : decode cX10_digest 32 = .ok (.aload_n 0, 1) := by decide +kernel
theorem dX10_digest_33 : decode cX10_digest 33 = .ok (.invokevirtual 221, 3) := by decide +kernel
theorem dX10_digest_36 : decode cX10_digest 36 = .ok (.invokestatic 211, 3) := by decide +kernel
theorem dX10_digest_39 : decode cX10_digest 39 = .ok (.lstore_n 1, 1) := by decide +kernel
theorem dX10_digest_40 : decode cX10_digest 40 = .ok (.lload_n 1, 1) := by decide +kernel
theorem dX10_digest_41 : decode cX10_digest 41 = .ok (.aload_n 0, 1) := by decide +kernel
theorem dX10_digest_42 : decode cX10_digest 42 = .ok (.invokevirtual 224, 3) := by decide +kernel
theorem dX10_digest_45 : decode cX10_digest 45 = .ok (.invokestatic 211, 3) := by decide +kernel
theorem dX10_digest_48 : decode cX10_digest 48 = .ok (.lstore_n 1, 1) := by decide +kernel
theorem dX10_digest_49 : decode cX10_digest 49 = .ok (.lload_n 1, 1) := by decide +kernel
theorem dX10_digest_50 : decode cX10_digest 50 = .ok (.aload_n 0, 1) := by decide +kernel
theorem dX10_digest_51 : decode cX10_digest 51 = .ok (.invokevirtual 227, 3) := by decide +kernel
theorem dX10_digest_54 : decode cX10_digest 54 = .ok (.invokestatic 211, 3) := by decide +kernel
theorem dX10_digest_57 : decode cX10_digest 57 = .ok (.lstore_n 1, 1) := by decide +kernel
theorem dX10_digest_58 : decode cX10_digest 58 = .ok (.lload_n 1, 1) := by decide +kernel
theorem dX10_digest_59 : decode cX10_digest 59 = .ok (.aload_n 0, 1) := by decide +kernel
theorem dX10_digest_60 : decode cX10_digest 60 = .ok (.invokevirtual 230, 3) := by decide +kernel
theorem dX10_digest_63 : decode cX10_digest 63 = .ok (.invokestatic 211, 3) := by decide +kernel
theorem dX10_digest_66 : decode cX10_digest 66 = .ok (.lstore_n 1, 1) := by decide +kernel
theorem dX10_digest_67 : decode cX10_digest 67 = .ok (.lload_n 1, 1) := by decide +kernel
theorem dX10_digest_68 : decode cX10_digest 68 = .ok (.aload_n 0, 1) := by decide +kernel
theorem dX10_digest_69 : decode cX10_digest 69 = .ok (.invokevirtual 233, 3) := by decide +kernel
theorem dX10_digest_72 : decode cX10_digest 72 = .ok (.invokestatic 211, 3) := by decide +kernel
theorem dX10_digest_75 : decode cX10_digest 75 = .ok (.lstore_n 1, 1) := by decide +kernel
theorem dX10_digest_76 : decode cX10_digest 76 = .ok (.lload_n 1, 1) := by decide +kernel
theorem dX10_digest_77 : decode cX10_digest 77 = .ok (.aload_n 0, 1) := by decide +kernel
theorem dX10_digest_78 : decode cX10_digest 78 = .ok (.invokevirtual 236, 3) := by decide +kernel
theorem dX10_digest_81 : decode cX10_digest 81 = .ok (.invokestatic 211, 3) := by decide +kernel
theorem dX10_digest_84 : decode cX10_digest 84 = .ok (.lstore_n 1, 1) := by decide +kernel
theorem dX10_digest_85 : decode cX10_digest 85 = .ok (.lload_n 1, 1) := by decide +kernel
theorem dX10_digest_86 : decode cX10_digest 86 = .ok (.aload_n 0, 1) := by decide +kernel
theorem dX10_digest_87 : decode cX10_digest 87 = .ok (.invokevirtual 239, 3) := by decide +kernel
theorem dX10_digest_90 : decode cX10_digest 90 = .ok (.invokestatic 211, 3) := by decide +kernel
theorem dX10_digest_93 : decode cX10_digest 93 = .ok (.lstore_n 1, 1) := by decide +kernel
theorem dX10_digest_94 : decode cX10_digest 94 = .ok (.aload_n 0, 1) := by decide +kernel
theorem dX10_digest_95 : decode cX10_digest 95 = .ok (.aload_n 0, 1) := by decide +kernel
theorem dX10_digest_96 : decode cX10_digest 96 = .ok (.lload_n 1, 1) := by decide +kernel
theorem dX10_digest_97 : decode cX10_digest 97 = .ok (.invokevirtual 242, 3) := by decide +kernel
theorem dX10_digest_100 : decode cX10_digest 100 = .ok (.invokevirtual 246, 3) := by decide +kernel
theorem dX10_digest_103 : decode cX10_digest 103 = .ok (.lreturn, 1) := by decide +kernel
theorem dX10_squawksJoined_0 : decode cX10_squawksJoined 0 = .ok (.lload_n 1, 1) := by decide +kernel
theorem dX10_squawksJoined_1 : decode cX10_squawksJoined 1 = .ok (.lstore_n 3, 1) := by decide +kernel
theorem dX10_squawksJoined_2 : decode cX10_squawksJoined 2 = .ok (.iconst 0, 1) := by decide +kernel
theorem dX10_squawksJoined_3 : decode cX10_squawksJoined 3 = .ok (.istore 5, 2) := by decide +kernel
theorem dX10_squawksJoined_5 : decode cX10_squawksJoined 5 = .ok (.iload 5, 2) := by decide +kernel
theorem dX10_squawksJoined_7 : decode cX10_squawksJoined 7 = .ok (.aload_n 0, 1) := by decide +kernel
theorem dX10_squawksJoined_8 : decode cX10_squawksJoined 8 = .ok (.getfield 30, 3) := by decide +kernel
theorem dX10_squawksJoined_11 : decode cX10_squawksJoined 11 = .ok (.getfield 81, 3) := by decide +kernel
theorem dX10_squawksJoined_14 : decode cX10_squawksJoined 14 = .ok (.getfield 85, 3) := by decide +kernel
theorem dX10_squawksJoined_17 : decode cX10_squawksJoined 17 = .ok (.if_icmp .ge 31, 3) := by decide +kernel
theorem dX10_squawksJoined_20 : decode cX10_squawksJoined 20 = .ok (.lload_n 3, 1) := by decide +kernel
theorem dX10_squawksJoined_21 : decode cX10_squawksJoined 21 = .ok (.aload_n 0, 1) := by decide +kernel
theorem dX10_squawksJoined_22 : decode cX10_squawksJoined 22 = .ok (.iload 5, 2) := by decide +kernel
theorem dX10_squawksJoined_24 : decode cX10_squawksJoined 24 = .ok (.invokevirtual 249, 3) := by decide +kernel
theorem dX10_squawksJoined_27 : decode cX10_squawksJoined 27 = .ok (.invokestatic 211, 3) := by decide +kernel
theorem dX10_squawksJoined_30 : decode cX10_squawksJoined 30 = .ok (.lstore_n 3, 1) := by decide +kernel
theorem dX10_squawksJoined_31 : decode cX10_squawksJoined 31 = .ok (.lload_n 3, 1) := by decide +kernel
theorem dX10_squawksJoined_32 : decode cX10_squawksJoined 32 = .ok (.aload_n 0, 1) := by decide +kernel
theorem dX10_squawksJoined_33 : decode cX10_squawksJoined 33 = .ok (.iload 5, 2) := by decide +kernel
theorem dX10_squawksJoined_35 : decode cX10_squawksJoined 35 = .ok (.invokevirtual 252, 3) := by decide +kernel
theorem dX10_squawksJoined_38 : decode cX10_squawksJoined 38 = .ok (.invokestatic 211, 3) := by decide +kernel
theorem dX10_squawksJoined_41 : decode cX10_squawksJoined 41 = .ok (.lstore_n 3, 1) := by decide +kernel
theorem dX10_squawksJoined_42 : decode cX10_squawksJoined 42 = .ok (.iinc 5 1, 3) := by decide +kernel
theorem dX10_squawksJoined_45 : decode cX10_squawksJoined 45 = .ok (.goto (-40), 3) := by decide +kernel
theorem dX10_squawksJoined_48 : decode cX10_squawksJoined 48 = .ok (.iconst 0, 1) := by decide +kernel
theorem dX10_squawksJoined_49 : decode cX10_squawksJoined 49 = .ok (.istore 5, 2) := by decide +kernel
theorem dX10_squawksJoined_51 : decode cX10_squawksJoined 51 = .ok (.iload 5, 2) := by decide +kernel
theorem dX10_squawksJoined_53 : decode cX10_squawksJoined 53 = .ok (.aload_n 0, 1) := by decide +kernel
theorem dX10_squawksJoined_54 : decode cX10_squawksJoined 54 = .ok (.getfield 30, 3) := by decide +kernel
theorem dX10_squawksJoined_57 : decode cX10_squawksJoined 57 = .ok (.getfield 81, 3) := by decide +kernel
theorem dX10_squawksJoined_60 : decode cX10_squawksJoined 60 = .ok (.getfield 85, 3) := by decide +kernel
theorem dX10_squawksJoined_63 : decode cX10_squawksJoined 63 = .ok (.if_icmp .ge 20, 3) := by decide +kernel
theorem dX10_squawksJoined_66 : decode cX10_squawksJoined 66 = .ok (.lload_n 3, 1) := by decide +kernel
theorem dX10_squawksJoined_67 : decode cX10_squawksJoined 67 = .ok (.aload_n 0, 1) := by decide +kernel
theorem dX10_squawksJoined_68 : decode cX10_squawksJoined 68 = .ok (.iload 5, 2) := by decide +kernel
theorem dX10_squawksJoined_70 : decode cX10_squawksJoined 70 = .ok (.invokevirtual 255, 3) := by decide +kernel
theorem dX10_squawksJoined_73 : decode cX10_squawksJoined 73 = .ok (.invokestatic 211, 3) := by decide +kernel
theorem dX10_squawksJoined_76 : decode cX10_squawksJoined 76 = .ok (.lstore_n 3, 1) := by decide +kernel
theorem dX10_squawksJoined_77 : decode cX10_squawksJoined 77 = .ok (.iinc 5 1, 3) := by decide +kernel
theorem dX10_squawksJoined_80 : decode cX10_squawksJoined 80 = .ok (.goto (-29), 3) := by decide +kernel
theorem dX10_squawksJoined_83 : decode cX10_squawksJoined 83 = .ok (.lload_n 3, 1) := by decide +kernel
theorem dX10_squawksJoined_84 : decode cX10_squawksJoined 84 = .ok (.lreturn, 1) := by decide +kernel
theorem dX10_insultsJoined_0 : decode cX10_insultsJoined 0 = .ok (.lload_n 1, 1) := by decide +kernel
theorem dX10_insultsJoined_1 : decode cX10_insultsJoined 1 = .ok (.lstore_n 3, 1) := by decide +kernel
theorem dX10_insultsJoined_2 : decode cX10_insultsJoined 2 = .ok (.iconst 0, 1) := by decide +kernel
theorem dX10_insultsJoined_3 : decode cX10_insultsJoined 3 = .ok (.istore 5, 2) := by decide +kernel
theorem dX10_insultsJoined_5 : decode cX10_insultsJoined 5 = .ok (.iload 5, 2) := by decide +kernel
theorem dX10_insultsJoined_7 : decode cX10_insultsJoined 7 = .ok (.aload_n 0, 1) := by decide +kernel
theorem dX10_insultsJoined_8 : decode cX10_insultsJoined 8 = .ok (.getfield 40, 3) := by decide +kernel
theorem dX10_insultsJoined_11 : decode cX10_insultsJoined 11 = .ok (.getfield 90, 3) := by decide +kernel
theorem dX10_insultsJoined_14 : decode cX10_insultsJoined 14 = .ok (.if_icmp .ge 53, 3) := by decide +kernel
theorem dX10_insultsJoined_17 : decode cX10_insultsJoined 17 = .ok (.lload_n 3, 1) := by decide +kernel
theorem dX10_insultsJoined_18 : decode cX10_insultsJoined 18 = .ok (.aload_n 0, 1) := by decide +kernel
theorem dX10_insultsJoined_19 : decode cX10_insultsJoined 19 = .ok (.iload 5, 2) := by decide +kernel
theorem dX10_insultsJoined_21 : decode cX10_insultsJoined 21 = .ok (.invokevirtual 258, 3) := by decide +kernel
theorem dX10_insultsJoined_24 : decode cX10_insultsJoined 24 = .ok (.invokestatic 211, 3) := by decide +kernel
theorem dX10_insultsJoined_27 : decode cX10_insultsJoined 27 = .ok (.lstore_n 3, 1) := by decide +kernel
theorem dX10_insultsJoined_28 : decode cX10_insultsJoined 28 = .ok (.lload_n 3, 1) := by decide +kernel
theorem dX10_insultsJoined_29 : decode cX10_insultsJoined 29 = .ok (.aload_n 0, 1) := by decide +kernel
theorem dX10_insultsJoined_30 : decode cX10_insultsJoined 30 = .ok (.iload 5, 2) := by decide +kernel
theorem dX10_insultsJoined_32 : decode cX10_insultsJoined 32 = .ok (.invokevirtual 261, 3) := by decide +kernel
theorem dX10_insultsJoined_35 : decode cX10_insultsJoined 35 = .ok (.invokestatic 211, 3) := by decide +kernel
theorem dX10_insultsJoined_38 : decode cX10_insultsJoined 38 = .ok (.lstore_n 3, 1) := by decide +kernel
theorem dX10_insultsJoined_39 : decode cX10_insultsJoined 39 = .ok (.lload_n 3, 1) := by decide +kernel
theorem dX10_insultsJoined_40 : decode cX10_insultsJoined 40 = .ok (.aload_n 0, 1) := by decide +kernel
theorem dX10_insultsJoined_41 : decode cX10_insultsJoined 41 = .ok (.iload 5, 2) := by decide +kernel
theorem dX10_insultsJoined_43 : decode cX10_insultsJoined 43 = .ok (.invokevirtual 264, 3) := by decide +kernel
theorem dX10_insultsJoined_46 : decode cX10_insultsJoined 46 = .ok (.invokestatic 211, 3) := by decide +kernel
theorem dX10_insultsJoined_49 : decode cX10_insultsJoined 49 = .ok (.lstore_n 3, 1) := by decide +kernel
theorem dX10_insultsJoined_50 : decode cX10_insultsJoined 50 = .ok (.lload_n 3, 1) := by decide +kernel
theorem dX10_insultsJoined_51 : decode cX10_insultsJoined 51 = .ok (.aload_n 0, 1) := by decide +kernel
theorem dX10_insultsJoined_52 : decode cX10_insultsJoined 52 = .ok (.iload 5, 2) := by decide +kernel
theorem dX10_insultsJoined_54 : decode cX10_insultsJoined 54 = .ok (.invokevirtual 267, 3) := by decide +kernel
theorem dX10_insultsJoined_57 : decode cX10_insultsJoined 57 = .ok (.invokestatic 211, 3) := by decide +kernel
theorem dX10_insultsJoined_60 : decode cX10_insultsJoined 60 = .ok (.lstore_n 3, 1) := by decide +kernel
theorem dX10_insultsJoined_61 : decode cX10_insultsJoined 61 = .ok (.iinc 5 1, 3) := by decide +kernel
theorem dX10_insultsJoined_64 : decode cX10_insultsJoined 64 = .ok (.goto (-59), 3) := by decide +kernel
theorem dX10_insultsJoined_67 : decode cX10_insultsJoined 67 = .ok (.lload_n 3, 1) := by decide +kernel
theorem dX10_insultsJoined_68 : decode cX10_insultsJoined 68 = .ok (.lreturn, 1) := by decide +kernel
theorem dX10_joined_0 : decode cX10_joined 0 = .ok (.lload_n 0, 1) := by decide +kernel
theorem dX10_joined_1 : decode cX10_joined 1 = .ok (.ldc2_w 270, 3) := by decide +kernel
theorem dX10_joined_4 : decode cX10_joined 4 = .ok (.lmul, 1) := by decide +kernel
theorem dX10_joined_5 : decode cX10_joined 5 = .ok (.iload_n 2, 1) := by decide +kernel
theorem dX10_joined_6 : decode cX10_joined 6 = .ok (.i2l, 1) := by decide +kernel
theorem dX10_joined_7 : decode cX10_joined 7 = .ok (.ladd, 1) := by decide +kernel
theorem dX10_joined_8 : decode cX10_joined 8 = .ok (.lreturn, 1) := by decide +kernel
theorem dX10_checkPlace_0 : decode cX10_checkPlace 0 = .ok (.iload_n 1, 1) := by decide +kernel
theorem dX10_checkPlace_1 : decode cX10_checkPlace 1 = .ok (.ifCond .lt 17, 3) := by decide +kernel
theorem dX10_checkPlace_4 : decode cX10_checkPlace 4 = .ok (.iload_n 1, 1) := by decide +kernel
theorem dX10_checkPlace_5 : decode cX10_checkPlace 5 = .ok (.aload_n 0, 1) := by decide +kernel
theorem dX10_checkPlace_6 : decode cX10_checkPlace 6 = .ok (.getfield 30, 3) := by decide +kernel
theorem dX10_checkPlace_9 : decode cX10_checkPlace 9 = .ok (.getfield 81, 3) := by decide +kernel
theorem dX10_checkPlace_12 : decode cX10_checkPlace 12 = .ok (.getfield 85, 3) := by decide +kernel
theorem dX10_checkPlace_15 : decode cX10_checkPlace 15 = .ok (.if_icmp .lt 14, 3) := by decide +kernel
theorem dX10_checkPlace_18 : decode cX10_checkPlace 18 = .ok (.new 272, 3) := by decide +kernel
theorem dX10_checkPlace_21 : decode cX10_checkPlace 21 = .ok (.dup, 1) := by decide +kernel
theorem dX10_checkPlace_22 : decode cX10_checkPlace 22 = .ok (.ldc_w 274, 3) := by decide +kernel
theorem dX10_checkPlace_25 : decode cX10_checkPlace 25 = .ok (.invokespecial 276, 3) := by decide +kernel
theorem dX10_checkPlace_28 : decode cX10_checkPlace 28 = .ok (.athrow, 1) := by decide +kernel
theorem dX10_checkPlace_29 : decode cX10_checkPlace 29 = .ok (.return_, 1) := by decide +kernel
theorem dX10_checkInsult_0 : decode cX10_checkInsult 0 = .ok (.iload_n 1, 1) := by decide +kernel
theorem dX10_checkInsult_1 : decode cX10_checkInsult 1 = .ok (.ifCond .lt 14, 3) := by decide +kernel
theorem dX10_checkInsult_4 : decode cX10_checkInsult 4 = .ok (.iload_n 1, 1) := by decide +kernel
theorem dX10_checkInsult_5 : decode cX10_checkInsult 5 = .ok (.aload_n 0, 1) := by decide +kernel
theorem dX10_checkInsult_6 : decode cX10_checkInsult 6 = .ok (.getfield 40, 3) := by decide +kernel
theorem dX10_checkInsult_9 : decode cX10_checkInsult 9 = .ok (.getfield 90, 3) := by decide +kernel
theorem dX10_checkInsult_12 : decode cX10_checkInsult 12 = .ok (.if_icmp .lt 14, 3) := by decide +kernel
theorem dX10_checkInsult_15 : decode cX10_checkInsult 15 = .ok (.new 272, 3) := by decide +kernel
theorem dX10_checkInsult_18 : decode cX10_checkInsult 18 = .ok (.dup, 1) := by decide +kernel
theorem dX10_checkInsult_19 : decode cX10_checkInsult 19 = .ok (.ldc_w 277, 3) := by decide +kernel
theorem dX10_checkInsult_22 : decode cX10_checkInsult 22 = .ok (.invokespecial 276, 3) := by decide +kernel
theorem dX10_checkInsult_25 : decode cX10_checkInsult 25 = .ok (.athrow, 1) := by decide +kernel
theorem dX10_checkInsult_26 : decode cX10_checkInsult 26 = .ok (.return_, 1) := by decide +kernel
theorem dX10_checkLetters_0 : decode cX10_checkLetters 0 = .ok (.iload_n 1, 1) := by decide +kernel
theorem dX10_checkLetters_1 : decode cX10_checkLetters 1 = .ok (.iconst 1, 1) := by decide +kernel
theorem dX10_checkLetters_2 : decode cX10_checkLetters 2 = .ok (.if_icmp .lt 9, 3) := by decide +kernel
theorem dX10_checkLetters_5 : decode cX10_checkLetters 5 = .ok (.iload_n 1, 1) := by decide +kernel
theorem dX10_checkLetters_6 : decode cX10_checkLetters 6 = .ok (.bipush 40, 2) := by decide +kernel
theorem dX10_checkLetters_8 : decode cX10_checkLetters 8 = .ok (.if_icmp .le 14, 3) := by decide +kernel
theorem dX10_checkLetters_11 : decode cX10_checkLetters 11 = .ok (.new 64, 3) := by decide +kernel
theorem dX10_checkLetters_14 : decode cX10_checkLetters 14 = .ok (.dup, 1) := by decide +kernel
theorem dX10_checkLetters_15 : decode cX10_checkLetters 15 = .ok (.ldc_w 279, 3) := by decide +kernel
theorem dX10_checkLetters_18 : decode cX10_checkLetters 18 = .ok (.invokespecial 68, 3) := by decide +kernel
theorem dX10_checkLetters_21 : decode cX10_checkLetters 21 = .ok (.athrow, 1) := by decide +kernel
theorem dX10_checkLetters_22 : decode cX10_checkLetters 22 = .ok (.return_, 1) := by decide +kernel
theorem dX10_checkRemembered_0 : decode cX10_checkRemembered 0 = .ok (.aload_n 0, 1) := by decide +kernel
theorem dX10_checkRemembered_1 : decode cX10_checkRemembered 1 = .ok (.iload_n 1, 1) := by decide +kernel
theorem dX10_checkRemembered_2 : decode cX10_checkRemembered 2 = .ok (.invokevirtual 132, 3) := by decide +kernel
theorem dX10_checkRemembered_5 : decode cX10_checkRemembered 5 = .ok (.iload_n 1, 1) := by decide +kernel
theorem dX10_checkRemembered_6 : decode cX10_checkRemembered 6 = .ok (.aload_n 0, 1) := by decide +kernel
theorem dX10_checkRemembered_7 : decode cX10_checkRemembered 7 = .ok (.getfield 30, 3) := by decide +kernel
theorem dX10_checkRemembered_10 : decode cX10_checkRemembered 10 = .ok (.getfield 81, 3) := by decide +kernel
theorem dX10_checkRemembered_13 : decode cX10_checkRemembered 13 = .ok (.getfield 85, 3) := by decide +kernel
theorem dX10_checkRemembered_16 : decode cX10_checkRemembered 16 = .ok (.if_icmp .le 14, 3) := by decide +kernel
theorem dX10_checkRemembered_19 : decode cX10_checkRemembered 19 = .ok (.new 64, 3) := by decide +kernel
theorem dX10_checkRemembered_22 : decode cX10_checkRemembered 22 = .ok (.dup, 1) := by decide +kernel
theorem dX10_checkRemembered_23 : decode cX10_checkRemembered 23 = .ok (.ldc_w 281, 3) := by decide +kernel
theorem dX10_checkRemembered_26 : decode cX10_checkRemembered 26 = .ok (.invokespecial 68, 3) := by decide +kernel
theorem dX10_checkRemembered_29 : decode cX10_checkRemembered 29 = .ok (.athrow, 1) := by decide +kernel
theorem dX10_checkRemembered_30 : decode cX10_checkRemembered 30 = .ok (.return_, 1) := by decide +kernel
theorem dX10_checkDays_0 : decode cX10_checkDays 0 = .ok (.iload_n 1, 1) := by decide +kernel
theorem dX10_checkDays_1 : decode cX10_checkDays 1 = .ok (.iconst 1, 1) := by decide +kernel
theorem dX10_checkDays_2 : decode cX10_checkDays 2 = .ok (.if_icmp .lt 9, 3) := by decide +kernel
theorem dX10_checkDays_5 : decode cX10_checkDays 5 = .ok (.iload_n 1, 1) := by decide +kernel
theorem dX10_checkDays_6 : decode cX10_checkDays 6 = .ok (.bipush 30, 2) := by decide +kernel
theorem dX10_checkDays_8 : decode cX10_checkDays 8 = .ok (.if_icmp .le 14, 3) := by decide +kernel
theorem dX10_checkDays_11 : decode cX10_checkDays 11 = .ok (.new 64, 3) := by decide +kernel
theorem dX10_checkDays_14 : decode cX10_checkDays 14 = .ok (.dup, 1) := by decide +kernel
theorem dX10_checkDays_15 : decode cX10_checkDays 15 = .ok (.ldc_w 283, 3) := by decide +kernel
theorem dX10_checkDays_18 : decode cX10_checkDays 18 = .ok (.invokespecial 68, 3) := by decide +kernel
theorem dX10_checkDays_21 : decode cX10_checkDays 21 = .ok (.athrow, 1) := by decide +kernel
theorem dX10_checkDays_22 : decode cX10_checkDays 22 = .ok (.return_, 1) := by decide +kernel
theorem dL_feed_0 : decode cL_feed 0 = .ok (.aload 6, 2) := by decide +kernel
theorem dL_feed_2 : decode cL_feed 2 = .ok (.iconst 0, 1) := by decide +kernel
theorem dL_feed_3 : decode cL_feed 3 = .ok (.aload_n 0, 1) := by decide +kernel
theorem dL_feed_4 : decode cL_feed 4 = .ok (.iload_n 1, 1) := by decide +kernel
theorem dL_feed_5 : decode cL_feed 5 = .ok (.iload_n 2, 1) := by decide +kernel
theorem dL_feed_6 : decode cL_feed 6 = .ok (.iload_n 3, 1) := by decide +kernel
theorem dL_feed_7 : decode cL_feed 7 = .ok (.iload 4, 2) := by decide +kernel
theorem dL_feed_9 : decode cL_feed 9 = .ok (.iload 5, 2) := by decide +kernel
theorem dL_feed_11 : decode cL_feed 11 = .ok (.invokevirtual 7, 3) := by decide +kernel
theorem dL_feed_14 : decode cL_feed 14 = .ok (.i2l, 1) := by decide +kernel
theorem dL_feed_15 : decode cL_feed 15 = .ok (.lastore, 1) := by decide +kernel
theorem dL_feed_16 : decode cL_feed 16 = .ok (.goto 7, 3) := by decide +kernel
theorem dL_feed_19 : decode cL_feed 19 = .ok (.astore 7, 2) := by decide +kernel
theorem dL_feed_21 : decode cL_feed 21 = .ok (.iconst 1, 1) := by decide +kernel
theorem dL_feed_22 : decode cL_feed 22 = .ok (.ireturn, 1) := by decide +kernel
theorem dL_feed_23 : decode cL_feed 23 = .ok (.iconst 0, 1) := by decide +kernel
theorem dL_feed_24 : decode cL_feed 24 = .ok (.ireturn, 1) := by decide +kernel
theorem dL_trim_0 : decode cL_trim 0 = .ok (.aload_n 2, 1) := by decide +kernel
theorem dL_trim_1 : decode cL_trim 1 = .ok (.iconst 0, 1) := by decide +kernel
theorem dL_trim_2 : decode cL_trim 2 = .ok (.aload_n 0, 1) := by decide +kernel
theorem dL_trim_3 : decode cL_trim 3 = .ok (.iload_n 1, 1) := by decide +kernel
theorem dL_trim_4 : decode cL_trim 4 = .ok (.invokevirtual 15, 3) := by decide +kernel
theorem dL_trim_7 : decode cL_trim 7 = .ok (.i2l, 1) := by decide +kernel
theorem dL_trim_8 : decode cL_trim 8 = .ok (.lastore, 1) := by decide +kernel
theorem dL_trim_9 : decode cL_trim 9 = .ok (.goto 6, 3) := by decide +kernel
theorem dL_trim_12 : decode cL_trim 12 = .ok (.astore_n 3, 1) := by decide +kernel
theorem dL_trim_13 : decode cL_trim 13 = .ok (.iconst 1, 1) := by decide +kernel
theorem dL_trim_14 : decode cL_trim 14 = .ok (.ireturn, 1) := by decide +kernel
theorem dL_trim_15 : decode cL_trim 15 = .ok (.iconst 0, 1) := by decide +kernel
theorem dL_trim_16 : decode cL_trim 16 = .ok (.ireturn, 1) := by decide +kernel
theorem dL_letterAt_0 : decode cL_letterAt 0 = .ok (.aload_n 2, 1) := by decide +kernel
theorem dL_letterAt_1 : decode cL_letterAt 1 = .ok (.iconst 0, 1) := by decide +kernel
theorem dL_letterAt_2 : decode cL_letterAt 2 = .ok (.aload_n 0, 1) := by decide +kernel
theorem dL_letterAt_3 : decode cL_letterAt 3 = .ok (.iload_n 1, 1) := by decide +kernel
theorem dL_letterAt_4 : decode cL_letterAt 4 = .ok (.invokevirtual 21, 3) := by decide +kernel
theorem dL_letterAt_7 : decode cL_letterAt 7 = .ok (.i2l, 1) := by decide +kernel
theorem dL_letterAt_8 : decode cL_letterAt 8 = .ok (.lastore, 1) := by decide +kernel
theorem dL_letterAt_9 : decode cL_letterAt 9 = .ok (.goto 6, 3) := by decide +kernel
theorem dL_letterAt_12 : decode cL_letterAt 12 = .ok (.astore_n 3, 1) := by decide +kernel
theorem dL_letterAt_13 : decode cL_letterAt 13 = .ok (.iconst 1, 1) := by decide +kernel
theorem dL_letterAt_14 : decode cL_letterAt 14 = .ok (.ireturn, 1) := by decide +kernel
theorem dL_letterAt_15 : decode cL_letterAt 15 = .ok (.iconst 0, 1) := by decide +kernel
theorem dL_letterAt_16 : decode cL_letterAt 16 = .ok (.ireturn, 1) := by decide +kernel
theorem dL_rankOf_0 : decode cL_rankOf 0 = .ok (.aload_n 2, 1) := by decide +kernel
theorem dL_rankOf_1 : decode cL_rankOf 1 = .ok (.iconst 0, 1) := by decide +kernel
theorem dL_rankOf_2 : decode cL_rankOf 2 = .ok (.aload_n 0, 1) := by decide +kernel
theorem dL_rankOf_3 : decode cL_rankOf 3 = .ok (.iload_n 1, 1) := by decide +kernel
theorem dL_rankOf_4 : decode cL_rankOf 4 = .ok (.invokevirtual 26, 3) := by decide +kernel
theorem dL_rankOf_7 : decode cL_rankOf 7 = .ok (.i2l, 1) := by decide +kernel
theorem dL_rankOf_8 : decode cL_rankOf 8 = .ok (.lastore, 1) := by decide +kernel
theorem dL_rankOf_9 : decode cL_rankOf 9 = .ok (.goto 6, 3) := by decide +kernel
theorem dL_rankOf_12 : decode cL_rankOf 12 = .ok (.astore_n 3, 1) := by decide +kernel
theorem dL_rankOf_13 : decode cL_rankOf 13 = .ok (.iconst 1, 1) := by decide +kernel
theorem dL_rankOf_14 : decode cL_rankOf 14 = .ok (.ireturn, 1) := by decide +kernel
theorem dL_rankOf_15 : decode cL_rankOf 15 = .ok (.iconst 0, 1) := by decide +kernel
theorem dL_rankOf_16 : decode cL_rankOf 16 = .ok (.ireturn, 1) := by decide +kernel
theorem dL_placeAt_0 : decode cL_placeAt 0 = .ok (.aload_n 2, 1) := by decide +kernel
theorem dL_placeAt_1 : decode cL_placeAt 1 = .ok (.iconst 0, 1) := by decide +kernel
theorem dL_placeAt_2 : decode cL_placeAt 2 = .ok (.aload_n 0, 1) := by decide +kernel
theorem dL_placeAt_3 : decode cL_placeAt 3 = .ok (.iload_n 1, 1) := by decide +kernel
theorem dL_placeAt_4 : decode cL_placeAt 4 = .ok (.invokevirtual 29, 3) := by decide +kernel
theorem dL_placeAt_7 : decode cL_placeAt 7 = .ok (.i2l, 1) := by decide +kernel
theorem dL_placeAt_8 : decode cL_placeAt 8 = .ok (.lastore, 1) := by decide +kernel
theorem dL_placeAt_9 : decode cL_placeAt 9 = .ok (.goto 6, 3) := by decide +kernel
theorem dL_placeAt_12 : decode cL_placeAt 12 = .ok (.astore_n 3, 1) := by decide +kernel
theorem dL_placeAt_13 : decode cL_placeAt 13 = .ok (.iconst 1, 1) := by decide +kernel
theorem dL_placeAt_14 : decode cL_placeAt 14 = .ok (.ireturn, 1) := by decide +kernel
theorem dL_placeAt_15 : decode cL_placeAt 15 = .ok (.iconst 0, 1) := by decide +kernel
theorem dL_placeAt_16 : decode cL_placeAt 16 = .ok (.ireturn, 1) := by decide +kernel
theorem dL_sharedAt_0 : decode cL_sharedAt 0 = .ok (.aload_n 2, 1) := by decide +kernel
theorem dL_sharedAt_1 : decode cL_sharedAt 1 = .ok (.iconst 0, 1) := by decide +kernel
theorem dL_sharedAt_2 : decode cL_sharedAt 2 = .ok (.aload_n 0, 1) := by decide +kernel
theorem dL_sharedAt_3 : decode cL_sharedAt 3 = .ok (.iload_n 1, 1) := by decide +kernel
theorem dL_sharedAt_4 : decode cL_sharedAt 4 = .ok (.invokevirtual 32, 3) := by decide +kernel
theorem dL_sharedAt_7 : decode cL_sharedAt 7 = .ok (.i2l, 1) := by decide +kernel
theorem dL_sharedAt_8 : decode cL_sharedAt 8 = .ok (.lastore, 1) := by decide +kernel
theorem dL_sharedAt_9 : decode cL_sharedAt 9 = .ok (.goto 6, 3) := by decide +kernel
theorem dL_sharedAt_12 : decode cL_sharedAt 12 = .ok (.astore_n 3, 1) := by decide +kernel
theorem dL_sharedAt_13 : decode cL_sharedAt 13 = .ok (.iconst 1, 1) := by decide +kernel
theorem dL_sharedAt_14 : decode cL_sharedAt 14 = .ok (.ireturn, 1) := by decide +kernel
theorem dL_sharedAt_15 : decode cL_sharedAt 15 = .ok (.iconst 0, 1) := by decide +kernel
theorem dL_sharedAt_16 : decode cL_sharedAt 16 = .ok (.ireturn, 1) := by decide +kernel
theorem dL_shared_0 : decode cL_shared 0 = .ok (.aload_n 3, 1) := by decide +kernel
theorem dL_shared_1 : decode cL_shared 1 = .ok (.iconst 0, 1) := by decide +kernel
theorem dL_shared_2 : decode cL_shared 2 = .ok (.aload_n 0, 1) := by decide +kernel
theorem dL_shared_3 : decode cL_shared 3 = .ok (.iload_n 1, 1) := by decide +kernel
theorem dL_shared_4 : decode cL_shared 4 = .ok (.iload_n 2, 1) := by decide +kernel
theorem dL_shared_5 : decode cL_shared 5 = .ok (.invokevirtual 35, 3) := by decide +kernel
theorem dL_shared_8 : decode cL_shared 8 = .ok (.i2l, 1) := by decide +kernel
theorem dL_shared_9 : decode cL_shared 9 = .ok (.lastore, 1) := by decide +kernel
theorem dL_shared_10 : decode cL_shared 10 = .ok (.goto 7, 3) := by decide +kernel
theorem dL_shared_13 : decode cL_shared 13 = .ok (.astore 4, 2) := by decide +kernel
theorem dL_shared_15 : decode cL_shared 15 = .ok (.iconst 1, 1) := by decide +kernel
theorem dL_shared_16 : decode cL_shared 16 = .ok (.ireturn, 1) := by decide +kernel
theorem dL_shared_17 : decode cL_shared 17 = .ok (.iconst 0, 1) := by decide +kernel
theorem dL_shared_18 : decode cL_shared 18 = .ok (.ireturn, 1) := by decide +kernel
theorem dL_isAhead_0 : decode cL_isAhead 0 = .ok (.aload_n 3, 1) := by decide +kernel
theorem dL_isAhead_1 : decode cL_isAhead 1 = .ok (.iconst 0, 1) := by decide +kernel
theorem dL_isAhead_2 : decode cL_isAhead 2 = .ok (.aload_n 0, 1) := by decide +kernel
theorem dL_isAhead_3 : decode cL_isAhead 3 = .ok (.iload_n 1, 1) := by decide +kernel
theorem dL_isAhead_4 : decode cL_isAhead 4 = .ok (.iload_n 2, 1) := by decide +kernel
theorem dL_isAhead_5 : decode cL_isAhead 5 = .ok (.invokevirtual 39, 3) := by decide +kernel
theorem dL_isAhead_8 : decode cL_isAhead 8 = .ok (.ifCond .eq 7, 3) := by decide +kernel
theorem dL_isAhead_11 : decode cL_isAhead 11 = .ok (.lconst 1, 1) := by decide +kernel
theorem dL_isAhead_12 : decode cL_isAhead 12 = .ok (.goto 4, 3) := by decide +kernel
theorem dL_isAhead_15 : decode cL_isAhead 15 = .ok (.lconst 0, 1) := by decide +kernel
theorem dL_isAhead_16 : decode cL_isAhead 16 = .ok (.lastore, 1) := by decide +kernel
theorem dL_isAhead_17 : decode cL_isAhead 17 = .ok (.goto 7, 3) := by decide +kernel
theorem dL_isAhead_20 : decode cL_isAhead 20 = .ok (.astore 4, 2) := by decide +kernel
theorem dL_isAhead_22 : decode cL_isAhead 22 = .ok (.iconst 1, 1) := by decide +kernel
theorem dL_isAhead_23 : decode cL_isAhead 23 = .ok (.ireturn, 1) := by decide +kernel
theorem dL_isAhead_24 : decode cL_isAhead 24 = .ok (.iconst 0, 1) := by decide +kernel
theorem dL_isAhead_25 : decode cL_isAhead 25 = .ok (.ireturn, 1) := by decide +kernel
theorem dL_kindsOf_0 : decode cL_kindsOf 0 = .ok (.aload_n 2, 1) := by decide +kernel
theorem dL_kindsOf_1 : decode cL_kindsOf 1 = .ok (.iconst 0, 1) := by decide +kernel
theorem dL_kindsOf_2 : decode cL_kindsOf 2 = .ok (.aload_n 0, 1) := by decide +kernel
theorem dL_kindsOf_3 : decode cL_kindsOf 3 = .ok (.iload_n 1, 1) := by decide +kernel
theorem dL_kindsOf_4 : decode cL_kindsOf 4 = .ok (.invokevirtual 43, 3) := by decide +kernel
theorem dL_kindsOf_7 : decode cL_kindsOf 7 = .ok (.i2l, 1) := by decide +kernel
theorem dL_kindsOf_8 : decode cL_kindsOf 8 = .ok (.lastore, 1) := by decide +kernel
theorem dL_kindsOf_9 : decode cL_kindsOf 9 = .ok (.goto 6, 3) := by decide +kernel
theorem dL_kindsOf_12 : decode cL_kindsOf 12 = .ok (.astore_n 3, 1) := by decide +kernel
theorem dL_kindsOf_13 : decode cL_kindsOf 13 = .ok (.iconst 1, 1) := by decide +kernel
theorem dL_kindsOf_14 : decode cL_kindsOf 14 = .ok (.ireturn, 1) := by decide +kernel
theorem dL_kindsOf_15 : decode cL_kindsOf 15 = .ok (.iconst 0, 1) := by decide +kernel
theorem dL_kindsOf_16 : decode cL_kindsOf 16 = .ok (.ireturn, 1) := by decide +kernel
theorem dL_repeatedOf_0 : decode cL_repeatedOf 0 = .ok (.aload_n 2, 1) := by decide +kernel
theorem dL_repeatedOf_1 : decode cL_repeatedOf 1 = .ok (.iconst 0, 1) := by decide +kernel
theorem dL_repeatedOf_2 : decode cL_repeatedOf 2 = .ok (.aload_n 0, 1) := by decide +kernel
theorem dL_repeatedOf_3 : decode cL_repeatedOf 3 = .ok (.iload_n 1, 1) := by decide +kernel
theorem dL_repeatedOf_4 : decode cL_repeatedOf 4 = .ok (.invokevirtual 46, 3) := by decide +kernel
theorem dL_repeatedOf_7 : decode cL_repeatedOf 7 = .ok (.i2l, 1) := by decide +kernel
theorem dL_repeatedOf_8 : decode cL_repeatedOf 8 = .ok (.lastore, 1) := by decide +kernel
theorem dL_repeatedOf_9 : decode cL_repeatedOf 9 = .ok (.goto 6, 3) := by decide +kernel
theorem dL_repeatedOf_12 : decode cL_repeatedOf 12 = .ok (.astore_n 3, 1) := by decide +kernel
theorem dL_repeatedOf_13 : decode cL_repeatedOf 13 = .ok (.iconst 1, 1) := by decide +kernel
theorem dL_repeatedOf_14 : decode cL_repeatedOf 14 = .ok (.ireturn, 1) := by decide +kernel
theorem dL_repeatedOf_15 : decode cL_repeatedOf 15 = .ok (.iconst 0, 1) := by decide +kernel
theorem dL_repeatedOf_16 : decode cL_repeatedOf 16 = .ok (.ireturn, 1) := by decide +kernel
theorem dL_lettersOf_0 : decode cL_lettersOf 0 = .ok (.aload_n 2, 1) := by decide +kernel
theorem dL_lettersOf_1 : decode cL_lettersOf 1 = .ok (.iconst 0, 1) := by decide +kernel
theorem dL_lettersOf_2 : decode cL_lettersOf 2 = .ok (.aload_n 0, 1) := by decide +kernel
theorem dL_lettersOf_3 : decode cL_lettersOf 3 = .ok (.iload_n 1, 1) := by decide +kernel
theorem dL_lettersOf_4 : decode cL_lettersOf 4 = .ok (.invokevirtual 49, 3) := by decide +kernel
theorem dL_lettersOf_7 : decode cL_lettersOf 7 = .ok (.i2l, 1) := by decide +kernel
theorem dL_lettersOf_8 : decode cL_lettersOf 8 = .ok (.lastore, 1) := by decide +kernel
theorem dL_lettersOf_9 : decode cL_lettersOf 9 = .ok (.goto 6, 3) := by decide +kernel
theorem dL_lettersOf_12 : decode cL_lettersOf 12 = .ok (.astore_n 3, 1) := by decide +kernel
theorem dL_lettersOf_13 : decode cL_lettersOf 13 = .ok (.iconst 1, 1) := by decide +kernel
theorem dL_lettersOf_14 : decode cL_lettersOf 14 = .ok (.ireturn, 1) := by decide +kernel
theorem dL_lettersOf_15 : decode cL_lettersOf 15 = .ok (.iconst 0, 1) := by decide +kernel
theorem dL_lettersOf_16 : decode cL_lettersOf 16 = .ok (.ireturn, 1) := by decide +kernel
theorem dL_countOf_0 : decode cL_countOf 0 = .ok (.aload_n 2, 1) := by decide +kernel
theorem dL_countOf_1 : decode cL_countOf 1 = .ok (.iconst 0, 1) := by decide +kernel
theorem dL_countOf_2 : decode cL_countOf 2 = .ok (.aload_n 0, 1) := by decide +kernel
theorem dL_countOf_3 : decode cL_countOf 3 = .ok (.iload_n 1, 1) := by decide +kernel
theorem dL_countOf_4 : decode cL_countOf 4 = .ok (.invokevirtual 52, 3) := by decide +kernel
theorem dL_countOf_7 : decode cL_countOf 7 = .ok (.i2l, 1) := by decide +kernel
theorem dL_countOf_8 : decode cL_countOf 8 = .ok (.lastore, 1) := by decide +kernel
theorem dL_countOf_9 : decode cL_countOf 9 = .ok (.goto 6, 3) := by decide +kernel
theorem dL_countOf_12 : decode cL_countOf 12 = .ok (.astore_n 3, 1) := by decide +kernel
theorem dL_countOf_13 : decode cL_countOf 13 = .ok (.iconst 1, 1) := by decide +kernel
theorem dL_countOf_14 : decode cL_countOf 14 = .ok (.ireturn, 1) := by decide +kernel
theorem dL_countOf_15 : decode cL_countOf 15 = .ok (.iconst 0, 1) := by decide +kernel
theorem dL_countOf_16 : decode cL_countOf 16 = .ok (.ireturn, 1) := by decide +kernel
theorem dL_firstOf_0 : decode cL_firstOf 0 = .ok (.aload_n 2, 1) := by decide +kernel
theorem dL_firstOf_1 : decode cL_firstOf 1 = .ok (.iconst 0, 1) := by decide +kernel
theorem dL_firstOf_2 : decode cL_firstOf 2 = .ok (.aload_n 0, 1) := by decide +kernel
theorem dL_firstOf_3 : decode cL_firstOf 3 = .ok (.iload_n 1, 1) := by decide +kernel
theorem dL_firstOf_4 : decode cL_firstOf 4 = .ok (.invokevirtual 55, 3) := by decide +kernel
theorem dL_firstOf_7 : decode cL_firstOf 7 = .ok (.i2l, 1) := by decide +kernel
theorem dL_firstOf_8 : decode cL_firstOf 8 = .ok (.lastore, 1) := by decide +kernel
theorem dL_firstOf_9 : decode cL_firstOf 9 = .ok (.goto 6, 3) := by decide +kernel
theorem dL_firstOf_12 : decode cL_firstOf 12 = .ok (.astore_n 3, 1) := by decide +kernel
theorem dL_firstOf_13 : decode cL_firstOf 13 = .ok (.iconst 1, 1) := by decide +kernel
theorem dL_firstOf_14 : decode cL_firstOf 14 = .ok (.ireturn, 1) := by decide +kernel
theorem dL_firstOf_15 : decode cL_firstOf 15 = .ok (.iconst 0, 1) := by decide +kernel
theorem dL_firstOf_16 : decode cL_firstOf 16 = .ok (.ireturn, 1) := by decide +kernel
theorem dL_lastOf_0 : decode cL_lastOf 0 = .ok (.aload_n 2, 1) := by decide +kernel
theorem dL_lastOf_1 : decode cL_lastOf 1 = .ok (.iconst 0, 1) := by decide +kernel
theorem dL_lastOf_2 : decode cL_lastOf 2 = .ok (.aload_n 0, 1) := by decide +kernel
theorem dL_lastOf_3 : decode cL_lastOf 3 = .ok (.iload_n 1, 1) := by decide +kernel
theorem dL_lastOf_4 : decode cL_lastOf 4 = .ok (.invokevirtual 58, 3) := by decide +kernel
theorem dL_lastOf_7 : decode cL_lastOf 7 = .ok (.i2l, 1) := by decide +kernel
theorem dL_lastOf_8 : decode cL_lastOf 8 = .ok (.lastore, 1) := by decide +kernel
theorem dL_lastOf_9 : decode cL_lastOf 9 = .ok (.goto 6, 3) := by decide +kernel
theorem dL_lastOf_12 : decode cL_lastOf 12 = .ok (.astore_n 3, 1) := by decide +kernel
theorem dL_lastOf_13 : decode cL_lastOf 13 = .ok (.iconst 1, 1) := by decide +kernel
theorem dL_lastOf_14 : decode cL_lastOf 14 = .ok (.ireturn, 1) := by decide +kernel
theorem dL_lastOf_15 : decode cL_lastOf 15 = .ok (.iconst 0, 1) := by decide +kernel
theorem dL_lastOf_16 : decode cL_lastOf 16 = .ok (.ireturn, 1) := by decide +kernel
theorem dL_stepsTo_0 : decode cL_stepsTo 0 = .ok (.aload_n 2, 1) := by decide +kernel
theorem dL_stepsTo_1 : decode cL_stepsTo 1 = .ok (.iconst 0, 1) := by decide +kernel
theorem dL_stepsTo_2 : decode cL_stepsTo 2 = .ok (.aload_n 0, 1) := by decide +kernel
theorem dL_stepsTo_3 : decode cL_stepsTo 3 = .ok (.iload_n 1, 1) := by decide +kernel
theorem dL_stepsTo_4 : decode cL_stepsTo 4 = .ok (.invokevirtual 61, 3) := by decide +kernel
theorem dL_stepsTo_7 : decode cL_stepsTo 7 = .ok (.i2l, 1) := by decide +kernel
theorem dL_stepsTo_8 : decode cL_stepsTo 8 = .ok (.lastore, 1) := by decide +kernel
theorem dL_stepsTo_9 : decode cL_stepsTo 9 = .ok (.goto 6, 3) := by decide +kernel
theorem dL_stepsTo_12 : decode cL_stepsTo 12 = .ok (.astore_n 3, 1) := by decide +kernel
theorem dL_stepsTo_13 : decode cL_stepsTo 13 = .ok (.iconst 1, 1) := by decide +kernel
theorem dL_stepsTo_14 : decode cL_stepsTo 14 = .ok (.ireturn, 1) := by decide +kernel
theorem dL_stepsTo_15 : decode cL_stepsTo 15 = .ok (.iconst 0, 1) := by decide +kernel
theorem dL_stepsTo_16 : decode cL_stepsTo 16 = .ok (.ireturn, 1) := by decide +kernel
theorem dL_hear_0 : decode cL_hear 0 = .ok (.aload_n 2, 1) := by decide +kernel
theorem dL_hear_1 : decode cL_hear 1 = .ok (.iconst 0, 1) := by decide +kernel
theorem dL_hear_2 : decode cL_hear 2 = .ok (.aload_n 0, 1) := by decide +kernel
theorem dL_hear_3 : decode cL_hear 3 = .ok (.iload_n 1, 1) := by decide +kernel
theorem dL_hear_4 : decode cL_hear 4 = .ok (.invokevirtual 64, 3) := by decide +kernel
theorem dL_hear_7 : decode cL_hear 7 = .ok (.i2l, 1) := by decide +kernel
theorem dL_hear_8 : decode cL_hear 8 = .ok (.lastore, 1) := by decide +kernel
theorem dL_hear_9 : decode cL_hear 9 = .ok (.goto 6, 3) := by decide +kernel
theorem dL_hear_12 : decode cL_hear 12 = .ok (.astore_n 3, 1) := by decide +kernel
theorem dL_hear_13 : decode cL_hear 13 = .ok (.iconst 1, 1) := by decide +kernel
theorem dL_hear_14 : decode cL_hear 14 = .ok (.ireturn, 1) := by decide +kernel
theorem dL_hear_15 : decode cL_hear 15 = .ok (.iconst 0, 1) := by decide +kernel
theorem dL_hear_16 : decode cL_hear 16 = .ok (.ireturn, 1) := by decide +kernel
theorem dL_mock_0 : decode cL_mock 0 = .ok (.aload_n 2, 1) := by decide +kernel
theorem dL_mock_1 : decode cL_mock 1 = .ok (.iconst 0, 1) := by decide +kernel
theorem dL_mock_2 : decode cL_mock 2 = .ok (.aload_n 0, 1) := by decide +kernel
theorem dL_mock_3 : decode cL_mock 3 = .ok (.iload_n 1, 1) := by decide +kernel
theorem dL_mock_4 : decode cL_mock 4 = .ok (.invokevirtual 67, 3) := by decide +kernel
theorem dL_mock_7 : decode cL_mock 7 = .ok (.i2l, 1) := by decide +kernel
theorem dL_mock_8 : decode cL_mock 8 = .ok (.lastore, 1) := by decide +kernel
theorem dL_mock_9 : decode cL_mock 9 = .ok (.goto 6, 3) := by decide +kernel
theorem dL_mock_12 : decode cL_mock 12 = .ok (.astore_n 3, 1) := by decide +kernel
theorem dL_mock_13 : decode cL_mock 13 = .ok (.iconst 1, 1) := by decide +kernel
theorem dL_mock_14 : decode cL_mock 14 = .ok (.ireturn, 1) := by decide +kernel
theorem dL_mock_15 : decode cL_mock 15 = .ok (.iconst 0, 1) := by decide +kernel
theorem dL_mock_16 : decode cL_mock 16 = .ok (.ireturn, 1) := by decide +kernel
theorem dL_echo_0 : decode cL_echo 0 = .ok (.aload_n 2, 1) := by decide +kernel
theorem dL_echo_1 : decode cL_echo 1 = .ok (.iconst 0, 1) := by decide +kernel
theorem dL_echo_2 : decode cL_echo 2 = .ok (.aload_n 0, 1) := by decide +kernel
theorem dL_echo_3 : decode cL_echo 3 = .ok (.iload_n 1, 1) := by decide +kernel
theorem dL_echo_4 : decode cL_echo 4 = .ok (.invokevirtual 70, 3) := by decide +kernel
theorem dL_echo_7 : decode cL_echo 7 = .ok (.i2l, 1) := by decide +kernel
theorem dL_echo_8 : decode cL_echo 8 = .ok (.lastore, 1) := by decide +kernel
theorem dL_echo_9 : decode cL_echo 9 = .ok (.goto 6, 3) := by decide +kernel
theorem dL_echo_12 : decode cL_echo 12 = .ok (.astore_n 3, 1) := by decide +kernel
theorem dL_echo_13 : decode cL_echo 13 = .ok (.iconst 1, 1) := by decide +kernel
theorem dL_echo_14 : decode cL_echo 14 = .ok (.ireturn, 1) := by decide +kernel
theorem dL_echo_15 : decode cL_echo 15 = .ok (.iconst 0, 1) := by decide +kernel
theorem dL_echo_16 : decode cL_echo 16 = .ok (.ireturn, 1) := by decide +kernel
theorem dL_forget_0 : decode cL_forget 0 = .ok (.aload_n 2, 1) := by decide +kernel
theorem dL_forget_1 : decode cL_forget 1 = .ok (.iconst 0, 1) := by decide +kernel
theorem dL_forget_2 : decode cL_forget 2 = .ok (.aload_n 0, 1) := by decide +kernel
theorem dL_forget_3 : decode cL_forget 3 = .ok (.iload_n 1, 1) := by decide +kernel
theorem dL_forget_4 : decode cL_forget 4 = .ok (.invokevirtual 73, 3) := by decide +kernel
theorem dL_forget_7 : decode cL_forget 7 = .ok (.i2l, 1) := by decide +kernel
theorem dL_forget_8 : decode cL_forget 8 = .ok (.lastore, 1) := by decide +kernel
theorem dL_forget_9 : decode cL_forget 9 = .ok (.goto 6, 3) := by decide +kernel
theorem dL_forget_12 : decode cL_forget 12 = .ok (.astore_n 3, 1) := by decide +kernel
theorem dL_forget_13 : decode cL_forget 13 = .ok (.iconst 1, 1) := by decide +kernel
theorem dL_forget_14 : decode cL_forget 14 = .ok (.ireturn, 1) := by decide +kernel
theorem dL_forget_15 : decode cL_forget 15 = .ok (.iconst 0, 1) := by decide +kernel
theorem dL_forget_16 : decode cL_forget 16 = .ok (.ireturn, 1) := by decide +kernel
theorem dL_passDays_0 : decode cL_passDays 0 = .ok (.aload_n 2, 1) := by decide +kernel
theorem dL_passDays_1 : decode cL_passDays 1 = .ok (.iconst 0, 1) := by decide +kernel
theorem dL_passDays_2 : decode cL_passDays 2 = .ok (.aload_n 0, 1) := by decide +kernel
theorem dL_passDays_3 : decode cL_passDays 3 = .ok (.iload_n 1, 1) := by decide +kernel
theorem dL_passDays_4 : decode cL_passDays 4 = .ok (.invokevirtual 76, 3) := by decide +kernel
theorem dL_passDays_7 : decode cL_passDays 7 = .ok (.i2l, 1) := by decide +kernel
theorem dL_passDays_8 : decode cL_passDays 8 = .ok (.lastore, 1) := by decide +kernel
theorem dL_passDays_9 : decode cL_passDays 9 = .ok (.goto 6, 3) := by decide +kernel
theorem dL_passDays_12 : decode cL_passDays 12 = .ok (.astore_n 3, 1) := by decide +kernel
theorem dL_passDays_13 : decode cL_passDays 13 = .ok (.iconst 1, 1) := by decide +kernel
theorem dL_passDays_14 : decode cL_passDays 14 = .ok (.ireturn, 1) := by decide +kernel
theorem dL_passDays_15 : decode cL_passDays 15 = .ok (.iconst 0, 1) := by decide +kernel
theorem dL_passDays_16 : decode cL_passDays 16 = .ok (.ireturn, 1) := by decide +kernel
theorem dL_repeatAfter_0 : decode cL_repeatAfter 0 = .ok (.aload_n 2, 1) := by decide +kernel
theorem dL_repeatAfter_1 : decode cL_repeatAfter 1 = .ok (.iconst 0, 1) := by decide +kernel
theorem dL_repeatAfter_2 : decode cL_repeatAfter 2 = .ok (.aload_n 0, 1) := by decide +kernel
theorem dL_repeatAfter_3 : decode cL_repeatAfter 3 = .ok (.iload_n 1, 1) := by decide +kernel
theorem dL_repeatAfter_4 : decode cL_repeatAfter 4 = .ok (.invokevirtual 79, 3) := by decide +kernel
theorem dL_repeatAfter_7 : decode cL_repeatAfter 7 = .ok (.i2l, 1) := by decide +kernel
theorem dL_repeatAfter_8 : decode cL_repeatAfter 8 = .ok (.lastore, 1) := by decide +kernel
theorem dL_repeatAfter_9 : decode cL_repeatAfter 9 = .ok (.goto 6, 3) := by decide +kernel
theorem dL_repeatAfter_12 : decode cL_repeatAfter 12 = .ok (.astore_n 3, 1) := by decide +kernel
theorem dL_repeatAfter_13 : decode cL_repeatAfter 13 = .ok (.iconst 1, 1) := by decide +kernel
theorem dL_repeatAfter_14 : decode cL_repeatAfter 14 = .ok (.ireturn, 1) := by decide +kernel
theorem dL_repeatAfter_15 : decode cL_repeatAfter 15 = .ok (.iconst 0, 1) := by decide +kernel
theorem dL_repeatAfter_16 : decode cL_repeatAfter 16 = .ok (.ireturn, 1) := by decide +kernel
theorem dL_daysUntilKnown_0 : decode cL_daysUntilKnown 0 = .ok (.aload_n 2, 1) := by decide +kernel
theorem dL_daysUntilKnown_1 : decode cL_daysUntilKnown 1 = .ok (.iconst 0, 1) := by decide +kernel
theorem dL_daysUntilKnown_2 : decode cL_daysUntilKnown 2 = .ok (.aload_n 0, 1) := by decide +kernel
theorem dL_daysUntilKnown_3 : decode cL_daysUntilKnown 3 = .ok (.iload_n 1, 1) := by decide +kernel
theorem dL_daysUntilKnown_4 : decode cL_daysUntilKnown 4 = .ok (.invokevirtual 82, 3) := by decide +kernel
theorem dL_daysUntilKnown_7 : decode cL_daysUntilKnown 7 = .ok (.i2l, 1) := by decide +kernel
theorem dL_daysUntilKnown_8 : decode cL_daysUntilKnown 8 = .ok (.lastore, 1) := by decide +kernel
theorem dL_daysUntilKnown_9 : decode cL_daysUntilKnown 9 = .ok (.goto 6, 3) := by decide +kernel
theorem dL_daysUntilKnown_12 : decode cL_daysUntilKnown 12 = .ok (.astore_n 3, 1) := by decide +kernel
theorem dL_daysUntilKnown_13 : decode cL_daysUntilKnown 13 = .ok (.iconst 1, 1) := by decide +kernel
theorem dL_daysUntilKnown_14 : decode cL_daysUntilKnown 14 = .ok (.ireturn, 1) := by decide +kernel
theorem dL_daysUntilKnown_15 : decode cL_daysUntilKnown 15 = .ok (.iconst 0, 1) := by decide +kernel
theorem dL_daysUntilKnown_16 : decode cL_daysUntilKnown 16 = .ok (.ireturn, 1) := by decide +kernel
theorem dL_law_0 : decode cL_law 0 = .ok (.new 8, 3) := by decide +kernel
theorem dL_law_3 : decode cL_law 3 = .ok (.dup, 1) := by decide +kernel
theorem dL_law_4 : decode cL_law 4 = .ok (.invokespecial 85, 3) := by decide +kernel
theorem dL_law_7 : decode cL_law 7 = .ok (.astore_n 1, 1) := by decide +kernel
theorem dL_law_8 : decode cL_law 8 = .ok (.new 86, 3) := by decide +kernel
theorem dL_law_11 : decode cL_law 11 = .ok (.dup, 1) := by decide +kernel
theorem dL_law_12 : decode cL_law 12 = .ok (.invokespecial 88, 3) := by decide +kernel
theorem dL_law_15 : decode cL_law 15 = .ok (.astore_n 2, 1) := by decide +kernel
theorem dL_law_16 : decode cL_law 16 = .ok (.iconst 1, 1) := by decide +kernel
theorem dL_law_17 : decode cL_law 17 = .ok (.newarray .long, 2) := by decide +kernel
theorem dL_law_19 : decode cL_law 19 = .ok (.astore_n 3, 1) := by decide +kernel
theorem dL_law_20 : decode cL_law 20 = .ok (.iconst 0, 1) := by decide +kernel
theorem dL_law_21 : decode cL_law 21 = .ok (.istore 4, 2) := by decide +kernel
theorem dL_law_23 : decode cL_law 23 = .ok (.iload 4, 2) := by decide +kernel
theorem dL_law_25 : decode cL_law 25 = .ok (.aload_n 0, 1) := by decide +kernel
theorem dL_law_26 : decode cL_law 26 = .ok (.arraylength, 1) := by decide +kernel
theorem dL_law_27 : decode cL_law 27 = .ok (.bipush 6, 2) := by decide +kernel
theorem dL_law_29 : decode cL_law 29 = .ok (.isub, 1) := by decide +kernel
theorem dL_law_30 : decode cL_law 30 = .ok (.if_icmp .gt 1715, 3) := by decide +kernel
theorem dL_law_33 : decode cL_law 33 = .ok (.aload_n 0, 1) := by decide +kernel
theorem dL_law_34 : decode cL_law 34 = .ok (.iload 4, 2) := by decide +kernel
theorem dL_law_36 : decode cL_law 36 = .ok (.iaload, 1) := by decide +kernel
theorem dL_law_37 : decode cL_law 37 = .ok (.bipush 63, 2) := by decide +kernel
theorem dL_law_39 : decode cL_law 39 = .ok (.iand, 1) := by decide +kernel
theorem dL_law_40 : decode cL_law 40 = .ok (.tableswitch 1699 0 36 #[164, 268, 324, 337, 350, 363, 376, 389, 402, 415, 471, 527, 583, 639, 707, 782, 795, 808, 821, 877, 933, 946, 1002, 1058, 1114, 1170, 1226, 1239, 1295, 1351, 1407, 1463, 1519, 1575, 1631, 1644, 1685], 164) := by decide +kernel
theorem dL_law_204 : decode cL_law 204 = .ok (.aload_n 1, 1) := by decide +kernel
theorem dL_law_205 : decode cL_law 205 = .ok (.aload_n 0, 1) := by decide +kernel
theorem dL_law_206 : decode cL_law 206 = .ok (.iload 4, 2) := by decide +kernel
theorem dL_law_208 : decode cL_law 208 = .ok (.iconst 1, 1) := by decide +kernel
theorem dL_law_209 : decode cL_law 209 = .ok (.iadd, 1) := by decide +kernel
theorem dL_law_210 : decode cL_law 210 = .ok (.iaload, 1) := by decide +kernel
theorem dL_law_211 : decode cL_law 211 = .ok (.aload_n 0, 1) := by decide +kernel
theorem dL_law_212 : decode cL_law 212 = .ok (.iload 4, 2) := by decide +kernel
theorem dL_law_214 : decode cL_law 214 = .ok (.iconst 2, 1) := by decide +kernel
theorem dL_law_215 : decode cL_law 215 = .ok (.iadd, 1) := by decide +kernel
theorem dL_law_216 : decode cL_law 216 = .ok (.iaload, 1) := by decide +kernel
theorem dL_law_217 : decode cL_law 217 = .ok (.aload_n 0, 1) := by decide +kernel
theorem dL_law_218 : decode cL_law 218 = .ok (.iload 4, 2) := by decide +kernel
theorem dL_law_220 : decode cL_law 220 = .ok (.iconst 3, 1) := by decide +kernel
theorem dL_law_221 : decode cL_law 221 = .ok (.iadd, 1) := by decide +kernel
theorem dL_law_222 : decode cL_law 222 = .ok (.iaload, 1) := by decide +kernel
theorem dL_law_223 : decode cL_law 223 = .ok (.aload_n 0, 1) := by decide +kernel
theorem dL_law_224 : decode cL_law 224 = .ok (.iload 4, 2) := by decide +kernel
theorem dL_law_226 : decode cL_law 226 = .ok (.iconst 4, 1) := by decide +kernel
theorem dL_law_227 : decode cL_law 227 = .ok (.iadd, 1) := by decide +kernel
theorem dL_law_228 : decode cL_law 228 = .ok (.iaload, 1) := by decide +kernel
theorem dL_law_229 : decode cL_law 229 = .ok (.aload_n 0, 1) := by decide +kernel
theorem dL_law_230 : decode cL_law 230 = .ok (.iload 4, 2) := by decide +kernel
theorem dL_law_232 : decode cL_law 232 = .ok (.iconst 5, 1) := by decide +kernel
theorem dL_law_233 : decode cL_law 233 = .ok (.iadd, 1) := by decide +kernel
theorem dL_law_234 : decode cL_law 234 = .ok (.iaload, 1) := by decide +kernel
theorem dL_law_235 : decode cL_law 235 = .ok (.aload_n 3, 1) := by decide +kernel
theorem dL_law_236 : decode cL_law 236 = .ok (.invokestatic 89, 3) := by decide +kernel
theorem dL_law_239 : decode cL_law 239 = .ok (.istore 5, 2) := by decide +kernel
theorem dL_law_241 : decode cL_law 241 = .ok (.aload_n 2, 1) := by decide +kernel
theorem dL_law_242 : decode cL_law 242 = .ok (.aload_n 0, 1) := by decide +kernel
theorem dL_law_243 : decode cL_law 243 = .ok (.iload 4, 2) := by decide +kernel
theorem dL_law_245 : decode cL_law 245 = .ok (.iconst 1, 1) := by decide +kernel
theorem dL_law_246 : decode cL_law 246 = .ok (.iadd, 1) := by decide +kernel
theorem dL_law_247 : decode cL_law 247 = .ok (.iaload, 1) := by decide +kernel
theorem dL_law_248 : decode cL_law 248 = .ok (.aload_n 0, 1) := by decide +kernel
theorem dL_law_249 : decode cL_law 249 = .ok (.iload 4, 2) := by decide +kernel
theorem dL_law_251 : decode cL_law 251 = .ok (.iconst 2, 1) := by decide +kernel
theorem dL_law_252 : decode cL_law 252 = .ok (.iadd, 1) := by decide +kernel
theorem dL_law_253 : decode cL_law 253 = .ok (.iaload, 1) := by decide +kernel
theorem dL_law_254 : decode cL_law 254 = .ok (.aload_n 0, 1) := by decide +kernel
theorem dL_law_255 : decode cL_law 255 = .ok (.iload 4, 2) := by decide +kernel
theorem dL_law_257 : decode cL_law 257 = .ok (.iconst 3, 1) := by decide +kernel
theorem dL_law_258 : decode cL_law 258 = .ok (.iadd, 1) := by decide +kernel
theorem dL_law_259 : decode cL_law 259 = .ok (.iaload, 1) := by decide +kernel
theorem dL_law_260 : decode cL_law 260 = .ok (.aload_n 0, 1) := by decide +kernel
theorem dL_law_261 : decode cL_law 261 = .ok (.iload 4, 2) := by decide +kernel
theorem dL_law_263 : decode cL_law 263 = .ok (.iconst 4, 1) := by decide +kernel
theorem dL_law_264 : decode cL_law 264 = .ok (.iadd, 1) := by decide +kernel
theorem dL_law_265 : decode cL_law 265 = .ok (.iaload, 1) := by decide +kernel
theorem dL_law_266 : decode cL_law 266 = .ok (.aload_n 0, 1) := by decide +kernel
theorem dL_law_267 : decode cL_law 267 = .ok (.iload 4, 2) := by decide +kernel
theorem dL_law_269 : decode cL_law 269 = .ok (.iconst 5, 1) := by decide +kernel
theorem dL_law_270 : decode cL_law 270 = .ok (.iadd, 1) := by decide +kernel
theorem dL_law_271 : decode cL_law 271 = .ok (.iaload, 1) := by decide +kernel
theorem dL_law_272 : decode cL_law 272 = .ok (.invokevirtual 94, 3) := by decide +kernel
theorem dL_law_275 : decode cL_law 275 = .ok (.istore 6, 2) := by decide +kernel
theorem dL_law_277 : decode cL_law 277 = .ok (.aload_n 2, 1) := by decide +kernel
theorem dL_law_278 : decode cL_law 278 = .ok (.invokevirtual 95, 3) := by decide +kernel
theorem dL_law_281 : decode cL_law 281 = .ok (.iload 5, 2) := by decide +kernel
theorem dL_law_283 : decode cL_law 283 = .ok (.if_icmp .eq 5, 3) := by decide +kernel
theorem dL_law_286 : decode cL_law 286 = .ok (.iconst 0, 1) := by decide +kernel
theorem dL_law_287 : decode cL_law 287 = .ok (.ireturn, 1) := by decide +kernel
theorem dL_law_288 : decode cL_law 288 = .ok (.iload 5, 2) := by decide +kernel
theorem dL_law_290 : decode cL_law 290 = .ok (.ifCond .ne 15, 3) := by decide +kernel
theorem dL_law_293 : decode cL_law 293 = .ok (.aload_n 3, 1) := by decide +kernel
theorem dL_law_294 : decode cL_law 294 = .ok (.iconst 0, 1) := by decide +kernel
theorem dL_law_295 : decode cL_law 295 = .ok (.laload, 1) := by decide +kernel
theorem dL_law_296 : decode cL_law 296 = .ok (.iload 6, 2) := by decide +kernel
theorem dL_law_298 : decode cL_law 298 = .ok (.i2l, 1) := by decide +kernel
theorem dL_law_299 : decode cL_law 299 = .ok (.lcmp, 1) := by decide +kernel
theorem dL_law_300 : decode cL_law 300 = .ok (.ifCond .eq 5, 3) := by decide +kernel
theorem dL_law_303 : decode cL_law 303 = .ok (.iconst 0, 1) := by decide +kernel
theorem dL_law_304 : decode cL_law 304 = .ok (.ireturn, 1) := by decide +kernel
theorem dL_law_305 : decode cL_law 305 = .ok (.goto 1434, 3) := by decide +kernel
theorem dL_law_308 : decode cL_law 308 = .ok (.aload_n 1, 1) := by decide +kernel
theorem dL_law_309 : decode cL_law 309 = .ok (.aload_n 0, 1) := by decide +kernel
theorem dL_law_310 : decode cL_law 310 = .ok (.iload 4, 2) := by decide +kernel
theorem dL_law_312 : decode cL_law 312 = .ok (.iconst 1, 1) := by decide +kernel
theorem dL_law_313 : decode cL_law 313 = .ok (.iadd, 1) := by decide +kernel
theorem dL_law_314 : decode cL_law 314 = .ok (.iaload, 1) := by decide +kernel
theorem dL_law_315 : decode cL_law 315 = .ok (.aload_n 3, 1) := by decide +kernel
theorem dL_law_316 : decode cL_law 316 = .ok (.invokestatic 99, 3) := by decide +kernel
theorem dL_law_319 : decode cL_law 319 = .ok (.istore 5, 2) := by decide +kernel
theorem dL_law_321 : decode cL_law 321 = .ok (.aload_n 2, 1) := by decide +kernel
theorem dL_law_322 : decode cL_law 322 = .ok (.aload_n 0, 1) := by decide +kernel
theorem dL_law_323 : decode cL_law 323 = .ok (.iload 4, 2) := by decide +kernel
theorem dL_law_325 : decode cL_law 325 = .ok (.iconst 1, 1) := by decide +kernel
theorem dL_law_326 : decode cL_law 326 = .ok (.iadd, 1) := by decide +kernel
theorem dL_law_327 : decode cL_law 327 = .ok (.iaload, 1) := by decide +kernel
theorem dL_law_328 : decode cL_law 328 = .ok (.invokevirtual 102, 3) := by decide +kernel
theorem dL_law_331 : decode cL_law 331 = .ok (.istore 6, 2) := by decide +kernel
theorem dL_law_333 : decode cL_law 333 = .ok (.aload_n 2, 1) := by decide +kernel
theorem dL_law_334 : decode cL_law 334 = .ok (.invokevirtual 95, 3) := by decide +kernel
theorem dL_law_337 : decode cL_law 337 = .ok (.iload 5, 2) := by decide +kernel
theorem dL_law_339 : decode cL_law 339 = .ok (.if_icmp .eq 5, 3) := by decide +kernel
theorem dL_law_342 : decode cL_law 342 = .ok (.iconst 0, 1) := by decide +kernel
theorem dL_law_343 : decode cL_law 343 = .ok (.ireturn, 1) := by decide +kernel
theorem dL_law_344 : decode cL_law 344 = .ok (.iload 5, 2) := by decide +kernel
theorem dL_law_346 : decode cL_law 346 = .ok (.ifCond .ne 15, 3) := by decide +kernel
theorem dL_law_349 : decode cL_law 349 = .ok (.aload_n 3, 1) := by decide +kernel
theorem dL_law_350 : decode cL_law 350 = .ok (.iconst 0, 1) := by decide +kernel
theorem dL_law_351 : decode cL_law 351 = .ok (.laload, 1) := by decide +kernel
theorem dL_law_352 : decode cL_law 352 = .ok (.iload 6, 2) := by decide +kernel
theorem dL_law_354 : decode cL_law 354 = .ok (.i2l, 1) := by decide +kernel
theorem dL_law_355 : decode cL_law 355 = .ok (.lcmp, 1) := by decide +kernel
theorem dL_law_356 : decode cL_law 356 = .ok (.ifCond .eq 5, 3) := by decide +kernel
theorem dL_law_359 : decode cL_law 359 = .ok (.iconst 0, 1) := by decide +kernel
theorem dL_law_360 : decode cL_law 360 = .ok (.ireturn, 1) := by decide +kernel
theorem dL_law_361 : decode cL_law 361 = .ok (.goto 1378, 3) := by decide +kernel
theorem dL_law_364 : decode cL_law 364 = .ok (.aload_n 1, 1) := by decide +kernel
theorem dL_law_365 : decode cL_law 365 = .ok (.invokevirtual 103, 3) := by decide +kernel
theorem dL_law_368 : decode cL_law 368 = .ok (.aload_n 2, 1) := by decide +kernel
theorem dL_law_369 : decode cL_law 369 = .ok (.invokevirtual 106, 3) := by decide +kernel
theorem dL_law_372 : decode cL_law 372 = .ok (.if_icmp .eq 1367, 3) := by decide +kernel
theorem dL_law_375 : decode cL_law 375 = .ok (.iconst 0, 1) := by decide +kernel
theorem dL_law_376 : decode cL_law 376 = .ok (.ireturn, 1) := by decide +kernel
theorem dL_law_377 : decode cL_law 377 = .ok (.aload_n 1, 1) := by decide +kernel
theorem dL_law_378 : decode cL_law 378 = .ok (.invokevirtual 107, 3) := by decide +kernel
theorem dL_law_381 : decode cL_law 381 = .ok (.aload_n 2, 1) := by decide +kernel
theorem dL_law_382 : decode cL_law 382 = .ok (.invokevirtual 110, 3) := by decide +kernel
theorem dL_law_385 : decode cL_law 385 = .ok (.if_icmp .eq 1354, 3) := by decide +kernel
theorem dL_law_388 : decode cL_law 388 = .ok (.iconst 0, 1) := by decide +kernel
theorem dL_law_389 : decode cL_law 389 = .ok (.ireturn, 1) := by decide +kernel
theorem dL_law_390 : decode cL_law 390 = .ok (.aload_n 1, 1) := by decide +kernel
theorem dL_law_391 : decode cL_law 391 = .ok (.invokevirtual 111, 3) := by decide +kernel
theorem dL_law_394 : decode cL_law 394 = .ok (.aload_n 2, 1) := by decide +kernel
theorem dL_law_395 : decode cL_law 395 = .ok (.invokevirtual 114, 3) := by decide +kernel
theorem dL_law_398 : decode cL_law 398 = .ok (.if_icmp .eq 1341, 3) := by decide +kernel
theorem dL_law_401 : decode cL_law 401 = .ok (.iconst 0, 1) := by decide +kernel
theorem dL_law_402 : decode cL_law 402 = .ok (.ireturn, 1) := by decide +kernel
theorem dL_law_403 : decode cL_law 403 = .ok (.aload_n 1, 1) := by decide +kernel
theorem dL_law_404 : decode cL_law 404 = .ok (.invokevirtual 115, 3) := by decide +kernel
theorem dL_law_407 : decode cL_law 407 = .ok (.aload_n 2, 1) := by decide +kernel
theorem dL_law_408 : decode cL_law 408 = .ok (.invokevirtual 118, 3) := by decide +kernel
theorem dL_law_411 : decode cL_law 411 = .ok (.if_icmp .eq 1328, 3) := by decide +kernel
theorem dL_law_414 : decode cL_law 414 = .ok (.iconst 0, 1) := by decide +kernel
theorem dL_law_415 : decode cL_law 415 = .ok (.ireturn, 1) := by decide +kernel
theorem dL_law_416 : decode cL_law 416 = .ok (.aload_n 1, 1) := by decide +kernel
theorem dL_law_417 : decode cL_law 417 = .ok (.invokevirtual 119, 3) := by decide +kernel
theorem dL_law_420 : decode cL_law 420 = .ok (.aload_n 2, 1) := by decide +kernel
theorem dL_law_421 : decode cL_law 421 = .ok (.invokevirtual 122, 3) := by decide +kernel
theorem dL_law_424 : decode cL_law 424 = .ok (.if_icmp .eq 1315, 3) := by decide +kernel
theorem dL_law_427 : decode cL_law 427 = .ok (.iconst 0, 1) := by decide +kernel
theorem dL_law_428 : decode cL_law 428 = .ok (.ireturn, 1) := by decide +kernel
theorem dL_law_429 : decode cL_law 429 = .ok (.aload_n 1, 1) := by decide +kernel
theorem dL_law_430 : decode cL_law 430 = .ok (.invokevirtual 123, 3) := by decide +kernel
theorem dL_law_433 : decode cL_law 433 = .ok (.aload_n 2, 1) := by decide +kernel
theorem dL_law_434 : decode cL_law 434 = .ok (.invokevirtual 126, 3) := by decide +kernel
theorem dL_law_437 : decode cL_law 437 = .ok (.if_icmp .eq 1302, 3) := by decide +kernel
theorem dL_law_440 : decode cL_law 440 = .ok (.iconst 0, 1) := by decide +kernel
theorem dL_law_441 : decode cL_law 441 = .ok (.ireturn, 1) := by decide +kernel
theorem dL_law_442 : decode cL_law 442 = .ok (.aload_n 1, 1) := by decide +kernel
theorem dL_law_443 : decode cL_law 443 = .ok (.invokevirtual 127, 3) := by decide +kernel
theorem dL_law_446 : decode cL_law 446 = .ok (.aload_n 2, 1) := by decide +kernel
theorem dL_law_447 : decode cL_law 447 = .ok (.invokevirtual 130, 3) := by decide +kernel
theorem dL_law_450 : decode cL_law 450 = .ok (.if_icmp .eq 1289, 3) := by decide +kernel
theorem dL_law_453 : decode cL_law 453 = .ok (.iconst 0, 1) := by decide +kernel
theorem dL_law_454 : decode cL_law 454 = .ok (.ireturn, 1) := by decide +kernel
theorem dL_law_455 : decode cL_law 455 = .ok (.aload_n 1, 1) := by decide +kernel
theorem dL_law_456 : decode cL_law 456 = .ok (.aload_n 0, 1) := by decide +kernel
theorem dL_law_457 : decode cL_law 457 = .ok (.iload 4, 2) := by decide +kernel
theorem dL_law_459 : decode cL_law 459 = .ok (.iconst 1, 1) := by decide +kernel
theorem dL_law_460 : decode cL_law 460 = .ok (.iadd, 1) := by decide +kernel
theorem dL_law_461 : decode cL_law 461 = .ok (.iaload, 1) := by decide +kernel
theorem dL_law_462 : decode cL_law 462 = .ok (.aload_n 3, 1) := by decide +kernel
theorem dL_law_463 : decode cL_law 463 = .ok (.invokestatic 131, 3) := by decide +kernel
theorem dL_law_466 : decode cL_law 466 = .ok (.istore 5, 2) := by decide +kernel
theorem dL_law_468 : decode cL_law 468 = .ok (.aload_n 2, 1) := by decide +kernel
theorem dL_law_469 : decode cL_law 469 = .ok (.aload_n 0, 1) := by decide +kernel
theorem dL_law_470 : decode cL_law 470 = .ok (.iload 4, 2) := by decide +kernel
theorem dL_law_472 : decode cL_law 472 = .ok (.iconst 1, 1) := by decide +kernel
theorem dL_law_473 : decode cL_law 473 = .ok (.iadd, 1) := by decide +kernel
theorem dL_law_474 : decode cL_law 474 = .ok (.iaload, 1) := by decide +kernel
theorem dL_law_475 : decode cL_law 475 = .ok (.invokevirtual 133, 3) := by decide +kernel
theorem dL_law_478 : decode cL_law 478 = .ok (.istore 6, 2) := by decide +kernel
theorem dL_law_480 : decode cL_law 480 = .ok (.aload_n 2, 1) := by decide +kernel
theorem dL_law_481 : decode cL_law 481 = .ok (.invokevirtual 95, 3) := by decide +kernel
theorem dL_law_484 : decode cL_law 484 = .ok (.iload 5, 2) := by decide +kernel
theorem dL_law_486 : decode cL_law 486 = .ok (.if_icmp .eq 5, 3) := by decide +kernel
theorem dL_law_489 : decode cL_law 489 = .ok (.iconst 0, 1) := by decide +kernel
theorem dL_law_490 : decode cL_law 490 = .ok (.ireturn, 1) := by decide +kernel
theorem dL_law_491 : decode cL_law 491 = .ok (.iload 5, 2) := by decide +kernel
theorem dL_law_493 : decode cL_law 493 = .ok (.ifCond .ne 15, 3) := by decide +kernel
theorem dL_law_496 : decode cL_law 496 = .ok (.aload_n 3, 1) := by decide +kernel
theorem dL_law_497 : decode cL_law 497 = .ok (.iconst 0, 1) := by decide +kernel
theorem dL_law_498 : decode cL_law 498 = .ok (.laload, 1) := by decide +kernel
theorem dL_law_499 : decode cL_law 499 = .ok (.iload 6, 2) := by decide +kernel
theorem dL_law_501 : decode cL_law 501 = .ok (.i2l, 1) := by decide +kernel
theorem dL_law_502 : decode cL_law 502 = .ok (.lcmp, 1) := by decide +kernel
theorem dL_law_503 : decode cL_law 503 = .ok (.ifCond .eq 5, 3) := by decide +kernel
theorem dL_law_506 : decode cL_law 506 = .ok (.iconst 0, 1) := by decide +kernel
theorem dL_law_507 : decode cL_law 507 = .ok (.ireturn, 1) := by decide +kernel
theorem dL_law_508 : decode cL_law 508 = .ok (.goto 1231, 3) := by decide +kernel
theorem dL_law_511 : decode cL_law 511 = .ok (.aload_n 1, 1) := by decide +kernel
theorem dL_law_512 : decode cL_law 512 = .ok (.aload_n 0, 1) := by decide +kernel
theorem dL_law_513 : decode cL_law 513 = .ok (.iload 4, 2) := by decide +kernel
theorem dL_law_515 : decode cL_law 515 = .ok (.iconst 1, 1) := by decide +kernel
theorem dL_law_516 : decode cL_law 516 = .ok (.iadd, 1) := by decide +kernel
theorem dL_law_517 : decode cL_law 517 = .ok (.iaload, 1) := by decide +kernel
theorem dL_law_518 : decode cL_law 518 = .ok (.aload_n 3, 1) := by decide +kernel
theorem dL_law_519 : decode cL_law 519 = .ok (.invokestatic 134, 3) := by decide +kernel
theorem dL_law_522 : decode cL_law 522 = .ok (.istore 5, 2) := by decide +kernel
theorem dL_law_524 : decode cL_law 524 = .ok (.aload_n 2, 1) := by decide +kernel
theorem dL_law_525 : decode cL_law 525 = .ok (.aload_n 0, 1) := by decide +kernel
theorem dL_law_526 : decode cL_law 526 = .ok (.iload 4, 2) := by decide +kernel
theorem dL_law_528 : decode cL_law 528 = .ok (.iconst 1, 1) := by decide +kernel
theorem dL_law_529 : decode cL_law 529 = .ok (.iadd, 1) := by decide +kernel
theorem dL_law_530 : decode cL_law 530 = .ok (.iaload, 1) := by decide +kernel
theorem dL_law_531 : decode cL_law 531 = .ok (.invokevirtual 136, 3) := by decide +kernel
theorem dL_law_534 : decode cL_law 534 = .ok (.istore 6, 2) := by decide +kernel
theorem dL_law_536 : decode cL_law 536 = .ok (.aload_n 2, 1) := by decide +kernel
theorem dL_law_537 : decode cL_law 537 = .ok (.invokevirtual 95, 3) := by decide +kernel
theorem dL_law_540 : decode cL_law 540 = .ok (.iload 5, 2) := by decide +kernel
theorem dL_law_542 : decode cL_law 542 = .ok (.if_icmp .eq 5, 3) := by decide +kernel
theorem dL_law_545 : decode cL_law 545 = .ok (.iconst 0, 1) := by decide +kernel
theorem dL_law_546 : decode cL_law 546 = .ok (.ireturn, 1) := by decide +kernel
theorem dL_law_547 : decode cL_law 547 = .ok (.iload 5, 2) := by decide +kernel
theorem dL_law_549 : decode cL_law 549 = .ok (.ifCond .ne 15, 3) := by decide +kernel
theorem dL_law_552 : decode cL_law 552 = .ok (.aload_n 3, 1) := by decide +kernel
theorem dL_law_553 : decode cL_law 553 = .ok (.iconst 0, 1) := by decide +kernel
theorem dL_law_554 : decode cL_law 554 = .ok (.laload, 1) := by decide +kernel
theorem dL_law_555 : decode cL_law 555 = .ok (.iload 6, 2) := by decide +kernel
theorem dL_law_557 : decode cL_law 557 = .ok (.i2l, 1) := by decide +kernel
theorem dL_law_558 : decode cL_law 558 = .ok (.lcmp, 1) := by decide +kernel
theorem dL_law_559 : decode cL_law 559 = .ok (.ifCond .eq 5, 3) := by decide +kernel
theorem dL_law_562 : decode cL_law 562 = .ok (.iconst 0, 1) := by decide +kernel
theorem dL_law_563 : decode cL_law 563 = .ok (.ireturn, 1) := by decide +kernel
theorem dL_law_564 : decode cL_law 564 = .ok (.goto 1175, 3) := by decide +kernel
theorem dL_law_567 : decode cL_law 567 = .ok (.aload_n 1, 1) := by decide +kernel
theorem dL_law_568 : decode cL_law 568 = .ok (.aload_n 0, 1) := by decide +kernel
theorem dL_law_569 : decode cL_law 569 = .ok (.iload 4, 2) := by decide +kernel
theorem dL_law_571 : decode cL_law 571 = .ok (.iconst 1, 1) := by decide +kernel
theorem dL_law_572 : decode cL_law 572 = .ok (.iadd, 1) := by decide +kernel
theorem dL_law_573 : decode cL_law 573 = .ok (.iaload, 1) := by decide +kernel
theorem dL_law_574 : decode cL_law 574 = .ok (.aload_n 3, 1) := by decide +kernel
theorem dL_law_575 : decode cL_law 575 = .ok (.invokestatic 137, 3) := by decide +kernel
theorem dL_law_578 : decode cL_law 578 = .ok (.istore 5, 2) := by decide +kernel
theorem dL_law_580 : decode cL_law 580 = .ok (.aload_n 2, 1) := by decide +kernel
theorem dL_law_581 : decode cL_law 581 = .ok (.aload_n 0, 1) := by decide +kernel
theorem dL_law_582 : decode cL_law 582 = .ok (.iload 4, 2) := by decide +kernel
theorem dL_law_584 : decode cL_law 584 = .ok (.iconst 1, 1) := by decide +kernel
theorem dL_law_585 : decode cL_law 585 = .ok (.iadd, 1) := by decide +kernel
theorem dL_law_586 : decode cL_law 586 = .ok (.iaload, 1) := by decide +kernel
theorem dL_law_587 : decode cL_law 587 = .ok (.invokevirtual 139, 3) := by decide +kernel
theorem dL_law_590 : decode cL_law 590 = .ok (.istore 6, 2) := by decide +kernel
theorem dL_law_592 : decode cL_law 592 = .ok (.aload_n 2, 1) := by decide +kernel
theorem dL_law_593 : decode cL_law 593 = .ok (.invokevirtual 95, 3) := by decide +kernel
theorem dL_law_596 : decode cL_law 596 = .ok (.iload 5, 2) := by decide +kernel
theorem dL_law_598 : decode cL_law 598 = .ok (.if_icmp .eq 5, 3) := by decide +kernel
theorem dL_law_601 : decode cL_law 601 = .ok (.iconst 0, 1) := by decide +kernel
theorem dL_law_602 : decode cL_law 602 = .ok (.ireturn, 1) := by decide +kernel
theorem dL_law_603 : decode cL_law 603 = .ok (.iload 5, 2) := by decide +kernel
theorem dL_law_605 : decode cL_law 605 = .ok (.ifCond .ne 15, 3) := by decide +kernel
theorem dL_law_608 : decode cL_law 608 = .ok (.aload_n 3, 1) := by decide +kernel
theorem dL_law_609 : decode cL_law 609 = .ok (.iconst 0, 1) := by decide +kernel
theorem dL_law_610 : decode cL_law 610 = .ok (.laload, 1) := by decide +kernel
theorem dL_law_611 : decode cL_law 611 = .ok (.iload 6, 2) := by decide +kernel
theorem dL_law_613 : decode cL_law 613 = .ok (.i2l, 1) := by decide +kernel
theorem dL_law_614 : decode cL_law 614 = .ok (.lcmp, 1) := by decide +kernel
theorem dL_law_615 : decode cL_law 615 = .ok (.ifCond .eq 5, 3) := by decide +kernel
theorem dL_law_618 : decode cL_law 618 = .ok (.iconst 0, 1) := by decide +kernel
theorem dL_law_619 : decode cL_law 619 = .ok (.ireturn, 1) := by decide +kernel
theorem dL_law_620 : decode cL_law 620 = .ok (.goto 1119, 3) := by decide +kernel
theorem dL_law_623 : decode cL_law 623 = .ok (.aload_n 1, 1) := by decide +kernel
theorem dL_law_624 : decode cL_law 624 = .ok (.aload_n 0, 1) := by decide +kernel
theorem dL_law_625 : decode cL_law 625 = .ok (.iload 4, 2) := by decide +kernel
theorem dL_law_627 : decode cL_law 627 = .ok (.iconst 1, 1) := by decide +kernel
theorem dL_law_628 : decode cL_law 628 = .ok (.iadd, 1) := by decide +kernel
theorem dL_law_629 : decode cL_law 629 = .ok (.iaload, 1) := by decide +kernel
theorem dL_law_630 : decode cL_law 630 = .ok (.aload_n 3, 1) := by decide +kernel
theorem dL_law_631 : decode cL_law 631 = .ok (.invokestatic 140, 3) := by decide +kernel
theorem dL_law_634 : decode cL_law 634 = .ok (.istore 5, 2) := by decide +kernel
theorem dL_law_636 : decode cL_law 636 = .ok (.aload_n 2, 1) := by decide +kernel
theorem dL_law_637 : decode cL_law 637 = .ok (.aload_n 0, 1) := by decide +kernel
theorem dL_law_638 : decode cL_law 638 = .ok (.iload 4, 2) := by decide +kernel
theorem dL_law_640 : decode cL_law 640 = .ok (.iconst 1, 1) := by decide +kernel
theorem dL_law_641 : decode cL_law 641 = .ok (.iadd, 1) := by decide +kernel
theorem dL_law_642 : decode cL_law 642 = .ok (.iaload, 1) := by decide +kernel
theorem dL_law_643 : decode cL_law 643 = .ok (.invokevirtual 142, 3) := by decide +kernel
theorem dL_law_646 : decode cL_law 646 = .ok (.istore 6, 2) := by decide +kernel
theorem dL_law_648 : decode cL_law 648 = .ok (.aload_n 2, 1) := by decide +kernel
theorem dL_law_649 : decode cL_law 649 = .ok (.invokevirtual 95, 3) := by decide +kernel
theorem dL_law_652 : decode cL_law 652 = .ok (.iload 5, 2) := by decide +kernel
theorem dL_law_654 : decode cL_law 654 = .ok (.if_icmp .eq 5, 3) := by decide +kernel
theorem dL_law_657 : decode cL_law 657 = .ok (.iconst 0, 1) := by decide +kernel
theorem dL_law_658 : decode cL_law 658 = .ok (.ireturn, 1) := by decide +kernel
theorem dL_law_659 : decode cL_law 659 = .ok (.iload 5, 2) := by decide +kernel
theorem dL_law_661 : decode cL_law 661 = .ok (.ifCond .ne 15, 3) := by decide +kernel
theorem dL_law_664 : decode cL_law 664 = .ok (.aload_n 3, 1) := by decide +kernel
theorem dL_law_665 : decode cL_law 665 = .ok (.iconst 0, 1) := by decide +kernel
theorem dL_law_666 : decode cL_law 666 = .ok (.laload, 1) := by decide +kernel
theorem dL_law_667 : decode cL_law 667 = .ok (.iload 6, 2) := by decide +kernel
theorem dL_law_669 : decode cL_law 669 = .ok (.i2l, 1) := by decide +kernel
theorem dL_law_670 : decode cL_law 670 = .ok (.lcmp, 1) := by decide +kernel
theorem dL_law_671 : decode cL_law 671 = .ok (.ifCond .eq 5, 3) := by decide +kernel
theorem dL_law_674 : decode cL_law 674 = .ok (.iconst 0, 1) := by decide +kernel
theorem dL_law_675 : decode cL_law 675 = .ok (.ireturn, 1) := by decide +kernel
theorem dL_law_676 : decode cL_law 676 = .ok (.goto 1063, 3) := by decide +kernel
theorem dL_law_679 : decode cL_law 679 = .ok (.aload_n 1, 1) := by decide +kernel
theorem dL_law_680 : decode cL_law 680 = .ok (.aload_n 0, 1) := by decide +kernel
theorem dL_law_681 : decode cL_law 681 = .ok (.iload 4, 2) := by decide +kernel
theorem dL_law_683 : decode cL_law 683 = .ok (.iconst 1, 1) := by decide +kernel
theorem dL_law_684 : decode cL_law 684 = .ok (.iadd, 1) := by decide +kernel
theorem dL_law_685 : decode cL_law 685 = .ok (.iaload, 1) := by decide +kernel
theorem dL_law_686 : decode cL_law 686 = .ok (.aload_n 0, 1) := by decide +kernel
theorem dL_law_687 : decode cL_law 687 = .ok (.iload 4, 2) := by decide +kernel
theorem dL_law_689 : decode cL_law 689 = .ok (.iconst 2, 1) := by decide +kernel
theorem dL_law_690 : decode cL_law 690 = .ok (.iadd, 1) := by decide +kernel
theorem dL_law_691 : decode cL_law 691 = .ok (.iaload, 1) := by decide +kernel
theorem dL_law_692 : decode cL_law 692 = .ok (.aload_n 3, 1) := by decide +kernel
theorem dL_law_693 : decode cL_law 693 = .ok (.invokestatic 143, 3) := by decide +kernel
theorem dL_law_696 : decode cL_law 696 = .ok (.istore 5, 2) := by decide +kernel
theorem dL_law_698 : decode cL_law 698 = .ok (.aload_n 2, 1) := by decide +kernel
theorem dL_law_699 : decode cL_law 699 = .ok (.aload_n 0, 1) := by decide +kernel
theorem dL_law_700 : decode cL_law 700 = .ok (.iload 4, 2) := by decide +kernel
theorem dL_law_702 : decode cL_law 702 = .ok (.iconst 1, 1) := by decide +kernel
theorem dL_law_703 : decode cL_law 703 = .ok (.iadd, 1) := by decide +kernel
theorem dL_law_704 : decode cL_law 704 = .ok (.iaload, 1) := by decide +kernel
theorem dL_law_705 : decode cL_law 705 = .ok (.aload_n 0, 1) := by decide +kernel
theorem dL_law_706 : decode cL_law 706 = .ok (.iload 4, 2) := by decide +kernel
theorem dL_law_708 : decode cL_law 708 = .ok (.iconst 2, 1) := by decide +kernel
theorem dL_law_709 : decode cL_law 709 = .ok (.iadd, 1) := by decide +kernel
theorem dL_law_710 : decode cL_law 710 = .ok (.iaload, 1) := by decide +kernel
theorem dL_law_711 : decode cL_law 711 = .ok (.invokevirtual 146, 3) := by decide +kernel
theorem dL_law_714 : decode cL_law 714 = .ok (.istore 6, 2) := by decide +kernel
theorem dL_law_716 : decode cL_law 716 = .ok (.aload_n 2, 1) := by decide +kernel
theorem dL_law_717 : decode cL_law 717 = .ok (.invokevirtual 95, 3) := by decide +kernel
theorem dL_law_720 : decode cL_law 720 = .ok (.iload 5, 2) := by decide +kernel
theorem dL_law_722 : decode cL_law 722 = .ok (.if_icmp .eq 5, 3) := by decide +kernel
theorem dL_law_725 : decode cL_law 725 = .ok (.iconst 0, 1) := by decide +kernel
theorem dL_law_726 : decode cL_law 726 = .ok (.ireturn, 1) := by decide +kernel
theorem dL_law_727 : decode cL_law 727 = .ok (.iload 5, 2) := by decide +kernel
theorem dL_law_729 : decode cL_law 729 = .ok (.ifCond .ne 15, 3) := by decide +kernel
theorem dL_law_732 : decode cL_law 732 = .ok (.aload_n 3, 1) := by decide +kernel
theorem dL_law_733 : decode cL_law 733 = .ok (.iconst 0, 1) := by decide +kernel
theorem dL_law_734 : decode cL_law 734 = .ok (.laload, 1) := by decide +kernel
theorem dL_law_735 : decode cL_law 735 = .ok (.iload 6, 2) := by decide +kernel
theorem dL_law_737 : decode cL_law 737 = .ok (.i2l, 1) := by decide +kernel
theorem dL_law_738 : decode cL_law 738 = .ok (.lcmp, 1) := by decide +kernel
theorem dL_law_739 : decode cL_law 739 = .ok (.ifCond .eq 5, 3) := by decide +kernel
theorem dL_law_742 : decode cL_law 742 = .ok (.iconst 0, 1) := by decide +kernel
theorem dL_law_743 : decode cL_law 743 = .ok (.ireturn, 1) := by decide +kernel
theorem dL_law_744 : decode cL_law 744 = .ok (.goto 995, 3) := by decide +kernel
theorem dL_law_747 : decode cL_law 747 = .ok (.aload_n 1, 1) := by decide +kernel
theorem dL_law_748 : decode cL_law 748 = .ok (.aload_n 0, 1) := by decide +kernel
theorem dL_law_749 : decode cL_law 749 = .ok (.iload 4, 2) := by decide +kernel
theorem dL_law_751 : decode cL_law 751 = .ok (.iconst 1, 1) := by decide +kernel
theorem dL_law_752 : decode cL_law 752 = .ok (.iadd, 1) := by decide +kernel
theorem dL_law_753 : decode cL_law 753 = .ok (.iaload, 1) := by decide +kernel
theorem dL_law_754 : decode cL_law 754 = .ok (.aload_n 0, 1) := by decide +kernel
theorem dL_law_755 : decode cL_law 755 = .ok (.iload 4, 2) := by decide +kernel
theorem dL_law_757 : decode cL_law 757 = .ok (.iconst 2, 1) := by decide +kernel
theorem dL_law_758 : decode cL_law 758 = .ok (.iadd, 1) := by decide +kernel
theorem dL_law_759 : decode cL_law 759 = .ok (.iaload, 1) := by decide +kernel
theorem dL_law_760 : decode cL_law 760 = .ok (.aload_n 3, 1) := by decide +kernel
theorem dL_law_761 : decode cL_law 761 = .ok (.invokestatic 147, 3) := by decide +kernel
theorem dL_law_764 : decode cL_law 764 = .ok (.istore 5, 2) := by decide +kernel
theorem dL_law_766 : decode cL_law 766 = .ok (.aload_n 2, 1) := by decide +kernel
theorem dL_law_767 : decode cL_law 767 = .ok (.aload_n 0, 1) := by decide +kernel
theorem dL_law_768 : decode cL_law 768 = .ok (.iload 4, 2) := by decide +kernel
theorem dL_law_770 : decode cL_law 770 = .ok (.iconst 1, 1) := by decide +kernel
theorem dL_law_771 : decode cL_law 771 = .ok (.iadd, 1) := by decide +kernel
theorem dL_law_772 : decode cL_law 772 = .ok (.iaload, 1) := by decide +kernel
theorem dL_law_773 : decode cL_law 773 = .ok (.aload_n 0, 1) := by decide +kernel
theorem dL_law_774 : decode cL_law 774 = .ok (.iload 4, 2) := by decide +kernel
theorem dL_law_776 : decode cL_law 776 = .ok (.iconst 2, 1) := by decide +kernel
theorem dL_law_777 : decode cL_law 777 = .ok (.iadd, 1) := by decide +kernel
theorem dL_law_778 : decode cL_law 778 = .ok (.iaload, 1) := by decide +kernel
theorem dL_law_779 : decode cL_law 779 = .ok (.invokevirtual 149, 3) := by decide +kernel
theorem dL_law_782 : decode cL_law 782 = .ok (.istore 6, 2) := by decide +kernel
theorem dL_law_784 : decode cL_law 784 = .ok (.aload_n 2, 1) := by decide +kernel
theorem dL_law_785 : decode cL_law 785 = .ok (.invokevirtual 95, 3) := by decide +kernel
theorem dL_law_788 : decode cL_law 788 = .ok (.iload 5, 2) := by decide +kernel
theorem dL_law_790 : decode cL_law 790 = .ok (.if_icmp .eq 5, 3) := by decide +kernel
theorem dL_law_793 : decode cL_law 793 = .ok (.iconst 0, 1) := by decide +kernel
theorem dL_law_794 : decode cL_law 794 = .ok (.ireturn, 1) := by decide +kernel
theorem dL_law_795 : decode cL_law 795 = .ok (.iload 5, 2) := by decide +kernel
theorem dL_law_797 : decode cL_law 797 = .ok (.ifCond .ne 22, 3) := by decide +kernel
theorem dL_law_800 : decode cL_law 800 = .ok (.aload_n 3, 1) := by decide +kernel
theorem dL_law_801 : decode cL_law 801 = .ok (.iconst 0, 1) := by decide +kernel
theorem dL_law_802 : decode cL_law 802 = .ok (.laload, 1) := by decide +kernel
theorem dL_law_803 : decode cL_law 803 = .ok (.iload 6, 2) := by decide +kernel
theorem dL_law_805 : decode cL_law 805 = .ok (.ifCond .eq 7, 3) := by decide +kernel
theorem dL_law_808 : decode cL_law 808 = .ok (.lconst 1, 1) := by decide +kernel
theorem dL_law_809 : decode cL_law 809 = .ok (.goto 4, 3) := by decide +kernel
theorem dL_law_812 : decode cL_law 812 = .ok (.lconst 0, 1) := by decide +kernel
theorem dL_law_813 : decode cL_law 813 = .ok (.lcmp, 1) := by decide +kernel
theorem dL_law_814 : decode cL_law 814 = .ok (.ifCond .eq 5, 3) := by decide +kernel
theorem dL_law_817 : decode cL_law 817 = .ok (.iconst 0, 1) := by decide +kernel
theorem dL_law_818 : decode cL_law 818 = .ok (.ireturn, 1) := by decide +kernel
theorem dL_law_819 : decode cL_law 819 = .ok (.goto 920, 3) := by decide +kernel
theorem dL_law_822 : decode cL_law 822 = .ok (.aload_n 1, 1) := by decide +kernel
theorem dL_law_823 : decode cL_law 823 = .ok (.invokevirtual 150, 3) := by decide +kernel
theorem dL_law_826 : decode cL_law 826 = .ok (.aload_n 2, 1) := by decide +kernel
theorem dL_law_827 : decode cL_law 827 = .ok (.invokevirtual 153, 3) := by decide +kernel
theorem dL_law_830 : decode cL_law 830 = .ok (.if_icmp .eq 909, 3) := by decide +kernel
theorem dL_law_833 : decode cL_law 833 = .ok (.iconst 0, 1) := by decide +kernel
theorem dL_law_834 : decode cL_law 834 = .ok (.ireturn, 1) := by decide +kernel
theorem dL_law_835 : decode cL_law 835 = .ok (.aload_n 1, 1) := by decide +kernel
theorem dL_law_836 : decode cL_law 836 = .ok (.invokevirtual 154, 3) := by decide +kernel
theorem dL_law_839 : decode cL_law 839 = .ok (.aload_n 2, 1) := by decide +kernel
theorem dL_law_840 : decode cL_law 840 = .ok (.invokevirtual 157, 3) := by decide +kernel
theorem dL_law_843 : decode cL_law 843 = .ok (.if_icmp .eq 896, 3) := by decide +kernel
theorem dL_law_846 : decode cL_law 846 = .ok (.iconst 0, 1) := by decide +kernel
theorem dL_law_847 : decode cL_law 847 = .ok (.ireturn, 1) := by decide +kernel
theorem dL_law_848 : decode cL_law 848 = .ok (.aload_n 1, 1) := by decide +kernel
theorem dL_law_849 : decode cL_law 849 = .ok (.invokevirtual 158, 3) := by decide +kernel
theorem dL_law_852 : decode cL_law 852 = .ok (.aload_n 2, 1) := by decide +kernel
theorem dL_law_853 : decode cL_law 853 = .ok (.invokevirtual 161, 3) := by decide +kernel
theorem dL_law_856 : decode cL_law 856 = .ok (.if_icmp .eq 883, 3) := by decide +kernel
theorem dL_law_859 : decode cL_law 859 = .ok (.iconst 0, 1) := by decide +kernel
theorem dL_law_860 : decode cL_law 860 = .ok (.ireturn, 1) := by decide +kernel
theorem dL_law_861 : decode cL_law 861 = .ok (.aload_n 1, 1) := by decide +kernel
theorem dL_law_862 : decode cL_law 862 = .ok (.aload_n 0, 1) := by decide +kernel
theorem dL_law_863 : decode cL_law 863 = .ok (.iload 4, 2) := by decide +kernel
theorem dL_law_865 : decode cL_law 865 = .ok (.iconst 1, 1) := by decide +kernel
theorem dL_law_866 : decode cL_law 866 = .ok (.iadd, 1) := by decide +kernel
theorem dL_law_867 : decode cL_law 867 = .ok (.iaload, 1) := by decide +kernel
theorem dL_law_868 : decode cL_law 868 = .ok (.aload_n 3, 1) := by decide +kernel
theorem dL_law_869 : decode cL_law 869 = .ok (.invokestatic 162, 3) := by decide +kernel
theorem dL_law_872 : decode cL_law 872 = .ok (.istore 5, 2) := by decide +kernel
theorem dL_law_874 : decode cL_law 874 = .ok (.aload_n 2, 1) := by decide +kernel
theorem dL_law_875 : decode cL_law 875 = .ok (.aload_n 0, 1) := by decide +kernel
theorem dL_law_876 : decode cL_law 876 = .ok (.iload 4, 2) := by decide +kernel
theorem dL_law_878 : decode cL_law 878 = .ok (.iconst 1, 1) := by decide +kernel
theorem dL_law_879 : decode cL_law 879 = .ok (.iadd, 1) := by decide +kernel
theorem dL_law_880 : decode cL_law 880 = .ok (.iaload, 1) := by decide +kernel
theorem dL_law_881 : decode cL_law 881 = .ok (.invokevirtual 164, 3) := by decide +kernel
theorem dL_law_884 : decode cL_law 884 = .ok (.istore 6, 2) := by decide +kernel
theorem dL_law_886 : decode cL_law 886 = .ok (.aload_n 2, 1) := by decide +kernel
theorem dL_law_887 : decode cL_law 887 = .ok (.invokevirtual 95, 3) := by decide +kernel
theorem dL_law_890 : decode cL_law 890 = .ok (.iload 5, 2) := by decide +kernel
theorem dL_law_892 : decode cL_law 892 = .ok (.if_icmp .eq 5, 3) := by decide +kernel
theorem dL_law_895 : decode cL_law 895 = .ok (.iconst 0, 1) := by decide +kernel
theorem dL_law_896 : decode cL_law 896 = .ok (.ireturn, 1) := by decide +kernel
theorem dL_law_897 : decode cL_law 897 = .ok (.iload 5, 2) := by decide +kernel
theorem dL_law_899 : decode cL_law 899 = .ok (.ifCond .ne 15, 3) := by decide +kernel
theorem dL_law_902 : decode cL_law 902 = .ok (.aload_n 3, 1) := by decide +kernel
theorem dL_law_903 : decode cL_law 903 = .ok (.iconst 0, 1) := by decide +kernel
theorem dL_law_904 : decode cL_law 904 = .ok (.laload, 1) := by decide +kernel
theorem dL_law_905 : decode cL_law 905 = .ok (.iload 6, 2) := by decide +kernel
theorem dL_law_907 : decode cL_law 907 = .ok (.i2l, 1) := by decide +kernel
theorem dL_law_908 : decode cL_law 908 = .ok (.lcmp, 1) := by decide +kernel
theorem dL_law_909 : decode cL_law 909 = .ok (.ifCond .eq 5, 3) := by decide +kernel
theorem dL_law_912 : decode cL_law 912 = .ok (.iconst 0, 1) := by decide +kernel
theorem dL_law_913 : decode cL_law 913 = .ok (.ireturn, 1) := by decide +kernel
theorem dL_law_914 : decode cL_law 914 = .ok (.goto 825, 3) := by decide +kernel
theorem dL_law_917 : decode cL_law 917 = .ok (.aload_n 1, 1) := by decide +kernel
theorem dL_law_918 : decode cL_law 918 = .ok (.aload_n 0, 1) := by decide +kernel
theorem dL_law_919 : decode cL_law 919 = .ok (.iload 4, 2) := by decide +kernel
theorem dL_law_921 : decode cL_law 921 = .ok (.iconst 1, 1) := by decide +kernel
theorem dL_law_922 : decode cL_law 922 = .ok (.iadd, 1) := by decide +kernel
theorem dL_law_923 : decode cL_law 923 = .ok (.iaload, 1) := by decide +kernel
theorem dL_law_924 : decode cL_law 924 = .ok (.aload_n 3, 1) := by decide +kernel
theorem dL_law_925 : decode cL_law 925 = .ok (.invokestatic 165, 3) := by decide +kernel
theorem dL_law_928 : decode cL_law 928 = .ok (.istore 5, 2) := by decide +kernel
theorem dL_law_930 : decode cL_law 930 = .ok (.aload_n 2, 1) := by decide +kernel
theorem dL_law_931 : decode cL_law 931 = .ok (.aload_n 0, 1) := by decide +kernel
theorem dL_law_932 : decode cL_law 932 = .ok (.iload 4, 2) := by decide +kernel
theorem dL_law_934 : decode cL_law 934 = .ok (.iconst 1, 1) := by decide +kernel
theorem dL_law_935 : decode cL_law 935 = .ok (.iadd, 1) := by decide +kernel
theorem dL_law_936 : decode cL_law 936 = .ok (.iaload, 1) := by decide +kernel
theorem dL_law_937 : decode cL_law 937 = .ok (.invokevirtual 167, 3) := by decide +kernel
theorem dL_law_940 : decode cL_law 940 = .ok (.istore 6, 2) := by decide +kernel
theorem dL_law_942 : decode cL_law 942 = .ok (.aload_n 2, 1) := by decide +kernel
theorem dL_law_943 : decode cL_law 943 = .ok (.invokevirtual 95, 3) := by decide +kernel
theorem dL_law_946 : decode cL_law 946 = .ok (.iload 5, 2) := by decide +kernel
theorem dL_law_948 : decode cL_law 948 = .ok (.if_icmp .eq 5, 3) := by decide +kernel
theorem dL_law_951 : decode cL_law 951 = .ok (.iconst 0, 1) := by decide +kernel
theorem dL_law_952 : decode cL_law 952 = .ok (.ireturn, 1) := by decide +kernel
theorem dL_law_953 : decode cL_law 953 = .ok (.iload 5, 2) := by decide +kernel
theorem dL_law_955 : decode cL_law 955 = .ok (.ifCond .ne 15, 3) := by decide +kernel
theorem dL_law_958 : decode cL_law 958 = .ok (.aload_n 3, 1) := by decide +kernel
theorem dL_law_959 : decode cL_law 959 = .ok (.iconst 0, 1) := by decide +kernel
theorem dL_law_960 : decode cL_law 960 = .ok (.laload, 1) := by decide +kernel
theorem dL_law_961 : decode cL_law 961 = .ok (.iload 6, 2) := by decide +kernel
theorem dL_law_963 : decode cL_law 963 = .ok (.i2l, 1) := by decide +kernel
theorem dL_law_964 : decode cL_law 964 = .ok (.lcmp, 1) := by decide +kernel
theorem dL_law_965 : decode cL_law 965 = .ok (.ifCond .eq 5, 3) := by decide +kernel
theorem dL_law_968 : decode cL_law 968 = .ok (.iconst 0, 1) := by decide +kernel
theorem dL_law_969 : decode cL_law 969 = .ok (.ireturn, 1) := by decide +kernel
theorem dL_law_970 : decode cL_law 970 = .ok (.goto 769, 3) := by decide +kernel
theorem dL_law_973 : decode cL_law 973 = .ok (.aload_n 1, 1) := by decide +kernel
theorem dL_law_974 : decode cL_law 974 = .ok (.invokevirtual 168, 3) := by decide +kernel
theorem dL_law_977 : decode cL_law 977 = .ok (.aload_n 2, 1) := by decide +kernel
theorem dL_law_978 : decode cL_law 978 = .ok (.invokevirtual 171, 3) := by decide +kernel
theorem dL_law_981 : decode cL_law 981 = .ok (.if_icmp .eq 758, 3) := by decide +kernel
theorem dL_law_984 : decode cL_law 984 = .ok (.iconst 0, 1) := by decide +kernel
theorem dL_law_985 : decode cL_law 985 = .ok (.ireturn, 1) := by decide +kernel
theorem dL_law_986 : decode cL_law 986 = .ok (.aload_n 1, 1) := by decide +kernel
theorem dL_law_987 : decode cL_law 987 = .ok (.aload_n 0, 1) := by decide +kernel
theorem dL_law_988 : decode cL_law 988 = .ok (.iload 4, 2) := by decide +kernel
theorem dL_law_990 : decode cL_law 990 = .ok (.iconst 1, 1) := by decide +kernel
theorem dL_law_991 : decode cL_law 991 = .ok (.iadd, 1) := by decide +kernel
theorem dL_law_992 : decode cL_law 992 = .ok (.iaload, 1) := by decide +kernel
theorem dL_law_993 : decode cL_law 993 = .ok (.aload_n 3, 1) := by decide +kernel
theorem dL_law_994 : decode cL_law 994 = .ok (.invokestatic 172, 3) := by decide +kernel
theorem dL_law_997 : decode cL_law 997 = .ok (.istore 5, 2) := by decide +kernel
theorem dL_law_999 : decode cL_law 999 = .ok (.aload_n 2, 1) := by decide +kernel
theorem dL_law_1000 : decode cL_law 1000 = .ok (.aload_n 0, 1) := by decide +kernel
theorem dL_law_1001 : decode cL_law 1001 = .ok (.iload 4, 2) := by decide +kernel
theorem dL_law_1003 : decode cL_law 1003 = .ok (.iconst 1, 1) := by decide +kernel
theorem dL_law_1004 : decode cL_law 1004 = .ok (.iadd, 1) := by decide +kernel
theorem dL_law_1005 : decode cL_law 1005 = .ok (.iaload, 1) := by decide +kernel
theorem dL_law_1006 : decode cL_law 1006 = .ok (.invokevirtual 174, 3) := by decide +kernel
theorem dL_law_1009 : decode cL_law 1009 = .ok (.istore 6, 2) := by decide +kernel
theorem dL_law_1011 : decode cL_law 1011 = .ok (.aload_n 2, 1) := by decide +kernel
theorem dL_law_1012 : decode cL_law 1012 = .ok (.invokevirtual 95, 3) := by decide +kernel
theorem dL_law_1015 : decode cL_law 1015 = .ok (.iload 5, 2) := by decide +kernel
theorem dL_law_1017 : decode cL_law 1017 = .ok (.if_icmp .eq 5, 3) := by decide +kernel
theorem dL_law_1020 : decode cL_law 1020 = .ok (.iconst 0, 1) := by decide +kernel
theorem dL_law_1021 : decode cL_law 1021 = .ok (.ireturn, 1) := by decide +kernel
theorem dL_law_1022 : decode cL_law 1022 = .ok (.iload 5, 2) := by decide +kernel
theorem dL_law_1024 : decode cL_law 1024 = .ok (.ifCond .ne 15, 3) := by decide +kernel
theorem dL_law_1027 : decode cL_law 1027 = .ok (.aload_n 3, 1) := by decide +kernel
theorem dL_law_1028 : decode cL_law 1028 = .ok (.iconst 0, 1) := by decide +kernel
theorem dL_law_1029 : decode cL_law 1029 = .ok (.laload, 1) := by decide +kernel
theorem dL_law_1030 : decode cL_law 1030 = .ok (.iload 6, 2) := by decide +kernel
theorem dL_law_1032 : decode cL_law 1032 = .ok (.i2l, 1) := by decide +kernel
theorem dL_law_1033 : decode cL_law 1033 = .ok (.lcmp, 1) := by decide +kernel
theorem dL_law_1034 : decode cL_law 1034 = .ok (.ifCond .eq 5, 3) := by decide +kernel
theorem dL_law_1037 : decode cL_law 1037 = .ok (.iconst 0, 1) := by decide +kernel
theorem dL_law_1038 : decode cL_law 1038 = .ok (.ireturn, 1) := by decide +kernel
theorem dL_law_1039 : decode cL_law 1039 = .ok (.goto 700, 3) := by decide +kernel
theorem dL_law_1042 : decode cL_law 1042 = .ok (.aload_n 1, 1) := by decide +kernel
theorem dL_law_1043 : decode cL_law 1043 = .ok (.aload_n 0, 1) := by decide +kernel
theorem dL_law_1044 : decode cL_law 1044 = .ok (.iload 4, 2) := by decide +kernel
theorem dL_law_1046 : decode cL_law 1046 = .ok (.iconst 1, 1) := by decide +kernel
theorem dL_law_1047 : decode cL_law 1047 = .ok (.iadd, 1) := by decide +kernel
theorem dL_law_1048 : decode cL_law 1048 = .ok (.iaload, 1) := by decide +kernel
theorem dL_law_1049 : decode cL_law 1049 = .ok (.aload_n 3, 1) := by decide +kernel
theorem dL_law_1050 : decode cL_law 1050 = .ok (.invokestatic 175, 3) := by decide +kernel
theorem dL_law_1053 : decode cL_law 1053 = .ok (.istore 5, 2) := by decide +kernel
theorem dL_law_1055 : decode cL_law 1055 = .ok (.aload_n 2, 1) := by decide +kernel
theorem dL_law_1056 : decode cL_law 1056 = .ok (.aload_n 0, 1) := by decide +kernel
theorem dL_law_1057 : decode cL_law 1057 = .ok (.iload 4, 2) := by decide +kernel
theorem dL_law_1059 : decode cL_law 1059 = .ok (.iconst 1, 1) := by decide +kernel
theorem dL_law_1060 : decode cL_law 1060 = .ok (.iadd, 1) := by decide +kernel
theorem dL_law_1061 : decode cL_law 1061 = .ok (.iaload, 1) := by decide +kernel
theorem dL_law_1062 : decode cL_law 1062 = .ok (.invokevirtual 177, 3) := by decide +kernel
theorem dL_law_1065 : decode cL_law 1065 = .ok (.istore 6, 2) := by decide +kernel
theorem dL_law_1067 : decode cL_law 1067 = .ok (.aload_n 2, 1) := by decide +kernel
theorem dL_law_1068 : decode cL_law 1068 = .ok (.invokevirtual 95, 3) := by decide +kernel
theorem dL_law_1071 : decode cL_law 1071 = .ok (.iload 5, 2) := by decide +kernel
theorem dL_law_1073 : decode cL_law 1073 = .ok (.if_icmp .eq 5, 3) := by decide +kernel
theorem dL_law_1076 : decode cL_law 1076 = .ok (.iconst 0, 1) := by decide +kernel
theorem dL_law_1077 : decode cL_law 1077 = .ok (.ireturn, 1) := by decide +kernel
theorem dL_law_1078 : decode cL_law 1078 = .ok (.iload 5, 2) := by decide +kernel
theorem dL_law_1080 : decode cL_law 1080 = .ok (.ifCond .ne 15, 3) := by decide +kernel
theorem dL_law_1083 : decode cL_law 1083 = .ok (.aload_n 3, 1) := by decide +kernel
theorem dL_law_1084 : decode cL_law 1084 = .ok (.iconst 0, 1) := by decide +kernel
theorem dL_law_1085 : decode cL_law 1085 = .ok (.laload, 1) := by decide +kernel
theorem dL_law_1086 : decode cL_law 1086 = .ok (.iload 6, 2) := by decide +kernel
theorem dL_law_1088 : decode cL_law 1088 = .ok (.i2l, 1) := by decide +kernel
theorem dL_law_1089 : decode cL_law 1089 = .ok (.lcmp, 1) := by decide +kernel
theorem dL_law_1090 : decode cL_law 1090 = .ok (.ifCond .eq 5, 3) := by decide +kernel
theorem dL_law_1093 : decode cL_law 1093 = .ok (.iconst 0, 1) := by decide +kernel
theorem dL_law_1094 : decode cL_law 1094 = .ok (.ireturn, 1) := by decide +kernel
theorem dL_law_1095 : decode cL_law 1095 = .ok (.goto 644, 3) := by decide +kernel
theorem dL_law_1098 : decode cL_law 1098 = .ok (.aload_n 1, 1) := by decide +kernel
theorem dL_law_1099 : decode cL_law 1099 = .ok (.aload_n 0, 1) := by decide +kernel
theorem dL_law_1100 : decode cL_law 1100 = .ok (.iload 4, 2) := by decide +kernel
theorem dL_law_1102 : decode cL_law 1102 = .ok (.iconst 1, 1) := by decide +kernel
theorem dL_law_1103 : decode cL_law 1103 = .ok (.iadd, 1) := by decide +kernel
theorem dL_law_1104 : decode cL_law 1104 = .ok (.iaload, 1) := by decide +kernel
theorem dL_law_1105 : decode cL_law 1105 = .ok (.aload_n 3, 1) := by decide +kernel
theorem dL_law_1106 : decode cL_law 1106 = .ok (.invokestatic 178, 3) := by decide +kernel
theorem dL_law_1109 : decode cL_law 1109 = .ok (.istore 5, 2) := by decide +kernel
theorem dL_law_1111 : decode cL_law 1111 = .ok (.aload_n 2, 1) := by decide +kernel
theorem dL_law_1112 : decode cL_law 1112 = .ok (.aload_n 0, 1) := by decide +kernel
theorem dL_law_1113 : decode cL_law 1113 = .ok (.iload 4, 2) := by decide +kernel
theorem dL_law_1115 : decode cL_law 1115 = .ok (.iconst 1, 1) := by decide +kernel
theorem dL_law_1116 : decode cL_law 1116 = .ok (.iadd, 1) := by decide +kernel
theorem dL_law_1117 : decode cL_law 1117 = .ok (.iaload, 1) := by decide +kernel
theorem dL_law_1118 : decode cL_law 1118 = .ok (.invokevirtual 180, 3) := by decide +kernel
theorem dL_law_1121 : decode cL_law 1121 = .ok (.istore 6, 2) := by decide +kernel
theorem dL_law_1123 : decode cL_law 1123 = .ok (.aload_n 2, 1) := by decide +kernel
theorem dL_law_1124 : decode cL_law 1124 = .ok (.invokevirtual 95, 3) := by decide +kernel
theorem dL_law_1127 : decode cL_law 1127 = .ok (.iload 5, 2) := by decide +kernel
theorem dL_law_1129 : decode cL_law 1129 = .ok (.if_icmp .eq 5, 3) := by decide +kernel
theorem dL_law_1132 : decode cL_law 1132 = .ok (.iconst 0, 1) := by decide +kernel
theorem dL_law_1133 : decode cL_law 1133 = .ok (.ireturn, 1) := by decide +kernel
theorem dL_law_1134 : decode cL_law 1134 = .ok (.iload 5, 2) := by decide +kernel
theorem dL_law_1136 : decode cL_law 1136 = .ok (.ifCond .ne 15, 3) := by decide +kernel
theorem dL_law_1139 : decode cL_law 1139 = .ok (.aload_n 3, 1) := by decide +kernel
theorem dL_law_1140 : decode cL_law 1140 = .ok (.iconst 0, 1) := by decide +kernel
theorem dL_law_1141 : decode cL_law 1141 = .ok (.laload, 1) := by decide +kernel
theorem dL_law_1142 : decode cL_law 1142 = .ok (.iload 6, 2) := by decide +kernel
theorem dL_law_1144 : decode cL_law 1144 = .ok (.i2l, 1) := by decide +kernel
theorem dL_law_1145 : decode cL_law 1145 = .ok (.lcmp, 1) := by decide +kernel
theorem dL_law_1146 : decode cL_law 1146 = .ok (.ifCond .eq 5, 3) := by decide +kernel
theorem dL_law_1149 : decode cL_law 1149 = .ok (.iconst 0, 1) := by decide +kernel
theorem dL_law_1150 : decode cL_law 1150 = .ok (.ireturn, 1) := by decide +kernel
theorem dL_law_1151 : decode cL_law 1151 = .ok (.goto 588, 3) := by decide +kernel
theorem dL_law_1154 : decode cL_law 1154 = .ok (.aload_n 1, 1) := by decide +kernel
theorem dL_law_1155 : decode cL_law 1155 = .ok (.aload_n 0, 1) := by decide +kernel
theorem dL_law_1156 : decode cL_law 1156 = .ok (.iload 4, 2) := by decide +kernel
theorem dL_law_1158 : decode cL_law 1158 = .ok (.iconst 1, 1) := by decide +kernel
theorem dL_law_1159 : decode cL_law 1159 = .ok (.iadd, 1) := by decide +kernel
theorem dL_law_1160 : decode cL_law 1160 = .ok (.iaload, 1) := by decide +kernel
theorem dL_law_1161 : decode cL_law 1161 = .ok (.aload_n 3, 1) := by decide +kernel
theorem dL_law_1162 : decode cL_law 1162 = .ok (.invokestatic 181, 3) := by decide +kernel
theorem dL_law_1165 : decode cL_law 1165 = .ok (.istore 5, 2) := by decide +kernel
theorem dL_law_1167 : decode cL_law 1167 = .ok (.aload_n 2, 1) := by decide +kernel
theorem dL_law_1168 : decode cL_law 1168 = .ok (.aload_n 0, 1) := by decide +kernel
theorem dL_law_1169 : decode cL_law 1169 = .ok (.iload 4, 2) := by decide +kernel
theorem dL_law_1171 : decode cL_law 1171 = .ok (.iconst 1, 1) := by decide +kernel
theorem dL_law_1172 : decode cL_law 1172 = .ok (.iadd, 1) := by decide +kernel
theorem dL_law_1173 : decode cL_law 1173 = .ok (.iaload, 1) := by decide +kernel
theorem dL_law_1174 : decode cL_law 1174 = .ok (.invokevirtual 183, 3) := by decide +kernel
theorem dL_law_1177 : decode cL_law 1177 = .ok (.istore 6, 2) := by decide +kernel
theorem dL_law_1179 : decode cL_law 1179 = .ok (.aload_n 2, 1) := by decide +kernel
theorem dL_law_1180 : decode cL_law 1180 = .ok (.invokevirtual 95, 3) := by decide +kernel
theorem dL_law_1183 : decode cL_law 1183 = .ok (.iload 5, 2) := by decide +kernel
theorem dL_law_1185 : decode cL_law 1185 = .ok (.if_icmp .eq 5, 3) := by decide +kernel
theorem dL_law_1188 : decode cL_law 1188 = .ok (.iconst 0, 1) := by decide +kernel
theorem dL_law_1189 : decode cL_law 1189 = .ok (.ireturn, 1) := by decide +kernel
theorem dL_law_1190 : decode cL_law 1190 = .ok (.iload 5, 2) := by decide +kernel
theorem dL_law_1192 : decode cL_law 1192 = .ok (.ifCond .ne 15, 3) := by decide +kernel
theorem dL_law_1195 : decode cL_law 1195 = .ok (.aload_n 3, 1) := by decide +kernel
theorem dL_law_1196 : decode cL_law 1196 = .ok (.iconst 0, 1) := by decide +kernel
theorem dL_law_1197 : decode cL_law 1197 = .ok (.laload, 1) := by decide +kernel
theorem dL_law_1198 : decode cL_law 1198 = .ok (.iload 6, 2) := by decide +kernel
theorem dL_law_1200 : decode cL_law 1200 = .ok (.i2l, 1) := by decide +kernel
theorem dL_law_1201 : decode cL_law 1201 = .ok (.lcmp, 1) := by decide +kernel
theorem dL_law_1202 : decode cL_law 1202 = .ok (.ifCond .eq 5, 3) := by decide +kernel
theorem dL_law_1205 : decode cL_law 1205 = .ok (.iconst 0, 1) := by decide +kernel
theorem dL_law_1206 : decode cL_law 1206 = .ok (.ireturn, 1) := by decide +kernel
theorem dL_law_1207 : decode cL_law 1207 = .ok (.goto 532, 3) := by decide +kernel
theorem dL_law_1210 : decode cL_law 1210 = .ok (.aload_n 1, 1) := by decide +kernel
theorem dL_law_1211 : decode cL_law 1211 = .ok (.aload_n 0, 1) := by decide +kernel
theorem dL_law_1212 : decode cL_law 1212 = .ok (.iload 4, 2) := by decide +kernel
theorem dL_law_1214 : decode cL_law 1214 = .ok (.iconst 1, 1) := by decide +kernel
theorem dL_law_1215 : decode cL_law 1215 = .ok (.iadd, 1) := by decide +kernel
theorem dL_law_1216 : decode cL_law 1216 = .ok (.iaload, 1) := by decide +kernel
theorem dL_law_1217 : decode cL_law 1217 = .ok (.aload_n 3, 1) := by decide +kernel
theorem dL_law_1218 : decode cL_law 1218 = .ok (.invokestatic 184, 3) := by decide +kernel
theorem dL_law_1221 : decode cL_law 1221 = .ok (.istore 5, 2) := by decide +kernel
theorem dL_law_1223 : decode cL_law 1223 = .ok (.aload_n 2, 1) := by decide +kernel
theorem dL_law_1224 : decode cL_law 1224 = .ok (.aload_n 0, 1) := by decide +kernel
theorem dL_law_1225 : decode cL_law 1225 = .ok (.iload 4, 2) := by decide +kernel
theorem dL_law_1227 : decode cL_law 1227 = .ok (.iconst 1, 1) := by decide +kernel
theorem dL_law_1228 : decode cL_law 1228 = .ok (.iadd, 1) := by decide +kernel
theorem dL_law_1229 : decode cL_law 1229 = .ok (.iaload, 1) := by decide +kernel
theorem dL_law_1230 : decode cL_law 1230 = .ok (.invokevirtual 186, 3) := by decide +kernel
theorem dL_law_1233 : decode cL_law 1233 = .ok (.istore 6, 2) := by decide +kernel
theorem dL_law_1235 : decode cL_law 1235 = .ok (.aload_n 2, 1) := by decide +kernel
theorem dL_law_1236 : decode cL_law 1236 = .ok (.invokevirtual 95, 3) := by decide +kernel
theorem dL_law_1239 : decode cL_law 1239 = .ok (.iload 5, 2) := by decide +kernel
theorem dL_law_1241 : decode cL_law 1241 = .ok (.if_icmp .eq 5, 3) := by decide +kernel
theorem dL_law_1244 : decode cL_law 1244 = .ok (.iconst 0, 1) := by decide +kernel
theorem dL_law_1245 : decode cL_law 1245 = .ok (.ireturn, 1) := by decide +kernel
theorem dL_law_1246 : decode cL_law 1246 = .ok (.iload 5, 2) := by decide +kernel
theorem dL_law_1248 : decode cL_law 1248 = .ok (.ifCond .ne 15, 3) := by decide +kernel
theorem dL_law_1251 : decode cL_law 1251 = .ok (.aload_n 3, 1) := by decide +kernel
theorem dL_law_1252 : decode cL_law 1252 = .ok (.iconst 0, 1) := by decide +kernel
theorem dL_law_1253 : decode cL_law 1253 = .ok (.laload, 1) := by decide +kernel
theorem dL_law_1254 : decode cL_law 1254 = .ok (.iload 6, 2) := by decide +kernel
theorem dL_law_1256 : decode cL_law 1256 = .ok (.i2l, 1) := by decide +kernel
theorem dL_law_1257 : decode cL_law 1257 = .ok (.lcmp, 1) := by decide +kernel
theorem dL_law_1258 : decode cL_law 1258 = .ok (.ifCond .eq 5, 3) := by decide +kernel
theorem dL_law_1261 : decode cL_law 1261 = .ok (.iconst 0, 1) := by decide +kernel
theorem dL_law_1262 : decode cL_law 1262 = .ok (.ireturn, 1) := by decide +kernel
theorem dL_law_1263 : decode cL_law 1263 = .ok (.goto 476, 3) := by decide +kernel
theorem dL_law_1266 : decode cL_law 1266 = .ok (.aload_n 1, 1) := by decide +kernel
theorem dL_law_1267 : decode cL_law 1267 = .ok (.invokevirtual 187, 3) := by decide +kernel
theorem dL_law_1270 : decode cL_law 1270 = .ok (.aload_n 2, 1) := by decide +kernel
theorem dL_law_1271 : decode cL_law 1271 = .ok (.invokevirtual 190, 3) := by decide +kernel
theorem dL_law_1274 : decode cL_law 1274 = .ok (.if_icmp .eq 465, 3) := by decide +kernel
theorem dL_law_1277 : decode cL_law 1277 = .ok (.iconst 0, 1) := by decide +kernel
theorem dL_law_1278 : decode cL_law 1278 = .ok (.ireturn, 1) := by decide +kernel
theorem dL_law_1279 : decode cL_law 1279 = .ok (.aload_n 1, 1) := by decide +kernel
theorem dL_law_1280 : decode cL_law 1280 = .ok (.aload_n 0, 1) := by decide +kernel
theorem dL_law_1281 : decode cL_law 1281 = .ok (.iload 4, 2) := by decide +kernel
theorem dL_law_1283 : decode cL_law 1283 = .ok (.iconst 1, 1) := by decide +kernel
theorem dL_law_1284 : decode cL_law 1284 = .ok (.iadd, 1) := by decide +kernel
theorem dL_law_1285 : decode cL_law 1285 = .ok (.iaload, 1) := by decide +kernel
theorem dL_law_1286 : decode cL_law 1286 = .ok (.aload_n 3, 1) := by decide +kernel
theorem dL_law_1287 : decode cL_law 1287 = .ok (.invokestatic 191, 3) := by decide +kernel
theorem dL_law_1290 : decode cL_law 1290 = .ok (.istore 5, 2) := by decide +kernel
theorem dL_law_1292 : decode cL_law 1292 = .ok (.aload_n 2, 1) := by decide +kernel
theorem dL_law_1293 : decode cL_law 1293 = .ok (.aload_n 0, 1) := by decide +kernel
theorem dL_law_1294 : decode cL_law 1294 = .ok (.iload 4, 2) := by decide +kernel
theorem dL_law_1296 : decode cL_law 1296 = .ok (.iconst 1, 1) := by decide +kernel
theorem dL_law_1297 : decode cL_law 1297 = .ok (.iadd, 1) := by decide +kernel
theorem dL_law_1298 : decode cL_law 1298 = .ok (.iaload, 1) := by decide +kernel
theorem dL_law_1299 : decode cL_law 1299 = .ok (.invokevirtual 193, 3) := by decide +kernel
theorem dL_law_1302 : decode cL_law 1302 = .ok (.istore 6, 2) := by decide +kernel
theorem dL_law_1304 : decode cL_law 1304 = .ok (.aload_n 2, 1) := by decide +kernel
theorem dL_law_1305 : decode cL_law 1305 = .ok (.invokevirtual 95, 3) := by decide +kernel
theorem dL_law_1308 : decode cL_law 1308 = .ok (.iload 5, 2) := by decide +kernel
theorem dL_law_1310 : decode cL_law 1310 = .ok (.if_icmp .eq 5, 3) := by decide +kernel
theorem dL_law_1313 : decode cL_law 1313 = .ok (.iconst 0, 1) := by decide +kernel
theorem dL_law_1314 : decode cL_law 1314 = .ok (.ireturn, 1) := by decide +kernel
theorem dL_law_1315 : decode cL_law 1315 = .ok (.iload 5, 2) := by decide +kernel
theorem dL_law_1317 : decode cL_law 1317 = .ok (.ifCond .ne 15, 3) := by decide +kernel
theorem dL_law_1320 : decode cL_law 1320 = .ok (.aload_n 3, 1) := by decide +kernel
theorem dL_law_1321 : decode cL_law 1321 = .ok (.iconst 0, 1) := by decide +kernel
theorem dL_law_1322 : decode cL_law 1322 = .ok (.laload, 1) := by decide +kernel
theorem dL_law_1323 : decode cL_law 1323 = .ok (.iload 6, 2) := by decide +kernel
theorem dL_law_1325 : decode cL_law 1325 = .ok (.i2l, 1) := by decide +kernel
theorem dL_law_1326 : decode cL_law 1326 = .ok (.lcmp, 1) := by decide +kernel
theorem dL_law_1327 : decode cL_law 1327 = .ok (.ifCond .eq 5, 3) := by decide +kernel
theorem dL_law_1330 : decode cL_law 1330 = .ok (.iconst 0, 1) := by decide +kernel
theorem dL_law_1331 : decode cL_law 1331 = .ok (.ireturn, 1) := by decide +kernel
theorem dL_law_1332 : decode cL_law 1332 = .ok (.goto 407, 3) := by decide +kernel
theorem dL_law_1335 : decode cL_law 1335 = .ok (.aload_n 1, 1) := by decide +kernel
theorem dL_law_1336 : decode cL_law 1336 = .ok (.aload_n 0, 1) := by decide +kernel
theorem dL_law_1337 : decode cL_law 1337 = .ok (.iload 4, 2) := by decide +kernel
theorem dL_law_1339 : decode cL_law 1339 = .ok (.iconst 1, 1) := by decide +kernel
theorem dL_law_1340 : decode cL_law 1340 = .ok (.iadd, 1) := by decide +kernel
theorem dL_law_1341 : decode cL_law 1341 = .ok (.iaload, 1) := by decide +kernel
theorem dL_law_1342 : decode cL_law 1342 = .ok (.aload_n 3, 1) := by decide +kernel
theorem dL_law_1343 : decode cL_law 1343 = .ok (.invokestatic 194, 3) := by decide +kernel
theorem dL_law_1346 : decode cL_law 1346 = .ok (.istore 5, 2) := by decide +kernel
theorem dL_law_1348 : decode cL_law 1348 = .ok (.aload_n 2, 1) := by decide +kernel
theorem dL_law_1349 : decode cL_law 1349 = .ok (.aload_n 0, 1) := by decide +kernel
theorem dL_law_1350 : decode cL_law 1350 = .ok (.iload 4, 2) := by decide +kernel
theorem dL_law_1352 : decode cL_law 1352 = .ok (.iconst 1, 1) := by decide +kernel
theorem dL_law_1353 : decode cL_law 1353 = .ok (.iadd, 1) := by decide +kernel
theorem dL_law_1354 : decode cL_law 1354 = .ok (.iaload, 1) := by decide +kernel
theorem dL_law_1355 : decode cL_law 1355 = .ok (.invokevirtual 196, 3) := by decide +kernel
theorem dL_law_1358 : decode cL_law 1358 = .ok (.istore 6, 2) := by decide +kernel
theorem dL_law_1360 : decode cL_law 1360 = .ok (.aload_n 2, 1) := by decide +kernel
theorem dL_law_1361 : decode cL_law 1361 = .ok (.invokevirtual 95, 3) := by decide +kernel
theorem dL_law_1364 : decode cL_law 1364 = .ok (.iload 5, 2) := by decide +kernel
theorem dL_law_1366 : decode cL_law 1366 = .ok (.if_icmp .eq 5, 3) := by decide +kernel
theorem dL_law_1369 : decode cL_law 1369 = .ok (.iconst 0, 1) := by decide +kernel
theorem dL_law_1370 : decode cL_law 1370 = .ok (.ireturn, 1) := by decide +kernel
theorem dL_law_1371 : decode cL_law 1371 = .ok (.iload 5, 2) := by decide +kernel
theorem dL_law_1373 : decode cL_law 1373 = .ok (.ifCond .ne 15, 3) := by decide +kernel
theorem dL_law_1376 : decode cL_law 1376 = .ok (.aload_n 3, 1) := by decide +kernel
theorem dL_law_1377 : decode cL_law 1377 = .ok (.iconst 0, 1) := by decide +kernel
theorem dL_law_1378 : decode cL_law 1378 = .ok (.laload, 1) := by decide +kernel
theorem dL_law_1379 : decode cL_law 1379 = .ok (.iload 6, 2) := by decide +kernel
theorem dL_law_1381 : decode cL_law 1381 = .ok (.i2l, 1) := by decide +kernel
theorem dL_law_1382 : decode cL_law 1382 = .ok (.lcmp, 1) := by decide +kernel
theorem dL_law_1383 : decode cL_law 1383 = .ok (.ifCond .eq 5, 3) := by decide +kernel
theorem dL_law_1386 : decode cL_law 1386 = .ok (.iconst 0, 1) := by decide +kernel
theorem dL_law_1387 : decode cL_law 1387 = .ok (.ireturn, 1) := by decide +kernel
theorem dL_law_1388 : decode cL_law 1388 = .ok (.goto 351, 3) := by decide +kernel
theorem dL_law_1391 : decode cL_law 1391 = .ok (.aload_n 1, 1) := by decide +kernel
theorem dL_law_1392 : decode cL_law 1392 = .ok (.aload_n 0, 1) := by decide +kernel
theorem dL_law_1393 : decode cL_law 1393 = .ok (.iload 4, 2) := by decide +kernel
theorem dL_law_1395 : decode cL_law 1395 = .ok (.iconst 1, 1) := by decide +kernel
theorem dL_law_1396 : decode cL_law 1396 = .ok (.iadd, 1) := by decide +kernel
theorem dL_law_1397 : decode cL_law 1397 = .ok (.iaload, 1) := by decide +kernel
theorem dL_law_1398 : decode cL_law 1398 = .ok (.aload_n 3, 1) := by decide +kernel
theorem dL_law_1399 : decode cL_law 1399 = .ok (.invokestatic 197, 3) := by decide +kernel
theorem dL_law_1402 : decode cL_law 1402 = .ok (.istore 5, 2) := by decide +kernel
theorem dL_law_1404 : decode cL_law 1404 = .ok (.aload_n 2, 1) := by decide +kernel
theorem dL_law_1405 : decode cL_law 1405 = .ok (.aload_n 0, 1) := by decide +kernel
theorem dL_law_1406 : decode cL_law 1406 = .ok (.iload 4, 2) := by decide +kernel
theorem dL_law_1408 : decode cL_law 1408 = .ok (.iconst 1, 1) := by decide +kernel
theorem dL_law_1409 : decode cL_law 1409 = .ok (.iadd, 1) := by decide +kernel
theorem dL_law_1410 : decode cL_law 1410 = .ok (.iaload, 1) := by decide +kernel
theorem dL_law_1411 : decode cL_law 1411 = .ok (.invokevirtual 199, 3) := by decide +kernel
theorem dL_law_1414 : decode cL_law 1414 = .ok (.istore 6, 2) := by decide +kernel
theorem dL_law_1416 : decode cL_law 1416 = .ok (.aload_n 2, 1) := by decide +kernel
theorem dL_law_1417 : decode cL_law 1417 = .ok (.invokevirtual 95, 3) := by decide +kernel
theorem dL_law_1420 : decode cL_law 1420 = .ok (.iload 5, 2) := by decide +kernel
theorem dL_law_1422 : decode cL_law 1422 = .ok (.if_icmp .eq 5, 3) := by decide +kernel
theorem dL_law_1425 : decode cL_law 1425 = .ok (.iconst 0, 1) := by decide +kernel
theorem dL_law_1426 : decode cL_law 1426 = .ok (.ireturn, 1) := by decide +kernel
theorem dL_law_1427 : decode cL_law 1427 = .ok (.iload 5, 2) := by decide +kernel
theorem dL_law_1429 : decode cL_law 1429 = .ok (.ifCond .ne 15, 3) := by decide +kernel
theorem dL_law_1432 : decode cL_law 1432 = .ok (.aload_n 3, 1) := by decide +kernel
theorem dL_law_1433 : decode cL_law 1433 = .ok (.iconst 0, 1) := by decide +kernel
theorem dL_law_1434 : decode cL_law 1434 = .ok (.laload, 1) := by decide +kernel
theorem dL_law_1435 : decode cL_law 1435 = .ok (.iload 6, 2) := by decide +kernel
theorem dL_law_1437 : decode cL_law 1437 = .ok (.i2l, 1) := by decide +kernel
theorem dL_law_1438 : decode cL_law 1438 = .ok (.lcmp, 1) := by decide +kernel
theorem dL_law_1439 : decode cL_law 1439 = .ok (.ifCond .eq 5, 3) := by decide +kernel
theorem dL_law_1442 : decode cL_law 1442 = .ok (.iconst 0, 1) := by decide +kernel
theorem dL_law_1443 : decode cL_law 1443 = .ok (.ireturn, 1) := by decide +kernel
theorem dL_law_1444 : decode cL_law 1444 = .ok (.goto 295, 3) := by decide +kernel
theorem dL_law_1447 : decode cL_law 1447 = .ok (.aload_n 1, 1) := by decide +kernel
theorem dL_law_1448 : decode cL_law 1448 = .ok (.aload_n 0, 1) := by decide +kernel
theorem dL_law_1449 : decode cL_law 1449 = .ok (.iload 4, 2) := by decide +kernel
theorem dL_law_1451 : decode cL_law 1451 = .ok (.iconst 1, 1) := by decide +kernel
theorem dL_law_1452 : decode cL_law 1452 = .ok (.iadd, 1) := by decide +kernel
theorem dL_law_1453 : decode cL_law 1453 = .ok (.iaload, 1) := by decide +kernel
theorem dL_law_1454 : decode cL_law 1454 = .ok (.aload_n 3, 1) := by decide +kernel
theorem dL_law_1455 : decode cL_law 1455 = .ok (.invokestatic 200, 3) := by decide +kernel
theorem dL_law_1458 : decode cL_law 1458 = .ok (.istore 5, 2) := by decide +kernel
theorem dL_law_1460 : decode cL_law 1460 = .ok (.aload_n 2, 1) := by decide +kernel
theorem dL_law_1461 : decode cL_law 1461 = .ok (.aload_n 0, 1) := by decide +kernel
theorem dL_law_1462 : decode cL_law 1462 = .ok (.iload 4, 2) := by decide +kernel
theorem dL_law_1464 : decode cL_law 1464 = .ok (.iconst 1, 1) := by decide +kernel
theorem dL_law_1465 : decode cL_law 1465 = .ok (.iadd, 1) := by decide +kernel
theorem dL_law_1466 : decode cL_law 1466 = .ok (.iaload, 1) := by decide +kernel
theorem dL_law_1467 : decode cL_law 1467 = .ok (.invokevirtual 202, 3) := by decide +kernel
theorem dL_law_1470 : decode cL_law 1470 = .ok (.istore 6, 2) := by decide +kernel
theorem dL_law_1472 : decode cL_law 1472 = .ok (.aload_n 2, 1) := by decide +kernel
theorem dL_law_1473 : decode cL_law 1473 = .ok (.invokevirtual 95, 3) := by decide +kernel
theorem dL_law_1476 : decode cL_law 1476 = .ok (.iload 5, 2) := by decide +kernel
theorem dL_law_1478 : decode cL_law 1478 = .ok (.if_icmp .eq 5, 3) := by decide +kernel
theorem dL_law_1481 : decode cL_law 1481 = .ok (.iconst 0, 1) := by decide +kernel
theorem dL_law_1482 : decode cL_law 1482 = .ok (.ireturn, 1) := by decide +kernel
theorem dL_law_1483 : decode cL_law 1483 = .ok (.iload 5, 2) := by decide +kernel
theorem dL_law_1485 : decode cL_law 1485 = .ok (.ifCond .ne 15, 3) := by decide +kernel
theorem dL_law_1488 : decode cL_law 1488 = .ok (.aload_n 3, 1) := by decide +kernel
theorem dL_law_1489 : decode cL_law 1489 = .ok (.iconst 0, 1) := by decide +kernel
theorem dL_law_1490 : decode cL_law 1490 = .ok (.laload, 1) := by decide +kernel
theorem dL_law_1491 : decode cL_law 1491 = .ok (.iload 6, 2) := by decide +kernel
theorem dL_law_1493 : decode cL_law 1493 = .ok (.i2l, 1) := by decide +kernel
theorem dL_law_1494 : decode cL_law 1494 = .ok (.lcmp, 1) := by decide +kernel
theorem dL_law_1495 : decode cL_law 1495 = .ok (.ifCond .eq 5, 3) := by decide +kernel
theorem dL_law_1498 : decode cL_law 1498 = .ok (.iconst 0, 1) := by decide +kernel
theorem dL_law_1499 : decode cL_law 1499 = .ok (.ireturn, 1) := by decide +kernel
theorem dL_law_1500 : decode cL_law 1500 = .ok (.goto 239, 3) := by decide +kernel
theorem dL_law_1503 : decode cL_law 1503 = .ok (.aload_n 1, 1) := by decide +kernel
theorem dL_law_1504 : decode cL_law 1504 = .ok (.aload_n 0, 1) := by decide +kernel
theorem dL_law_1505 : decode cL_law 1505 = .ok (.iload 4, 2) := by decide +kernel
theorem dL_law_1507 : decode cL_law 1507 = .ok (.iconst 1, 1) := by decide +kernel
theorem dL_law_1508 : decode cL_law 1508 = .ok (.iadd, 1) := by decide +kernel
theorem dL_law_1509 : decode cL_law 1509 = .ok (.iaload, 1) := by decide +kernel
theorem dL_law_1510 : decode cL_law 1510 = .ok (.aload_n 3, 1) := by decide +kernel
theorem dL_law_1511 : decode cL_law 1511 = .ok (.invokestatic 203, 3) := by decide +kernel
theorem dL_law_1514 : decode cL_law 1514 = .ok (.istore 5, 2) := by decide +kernel
theorem dL_law_1516 : decode cL_law 1516 = .ok (.aload_n 2, 1) := by decide +kernel
theorem dL_law_1517 : decode cL_law 1517 = .ok (.aload_n 0, 1) := by decide +kernel
theorem dL_law_1518 : decode cL_law 1518 = .ok (.iload 4, 2) := by decide +kernel
theorem dL_law_1520 : decode cL_law 1520 = .ok (.iconst 1, 1) := by decide +kernel
theorem dL_law_1521 : decode cL_law 1521 = .ok (.iadd, 1) := by decide +kernel
theorem dL_law_1522 : decode cL_law 1522 = .ok (.iaload, 1) := by decide +kernel
theorem dL_law_1523 : decode cL_law 1523 = .ok (.invokevirtual 205, 3) := by decide +kernel
theorem dL_law_1526 : decode cL_law 1526 = .ok (.istore 6, 2) := by decide +kernel
theorem dL_law_1528 : decode cL_law 1528 = .ok (.aload_n 2, 1) := by decide +kernel
theorem dL_law_1529 : decode cL_law 1529 = .ok (.invokevirtual 95, 3) := by decide +kernel
theorem dL_law_1532 : decode cL_law 1532 = .ok (.iload 5, 2) := by decide +kernel
theorem dL_law_1534 : decode cL_law 1534 = .ok (.if_icmp .eq 5, 3) := by decide +kernel
theorem dL_law_1537 : decode cL_law 1537 = .ok (.iconst 0, 1) := by decide +kernel
theorem dL_law_1538 : decode cL_law 1538 = .ok (.ireturn, 1) := by decide +kernel
theorem dL_law_1539 : decode cL_law 1539 = .ok (.iload 5, 2) := by decide +kernel
theorem dL_law_1541 : decode cL_law 1541 = .ok (.ifCond .ne 15, 3) := by decide +kernel
theorem dL_law_1544 : decode cL_law 1544 = .ok (.aload_n 3, 1) := by decide +kernel
theorem dL_law_1545 : decode cL_law 1545 = .ok (.iconst 0, 1) := by decide +kernel
theorem dL_law_1546 : decode cL_law 1546 = .ok (.laload, 1) := by decide +kernel
theorem dL_law_1547 : decode cL_law 1547 = .ok (.iload 6, 2) := by decide +kernel
theorem dL_law_1549 : decode cL_law 1549 = .ok (.i2l, 1) := by decide +kernel
theorem dL_law_1550 : decode cL_law 1550 = .ok (.lcmp, 1) := by decide +kernel
theorem dL_law_1551 : decode cL_law 1551 = .ok (.ifCond .eq 5, 3) := by decide +kernel
theorem dL_law_1554 : decode cL_law 1554 = .ok (.iconst 0, 1) := by decide +kernel
theorem dL_law_1555 : decode cL_law 1555 = .ok (.ireturn, 1) := by decide +kernel
theorem dL_law_1556 : decode cL_law 1556 = .ok (.goto 183, 3) := by decide +kernel
theorem dL_law_1559 : decode cL_law 1559 = .ok (.aload_n 1, 1) := by decide +kernel
theorem dL_law_1560 : decode cL_law 1560 = .ok (.aload_n 0, 1) := by decide +kernel
theorem dL_law_1561 : decode cL_law 1561 = .ok (.iload 4, 2) := by decide +kernel
theorem dL_law_1563 : decode cL_law 1563 = .ok (.iconst 1, 1) := by decide +kernel
theorem dL_law_1564 : decode cL_law 1564 = .ok (.iadd, 1) := by decide +kernel
theorem dL_law_1565 : decode cL_law 1565 = .ok (.iaload, 1) := by decide +kernel
theorem dL_law_1566 : decode cL_law 1566 = .ok (.aload_n 3, 1) := by decide +kernel
theorem dL_law_1567 : decode cL_law 1567 = .ok (.invokestatic 206, 3) := by decide +kernel
theorem dL_law_1570 : decode cL_law 1570 = .ok (.istore 5, 2) := by decide +kernel
theorem dL_law_1572 : decode cL_law 1572 = .ok (.aload_n 2, 1) := by decide +kernel
theorem dL_law_1573 : decode cL_law 1573 = .ok (.aload_n 0, 1) := by decide +kernel
theorem dL_law_1574 : decode cL_law 1574 = .ok (.iload 4, 2) := by decide +kernel
theorem dL_law_1576 : decode cL_law 1576 = .ok (.iconst 1, 1) := by decide +kernel
theorem dL_law_1577 : decode cL_law 1577 = .ok (.iadd, 1) := by decide +kernel
theorem dL_law_1578 : decode cL_law 1578 = .ok (.iaload, 1) := by decide +kernel
theorem dL_law_1579 : decode cL_law 1579 = .ok (.invokevirtual 208, 3) := by decide +kernel
theorem dL_law_1582 : decode cL_law 1582 = .ok (.istore 6, 2) := by decide +kernel
theorem dL_law_1584 : decode cL_law 1584 = .ok (.aload_n 2, 1) := by decide +kernel
theorem dL_law_1585 : decode cL_law 1585 = .ok (.invokevirtual 95, 3) := by decide +kernel
theorem dL_law_1588 : decode cL_law 1588 = .ok (.iload 5, 2) := by decide +kernel
theorem dL_law_1590 : decode cL_law 1590 = .ok (.if_icmp .eq 5, 3) := by decide +kernel
theorem dL_law_1593 : decode cL_law 1593 = .ok (.iconst 0, 1) := by decide +kernel
theorem dL_law_1594 : decode cL_law 1594 = .ok (.ireturn, 1) := by decide +kernel
theorem dL_law_1595 : decode cL_law 1595 = .ok (.iload 5, 2) := by decide +kernel
theorem dL_law_1597 : decode cL_law 1597 = .ok (.ifCond .ne 15, 3) := by decide +kernel
theorem dL_law_1600 : decode cL_law 1600 = .ok (.aload_n 3, 1) := by decide +kernel
theorem dL_law_1601 : decode cL_law 1601 = .ok (.iconst 0, 1) := by decide +kernel
theorem dL_law_1602 : decode cL_law 1602 = .ok (.laload, 1) := by decide +kernel
theorem dL_law_1603 : decode cL_law 1603 = .ok (.iload 6, 2) := by decide +kernel
theorem dL_law_1605 : decode cL_law 1605 = .ok (.i2l, 1) := by decide +kernel
theorem dL_law_1606 : decode cL_law 1606 = .ok (.lcmp, 1) := by decide +kernel
theorem dL_law_1607 : decode cL_law 1607 = .ok (.ifCond .eq 5, 3) := by decide +kernel
theorem dL_law_1610 : decode cL_law 1610 = .ok (.iconst 0, 1) := by decide +kernel
theorem dL_law_1611 : decode cL_law 1611 = .ok (.ireturn, 1) := by decide +kernel
theorem dL_law_1612 : decode cL_law 1612 = .ok (.goto 127, 3) := by decide +kernel
theorem dL_law_1615 : decode cL_law 1615 = .ok (.aload_n 1, 1) := by decide +kernel
theorem dL_law_1616 : decode cL_law 1616 = .ok (.aload_n 0, 1) := by decide +kernel
theorem dL_law_1617 : decode cL_law 1617 = .ok (.iload 4, 2) := by decide +kernel
theorem dL_law_1619 : decode cL_law 1619 = .ok (.iconst 1, 1) := by decide +kernel
theorem dL_law_1620 : decode cL_law 1620 = .ok (.iadd, 1) := by decide +kernel
theorem dL_law_1621 : decode cL_law 1621 = .ok (.iaload, 1) := by decide +kernel
theorem dL_law_1622 : decode cL_law 1622 = .ok (.aload_n 3, 1) := by decide +kernel
theorem dL_law_1623 : decode cL_law 1623 = .ok (.invokestatic 209, 3) := by decide +kernel
theorem dL_law_1626 : decode cL_law 1626 = .ok (.istore 5, 2) := by decide +kernel
theorem dL_law_1628 : decode cL_law 1628 = .ok (.aload_n 2, 1) := by decide +kernel
theorem dL_law_1629 : decode cL_law 1629 = .ok (.aload_n 0, 1) := by decide +kernel
theorem dL_law_1630 : decode cL_law 1630 = .ok (.iload 4, 2) := by decide +kernel
theorem dL_law_1632 : decode cL_law 1632 = .ok (.iconst 1, 1) := by decide +kernel
theorem dL_law_1633 : decode cL_law 1633 = .ok (.iadd, 1) := by decide +kernel
theorem dL_law_1634 : decode cL_law 1634 = .ok (.iaload, 1) := by decide +kernel
theorem dL_law_1635 : decode cL_law 1635 = .ok (.invokevirtual 211, 3) := by decide +kernel
theorem dL_law_1638 : decode cL_law 1638 = .ok (.istore 6, 2) := by decide +kernel
theorem dL_law_1640 : decode cL_law 1640 = .ok (.aload_n 2, 1) := by decide +kernel
theorem dL_law_1641 : decode cL_law 1641 = .ok (.invokevirtual 95, 3) := by decide +kernel
theorem dL_law_1644 : decode cL_law 1644 = .ok (.iload 5, 2) := by decide +kernel
theorem dL_law_1646 : decode cL_law 1646 = .ok (.if_icmp .eq 5, 3) := by decide +kernel
theorem dL_law_1649 : decode cL_law 1649 = .ok (.iconst 0, 1) := by decide +kernel
theorem dL_law_1650 : decode cL_law 1650 = .ok (.ireturn, 1) := by decide +kernel
theorem dL_law_1651 : decode cL_law 1651 = .ok (.iload 5, 2) := by decide +kernel
theorem dL_law_1653 : decode cL_law 1653 = .ok (.ifCond .ne 15, 3) := by decide +kernel
theorem dL_law_1656 : decode cL_law 1656 = .ok (.aload_n 3, 1) := by decide +kernel
theorem dL_law_1657 : decode cL_law 1657 = .ok (.iconst 0, 1) := by decide +kernel
theorem dL_law_1658 : decode cL_law 1658 = .ok (.laload, 1) := by decide +kernel
theorem dL_law_1659 : decode cL_law 1659 = .ok (.iload 6, 2) := by decide +kernel
theorem dL_law_1661 : decode cL_law 1661 = .ok (.i2l, 1) := by decide +kernel
theorem dL_law_1662 : decode cL_law 1662 = .ok (.lcmp, 1) := by decide +kernel
theorem dL_law_1663 : decode cL_law 1663 = .ok (.ifCond .eq 5, 3) := by decide +kernel
theorem dL_law_1666 : decode cL_law 1666 = .ok (.iconst 0, 1) := by decide +kernel
theorem dL_law_1667 : decode cL_law 1667 = .ok (.ireturn, 1) := by decide +kernel
theorem dL_law_1668 : decode cL_law 1668 = .ok (.goto 71, 3) := by decide +kernel
theorem dL_law_1671 : decode cL_law 1671 = .ok (.aload_n 1, 1) := by decide +kernel
theorem dL_law_1672 : decode cL_law 1672 = .ok (.invokevirtual 212, 3) := by decide +kernel
theorem dL_law_1675 : decode cL_law 1675 = .ok (.aload_n 2, 1) := by decide +kernel
theorem dL_law_1676 : decode cL_law 1676 = .ok (.invokevirtual 215, 3) := by decide +kernel
theorem dL_law_1679 : decode cL_law 1679 = .ok (.if_icmp .eq 60, 3) := by decide +kernel
theorem dL_law_1682 : decode cL_law 1682 = .ok (.iconst 0, 1) := by decide +kernel
theorem dL_law_1683 : decode cL_law 1683 = .ok (.ireturn, 1) := by decide +kernel
theorem dL_law_1684 : decode cL_law 1684 = .ok (.aload_n 1, 1) := by decide +kernel
theorem dL_law_1685 : decode cL_law 1685 = .ok (.invokevirtual 216, 3) := by decide +kernel
theorem dL_law_1688 : decode cL_law 1688 = .ok (.dstore 5, 2) := by decide +kernel
theorem dL_law_1690 : decode cL_law 1690 = .ok (.aload_n 2, 1) := by decide +kernel
theorem dL_law_1691 : decode cL_law 1691 = .ok (.invokevirtual 220, 3) := by decide +kernel
theorem dL_law_1694 : decode cL_law 1694 = .ok (.dstore 7, 2) := by decide +kernel
theorem dL_law_1696 : decode cL_law 1696 = .ok (.dload 5, 2) := by decide +kernel
theorem dL_law_1698 : decode cL_law 1698 = .ok (.dload 7, 2) := by decide +kernel
theorem dL_law_1700 : decode cL_law 1700 = .ok (.dcmp .l, 1) := by decide +kernel
theorem dL_law_1701 : decode cL_law 1701 = .ok (.ifCond .eq 21, 3) := by decide +kernel
theorem dL_law_1704 : decode cL_law 1704 = .ok (.dload 5, 2) := by decide +kernel
theorem dL_law_1706 : decode cL_law 1706 = .ok (.dload 5, 2) := by decide +kernel
theorem dL_law_1708 : decode cL_law 1708 = .ok (.dcmp .l, 1) := by decide +kernel
theorem dL_law_1709 : decode cL_law 1709 = .ok (.ifCond .eq 11, 3) := by decide +kernel
theorem dL_law_1712 : decode cL_law 1712 = .ok (.dload 7, 2) := by decide +kernel
theorem dL_law_1714 : decode cL_law 1714 = .ok (.dload 7, 2) := by decide +kernel
theorem dL_law_1716 : decode cL_law 1716 = .ok (.dcmp .l, 1) := by decide +kernel
theorem dL_law_1717 : decode cL_law 1717 = .ok (.ifCond .ne 5, 3) := by decide +kernel
theorem dL_law_1720 : decode cL_law 1720 = .ok (.iconst 0, 1) := by decide +kernel
theorem dL_law_1721 : decode cL_law 1721 = .ok (.ireturn, 1) := by decide +kernel
theorem dL_law_1722 : decode cL_law 1722 = .ok (.goto 17, 3) := by decide +kernel
theorem dL_law_1725 : decode cL_law 1725 = .ok (.aload_n 1, 1) := by decide +kernel
theorem dL_law_1726 : decode cL_law 1726 = .ok (.invokevirtual 221, 3) := by decide +kernel
theorem dL_law_1729 : decode cL_law 1729 = .ok (.aload_n 2, 1) := by decide +kernel
theorem dL_law_1730 : decode cL_law 1730 = .ok (.invokevirtual 225, 3) := by decide +kernel
theorem dL_law_1733 : decode cL_law 1733 = .ok (.lcmp, 1) := by decide +kernel
theorem dL_law_1734 : decode cL_law 1734 = .ok (.ifCond .eq 5, 3) := by decide +kernel
theorem dL_law_1737 : decode cL_law 1737 = .ok (.iconst 0, 1) := by decide +kernel
theorem dL_law_1738 : decode cL_law 1738 = .ok (.ireturn, 1) := by decide +kernel
theorem dL_law_1739 : decode cL_law 1739 = .ok (.iinc 4 6, 3) := by decide +kernel
theorem dL_law_1742 : decode cL_law 1742 = .ok (.goto (-1719), 3) := by decide +kernel
theorem dL_law_1745 : decode cL_law 1745 = .ok (.iconst 1, 1) := by decide +kernel
theorem dL_law_1746 : decode cL_law 1746 = .ok (.ireturn, 1) := by decide +kernel
