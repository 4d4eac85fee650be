theorem dX0_init_0 : decode cX0_init 0 = .ok (.aload_n 0, 1) := by decide +kernel
theorem dX0_init_1 : decode cX0_init 1 = .ok (.invokespecial 3, 3) := by decide +kernel
theorem dX0_init_4 : decode cX0_init 4 = .ok (.aload_n 0, 1) := by decide +kernel
theorem dX0_init_5 : decode cX0_init 5 = .ok (.iconst 5, 1) := by decide +kernel
theorem dX0_init_6 : decode cX0_init 6 = .ok (.newarray .int, 2) := by decide +kernel
theorem dX0_init_8 : decode cX0_init 8 = .ok (.putfield 9, 3) := by decide +kernel
theorem dX0_init_11 : decode cX0_init 11 = .ok (.aload_n 0, 1) := by decide +kernel
theorem dX0_init_12 : decode cX0_init 12 = .ok (.iconst 5, 1) := by decide +kernel
theorem dX0_init_13 : decode cX0_init 13 = .ok (.newarray .int, 2) := by decide +kernel
theorem dX0_init_15 : decode cX0_init 15 = .ok (.putfield 15, 3) := by decide +kernel
theorem dX0_init_18 : decode cX0_init 18 = .ok (.aload_n 0, 1) := by decide +kernel
theorem dX0_init_19 : decode cX0_init 19 = .ok (.iconst 5, 1) := by decide +kernel
theorem dX0_init_20 : decode cX0_init 20 = .ok (.newarray .boolean, 2) := by decide +kernel
theorem dX0_init_22 : decode cX0_init 22 = .ok (.putfield 18, 3) := by decide +kernel
theorem dX0_init_25 : decode cX0_init 25 = .ok (.aload_n 0, 1) := by decide +kernel
theorem dX0_init_26 : decode cX0_init 26 = .ok (.iconst 5, 1) := by decide +kernel
theorem dX0_init_27 : decode cX0_init 27 = .ok (.newarray .int, 2) := by decide +kernel
theorem dX0_init_29 : decode cX0_init 29 = .ok (.putfield 22, 3) := by decide +kernel
theorem dX0_init_32 : decode cX0_init 32 = .ok (.return_, 1) := by decide +kernel
theorem dX0_start_0 : decode cX0_start 0 = .ok (.iconst 0, 1) := by decide +kernel
theorem dX0_start_1 : decode cX0_start 1 = .ok (.istore_n 1, 1) := by decide +kernel
theorem dX0_start_2 : decode cX0_start 2 = .ok (.iload_n 1, 1) := by decide +kernel
theorem dX0_start_3 : decode cX0_start 3 = .ok (.iconst 5, 1) := by decide +kernel
theorem dX0_start_4 : decode cX0_start 4 = .ok (.if_icmp .ge 37, 3) := by decide +kernel
theorem dX0_start_7 : decode cX0_start 7 = .ok (.aload_n 0, 1) := by decide +kernel
theorem dX0_start_8 : decode cX0_start 8 = .ok (.getfield 9, 3) := by decide +kernel
theorem dX0_start_11 : decode cX0_start 11 = .ok (.iload_n 1, 1) := by decide +kernel
theorem dX0_start_12 : decode cX0_start 12 = .ok (.iload_n 1, 1) := by decide +kernel
theorem dX0_start_13 : decode cX0_start 13 = .ok (.iastore, 1) := by decide +kernel
theorem dX0_start_14 : decode cX0_start 14 = .ok (.aload_n 0, 1) := by decide +kernel
theorem dX0_start_15 : decode cX0_start 15 = .ok (.getfield 15, 3) := by decide +kernel
theorem dX0_start_18 : decode cX0_start 18 = .ok (.iload_n 1, 1) := by decide +kernel
theorem dX0_start_19 : decode cX0_start 19 = .ok (.iconst 0, 1) := by decide +kernel
theorem dX0_start_20 : decode cX0_start 20 = .ok (.iastore, 1) := by decide +kernel
theorem dX0_start_21 : decode cX0_start 21 = .ok (.aload_n 0, 1) := by decide +kernel
theorem dX0_start_22 : decode cX0_start 22 = .ok (.getfield 18, 3) := by decide +kernel
theorem dX0_start_25 : decode cX0_start 25 = .ok (.iload_n 1, 1) := by decide +kernel
theorem dX0_start_26 : decode cX0_start 26 = .ok (.iconst 0, 1) := by decide +kernel
theorem dX0_start_27 : decode cX0_start 27 = .ok (.bastore, 1) := by decide +kernel
theorem dX0_start_28 : decode cX0_start 28 = .ok (.aload_n 0, 1) := by decide +kernel
theorem dX0_start_29 : decode cX0_start 29 = .ok (.getfield 22, 3) := by decide +kernel
theorem dX0_start_32 : decode cX0_start 32 = .ok (.iload_n 1, 1) := by decide +kernel
theorem dX0_start_33 : decode cX0_start 33 = .ok (.iconst 0, 1) := by decide +kernel
theorem dX0_start_34 : decode cX0_start 34 = .ok (.iastore, 1) := by decide +kernel
theorem dX0_start_35 : decode cX0_start 35 = .ok (.iinc 1 1, 3) := by decide +kernel
theorem dX0_start_38 : decode cX0_start 38 = .ok (.goto (-36), 3) := by decide +kernel
theorem dX0_start_41 : decode cX0_start 41 = .ok (.aload_n 0, 1) := by decide +kernel
theorem dX0_start_42 : decode cX0_start 42 = .ok (.iconst 0, 1) := by decide +kernel
theorem dX0_start_43 : decode cX0_start 43 = .ok (.putfield 25, 3) := by decide +kernel
theorem dX0_start_46 : decode cX0_start 46 = .ok (.return_, 1) := by decide +kernel
theorem dX0_become_0 : decode cX0_become 0 = .ok (.iconst 0, 1) := by decide +kernel
theorem dX0_become_1 : decode cX0_become 1 = .ok (.istore_n 2, 1) := by decide +kernel
theorem dX0_become_2 : decode cX0_become 2 = .ok (.iload_n 2, 1) := by decide +kernel
theorem dX0_become_3 : decode cX0_become 3 = .ok (.iconst 5, 1) := by decide +kernel
theorem dX0_become_4 : decode cX0_become 4 = .ok (.if_icmp .ge 57, 3) := by decide +kernel
theorem dX0_become_7 : decode cX0_become 7 = .ok (.aload_n 0, 1) := by decide +kernel
theorem dX0_become_8 : decode cX0_become 8 = .ok (.getfield 9, 3) := by decide +kernel
theorem dX0_become_11 : decode cX0_become 11 = .ok (.iload_n 2, 1) := by decide +kernel
theorem dX0_become_12 : decode cX0_become 12 = .ok (.aload_n 1, 1) := by decide +kernel
theorem dX0_become_13 : decode cX0_become 13 = .ok (.getfield 9, 3) := by decide +kernel
theorem dX0_become_16 : decode cX0_become 16 = .ok (.iload_n 2, 1) := by decide +kernel
theorem dX0_become_17 : decode cX0_become 17 = .ok (.iaload, 1) := by decide +kernel
theorem dX0_become_18 : decode cX0_become 18 = .ok (.iastore, 1) := by decide +kernel
theorem dX0_become_19 : decode cX0_become 19 = .ok (.aload_n 0, 1) := by decide +kernel
theorem dX0_become_20 : decode cX0_become 20 = .ok (.getfield 15, 3) := by decide +kernel
theorem dX0_become_23 : decode cX0_become 23 = .ok (.iload_n 2, 1) := by decide +kernel
theorem dX0_become_24 : decode cX0_become 24 = .ok (.aload_n 1, 1) := by decide +kernel
theorem dX0_become_25 : decode cX0_become 25 = .ok (.getfield 15, 3) := by decide +kernel
theorem dX0_become_28 : decode cX0_become 28 = .ok (.iload_n 2, 1) := by decide +kernel
theorem dX0_become_29 : decode cX0_become 29 = .ok (.iaload, 1) := by decide +kernel
theorem dX0_become_30 : decode cX0_become 30 = .ok (.iastore, 1) := by decide +kernel
theorem dX0_become_31 : decode cX0_become 31 = .ok (.aload_n 0, 1) := by decide +kernel
theorem dX0_become_32 : decode cX0_become 32 = .ok (.getfield 18, 3) := by decide +kernel
theorem dX0_become_35 : decode cX0_become 35 = .ok (.iload_n 2, 1) := by decide +kernel
theorem dX0_become_36 : decode cX0_become 36 = .ok (.aload_n 1, 1) := by decide +kernel
theorem dX0_become_37 : decode cX0_become 37 = .ok (.getfield 18, 3) := by decide +kernel
theorem dX0_become_40 : decode cX0_become 40 = .ok (.iload_n 2, 1) := by decide +kernel
theorem dX0_become_41 : decode cX0_become 41 = .ok (.baload, 1) := by decide +kernel
theorem dX0_become_42 : decode cX0_become 42 = .ok (.bastore, 1) := by decide +kernel
theorem dX0_become_43 : decode cX0_become 43 = .ok (.aload_n 0, 1) := by decide +kernel
theorem dX0_become_44 : decode cX0_become 44 = .ok (.getfield 22, 3) := by decide +kernel
theorem dX0_become_47 : decode cX0_become 47 = .ok (.iload_n 2, 1) := by decide +kernel
theorem dX0_become_48 : decode cX0_become 48 = .ok (.aload_n 1, 1) := by decide +kernel
theorem dX0_become_49 : decode cX0_become 49 = .ok (.getfield 22, 3) := by decide +kernel
theorem dX0_become_52 : decode cX0_become 52 = .ok (.iload_n 2, 1) := by decide +kernel
theorem dX0_become_53 : decode cX0_become 53 = .ok (.iaload, 1) := by decide +kernel
theorem dX0_become_54 : decode cX0_become 54 = .ok (.iastore, 1) := by decide +kernel
theorem dX0_become_55 : decode cX0_become 55 = .ok (.iinc 2 1, 3) := by decide +kernel
theorem dX0_become_58 : decode cX0_become 58 = .ok (.goto (-56), 3) := by decide +kernel
theorem dX0_become_61 : decode cX0_become 61 = .ok (.aload_n 0, 1) := by decide +kernel
theorem dX0_become_62 : decode cX0_become 62 = .ok (.aload_n 1, 1) := by decide +kernel
theorem dX0_become_63 : decode cX0_become 63 = .ok (.getfield 25, 3) := by decide +kernel
theorem dX0_become_66 : decode cX0_become 66 = .ok (.putfield 25, 3) := by decide +kernel
theorem dX0_become_69 : decode cX0_become 69 = .ok (.return_, 1) := by decide +kernel
theorem dX0_exchange_0 : decode cX0_exchange 0 = .ok (.aload_n 0, 1) := by decide +kernel
theorem dX0_exchange_1 : decode cX0_exchange 1 = .ok (.getfield 9, 3) := by decide +kernel
theorem dX0_exchange_4 : decode cX0_exchange 4 = .ok (.iload_n 1, 1) := by decide +kernel
theorem dX0_exchange_5 : decode cX0_exchange 5 = .ok (.iaload, 1) := by decide +kernel
theorem dX0_exchange_6 : decode cX0_exchange 6 = .ok (.istore_n 3, 1) := by decide +kernel
theorem dX0_exchange_7 : decode cX0_exchange 7 = .ok (.aload_n 0, 1) := by decide +kernel
theorem dX0_exchange_8 : decode cX0_exchange 8 = .ok (.getfield 9, 3) := by decide +kernel
theorem dX0_exchange_11 : decode cX0_exchange 11 = .ok (.iload_n 1, 1) := by decide +kernel
theorem dX0_exchange_12 : decode cX0_exchange 12 = .ok (.aload_n 0, 1) := by decide +kernel
theorem dX0_exchange_13 : decode cX0_exchange 13 = .ok (.getfield 9, 3) := by decide +kernel
theorem dX0_exchange_16 : decode cX0_exchange 16 = .ok (.iload_n 2, 1) := by decide +kernel
theorem dX0_exchange_17 : decode cX0_exchange 17 = .ok (.iaload, 1) := by decide +kernel
theorem dX0_exchange_18 : decode cX0_exchange 18 = .ok (.iastore, 1) := by decide +kernel
theorem dX0_exchange_19 : decode cX0_exchange 19 = .ok (.aload_n 0, 1) := by decide +kernel
theorem dX0_exchange_20 : decode cX0_exchange 20 = .ok (.getfield 9, 3) := by decide +kernel
theorem dX0_exchange_23 : decode cX0_exchange 23 = .ok (.iload_n 2, 1) := by decide +kernel
theorem dX0_exchange_24 : decode cX0_exchange 24 = .ok (.iload_n 3, 1) := by decide +kernel
theorem dX0_exchange_25 : decode cX0_exchange 25 = .ok (.iastore, 1) := by decide +kernel
theorem dX0_exchange_26 : decode cX0_exchange 26 = .ok (.return_, 1) := by decide +kernel
theorem dX0_greasedCount_0 : decode cX0_greasedCount 0 = .ok (.iconst 0, 1) := by decide +kernel
theorem dX0_greasedCount_1 : decode cX0_greasedCount 1 = .ok (.istore_n 2, 1) := by decide +kernel
theorem dX0_greasedCount_2 : decode cX0_greasedCount 2 = .ok (.iconst 0, 1) := by decide +kernel
theorem dX0_greasedCount_3 : decode cX0_greasedCount 3 = .ok (.istore_n 3, 1) := by decide +kernel
theorem dX0_greasedCount_4 : decode cX0_greasedCount 4 = .ok (.iload_n 3, 1) := by decide +kernel
theorem dX0_greasedCount_5 : decode cX0_greasedCount 5 = .ok (.iload_n 1, 1) := by decide +kernel
theorem dX0_greasedCount_6 : decode cX0_greasedCount 6 = .ok (.if_icmp .ge 21, 3) := by decide +kernel
theorem dX0_greasedCount_9 : decode cX0_greasedCount 9 = .ok (.aload_n 0, 1) := by decide +kernel
theorem dX0_greasedCount_10 : decode cX0_greasedCount 10 = .ok (.getfield 18, 3) := by decide +kernel
theorem dX0_greasedCount_13 : decode cX0_greasedCount 13 = .ok (.iload_n 3, 1) := by decide +kernel
theorem dX0_greasedCount_14 : decode cX0_greasedCount 14 = .ok (.baload, 1) := by decide +kernel
theorem dX0_greasedCount_15 : decode cX0_greasedCount 15 = .ok (.ifCond .eq 6, 3) := by decide +kernel
theorem dX0_greasedCount_18 : decode cX0_greasedCount 18 = .ok (.iinc 2 1, 3) := by decide +kernel
theorem dX0_greasedCount_21 : decode cX0_greasedCount 21 = .ok (.iinc 3 1, 3) := by decide +kernel
theorem dX0_greasedCount_24 : decode cX0_greasedCount 24 = .ok (.goto (-20), 3) := by decide +kernel
theorem dX0_greasedCount_27 : decode cX0_greasedCount 27 = .ok (.iload_n 2, 1) := by decide +kernel
theorem dX0_greasedCount_28 : decode cX0_greasedCount 28 = .ok (.ireturn, 1) := by decide +kernel
theorem dX0_gainOf_0 : decode cX0_gainOf 0 = .ok (.aload_n 1, 1) := by decide +kernel
theorem dX0_gainOf_1 : decode cX0_gainOf 1 = .ok (.iload_n 2, 1) := by decide +kernel
theorem dX0_gainOf_2 : decode cX0_gainOf 2 = .ok (.aload_n 1, 1) := by decide +kernel
theorem dX0_gainOf_3 : decode cX0_gainOf 3 = .ok (.aload_n 0, 1) := by decide +kernel
theorem dX0_gainOf_4 : decode cX0_gainOf 4 = .ok (.getfield 9, 3) := by decide +kernel
theorem dX0_gainOf_7 : decode cX0_gainOf 7 = .ok (.iload_n 2, 1) := by decide +kernel
theorem dX0_gainOf_8 : decode cX0_gainOf 8 = .ok (.iaload, 1) := by decide +kernel
theorem dX0_gainOf_9 : decode cX0_gainOf 9 = .ok (.invokevirtual 29, 3) := by decide +kernel
theorem dX0_gainOf_12 : decode cX0_gainOf 12 = .ok (.aload_n 0, 1) := by decide +kernel
theorem dX0_gainOf_13 : decode cX0_gainOf 13 = .ok (.getfield 18, 3) := by decide +kernel
theorem dX0_gainOf_16 : decode cX0_gainOf 16 = .ok (.iload_n 2, 1) := by decide +kernel
theorem dX0_gainOf_17 : decode cX0_gainOf 17 = .ok (.baload, 1) := by decide +kernel
theorem dX0_gainOf_18 : decode cX0_gainOf 18 = .ok (.invokevirtual 35, 3) := by decide +kernel
theorem dX0_gainOf_21 : decode cX0_gainOf 21 = .ok (.ireturn, 1) := by decide +kernel
theorem dX0_aloneOf_0 : decode cX0_aloneOf 0 = .ok (.aload_n 1, 1) := by decide +kernel
theorem dX0_aloneOf_1 : decode cX0_aloneOf 1 = .ok (.iload_n 2, 1) := by decide +kernel
theorem dX0_aloneOf_2 : decode cX0_aloneOf 2 = .ok (.aload_n 1, 1) := by decide +kernel
theorem dX0_aloneOf_3 : decode cX0_aloneOf 3 = .ok (.aload_n 0, 1) := by decide +kernel
theorem dX0_aloneOf_4 : decode cX0_aloneOf 4 = .ok (.getfield 9, 3) := by decide +kernel
theorem dX0_aloneOf_7 : decode cX0_aloneOf 7 = .ok (.iload_n 2, 1) := by decide +kernel
theorem dX0_aloneOf_8 : decode cX0_aloneOf 8 = .ok (.iaload, 1) := by decide +kernel
theorem dX0_aloneOf_9 : decode cX0_aloneOf 9 = .ok (.invokevirtual 29, 3) := by decide +kernel
theorem dX0_aloneOf_12 : decode cX0_aloneOf 12 = .ok (.iload_n 3, 1) := by decide +kernel
theorem dX0_aloneOf_13 : decode cX0_aloneOf 13 = .ok (.invokevirtual 35, 3) := by decide +kernel
theorem dX0_aloneOf_16 : decode cX0_aloneOf 16 = .ok (.istore 4, 2) := by decide +kernel
theorem dX0_aloneOf_18 : decode cX0_aloneOf 18 = .ok (.aload_n 0, 1) := by decide +kernel
theorem dX0_aloneOf_19 : decode cX0_aloneOf 19 = .ok (.getfield 15, 3) := by decide +kernel
theorem dX0_aloneOf_22 : decode cX0_aloneOf 22 = .ok (.iload_n 2, 1) := by decide +kernel
theorem dX0_aloneOf_23 : decode cX0_aloneOf 23 = .ok (.iaload, 1) := by decide +kernel
theorem dX0_aloneOf_24 : decode cX0_aloneOf 24 = .ok (.aload_n 1, 1) := by decide +kernel
theorem dX0_aloneOf_25 : decode cX0_aloneOf 25 = .ok (.iload 4, 2) := by decide +kernel
theorem dX0_aloneOf_27 : decode cX0_aloneOf 27 = .ok (.invokevirtual 39, 3) := by decide +kernel
theorem dX0_aloneOf_30 : decode cX0_aloneOf 30 = .ok (.iadd, 1) := by decide +kernel
theorem dX0_aloneOf_31 : decode cX0_aloneOf 31 = .ok (.ireturn, 1) := by decide +kernel
theorem dX0_ruledMost_0 : decode cX0_ruledMost 0 = .ok (.aload_n 0, 1) := by decide +kernel
theorem dX0_ruledMost_1 : decode cX0_ruledMost 1 = .ok (.getfield 25, 3) := by decide +kernel
theorem dX0_ruledMost_4 : decode cX0_ruledMost 4 = .ok (.ifCond .ne 6, 3) := by decide +kernel
theorem dX0_ruledMost_7 : decode cX0_ruledMost 7 = .ok (.bipush (-9), 2) := by decide +kernel
theorem dX0_ruledMost_9 : decode cX0_ruledMost 9 = .ok (.ireturn, 1) := by decide +kernel
theorem dX0_ruledMost_10 : decode cX0_ruledMost 10 = .ok (.iconst 0, 1) := by decide +kernel
theorem dX0_ruledMost_11 : decode cX0_ruledMost 11 = .ok (.istore_n 2, 1) := by decide +kernel
theorem dX0_ruledMost_12 : decode cX0_ruledMost 12 = .ok (.iconst 1, 1) := by decide +kernel
theorem dX0_ruledMost_13 : decode cX0_ruledMost 13 = .ok (.istore_n 3, 1) := by decide +kernel
theorem dX0_ruledMost_14 : decode cX0_ruledMost 14 = .ok (.iload_n 3, 1) := by decide +kernel
theorem dX0_ruledMost_15 : decode cX0_ruledMost 15 = .ok (.iconst 4, 1) := by decide +kernel
theorem dX0_ruledMost_16 : decode cX0_ruledMost 16 = .ok (.if_icmp .ge 26, 3) := by decide +kernel
theorem dX0_ruledMost_19 : decode cX0_ruledMost 19 = .ok (.aload_n 0, 1) := by decide +kernel
theorem dX0_ruledMost_20 : decode cX0_ruledMost 20 = .ok (.aload_n 1, 1) := by decide +kernel
theorem dX0_ruledMost_21 : decode cX0_ruledMost 21 = .ok (.iload_n 3, 1) := by decide +kernel
theorem dX0_ruledMost_22 : decode cX0_ruledMost 22 = .ok (.invokevirtual 42, 3) := by decide +kernel
theorem dX0_ruledMost_25 : decode cX0_ruledMost 25 = .ok (.aload_n 0, 1) := by decide +kernel
theorem dX0_ruledMost_26 : decode cX0_ruledMost 26 = .ok (.aload_n 1, 1) := by decide +kernel
theorem dX0_ruledMost_27 : decode cX0_ruledMost 27 = .ok (.iload_n 2, 1) := by decide +kernel
theorem dX0_ruledMost_28 : decode cX0_ruledMost 28 = .ok (.invokevirtual 42, 3) := by decide +kernel
theorem dX0_ruledMost_31 : decode cX0_ruledMost 31 = .ok (.if_icmp .le 5, 3) := by decide +kernel
theorem dX0_ruledMost_34 : decode cX0_ruledMost 34 = .ok (.iload_n 3, 1) := by decide +kernel
theorem dX0_ruledMost_35 : decode cX0_ruledMost 35 = .ok (.istore_n 2, 1) := by decide +kernel
theorem dX0_ruledMost_36 : decode cX0_ruledMost 36 = .ok (.iinc 3 1, 3) := by decide +kernel
theorem dX0_ruledMost_39 : decode cX0_ruledMost 39 = .ok (.goto (-25), 3) := by decide +kernel
theorem dX0_ruledMost_42 : decode cX0_ruledMost 42 = .ok (.iload_n 2, 1) := by decide +kernel
theorem dX0_ruledMost_43 : decode cX0_ruledMost 43 = .ok (.ireturn, 1) := by decide +kernel
theorem dX0_weeksOf_0 : decode cX0_weeksOf 0 = .ok (.iconst 0, 1) := by decide +kernel
theorem dX0_weeksOf_1 : decode cX0_weeksOf 1 = .ok (.istore_n 3, 1) := by decide +kernel
theorem dX0_weeksOf_2 : decode cX0_weeksOf 2 = .ok (.iconst 0, 1) := by decide +kernel
theorem dX0_weeksOf_3 : decode cX0_weeksOf 3 = .ok (.istore 4, 2) := by decide +kernel
theorem dX0_weeksOf_5 : decode cX0_weeksOf 5 = .ok (.iload 4, 2) := by decide +kernel
theorem dX0_weeksOf_7 : decode cX0_weeksOf 7 = .ok (.aload_n 1, 1) := by decide +kernel
theorem dX0_weeksOf_8 : decode cX0_weeksOf 8 = .ok (.getfield 46, 3) := by decide +kernel
theorem dX0_weeksOf_11 : decode cX0_weeksOf 11 = .ok (.if_icmp .ge 30, 3) := by decide +kernel
theorem dX0_weeksOf_14 : decode cX0_weeksOf 14 = .ok (.aload_n 1, 1) := by decide +kernel
theorem dX0_weeksOf_15 : decode cX0_weeksOf 15 = .ok (.getfield 49, 3) := by decide +kernel
theorem dX0_weeksOf_18 : decode cX0_weeksOf 18 = .ok (.iload 4, 2) := by decide +kernel
theorem dX0_weeksOf_20 : decode cX0_weeksOf 20 = .ok (.iaload, 1) := by decide +kernel
theorem dX0_weeksOf_21 : decode cX0_weeksOf 21 = .ok (.iload_n 2, 1) := by decide +kernel
theorem dX0_weeksOf_22 : decode cX0_weeksOf 22 = .ok (.if_icmp .ne 13, 3) := by decide +kernel
theorem dX0_weeksOf_25 : decode cX0_weeksOf 25 = .ok (.iload_n 3, 1) := by decide +kernel
theorem dX0_weeksOf_26 : decode cX0_weeksOf 26 = .ok (.aload_n 0, 1) := by decide +kernel
theorem dX0_weeksOf_27 : decode cX0_weeksOf 27 = .ok (.getfield 22, 3) := by decide +kernel
theorem dX0_weeksOf_30 : decode cX0_weeksOf 30 = .ok (.iload 4, 2) := by decide +kernel
theorem dX0_weeksOf_32 : decode cX0_weeksOf 32 = .ok (.iaload, 1) := by decide +kernel
theorem dX0_weeksOf_33 : decode cX0_weeksOf 33 = .ok (.iadd, 1) := by decide +kernel
theorem dX0_weeksOf_34 : decode cX0_weeksOf 34 = .ok (.istore_n 3, 1) := by decide +kernel
theorem dX0_weeksOf_35 : decode cX0_weeksOf 35 = .ok (.iinc 4 1, 3) := by decide +kernel
theorem dX0_weeksOf_38 : decode cX0_weeksOf 38 = .ok (.goto (-33), 3) := by decide +kernel
theorem dX0_weeksOf_41 : decode cX0_weeksOf 41 = .ok (.iload_n 3, 1) := by decide +kernel
theorem dX0_weeksOf_42 : decode cX0_weeksOf 42 = .ok (.ireturn, 1) := by decide +kernel
theorem dX1_init_0 : decode cX1_init 0 = .ok (.aload_n 0, 1) := by decide +kernel
theorem dX1_init_1 : decode cX1_init 1 = .ok (.invokespecial 3, 3) := by decide +kernel
theorem dX1_init_4 : decode cX1_init 4 = .ok (.aload_n 0, 1) := by decide +kernel
theorem dX1_init_5 : decode cX1_init 5 = .ok (.bipush 10, 2) := by decide +kernel
theorem dX1_init_7 : decode cX1_init 7 = .ok (.newarray .int, 2) := by decide +kernel
theorem dX1_init_9 : decode cX1_init 9 = .ok (.putfield 9, 3) := by decide +kernel
theorem dX1_init_12 : decode cX1_init 12 = .ok (.aload_n 0, 1) := by decide +kernel
theorem dX1_init_13 : decode cX1_init 13 = .ok (.bipush 10, 2) := by decide +kernel
theorem dX1_init_15 : decode cX1_init 15 = .ok (.newarray .int, 2) := by decide +kernel
theorem dX1_init_17 : decode cX1_init 17 = .ok (.putfield 15, 3) := by decide +kernel
theorem dX1_init_20 : decode cX1_init 20 = .ok (.aload_n 0, 1) := by decide +kernel
theorem dX1_init_21 : decode cX1_init 21 = .ok (.bipush 10, 2) := by decide +kernel
theorem dX1_init_23 : decode cX1_init 23 = .ok (.newarray .int, 2) := by decide +kernel
theorem dX1_init_25 : decode cX1_init 25 = .ok (.putfield 18, 3) := by decide +kernel
theorem dX1_init_28 : decode cX1_init 28 = .ok (.return_, 1) := by decide +kernel
theorem dX1_add_0 : decode cX1_add 0 = .ok (.aload_n 0, 1) := by decide +kernel
theorem dX1_add_1 : decode cX1_add 1 = .ok (.getfield 21, 3) := by decide +kernel
theorem dX1_add_4 : decode cX1_add 4 = .ok (.bipush 10, 2) := by decide +kernel
theorem dX1_add_6 : decode cX1_add 6 = .ok (.if_icmp .lt 7, 3) := by decide +kernel
theorem dX1_add_9 : decode cX1_add 9 = .ok (.aload_n 0, 1) := by decide +kernel
theorem dX1_add_10 : decode cX1_add 10 = .ok (.invokevirtual 25, 3) := by decide +kernel
theorem dX1_add_13 : decode cX1_add 13 = .ok (.aload_n 0, 1) := by decide +kernel
theorem dX1_add_14 : decode cX1_add 14 = .ok (.getfield 9, 3) := by decide +kernel
theorem dX1_add_17 : decode cX1_add 17 = .ok (.aload_n 0, 1) := by decide +kernel
theorem dX1_add_18 : decode cX1_add 18 = .ok (.getfield 21, 3) := by decide +kernel
theorem dX1_add_21 : decode cX1_add 21 = .ok (.iload_n 1, 1) := by decide +kernel
theorem dX1_add_22 : decode cX1_add 22 = .ok (.iastore, 1) := by decide +kernel
theorem dX1_add_23 : decode cX1_add 23 = .ok (.aload_n 0, 1) := by decide +kernel
theorem dX1_add_24 : decode cX1_add 24 = .ok (.getfield 15, 3) := by decide +kernel
theorem dX1_add_27 : decode cX1_add 27 = .ok (.aload_n 0, 1) := by decide +kernel
theorem dX1_add_28 : decode cX1_add 28 = .ok (.getfield 21, 3) := by decide +kernel
theorem dX1_add_31 : decode cX1_add 31 = .ok (.iload_n 2, 1) := by decide +kernel
theorem dX1_add_32 : decode cX1_add 32 = .ok (.iastore, 1) := by decide +kernel
theorem dX1_add_33 : decode cX1_add 33 = .ok (.aload_n 0, 1) := by decide +kernel
theorem dX1_add_34 : decode cX1_add 34 = .ok (.getfield 18, 3) := by decide +kernel
theorem dX1_add_37 : decode cX1_add 37 = .ok (.aload_n 0, 1) := by decide +kernel
theorem dX1_add_38 : decode cX1_add 38 = .ok (.getfield 21, 3) := by decide +kernel
theorem dX1_add_41 : decode cX1_add 41 = .ok (.iload_n 3, 1) := by decide +kernel
theorem dX1_add_42 : decode cX1_add 42 = .ok (.iastore, 1) := by decide +kernel
theorem dX1_add_43 : decode cX1_add 43 = .ok (.aload_n 0, 1) := by decide +kernel
theorem dX1_add_44 : decode cX1_add 44 = .ok (.dup, 1) := by decide +kernel
theorem dX1_add_45 : decode cX1_add 45 = .ok (.getfield 21, 3) := by decide +kernel
theorem dX1_add_48 : decode cX1_add 48 = .ok (.iconst 1, 1) := by decide +kernel
theorem dX1_add_49 : decode cX1_add 49 = .ok (.iadd, 1) := by decide +kernel
theorem dX1_add_50 : decode cX1_add 50 = .ok (.putfield 21, 3) := by decide +kernel
theorem dX1_add_53 : decode cX1_add 53 = .ok (.return_, 1) := by decide +kernel
theorem dX1_takeBackLatest_0 : decode cX1_takeBackLatest 0 = .ok (.aload_n 0, 1) := by decide +kernel
theorem dX1_takeBackLatest_1 : decode cX1_takeBackLatest 1 = .ok (.getfield 21, 3) := by decide +kernel
theorem dX1_takeBackLatest_4 : decode cX1_takeBackLatest 4 = .ok (.iconst 1, 1) := by decide +kernel
theorem dX1_takeBackLatest_5 : decode cX1_takeBackLatest 5 = .ok (.if_icmp .ge 4, 3) := by decide +kernel
theorem dX1_takeBackLatest_8 : decode cX1_takeBackLatest 8 = .ok (.return_, 1) := by decide +kernel
theorem dX1_takeBackLatest_9 : decode cX1_takeBackLatest 9 = .ok (.aload_n 0, 1) := by decide +kernel
theorem dX1_takeBackLatest_10 : decode cX1_takeBackLatest 10 = .ok (.dup, 1) := by decide +kernel
theorem dX1_takeBackLatest_11 : decode cX1_takeBackLatest 11 = .ok (.getfield 21, 3) := by decide +kernel
theorem dX1_takeBackLatest_14 : decode cX1_takeBackLatest 14 = .ok (.iconst 1, 1) := by decide +kernel
theorem dX1_takeBackLatest_15 : decode cX1_takeBackLatest 15 = .ok (.isub, 1) := by decide +kernel
theorem dX1_takeBackLatest_16 : decode cX1_takeBackLatest 16 = .ok (.putfield 21, 3) := by decide +kernel
theorem dX1_takeBackLatest_19 : decode cX1_takeBackLatest 19 = .ok (.aload_n 0, 1) := by decide +kernel
theorem dX1_takeBackLatest_20 : decode cX1_takeBackLatest 20 = .ok (.getfield 15, 3) := by decide +kernel
theorem dX1_takeBackLatest_23 : decode cX1_takeBackLatest 23 = .ok (.aload_n 0, 1) := by decide +kernel
theorem dX1_takeBackLatest_24 : decode cX1_takeBackLatest 24 = .ok (.getfield 21, 3) := by decide +kernel
theorem dX1_takeBackLatest_27 : decode cX1_takeBackLatest 27 = .ok (.iaload, 1) := by decide +kernel
theorem dX1_takeBackLatest_28 : decode cX1_takeBackLatest 28 = .ok (.istore_n 2, 1) := by decide +kernel
theorem dX1_takeBackLatest_29 : decode cX1_takeBackLatest 29 = .ok (.aload_n 0, 1) := by decide +kernel
theorem dX1_takeBackLatest_30 : decode cX1_takeBackLatest 30 = .ok (.getfield 18, 3) := by decide +kernel
theorem dX1_takeBackLatest_33 : decode cX1_takeBackLatest 33 = .ok (.aload_n 0, 1) := by decide +kernel
theorem dX1_takeBackLatest_34 : decode cX1_takeBackLatest 34 = .ok (.getfield 21, 3) := by decide +kernel
theorem dX1_takeBackLatest_37 : decode cX1_takeBackLatest 37 = .ok (.iaload, 1) := by decide +kernel
theorem dX1_takeBackLatest_38 : decode cX1_takeBackLatest 38 = .ok (.istore_n 3, 1) := by decide +kernel
theorem dX1_takeBackLatest_39 : decode cX1_takeBackLatest 39 = .ok (.aload_n 0, 1) := by decide +kernel
theorem dX1_takeBackLatest_40 : decode cX1_takeBackLatest 40 = .ok (.getfield 9, 3) := by decide +kernel
theorem dX1_takeBackLatest_43 : decode cX1_takeBackLatest 43 = .ok (.aload_n 0, 1) := by decide +kernel
theorem dX1_takeBackLatest_44 : decode cX1_takeBackLatest 44 = .ok (.getfield 21, 3) := by decide +kernel
theorem dX1_takeBackLatest_47 : decode cX1_takeBackLatest 47 = .ok (.iaload, 1) := by decide +kernel
theorem dX1_takeBackLatest_48 : decode cX1_takeBackLatest 48 = .ok (.tableswitch 70 0 2 #[28, 51, 60], 28) := by decide +kernel
theorem dX1_takeBackLatest_76 : decode cX1_takeBackLatest 76 = .ok (.aload_n 1, 1) := by decide +kernel
theorem dX1_takeBackLatest_77 : decode cX1_takeBackLatest 77 = .ok (.getfield 28, 3) := by decide +kernel
theorem dX1_takeBackLatest_80 : decode cX1_takeBackLatest 80 = .ok (.iload_n 2, 1) := by decide +kernel
theorem dX1_takeBackLatest_81 : decode cX1_takeBackLatest 81 = .ok (.dup2, 1) := by decide +kernel
theorem dX1_takeBackLatest_82 : decode cX1_takeBackLatest 82 = .ok (.iaload, 1) := by decide +kernel
theorem dX1_takeBackLatest_83 : decode cX1_takeBackLatest 83 = .ok (.iconst 1, 1) := by decide +kernel
theorem dX1_takeBackLatest_84 : decode cX1_takeBackLatest 84 = .ok (.isub, 1) := by decide +kernel
theorem dX1_takeBackLatest_85 : decode cX1_takeBackLatest 85 = .ok (.iastore, 1) := by decide +kernel
theorem dX1_takeBackLatest_86 : decode cX1_takeBackLatest 86 = .ok (.aload_n 1, 1) := by decide +kernel
theorem dX1_takeBackLatest_87 : decode cX1_takeBackLatest 87 = .ok (.dup, 1) := by decide +kernel
theorem dX1_takeBackLatest_88 : decode cX1_takeBackLatest 88 = .ok (.getfield 33, 3) := by decide +kernel
theorem dX1_takeBackLatest_91 : decode cX1_takeBackLatest 91 = .ok (.iconst 1, 1) := by decide +kernel
theorem dX1_takeBackLatest_92 : decode cX1_takeBackLatest 92 = .ok (.isub, 1) := by decide +kernel
theorem dX1_takeBackLatest_93 : decode cX1_takeBackLatest 93 = .ok (.putfield 33, 3) := by decide +kernel
theorem dX1_takeBackLatest_96 : decode cX1_takeBackLatest 96 = .ok (.goto 42, 3) := by decide +kernel
theorem dX1_takeBackLatest_99 : decode cX1_takeBackLatest 99 = .ok (.aload_n 1, 1) := by decide +kernel
theorem dX1_takeBackLatest_100 : decode cX1_takeBackLatest 100 = .ok (.iload_n 2, 1) := by decide +kernel
theorem dX1_takeBackLatest_101 : decode cX1_takeBackLatest 101 = .ok (.iload_n 3, 1) := by decide +kernel
theorem dX1_takeBackLatest_102 : decode cX1_takeBackLatest 102 = .ok (.invokevirtual 36, 3) := by decide +kernel
theorem dX1_takeBackLatest_105 : decode cX1_takeBackLatest 105 = .ok (.goto 33, 3) := by decide +kernel
theorem dX1_takeBackLatest_108 : decode cX1_takeBackLatest 108 = .ok (.aload_n 1, 1) := by decide +kernel
theorem dX1_takeBackLatest_109 : decode cX1_takeBackLatest 109 = .ok (.getfield 40, 3) := by decide +kernel
theorem dX1_takeBackLatest_112 : decode cX1_takeBackLatest 112 = .ok (.iload_n 2, 1) := by decide +kernel
theorem dX1_takeBackLatest_113 : decode cX1_takeBackLatest 113 = .ok (.iload_n 3, 1) := by decide +kernel
theorem dX1_takeBackLatest_114 : decode cX1_takeBackLatest 114 = .ok (.iastore, 1) := by decide +kernel
theorem dX1_takeBackLatest_115 : decode cX1_takeBackLatest 115 = .ok (.goto 23, 3) := by decide +kernel
theorem dX1_takeBackLatest_118 : decode cX1_takeBackLatest 118 = .ok (.aload_n 1, 1) := by decide +kernel
theorem dX1_takeBackLatest_119 : decode cX1_takeBackLatest 119 = .ok (.getfield 43, 3) := by decide +kernel
theorem dX1_takeBackLatest_122 : decode cX1_takeBackLatest 122 = .ok (.iload_n 2, 1) := by decide +kernel
theorem dX1_takeBackLatest_123 : decode cX1_takeBackLatest 123 = .ok (.aload_n 1, 1) := by decide +kernel
theorem dX1_takeBackLatest_124 : decode cX1_takeBackLatest 124 = .ok (.getfield 43, 3) := by decide +kernel
theorem dX1_takeBackLatest_127 : decode cX1_takeBackLatest 127 = .ok (.iload_n 2, 1) := by decide +kernel
theorem dX1_takeBackLatest_128 : decode cX1_takeBackLatest 128 = .ok (.baload, 1) := by decide +kernel
theorem dX1_takeBackLatest_129 : decode cX1_takeBackLatest 129 = .ok (.ifCond .ne 7, 3) := by decide +kernel
theorem dX1_takeBackLatest_132 : decode cX1_takeBackLatest 132 = .ok (.iconst 1, 1) := by decide +kernel
theorem dX1_takeBackLatest_133 : decode cX1_takeBackLatest 133 = .ok (.goto 4, 3) := by decide +kernel
theorem dX1_takeBackLatest_136 : decode cX1_takeBackLatest 136 = .ok (.iconst 0, 1) := by decide +kernel
theorem dX1_takeBackLatest_137 : decode cX1_takeBackLatest 137 = .ok (.bastore, 1) := by decide +kernel
theorem dX1_takeBackLatest_138 : decode cX1_takeBackLatest 138 = .ok (.return_, 1) := by decide +kernel
theorem dX1_dropOldest_0 : decode cX1_dropOldest 0 = .ok (.aload_n 0, 1) := by decide +kernel
theorem dX1_dropOldest_1 : decode cX1_dropOldest 1 = .ok (.getfield 9, 3) := by decide +kernel
theorem dX1_dropOldest_4 : decode cX1_dropOldest 4 = .ok (.iconst 1, 1) := by decide +kernel
theorem dX1_dropOldest_5 : decode cX1_dropOldest 5 = .ok (.aload_n 0, 1) := by decide +kernel
theorem dX1_dropOldest_6 : decode cX1_dropOldest 6 = .ok (.getfield 9, 3) := by decide +kernel
theorem dX1_dropOldest_9 : decode cX1_dropOldest 9 = .ok (.iconst 0, 1) := by decide +kernel
theorem dX1_dropOldest_10 : decode cX1_dropOldest 10 = .ok (.bipush 9, 2) := by decide +kernel
theorem dX1_dropOldest_12 : decode cX1_dropOldest 12 = .ok (.invokestatic 47, 3) := by decide +kernel
theorem dX1_dropOldest_15 : decode cX1_dropOldest 15 = .ok (.aload_n 0, 1) := by decide +kernel
theorem dX1_dropOldest_16 : decode cX1_dropOldest 16 = .ok (.getfield 15, 3) := by decide +kernel
theorem dX1_dropOldest_19 : decode cX1_dropOldest 19 = .ok (.iconst 1, 1) := by decide +kernel
theorem dX1_dropOldest_20 : decode cX1_dropOldest 20 = .ok (.aload_n 0, 1) := by decide +kernel
theorem dX1_dropOldest_21 : decode cX1_dropOldest 21 = .ok (.getfield 15, 3) := by decide +kernel
theorem dX1_dropOldest_24 : decode cX1_dropOldest 24 = .ok (.iconst 0, 1) := by decide +kernel
theorem dX1_dropOldest_25 : decode cX1_dropOldest 25 = .ok (.bipush 9, 2) := by decide +kernel
theorem dX1_dropOldest_27 : decode cX1_dropOldest 27 = .ok (.invokestatic 47, 3) := by decide +kernel
theorem dX1_dropOldest_30 : decode cX1_dropOldest 30 = .ok (.aload_n 0, 1) := by decide +kernel
theorem dX1_dropOldest_31 : decode cX1_dropOldest 31 = .ok (.getfield 18, 3) := by decide +kernel
theorem dX1_dropOldest_34 : decode cX1_dropOldest 34 = .ok (.iconst 1, 1) := by decide +kernel
theorem dX1_dropOldest_35 : decode cX1_dropOldest 35 = .ok (.aload_n 0, 1) := by decide +kernel
theorem dX1_dropOldest_36 : decode cX1_dropOldest 36 = .ok (.getfield 18, 3) := by decide +kernel
theorem dX1_dropOldest_39 : decode cX1_dropOldest 39 = .ok (.iconst 0, 1) := by decide +kernel
theorem dX1_dropOldest_40 : decode cX1_dropOldest 40 = .ok (.bipush 9, 2) := by decide +kernel
theorem dX1_dropOldest_42 : decode cX1_dropOldest 42 = .ok (.invokestatic 47, 3) := by decide +kernel
theorem dX1_dropOldest_45 : decode cX1_dropOldest 45 = .ok (.aload_n 0, 1) := by decide +kernel
theorem dX1_dropOldest_46 : decode cX1_dropOldest 46 = .ok (.bipush 9, 2) := by decide +kernel
theorem dX1_dropOldest_48 : decode cX1_dropOldest 48 = .ok (.putfield 21, 3) := by decide +kernel
theorem dX1_dropOldest_51 : decode cX1_dropOldest 51 = .ok (.return_, 1) := by decide +kernel
theorem dX2_init_0 : decode cX2_init 0 = .ok (.aload_n 0, 1) := by decide +kernel
theorem dX2_init_1 : decode cX2_init 1 = .ok (.invokespecial 3, 3) := by decide +kernel
theorem dX2_init_4 : decode cX2_init 4 = .ok (.aload_n 0, 1) := by decide +kernel
theorem dX2_init_5 : decode cX2_init 5 = .ok (.new 9, 3) := by decide +kernel
theorem dX2_init_8 : decode cX2_init 8 = .ok (.dup, 1) := by decide +kernel
theorem dX2_init_9 : decode cX2_init 9 = .ok (.invokespecial 11, 3) := by decide +kernel
theorem dX2_init_12 : decode cX2_init 12 = .ok (.putfield 12, 3) := by decide +kernel
theorem dX2_init_15 : decode cX2_init 15 = .ok (.aload_n 0, 1) := by decide +kernel
theorem dX2_init_16 : decode cX2_init 16 = .ok (.new 18, 3) := by decide +kernel
theorem dX2_init_19 : decode cX2_init 19 = .ok (.dup, 1) := by decide +kernel
theorem dX2_init_20 : decode cX2_init 20 = .ok (.invokespecial 20, 3) := by decide +kernel
theorem dX2_init_23 : decode cX2_init 23 = .ok (.putfield 21, 3) := by decide +kernel
theorem dX2_init_26 : decode cX2_init 26 = .ok (.aload_n 0, 1) := by decide +kernel
theorem dX2_init_27 : decode cX2_init 27 = .ok (.new 25, 3) := by decide +kernel
theorem dX2_init_30 : decode cX2_init 30 = .ok (.dup, 1) := by decide +kernel
theorem dX2_init_31 : decode cX2_init 31 = .ok (.invokespecial 27, 3) := by decide +kernel
theorem dX2_init_34 : decode cX2_init 34 = .ok (.putfield 28, 3) := by decide +kernel
theorem dX2_init_37 : decode cX2_init 37 = .ok (.aload_n 0, 1) := by decide +kernel
theorem dX2_init_38 : decode cX2_init 38 = .ok (.iconst 5, 1) := by decide +kernel
theorem dX2_init_39 : decode cX2_init 39 = .ok (.newarray .int, 2) := by decide +kernel
theorem dX2_init_41 : decode cX2_init 41 = .ok (.putfield 32, 3) := by decide +kernel
theorem dX2_init_44 : decode cX2_init 44 = .ok (.aload_n 0, 1) := by decide +kernel
theorem dX2_init_45 : decode cX2_init 45 = .ok (.iconst 5, 1) := by decide +kernel
theorem dX2_init_46 : decode cX2_init 46 = .ok (.newarray .int, 2) := by decide +kernel
theorem dX2_init_48 : decode cX2_init 48 = .ok (.putfield 36, 3) := by decide +kernel
theorem dX2_init_51 : decode cX2_init 51 = .ok (.aload_n 0, 1) := by decide +kernel
theorem dX2_init_52 : decode cX2_init 52 = .ok (.iconst 5, 1) := by decide +kernel
theorem dX2_init_53 : decode cX2_init 53 = .ok (.newarray .int, 2) := by decide +kernel
theorem dX2_init_55 : decode cX2_init 55 = .ok (.putfield 39, 3) := by decide +kernel
theorem dX2_init_58 : decode cX2_init 58 = .ok (.return_, 1) := by decide +kernel
theorem dX2_winner_0 : decode cX2_winner 0 = .ok (.aload_n 0, 1) := by decide +kernel
theorem dX2_winner_1 : decode cX2_winner 1 = .ok (.aload_n 0, 1) := by decide +kernel
theorem dX2_winner_2 : decode cX2_winner 2 = .ok (.getfield 21, 3) := by decide +kernel
theorem dX2_winner_5 : decode cX2_winner 5 = .ok (.getfield 42, 3) := by decide +kernel
theorem dX2_winner_8 : decode cX2_winner 8 = .ok (.iconst 0, 1) := by decide +kernel
theorem dX2_winner_9 : decode cX2_winner 9 = .ok (.invokevirtual 45, 3) := by decide +kernel
theorem dX2_winner_12 : decode cX2_winner 12 = .ok (.ireturn, 1) := by decide +kernel
theorem dX2_timeOf_0 : decode cX2_timeOf 0 = .ok (.aload_n 0, 1) := by decide +kernel
theorem dX2_timeOf_1 : decode cX2_timeOf 1 = .ok (.aload_n 0, 1) := by decide +kernel
theorem dX2_timeOf_2 : decode cX2_timeOf 2 = .ok (.getfield 21, 3) := by decide +kernel
theorem dX2_timeOf_5 : decode cX2_timeOf 5 = .ok (.getfield 42, 3) := by decide +kernel
theorem dX2_timeOf_8 : decode cX2_timeOf 8 = .ok (.iconst 0, 1) := by decide +kernel
theorem dX2_timeOf_9 : decode cX2_timeOf 9 = .ok (.aload_n 0, 1) := by decide +kernel
theorem dX2_timeOf_10 : decode cX2_timeOf 10 = .ok (.getfield 12, 3) := by decide +kernel
theorem dX2_timeOf_13 : decode cX2_timeOf 13 = .ok (.getfield 49, 3) := by decide +kernel
theorem dX2_timeOf_16 : decode cX2_timeOf 16 = .ok (.invokevirtual 53, 3) := by decide +kernel
theorem dX2_timeOf_19 : decode cX2_timeOf 19 = .ok (.aload_n 0, 1) := by decide +kernel
theorem dX2_timeOf_20 : decode cX2_timeOf 20 = .ok (.getfield 28, 3) := by decide +kernel
theorem dX2_timeOf_23 : decode cX2_timeOf 23 = .ok (.getfield 57, 3) := by decide +kernel
theorem dX2_timeOf_26 : decode cX2_timeOf 26 = .ok (.iload_n 1, 1) := by decide +kernel
theorem dX2_timeOf_27 : decode cX2_timeOf 27 = .ok (.iaload, 1) := by decide +kernel
theorem dX2_timeOf_28 : decode cX2_timeOf 28 = .ok (.ireturn, 1) := by decide +kernel
theorem dX2_placed_0 : decode cX2_placed 0 = .ok (.aload_n 0, 1) := by decide +kernel
theorem dX2_placed_1 : decode cX2_placed 1 = .ok (.aload_n 0, 1) := by decide +kernel
theorem dX2_placed_2 : decode cX2_placed 2 = .ok (.getfield 21, 3) := by decide +kernel
theorem dX2_placed_5 : decode cX2_placed 5 = .ok (.getfield 42, 3) := by decide +kernel
theorem dX2_placed_8 : decode cX2_placed 8 = .ok (.iconst 0, 1) := by decide +kernel
theorem dX2_placed_9 : decode cX2_placed 9 = .ok (.aload_n 0, 1) := by decide +kernel
theorem dX2_placed_10 : decode cX2_placed 10 = .ok (.getfield 12, 3) := by decide +kernel
theorem dX2_placed_13 : decode cX2_placed 13 = .ok (.getfield 49, 3) := by decide +kernel
theorem dX2_placed_16 : decode cX2_placed 16 = .ok (.invokevirtual 53, 3) := by decide +kernel
theorem dX2_placed_19 : decode cX2_placed 19 = .ok (.aload_n 0, 1) := by decide +kernel
theorem dX2_placed_20 : decode cX2_placed 20 = .ok (.getfield 28, 3) := by decide +kernel
theorem dX2_placed_23 : decode cX2_placed 23 = .ok (.iload_n 1, 1) := by decide +kernel
theorem dX2_placed_24 : decode cX2_placed 24 = .ok (.invokevirtual 60, 3) := by decide +kernel
theorem dX2_placed_27 : decode cX2_placed 27 = .ok (.ireturn, 1) := by decide +kernel
theorem dX2_kings_0 : decode cX2_kings 0 = .ok (.iconst 1, 1) := by decide +kernel
theorem dX2_kings_1 : decode cX2_kings 1 = .ok (.aload_n 0, 1) := by decide +kernel
theorem dX2_kings_2 : decode cX2_kings 2 = .ok (.getfield 12, 3) := by decide +kernel
theorem dX2_kings_5 : decode cX2_kings 5 = .ok (.getfield 49, 3) := by decide +kernel
theorem dX2_kings_8 : decode cX2_kings 8 = .ok (.ishl, 1) := by decide +kernel
theorem dX2_kings_9 : decode cX2_kings 9 = .ok (.iconst 1, 1) := by decide +kernel
theorem dX2_kings_10 : decode cX2_kings 10 = .ok (.isub, 1) := by decide +kernel
theorem dX2_kings_11 : decode cX2_kings 11 = .ok (.istore_n 1, 1) := by decide +kernel
theorem dX2_kings_12 : decode cX2_kings 12 = .ok (.iconst 0, 1) := by decide +kernel
theorem dX2_kings_13 : decode cX2_kings 13 = .ok (.istore_n 2, 1) := by decide +kernel
theorem dX2_kings_14 : decode cX2_kings 14 = .ok (.aload_n 0, 1) := by decide +kernel
theorem dX2_kings_15 : decode cX2_kings 15 = .ok (.invokevirtual 64, 3) := by decide +kernel
theorem dX2_kings_18 : decode cX2_kings 18 = .ok (.iconst 1, 1) := by decide +kernel
theorem dX2_kings_19 : decode cX2_kings 19 = .ok (.istore_n 3, 1) := by decide +kernel
theorem dX2_kings_20 : decode cX2_kings 20 = .ok (.iconst 0, 1) := by decide +kernel
theorem dX2_kings_21 : decode cX2_kings 21 = .ok (.istore 4, 2) := by decide +kernel
theorem dX2_kings_23 : decode cX2_kings 23 = .ok (.iload 4, 2) := by decide +kernel
theorem dX2_kings_25 : decode cX2_kings 25 = .ok (.bipush 120, 2) := by decide +kernel
theorem dX2_kings_27 : decode cX2_kings 27 = .ok (.if_icmp .ge 46, 3) := by decide +kernel
theorem dX2_kings_30 : decode cX2_kings 30 = .ok (.iload_n 3, 1) := by decide +kernel
theorem dX2_kings_31 : decode cX2_kings 31 = .ok (.ifCond .eq 42, 3) := by decide +kernel
theorem dX2_kings_34 : decode cX2_kings 34 = .ok (.iload_n 2, 1) := by decide +kernel
theorem dX2_kings_35 : decode cX2_kings 35 = .ok (.iload_n 1, 1) := by decide +kernel
theorem dX2_kings_36 : decode cX2_kings 36 = .ok (.if_icmp .eq 37, 3) := by decide +kernel
theorem dX2_kings_39 : decode cX2_kings 39 = .ok (.aload_n 0, 1) := by decide +kernel
theorem dX2_kings_40 : decode cX2_kings 40 = .ok (.aload_n 0, 1) := by decide +kernel
theorem dX2_kings_41 : decode cX2_kings 41 = .ok (.getfield 32, 3) := by decide +kernel
theorem dX2_kings_44 : decode cX2_kings 44 = .ok (.iconst 0, 1) := by decide +kernel
theorem dX2_kings_45 : decode cX2_kings 45 = .ok (.invokevirtual 45, 3) := by decide +kernel
theorem dX2_kings_48 : decode cX2_kings 48 = .ok (.istore 5, 2) := by decide +kernel
theorem dX2_kings_50 : decode cX2_kings 50 = .ok (.iload 5, 2) := by decide +kernel
theorem dX2_kings_52 : decode cX2_kings 52 = .ok (.ifCond .lt 10, 3) := by decide +kernel
theorem dX2_kings_55 : decode cX2_kings 55 = .ok (.iload_n 2, 1) := by decide +kernel
theorem dX2_kings_56 : decode cX2_kings 56 = .ok (.iconst 1, 1) := by decide +kernel
theorem dX2_kings_57 : decode cX2_kings 57 = .ok (.iload 5, 2) := by decide +kernel
theorem dX2_kings_59 : decode cX2_kings 59 = .ok (.ishl, 1) := by decide +kernel
theorem dX2_kings_60 : decode cX2_kings 60 = .ok (.ior, 1) := by decide +kernel
theorem dX2_kings_61 : decode cX2_kings 61 = .ok (.istore_n 2, 1) := by decide +kernel
theorem dX2_kings_62 : decode cX2_kings 62 = .ok (.aload_n 0, 1) := by decide +kernel
theorem dX2_kings_63 : decode cX2_kings 63 = .ok (.invokevirtual 67, 3) := by decide +kernel
theorem dX2_kings_66 : decode cX2_kings 66 = .ok (.istore_n 3, 1) := by decide +kernel
theorem dX2_kings_67 : decode cX2_kings 67 = .ok (.iinc 4 1, 3) := by decide +kernel
theorem dX2_kings_70 : decode cX2_kings 70 = .ok (.goto (-47), 3) := by decide +kernel
theorem dX2_kings_73 : decode cX2_kings 73 = .ok (.iload_n 2, 1) := by decide +kernel
theorem dX2_kings_74 : decode cX2_kings 74 = .ok (.ireturn, 1) := by decide +kernel
theorem dX2_findKing_0 : decode cX2_findKing 0 = .ok (.bipush 6, 2) := by decide +kernel
theorem dX2_findKing_2 : decode cX2_findKing 2 = .ok (.istore_n 2, 1) := by decide +kernel
theorem dX2_findKing_3 : decode cX2_findKing 3 = .ok (.aload_n 0, 1) := by decide +kernel
theorem dX2_findKing_4 : decode cX2_findKing 4 = .ok (.invokevirtual 64, 3) := by decide +kernel
theorem dX2_findKing_7 : decode cX2_findKing 7 = .ok (.iconst 1, 1) := by decide +kernel
theorem dX2_findKing_8 : decode cX2_findKing 8 = .ok (.istore_n 3, 1) := by decide +kernel
theorem dX2_findKing_9 : decode cX2_findKing 9 = .ok (.iconst 0, 1) := by decide +kernel
theorem dX2_findKing_10 : decode cX2_findKing 10 = .ok (.istore 4, 2) := by decide +kernel
theorem dX2_findKing_12 : decode cX2_findKing 12 = .ok (.iload 4, 2) := by decide +kernel
theorem dX2_findKing_14 : decode cX2_findKing 14 = .ok (.bipush 120, 2) := by decide +kernel
theorem dX2_findKing_16 : decode cX2_findKing 16 = .ok (.if_icmp .ge 60, 3) := by decide +kernel
theorem dX2_findKing_19 : decode cX2_findKing 19 = .ok (.iload_n 3, 1) := by decide +kernel
theorem dX2_findKing_20 : decode cX2_findKing 20 = .ok (.ifCond .eq 56, 3) := by decide +kernel
theorem dX2_findKing_23 : decode cX2_findKing 23 = .ok (.aload_n 0, 1) := by decide +kernel
theorem dX2_findKing_24 : decode cX2_findKing 24 = .ok (.invokevirtual 71, 3) := by decide +kernel
theorem dX2_findKing_27 : decode cX2_findKing 27 = .ok (.istore 5, 2) := by decide +kernel
theorem dX2_findKing_29 : decode cX2_findKing 29 = .ok (.iload 5, 2) := by decide +kernel
theorem dX2_findKing_31 : decode cX2_findKing 31 = .ok (.iload_n 2, 1) := by decide +kernel
theorem dX2_findKing_32 : decode cX2_findKing 32 = .ok (.if_icmp .ge 33, 3) := by decide +kernel
theorem dX2_findKing_35 : decode cX2_findKing 35 = .ok (.aload_n 0, 1) := by decide +kernel
theorem dX2_findKing_36 : decode cX2_findKing 36 = .ok (.aload_n 0, 1) := by decide +kernel
theorem dX2_findKing_37 : decode cX2_findKing 37 = .ok (.getfield 32, 3) := by decide +kernel
theorem dX2_findKing_40 : decode cX2_findKing 40 = .ok (.iconst 0, 1) := by decide +kernel
theorem dX2_findKing_41 : decode cX2_findKing 41 = .ok (.invokevirtual 45, 3) := by decide +kernel
theorem dX2_findKing_44 : decode cX2_findKing 44 = .ok (.iload_n 1, 1) := by decide +kernel
theorem dX2_findKing_45 : decode cX2_findKing 45 = .ok (.if_icmp .ne 20, 3) := by decide +kernel
theorem dX2_findKing_48 : decode cX2_findKing 48 = .ok (.iload 5, 2) := by decide +kernel
theorem dX2_findKing_50 : decode cX2_findKing 50 = .ok (.istore_n 2, 1) := by decide +kernel
theorem dX2_findKing_51 : decode cX2_findKing 51 = .ok (.aload_n 0, 1) := by decide +kernel
theorem dX2_findKing_52 : decode cX2_findKing 52 = .ok (.getfield 32, 3) := by decide +kernel
theorem dX2_findKing_55 : decode cX2_findKing 55 = .ok (.iconst 0, 1) := by decide +kernel
theorem dX2_findKing_56 : decode cX2_findKing 56 = .ok (.aload_n 0, 1) := by decide +kernel
theorem dX2_findKing_57 : decode cX2_findKing 57 = .ok (.getfield 36, 3) := by decide +kernel
theorem dX2_findKing_60 : decode cX2_findKing 60 = .ok (.iconst 0, 1) := by decide +kernel
theorem dX2_findKing_61 : decode cX2_findKing 61 = .ok (.iconst 5, 1) := by decide +kernel
theorem dX2_findKing_62 : decode cX2_findKing 62 = .ok (.invokestatic 75, 3) := by decide +kernel
theorem dX2_findKing_65 : decode cX2_findKing 65 = .ok (.aload_n 0, 1) := by decide +kernel
theorem dX2_findKing_66 : decode cX2_findKing 66 = .ok (.invokevirtual 67, 3) := by decide +kernel
theorem dX2_findKing_69 : decode cX2_findKing 69 = .ok (.istore_n 3, 1) := by decide +kernel
theorem dX2_findKing_70 : decode cX2_findKing 70 = .ok (.iinc 4 1, 3) := by decide +kernel
theorem dX2_findKing_73 : decode cX2_findKing 73 = .ok (.goto (-61), 3) := by decide +kernel
theorem dX2_findKing_76 : decode cX2_findKing 76 = .ok (.iload_n 2, 1) := by decide +kernel
theorem dX2_findKing_77 : decode cX2_findKing 77 = .ok (.iconst 5, 1) := by decide +kernel
theorem dX2_findKing_78 : decode cX2_findKing 78 = .ok (.if_icmp .le 8, 3) := by decide +kernel
theorem dX2_findKing_81 : decode cX2_findKing 81 = .ok (.bipush (-9), 2) := by decide +kernel
theorem dX2_findKing_83 : decode cX2_findKing 83 = .ok (.goto 4, 3) := by decide +kernel
theorem dX2_findKing_86 : decode cX2_findKing 86 = .ok (.iload_n 2, 1) := by decide +kernel
theorem dX2_findKing_87 : decode cX2_findKing 87 = .ok (.ireturn, 1) := by decide +kernel
theorem dX2_kingsPusher_0 : decode cX2_kingsPusher 0 = .ok (.aload_n 0, 1) := by decide +kernel
theorem dX2_kingsPusher_1 : decode cX2_kingsPusher 1 = .ok (.getfield 36, 3) := by decide +kernel
theorem dX2_kingsPusher_4 : decode cX2_kingsPusher 4 = .ok (.iload_n 1, 1) := by decide +kernel
theorem dX2_kingsPusher_5 : decode cX2_kingsPusher 5 = .ok (.iaload, 1) := by decide +kernel
theorem dX2_kingsPusher_6 : decode cX2_kingsPusher 6 = .ok (.ireturn, 1) := by decide +kernel
theorem dX2_fairGoal_0 : decode cX2_fairGoal 0 = .ok (.iconst 0, 1) := by decide +kernel
theorem dX2_fairGoal_1 : decode cX2_fairGoal 1 = .ok (.istore_n 1, 1) := by decide +kernel
theorem dX2_fairGoal_2 : decode cX2_fairGoal 2 = .ok (.iload_n 1, 1) := by decide +kernel
theorem dX2_fairGoal_3 : decode cX2_fairGoal 3 = .ok (.aload_n 0, 1) := by decide +kernel
theorem dX2_fairGoal_4 : decode cX2_fairGoal 4 = .ok (.getfield 12, 3) := by decide +kernel
theorem dX2_fairGoal_7 : decode cX2_fairGoal 7 = .ok (.getfield 49, 3) := by decide +kernel
theorem dX2_fairGoal_10 : decode cX2_fairGoal 10 = .ok (.if_icmp .ge 34, 3) := by decide +kernel
theorem dX2_fairGoal_13 : decode cX2_fairGoal 13 = .ok (.aload_n 0, 1) := by decide +kernel
theorem dX2_fairGoal_14 : decode cX2_fairGoal 14 = .ok (.getfield 39, 3) := by decide +kernel
theorem dX2_fairGoal_17 : decode cX2_fairGoal 17 = .ok (.iload_n 1, 1) := by decide +kernel
theorem dX2_fairGoal_18 : decode cX2_fairGoal 18 = .ok (.aload_n 0, 1) := by decide +kernel
theorem dX2_fairGoal_19 : decode cX2_fairGoal 19 = .ok (.getfield 12, 3) := by decide +kernel
theorem dX2_fairGoal_22 : decode cX2_fairGoal 22 = .ok (.aload_n 0, 1) := by decide +kernel
theorem dX2_fairGoal_23 : decode cX2_fairGoal 23 = .ok (.getfield 21, 3) := by decide +kernel
theorem dX2_fairGoal_26 : decode cX2_fairGoal 26 = .ok (.aload_n 0, 1) := by decide +kernel
theorem dX2_fairGoal_27 : decode cX2_fairGoal 27 = .ok (.getfield 12, 3) := by decide +kernel
theorem dX2_fairGoal_30 : decode cX2_fairGoal 30 = .ok (.iload_n 1, 1) := by decide +kernel
theorem dX2_fairGoal_31 : decode cX2_fairGoal 31 = .ok (.invokevirtual 81, 3) := by decide +kernel
theorem dX2_fairGoal_34 : decode cX2_fairGoal 34 = .ok (.invokevirtual 85, 3) := by decide +kernel
theorem dX2_fairGoal_37 : decode cX2_fairGoal 37 = .ok (.iastore, 1) := by decide +kernel
theorem dX2_fairGoal_38 : decode cX2_fairGoal 38 = .ok (.iinc 1 1, 3) := by decide +kernel
theorem dX2_fairGoal_41 : decode cX2_fairGoal 41 = .ok (.goto (-39), 3) := by decide +kernel
theorem dX2_fairGoal_44 : decode cX2_fairGoal 44 = .ok (.iconst 0, 1) := by decide +kernel
theorem dX2_fairGoal_45 : decode cX2_fairGoal 45 = .ok (.istore_n 1, 1) := by decide +kernel
theorem dX2_fairGoal_46 : decode cX2_fairGoal 46 = .ok (.aload_n 0, 1) := by decide +kernel
theorem dX2_fairGoal_47 : decode cX2_fairGoal 47 = .ok (.iload_n 1, 1) := by decide +kernel
theorem dX2_fairGoal_48 : decode cX2_fairGoal 48 = .ok (.invokevirtual 88, 3) := by decide +kernel
theorem dX2_fairGoal_51 : decode cX2_fairGoal 51 = .ok (.istore_n 2, 1) := by decide +kernel
theorem dX2_fairGoal_52 : decode cX2_fairGoal 52 = .ok (.iconst 1, 1) := by decide +kernel
theorem dX2_fairGoal_53 : decode cX2_fairGoal 53 = .ok (.istore_n 3, 1) := by decide +kernel
theorem dX2_fairGoal_54 : decode cX2_fairGoal 54 = .ok (.iload_n 3, 1) := by decide +kernel
theorem dX2_fairGoal_55 : decode cX2_fairGoal 55 = .ok (.sipush 133, 3) := by decide +kernel
theorem dX2_fairGoal_58 : decode cX2_fairGoal 58 = .ok (.if_icmp .gt 27, 3) := by decide +kernel
theorem dX2_fairGoal_61 : decode cX2_fairGoal 61 = .ok (.aload_n 0, 1) := by decide +kernel
theorem dX2_fairGoal_62 : decode cX2_fairGoal 62 = .ok (.iload_n 3, 1) := by decide +kernel
theorem dX2_fairGoal_63 : decode cX2_fairGoal 63 = .ok (.invokevirtual 88, 3) := by decide +kernel
theorem dX2_fairGoal_66 : decode cX2_fairGoal 66 = .ok (.istore 4, 2) := by decide +kernel
theorem dX2_fairGoal_68 : decode cX2_fairGoal 68 = .ok (.iload 4, 2) := by decide +kernel
theorem dX2_fairGoal_70 : decode cX2_fairGoal 70 = .ok (.iload_n 2, 1) := by decide +kernel
theorem dX2_fairGoal_71 : decode cX2_fairGoal 71 = .ok (.if_icmp .ge 8, 3) := by decide +kernel
theorem dX2_fairGoal_74 : decode cX2_fairGoal 74 = .ok (.iload_n 3, 1) := by decide +kernel
theorem dX2_fairGoal_75 : decode cX2_fairGoal 75 = .ok (.istore_n 1, 1) := by decide +kernel
theorem dX2_fairGoal_76 : decode cX2_fairGoal 76 = .ok (.iload 4, 2) := by decide +kernel
theorem dX2_fairGoal_78 : decode cX2_fairGoal 78 = .ok (.istore_n 2, 1) := by decide +kernel
theorem dX2_fairGoal_79 : decode cX2_fairGoal 79 = .ok (.iinc 3 1, 3) := by decide +kernel
theorem dX2_fairGoal_82 : decode cX2_fairGoal 82 = .ok (.goto (-28), 3) := by decide +kernel
theorem dX2_fairGoal_85 : decode cX2_fairGoal 85 = .ok (.iload_n 1, 1) := by decide +kernel
theorem dX2_fairGoal_86 : decode cX2_fairGoal 86 = .ok (.ireturn, 1) := by decide +kernel
theorem dX2_handicapFor_0 : decode cX2_handicapFor 0 = .ok (.iload_n 1, 1) := by decide +kernel
theorem dX2_handicapFor_1 : decode cX2_handicapFor 1 = .ok (.aload_n 0, 1) := by decide +kernel
theorem dX2_handicapFor_2 : decode cX2_handicapFor 2 = .ok (.getfield 39, 3) := by decide +kernel
theorem dX2_handicapFor_5 : decode cX2_handicapFor 5 = .ok (.iload_n 2, 1) := by decide +kernel
theorem dX2_handicapFor_6 : decode cX2_handicapFor 6 = .ok (.iaload, 1) := by decide +kernel
theorem dX2_handicapFor_7 : decode cX2_handicapFor 7 = .ok (.isub, 1) := by decide +kernel
theorem dX2_handicapFor_8 : decode cX2_handicapFor 8 = .ok (.istore_n 3, 1) := by decide +kernel
theorem dX2_handicapFor_9 : decode cX2_handicapFor 9 = .ok (.iconst 0, 1) := by decide +kernel
theorem dX2_handicapFor_10 : decode cX2_handicapFor 10 = .ok (.iconst 5, 1) := by decide +kernel
theorem dX2_handicapFor_11 : decode cX2_handicapFor 11 = .ok (.iload_n 3, 1) := by decide +kernel
theorem dX2_handicapFor_12 : decode cX2_handicapFor 12 = .ok (.invokestatic 91, 3) := by decide +kernel
theorem dX2_handicapFor_15 : decode cX2_handicapFor 15 = .ok (.invokestatic 97, 3) := by decide +kernel
theorem dX2_handicapFor_18 : decode cX2_handicapFor 18 = .ok (.ireturn, 1) := by decide +kernel
theorem dX2_spreadFor_0 : decode cX2_spreadFor 0 = .ok (.sipush 133, 3) := by decide +kernel
theorem dX2_spreadFor_3 : decode cX2_spreadFor 3 = .ok (.istore_n 2, 1) := by decide +kernel
theorem dX2_spreadFor_4 : decode cX2_spreadFor 4 = .ok (.iconst 0, 1) := by decide +kernel
theorem dX2_spreadFor_5 : decode cX2_spreadFor 5 = .ok (.istore_n 3, 1) := by decide +kernel
theorem dX2_spreadFor_6 : decode cX2_spreadFor 6 = .ok (.iconst 0, 1) := by decide +kernel
theorem dX2_spreadFor_7 : decode cX2_spreadFor 7 = .ok (.istore 4, 2) := by decide +kernel
theorem dX2_spreadFor_9 : decode cX2_spreadFor 9 = .ok (.iload 4, 2) := by decide +kernel
theorem dX2_spreadFor_11 : decode cX2_spreadFor 11 = .ok (.aload_n 0, 1) := by decide +kernel
theorem dX2_spreadFor_12 : decode cX2_spreadFor 12 = .ok (.getfield 12, 3) := by decide +kernel
theorem dX2_spreadFor_15 : decode cX2_spreadFor 15 = .ok (.getfield 49, 3) := by decide +kernel
theorem dX2_spreadFor_18 : decode cX2_spreadFor 18 = .ok (.if_icmp .ge 40, 3) := by decide +kernel
theorem dX2_spreadFor_21 : decode cX2_spreadFor 21 = .ok (.aload_n 0, 1) := by decide +kernel
theorem dX2_spreadFor_22 : decode cX2_spreadFor 22 = .ok (.getfield 39, 3) := by decide +kernel
theorem dX2_spreadFor_25 : decode cX2_spreadFor 25 = .ok (.iload 4, 2) := by decide +kernel
theorem dX2_spreadFor_27 : decode cX2_spreadFor 27 = .ok (.iaload, 1) := by decide +kernel
theorem dX2_spreadFor_28 : decode cX2_spreadFor 28 = .ok (.aload_n 0, 1) := by decide +kernel
theorem dX2_spreadFor_29 : decode cX2_spreadFor 29 = .ok (.iload_n 1, 1) := by decide +kernel
theorem dX2_spreadFor_30 : decode cX2_spreadFor 30 = .ok (.iload 4, 2) := by decide +kernel
theorem dX2_spreadFor_32 : decode cX2_spreadFor 32 = .ok (.invokevirtual 100, 3) := by decide +kernel
theorem dX2_spreadFor_35 : decode cX2_spreadFor 35 = .ok (.iadd, 1) := by decide +kernel
theorem dX2_spreadFor_36 : decode cX2_spreadFor 36 = .ok (.istore 5, 2) := by decide +kernel
theorem dX2_spreadFor_38 : decode cX2_spreadFor 38 = .ok (.iload_n 2, 1) := by decide +kernel
theorem dX2_spreadFor_39 : decode cX2_spreadFor 39 = .ok (.iload 5, 2) := by decide +kernel
theorem dX2_spreadFor_41 : decode cX2_spreadFor 41 = .ok (.invokestatic 91, 3) := by decide +kernel
theorem dX2_spreadFor_44 : decode cX2_spreadFor 44 = .ok (.istore_n 2, 1) := by decide +kernel
theorem dX2_spreadFor_45 : decode cX2_spreadFor 45 = .ok (.iload_n 3, 1) := by decide +kernel
theorem dX2_spreadFor_46 : decode cX2_spreadFor 46 = .ok (.iload 5, 2) := by decide +kernel
theorem dX2_spreadFor_48 : decode cX2_spreadFor 48 = .ok (.invokestatic 97, 3) := by decide +kernel
theorem dX2_spreadFor_51 : decode cX2_spreadFor 51 = .ok (.istore_n 3, 1) := by decide +kernel
theorem dX2_spreadFor_52 : decode cX2_spreadFor 52 = .ok (.iinc 4 1, 3) := by decide +kernel
theorem dX2_spreadFor_55 : decode cX2_spreadFor 55 = .ok (.goto (-46), 3) := by decide +kernel
theorem dX2_spreadFor_58 : decode cX2_spreadFor 58 = .ok (.iload_n 3, 1) := by decide +kernel
theorem dX2_spreadFor_59 : decode cX2_spreadFor 59 = .ok (.iload_n 2, 1) := by decide +kernel
theorem dX2_spreadFor_60 : decode cX2_spreadFor 60 = .ok (.isub, 1) := by decide +kernel
theorem dX2_spreadFor_61 : decode cX2_spreadFor 61 = .ok (.ireturn, 1) := by decide +kernel
theorem dX2_winsIn_0 : decode cX2_winsIn 0 = .ok (.iconst 0, 1) := by decide +kernel
theorem dX2_winsIn_1 : decode cX2_winsIn 1 = .ok (.istore_n 3, 1) := by decide +kernel
theorem dX2_winsIn_2 : decode cX2_winsIn 2 = .ok (.iconst 0, 1) := by decide +kernel
theorem dX2_winsIn_3 : decode cX2_winsIn 3 = .ok (.istore 4, 2) := by decide +kernel
theorem dX2_winsIn_5 : decode cX2_winsIn 5 = .ok (.iload 4, 2) := by decide +kernel
theorem dX2_winsIn_7 : decode cX2_winsIn 7 = .ok (.iconst 1, 1) := by decide +kernel
theorem dX2_winsIn_8 : decode cX2_winsIn 8 = .ok (.aload_n 0, 1) := by decide +kernel
theorem dX2_winsIn_9 : decode cX2_winsIn 9 = .ok (.getfield 12, 3) := by decide +kernel
theorem dX2_winsIn_12 : decode cX2_winsIn 12 = .ok (.getfield 49, 3) := by decide +kernel
theorem dX2_winsIn_15 : decode cX2_winsIn 15 = .ok (.ishl, 1) := by decide +kernel
theorem dX2_winsIn_16 : decode cX2_winsIn 16 = .ok (.if_icmp .ge 45, 3) := by decide +kernel
theorem dX2_winsIn_19 : decode cX2_winsIn 19 = .ok (.aload_n 0, 1) := by decide +kernel
theorem dX2_winsIn_20 : decode cX2_winsIn 20 = .ok (.iload 4, 2) := by decide +kernel
theorem dX2_winsIn_22 : decode cX2_winsIn 22 = .ok (.iload_n 2, 1) := by decide +kernel
theorem dX2_winsIn_23 : decode cX2_winsIn 23 = .ok (.invokevirtual 103, 3) := by decide +kernel
theorem dX2_winsIn_26 : decode cX2_winsIn 26 = .ok (.istore 5, 2) := by decide +kernel
theorem dX2_winsIn_28 : decode cX2_winsIn 28 = .ok (.iload 5, 2) := by decide +kernel
theorem dX2_winsIn_30 : decode cX2_winsIn 30 = .ok (.ifCond .le 25, 3) := by decide +kernel
theorem dX2_winsIn_33 : decode cX2_winsIn 33 = .ok (.aload_n 0, 1) := by decide +kernel
theorem dX2_winsIn_34 : decode cX2_winsIn 34 = .ok (.aload_n 0, 1) := by decide +kernel
theorem dX2_winsIn_35 : decode cX2_winsIn 35 = .ok (.getfield 21, 3) := by decide +kernel
theorem dX2_winsIn_38 : decode cX2_winsIn 38 = .ok (.getfield 42, 3) := by decide +kernel
theorem dX2_winsIn_41 : decode cX2_winsIn 41 = .ok (.iload 4, 2) := by decide +kernel
theorem dX2_winsIn_43 : decode cX2_winsIn 43 = .ok (.invokevirtual 45, 3) := by decide +kernel
theorem dX2_winsIn_46 : decode cX2_winsIn 46 = .ok (.iload_n 1, 1) := by decide +kernel
theorem dX2_winsIn_47 : decode cX2_winsIn 47 = .ok (.if_icmp .ne 8, 3) := by decide +kernel
theorem dX2_winsIn_50 : decode cX2_winsIn 50 = .ok (.iload_n 3, 1) := by decide +kernel
theorem dX2_winsIn_51 : decode cX2_winsIn 51 = .ok (.iload 5, 2) := by decide +kernel
theorem dX2_winsIn_53 : decode cX2_winsIn 53 = .ok (.iadd, 1) := by decide +kernel
theorem dX2_winsIn_54 : decode cX2_winsIn 54 = .ok (.istore_n 3, 1) := by decide +kernel
theorem dX2_winsIn_55 : decode cX2_winsIn 55 = .ok (.iinc 4 1, 3) := by decide +kernel
theorem dX2_winsIn_58 : decode cX2_winsIn 58 = .ok (.goto (-53), 3) := by decide +kernel
theorem dX2_winsIn_61 : decode cX2_winsIn 61 = .ok (.iload_n 3, 1) := by decide +kernel
theorem dX2_winsIn_62 : decode cX2_winsIn 62 = .ok (.ireturn, 1) := by decide +kernel
theorem dX2_allIn_0 : decode cX2_allIn 0 = .ok (.iconst 1, 1) := by decide +kernel
theorem dX2_allIn_1 : decode cX2_allIn 1 = .ok (.istore_n 1, 1) := by decide +kernel
theorem dX2_allIn_2 : decode cX2_allIn 2 = .ok (.iconst 0, 1) := by decide +kernel
theorem dX2_allIn_3 : decode cX2_allIn 3 = .ok (.istore_n 2, 1) := by decide +kernel
theorem dX2_allIn_4 : decode cX2_allIn 4 = .ok (.iload_n 2, 1) := by decide +kernel
theorem dX2_allIn_5 : decode cX2_allIn 5 = .ok (.aload_n 0, 1) := by decide +kernel
theorem dX2_allIn_6 : decode cX2_allIn 6 = .ok (.getfield 12, 3) := by decide +kernel
theorem dX2_allIn_9 : decode cX2_allIn 9 = .ok (.getfield 49, 3) := by decide +kernel
theorem dX2_allIn_12 : decode cX2_allIn 12 = .ok (.if_icmp .ge 14, 3) := by decide +kernel
theorem dX2_allIn_15 : decode cX2_allIn 15 = .ok (.iload_n 1, 1) := by decide +kernel
theorem dX2_allIn_16 : decode cX2_allIn 16 = .ok (.bipush 10, 2) := by decide +kernel
theorem dX2_allIn_18 : decode cX2_allIn 18 = .ok (.imul, 1) := by decide +kernel
theorem dX2_allIn_19 : decode cX2_allIn 19 = .ok (.istore_n 1, 1) := by decide +kernel
theorem dX2_allIn_20 : decode cX2_allIn 20 = .ok (.iinc 2 1, 3) := by decide +kernel
theorem dX2_allIn_23 : decode cX2_allIn 23 = .ok (.goto (-19), 3) := by decide +kernel
theorem dX2_allIn_26 : decode cX2_allIn 26 = .ok (.iload_n 1, 1) := by decide +kernel
theorem dX2_allIn_27 : decode cX2_allIn 27 = .ok (.ireturn, 1) := by decide +kernel
theorem dX2_weightOf_0 : decode cX2_weightOf 0 = .ok (.iconst 1, 1) := by decide +kernel
theorem dX2_weightOf_1 : decode cX2_weightOf 1 = .ok (.istore_n 3, 1) := by decide +kernel
theorem dX2_weightOf_2 : decode cX2_weightOf 2 = .ok (.iconst 0, 1) := by decide +kernel
theorem dX2_weightOf_3 : decode cX2_weightOf 3 = .ok (.istore 4, 2) := by decide +kernel
theorem dX2_weightOf_5 : decode cX2_weightOf 5 = .ok (.iload 4, 2) := by decide +kernel
theorem dX2_weightOf_7 : decode cX2_weightOf 7 = .ok (.aload_n 0, 1) := by decide +kernel
theorem dX2_weightOf_8 : decode cX2_weightOf 8 = .ok (.getfield 12, 3) := by decide +kernel
theorem dX2_weightOf_11 : decode cX2_weightOf 11 = .ok (.getfield 49, 3) := by decide +kernel
theorem dX2_weightOf_14 : decode cX2_weightOf 14 = .ok (.if_icmp .ge 29, 3) := by decide +kernel
theorem dX2_weightOf_17 : decode cX2_weightOf 17 = .ok (.iload_n 3, 1) := by decide +kernel
theorem dX2_weightOf_18 : decode cX2_weightOf 18 = .ok (.iload_n 1, 1) := by decide +kernel
theorem dX2_weightOf_19 : decode cX2_weightOf 19 = .ok (.iload 4, 2) := by decide +kernel
theorem dX2_weightOf_21 : decode cX2_weightOf 21 = .ok (.invokestatic 106, 3) := by decide +kernel
theorem dX2_weightOf_24 : decode cX2_weightOf 24 = .ok (.ifCond .eq 7, 3) := by decide +kernel
theorem dX2_weightOf_27 : decode cX2_weightOf 27 = .ok (.iload_n 2, 1) := by decide +kernel
theorem dX2_weightOf_28 : decode cX2_weightOf 28 = .ok (.goto 7, 3) := by decide +kernel
theorem dX2_weightOf_31 : decode cX2_weightOf 31 = .ok (.bipush 10, 2) := by decide +kernel
theorem dX2_weightOf_33 : decode cX2_weightOf 33 = .ok (.iload_n 2, 1) := by decide +kernel
theorem dX2_weightOf_34 : decode cX2_weightOf 34 = .ok (.isub, 1) := by decide +kernel
theorem dX2_weightOf_35 : decode cX2_weightOf 35 = .ok (.imul, 1) := by decide +kernel
theorem dX2_weightOf_36 : decode cX2_weightOf 36 = .ok (.istore_n 3, 1) := by decide +kernel
theorem dX2_weightOf_37 : decode cX2_weightOf 37 = .ok (.iinc 4 1, 3) := by decide +kernel
theorem dX2_weightOf_40 : decode cX2_weightOf 40 = .ok (.goto (-35), 3) := by decide +kernel
theorem dX2_weightOf_43 : decode cX2_weightOf 43 = .ok (.iload_n 3, 1) := by decide +kernel
theorem dX2_weightOf_44 : decode cX2_weightOf 44 = .ok (.ireturn, 1) := by decide +kernel
theorem dX2_isIll_0 : decode cX2_isIll 0 = .ok (.iload_n 0, 1) := by decide +kernel
theorem dX2_isIll_1 : decode cX2_isIll 1 = .ok (.iload_n 1, 1) := by decide +kernel
theorem dX2_isIll_2 : decode cX2_isIll 2 = .ok (.ishr, 1) := by decide +kernel
theorem dX2_isIll_3 : decode cX2_isIll 3 = .ok (.iconst 1, 1) := by decide +kernel
theorem dX2_isIll_4 : decode cX2_isIll 4 = .ok (.iand, 1) := by decide +kernel
theorem dX2_isIll_5 : decode cX2_isIll 5 = .ok (.iconst 1, 1) := by decide +kernel
theorem dX2_isIll_6 : decode cX2_isIll 6 = .ok (.if_icmp .ne 7, 3) := by decide +kernel
theorem dX2_isIll_9 : decode cX2_isIll 9 = .ok (.iconst 1, 1) := by decide +kernel
theorem dX2_isIll_10 : decode cX2_isIll 10 = .ok (.goto 4, 3) := by decide +kernel
theorem dX2_isIll_13 : decode cX2_isIll 13 = .ok (.iconst 0, 1) := by decide +kernel
theorem dX2_isIll_14 : decode cX2_isIll 14 = .ok (.ireturn, 1) := by decide +kernel
theorem dX2_winnerBy_0 : decode cX2_winnerBy 0 = .ok (.aload_n 0, 1) := by decide +kernel
theorem dX2_winnerBy_1 : decode cX2_winnerBy 1 = .ok (.aload_n 1, 1) := by decide +kernel
theorem dX2_winnerBy_2 : decode cX2_winnerBy 2 = .ok (.iload_n 2, 1) := by decide +kernel
theorem dX2_winnerBy_3 : decode cX2_winnerBy 3 = .ok (.iconst 1, 1) := by decide +kernel
theorem dX2_winnerBy_4 : decode cX2_winnerBy 4 = .ok (.invokevirtual 53, 3) := by decide +kernel
theorem dX2_winnerBy_7 : decode cX2_winnerBy 7 = .ok (.aload_n 0, 1) := by decide +kernel
theorem dX2_winnerBy_8 : decode cX2_winnerBy 8 = .ok (.getfield 28, 3) := by decide +kernel
theorem dX2_winnerBy_11 : decode cX2_winnerBy 11 = .ok (.iconst 0, 1) := by decide +kernel
theorem dX2_winnerBy_12 : decode cX2_winnerBy 12 = .ok (.invokevirtual 60, 3) := by decide +kernel
theorem dX2_winnerBy_15 : decode cX2_winnerBy 15 = .ok (.ireturn, 1) := by decide +kernel
theorem dX2_raceBy_0 : decode cX2_raceBy 0 = .ok (.iconst 0, 1) := by decide +kernel
theorem dX2_raceBy_1 : decode cX2_raceBy 1 = .ok (.istore 4, 2) := by decide +kernel
theorem dX2_raceBy_3 : decode cX2_raceBy 3 = .ok (.iload 4, 2) := by decide +kernel
theorem dX2_raceBy_5 : decode cX2_raceBy 5 = .ok (.aload_n 0, 1) := by decide +kernel
theorem dX2_raceBy_6 : decode cX2_raceBy 6 = .ok (.getfield 12, 3) := by decide +kernel
theorem dX2_raceBy_9 : decode cX2_raceBy 9 = .ok (.getfield 49, 3) := by decide +kernel
theorem dX2_raceBy_12 : decode cX2_raceBy 12 = .ok (.if_icmp .ge 70, 3) := by decide +kernel
theorem dX2_raceBy_15 : decode cX2_raceBy 15 = .ok (.aload_n 1, 1) := by decide +kernel
theorem dX2_raceBy_16 : decode cX2_raceBy 16 = .ok (.iload 4, 2) := by decide +kernel
theorem dX2_raceBy_18 : decode cX2_raceBy 18 = .ok (.iaload, 1) := by decide +kernel
theorem dX2_raceBy_19 : decode cX2_raceBy 19 = .ok (.istore 5, 2) := by decide +kernel
theorem dX2_raceBy_21 : decode cX2_raceBy 21 = .ok (.iload_n 2, 1) := by decide +kernel
theorem dX2_raceBy_22 : decode cX2_raceBy 22 = .ok (.iload 5, 2) := by decide +kernel
theorem dX2_raceBy_24 : decode cX2_raceBy 24 = .ok (.invokestatic 106, 3) := by decide +kernel
theorem dX2_raceBy_27 : decode cX2_raceBy 27 = .ok (.ifCond .eq 7, 3) := by decide +kernel
theorem dX2_raceBy_30 : decode cX2_raceBy 30 = .ok (.iconst 1, 1) := by decide +kernel
theorem dX2_raceBy_31 : decode cX2_raceBy 31 = .ok (.goto 12, 3) := by decide +kernel
theorem dX2_raceBy_34 : decode cX2_raceBy 34 = .ok (.aload_n 0, 1) := by decide +kernel
theorem dX2_raceBy_35 : decode cX2_raceBy 35 = .ok (.getfield 12, 3) := by decide +kernel
theorem dX2_raceBy_38 : decode cX2_raceBy 38 = .ok (.iload 5, 2) := by decide +kernel
theorem dX2_raceBy_40 : decode cX2_raceBy 40 = .ok (.invokevirtual 110, 3) := by decide +kernel
theorem dX2_raceBy_43 : decode cX2_raceBy 43 = .ok (.istore 6, 2) := by decide +kernel
theorem dX2_raceBy_45 : decode cX2_raceBy 45 = .ok (.aload_n 0, 1) := by decide +kernel
theorem dX2_raceBy_46 : decode cX2_raceBy 46 = .ok (.getfield 28, 3) := by decide +kernel
theorem dX2_raceBy_49 : decode cX2_raceBy 49 = .ok (.getfield 113, 3) := by decide +kernel
theorem dX2_raceBy_52 : decode cX2_raceBy 52 = .ok (.iload 4, 2) := by decide +kernel
theorem dX2_raceBy_54 : decode cX2_raceBy 54 = .ok (.aload_n 0, 1) := by decide +kernel
theorem dX2_raceBy_55 : decode cX2_raceBy 55 = .ok (.getfield 12, 3) := by decide +kernel
theorem dX2_raceBy_58 : decode cX2_raceBy 58 = .ok (.iload 4, 2) := by decide +kernel
theorem dX2_raceBy_60 : decode cX2_raceBy 60 = .ok (.iload 6, 2) := by decide +kernel
theorem dX2_raceBy_62 : decode cX2_raceBy 62 = .ok (.aload_n 0, 1) := by decide +kernel
theorem dX2_raceBy_63 : decode cX2_raceBy 63 = .ok (.getfield 21, 3) := by decide +kernel
theorem dX2_raceBy_66 : decode cX2_raceBy 66 = .ok (.getfield 116, 3) := by decide +kernel
theorem dX2_raceBy_69 : decode cX2_raceBy 69 = .ok (.iload 4, 2) := by decide +kernel
theorem dX2_raceBy_71 : decode cX2_raceBy 71 = .ok (.baload, 1) := by decide +kernel
theorem dX2_raceBy_72 : decode cX2_raceBy 72 = .ok (.invokevirtual 120, 3) := by decide +kernel
theorem dX2_raceBy_75 : decode cX2_raceBy 75 = .ok (.iastore, 1) := by decide +kernel
theorem dX2_raceBy_76 : decode cX2_raceBy 76 = .ok (.iinc 4 1, 3) := by decide +kernel
theorem dX2_raceBy_79 : decode cX2_raceBy 79 = .ok (.goto (-76), 3) := by decide +kernel
theorem dX2_raceBy_82 : decode cX2_raceBy 82 = .ok (.aload_n 0, 1) := by decide +kernel
theorem dX2_raceBy_83 : decode cX2_raceBy 83 = .ok (.getfield 28, 3) := by decide +kernel
theorem dX2_raceBy_86 : decode cX2_raceBy 86 = .ok (.aload_n 0, 1) := by decide +kernel
theorem dX2_raceBy_87 : decode cX2_raceBy 87 = .ok (.getfield 12, 3) := by decide +kernel
theorem dX2_raceBy_90 : decode cX2_raceBy 90 = .ok (.aload_n 0, 1) := by decide +kernel
theorem dX2_raceBy_91 : decode cX2_raceBy 91 = .ok (.getfield 21, 3) := by decide +kernel
theorem dX2_raceBy_94 : decode cX2_raceBy 94 = .ok (.getfield 124, 3) := by decide +kernel
theorem dX2_raceBy_97 : decode cX2_raceBy 97 = .ok (.iload_n 3, 1) := by decide +kernel
theorem dX2_raceBy_98 : decode cX2_raceBy 98 = .ok (.invokevirtual 127, 3) := by decide +kernel
theorem dX2_raceBy_101 : decode cX2_raceBy 101 = .ok (.return_, 1) := by decide +kernel
theorem dX2_startWays_0 : decode cX2_startWays 0 = .ok (.iconst 0, 1) := by decide +kernel
theorem dX2_startWays_1 : decode cX2_startWays 1 = .ok (.istore_n 1, 1) := by decide +kernel
theorem dX2_startWays_2 : decode cX2_startWays 2 = .ok (.iload_n 1, 1) := by decide +kernel
theorem dX2_startWays_3 : decode cX2_startWays 3 = .ok (.iconst 5, 1) := by decide +kernel
theorem dX2_startWays_4 : decode cX2_startWays 4 = .ok (.if_icmp .ge 16, 3) := by decide +kernel
theorem dX2_startWays_7 : decode cX2_startWays 7 = .ok (.aload_n 0, 1) := by decide +kernel
theorem dX2_startWays_8 : decode cX2_startWays 8 = .ok (.getfield 32, 3) := by decide +kernel
theorem dX2_startWays_11 : decode cX2_startWays 11 = .ok (.iload_n 1, 1) := by decide +kernel
theorem dX2_startWays_12 : decode cX2_startWays 12 = .ok (.iload_n 1, 1) := by decide +kernel
theorem dX2_startWays_13 : decode cX2_startWays 13 = .ok (.iastore, 1) := by decide +kernel
theorem dX2_startWays_14 : decode cX2_startWays 14 = .ok (.iinc 1 1, 3) := by decide +kernel
theorem dX2_startWays_17 : decode cX2_startWays 17 = .ok (.goto (-15), 3) := by decide +kernel
theorem dX2_startWays_20 : decode cX2_startWays 20 = .ok (.return_, 1) := by decide +kernel
theorem dX2_changedByWay_0 : decode cX2_changedByWay 0 = .ok (.iconst 0, 1) := by decide +kernel
theorem dX2_changedByWay_1 : decode cX2_changedByWay 1 = .ok (.istore_n 1, 1) := by decide +kernel
theorem dX2_changedByWay_2 : decode cX2_changedByWay 2 = .ok (.iconst 0, 1) := by decide +kernel
theorem dX2_changedByWay_3 : decode cX2_changedByWay 3 = .ok (.istore_n 2, 1) := by decide +kernel
theorem dX2_changedByWay_4 : decode cX2_changedByWay 4 = .ok (.iload_n 2, 1) := by decide +kernel
theorem dX2_changedByWay_5 : decode cX2_changedByWay 5 = .ok (.aload_n 0, 1) := by decide +kernel
theorem dX2_changedByWay_6 : decode cX2_changedByWay 6 = .ok (.getfield 12, 3) := by decide +kernel
theorem dX2_changedByWay_9 : decode cX2_changedByWay 9 = .ok (.getfield 49, 3) := by decide +kernel
theorem dX2_changedByWay_12 : decode cX2_changedByWay 12 = .ok (.if_icmp .ge 30, 3) := by decide +kernel
theorem dX2_changedByWay_15 : decode cX2_changedByWay 15 = .ok (.aload_n 0, 1) := by decide +kernel
theorem dX2_changedByWay_16 : decode cX2_changedByWay 16 = .ok (.getfield 32, 3) := by decide +kernel
theorem dX2_changedByWay_19 : decode cX2_changedByWay 19 = .ok (.iload_n 2, 1) := by decide +kernel
theorem dX2_changedByWay_20 : decode cX2_changedByWay 20 = .ok (.iaload, 1) := by decide +kernel
theorem dX2_changedByWay_21 : decode cX2_changedByWay 21 = .ok (.aload_n 0, 1) := by decide +kernel
theorem dX2_changedByWay_22 : decode cX2_changedByWay 22 = .ok (.getfield 21, 3) := by decide +kernel
theorem dX2_changedByWay_25 : decode cX2_changedByWay 25 = .ok (.getfield 42, 3) := by decide +kernel
theorem dX2_changedByWay_28 : decode cX2_changedByWay 28 = .ok (.iload_n 2, 1) := by decide +kernel
theorem dX2_changedByWay_29 : decode cX2_changedByWay 29 = .ok (.iaload, 1) := by decide +kernel
theorem dX2_changedByWay_30 : decode cX2_changedByWay 30 = .ok (.if_icmp .eq 6, 3) := by decide +kernel
theorem dX2_changedByWay_33 : decode cX2_changedByWay 33 = .ok (.iinc 1 1, 3) := by decide +kernel
theorem dX2_changedByWay_36 : decode cX2_changedByWay 36 = .ok (.iinc 2 1, 3) := by decide +kernel
theorem dX2_changedByWay_39 : decode cX2_changedByWay 39 = .ok (.goto (-35), 3) := by decide +kernel
theorem dX2_changedByWay_42 : decode cX2_changedByWay 42 = .ok (.iload_n 1, 1) := by decide +kernel
theorem dX2_changedByWay_43 : decode cX2_changedByWay 43 = .ok (.ireturn, 1) := by decide +kernel
theorem dX2_toNextWay_0 : decode cX2_toNextWay 0 = .ok (.aload_n 0, 1) := by decide +kernel
theorem dX2_toNextWay_1 : decode cX2_toNextWay 1 = .ok (.getfield 12, 3) := by decide +kernel
theorem dX2_toNextWay_4 : decode cX2_toNextWay 4 = .ok (.getfield 49, 3) := by decide +kernel
theorem dX2_toNextWay_7 : decode cX2_toNextWay 7 = .ok (.iconst 2, 1) := by decide +kernel
theorem dX2_toNextWay_8 : decode cX2_toNextWay 8 = .ok (.isub, 1) := by decide +kernel
theorem dX2_toNextWay_9 : decode cX2_toNextWay 9 = .ok (.istore_n 1, 1) := by decide +kernel
theorem dX2_toNextWay_10 : decode cX2_toNextWay 10 = .ok (.iload_n 1, 1) := by decide +kernel
theorem dX2_toNextWay_11 : decode cX2_toNextWay 11 = .ok (.ifCond .lt 26, 3) := by decide +kernel
theorem dX2_toNextWay_14 : decode cX2_toNextWay 14 = .ok (.aload_n 0, 1) := by decide +kernel
theorem dX2_toNextWay_15 : decode cX2_toNextWay 15 = .ok (.getfield 32, 3) := by decide +kernel
theorem dX2_toNextWay_18 : decode cX2_toNextWay 18 = .ok (.iload_n 1, 1) := by decide +kernel
theorem dX2_toNextWay_19 : decode cX2_toNextWay 19 = .ok (.iaload, 1) := by decide +kernel
theorem dX2_toNextWay_20 : decode cX2_toNextWay 20 = .ok (.aload_n 0, 1) := by decide +kernel
theorem dX2_toNextWay_21 : decode cX2_toNextWay 21 = .ok (.getfield 32, 3) := by decide +kernel
theorem dX2_toNextWay_24 : decode cX2_toNextWay 24 = .ok (.iload_n 1, 1) := by decide +kernel
theorem dX2_toNextWay_25 : decode cX2_toNextWay 25 = .ok (.iconst 1, 1) := by decide +kernel
theorem dX2_toNextWay_26 : decode cX2_toNextWay 26 = .ok (.iadd, 1) := by decide +kernel
theorem dX2_toNextWay_27 : decode cX2_toNextWay 27 = .ok (.iaload, 1) := by decide +kernel
theorem dX2_toNextWay_28 : decode cX2_toNextWay 28 = .ok (.if_icmp .le 9, 3) := by decide +kernel
theorem dX2_toNextWay_31 : decode cX2_toNextWay 31 = .ok (.iinc 1 (-1), 3) := by decide +kernel
theorem dX2_toNextWay_34 : decode cX2_toNextWay 34 = .ok (.goto (-24), 3) := by decide +kernel
theorem dX2_toNextWay_37 : decode cX2_toNextWay 37 = .ok (.iload_n 1, 1) := by decide +kernel
theorem dX2_toNextWay_38 : decode cX2_toNextWay 38 = .ok (.ifCond .ge 5, 3) := by decide +kernel
theorem dX2_toNextWay_41 : decode cX2_toNextWay 41 = .ok (.iconst 0, 1) := by decide +kernel
theorem dX2_toNextWay_42 : decode cX2_toNextWay 42 = .ok (.ireturn, 1) := by decide +kernel
theorem dX2_toNextWay_43 : decode cX2_toNextWay 43 = .ok (.aload_n 0, 1) := by decide +kernel
theorem dX2_toNextWay_44 : decode cX2_toNextWay 44 = .ok (.getfield 12, 3) := by decide +kernel
theorem dX2_toNextWay_47 : decode cX2_toNextWay 47 = .ok (.getfield 49, 3) := by decide +kernel
theorem dX2_toNextWay_50 : decode cX2_toNextWay 50 = .ok (.iconst 1, 1) := by decide +kernel
theorem dX2_toNextWay_51 : decode cX2_toNextWay 51 = .ok (.isub, 1) := by decide +kernel
theorem dX2_toNextWay_52 : decode cX2_toNextWay 52 = .ok (.istore_n 2, 1) := by decide +kernel
theorem dX2_toNextWay_53 : decode cX2_toNextWay 53 = .ok (.iload_n 2, 1) := by decide +kernel
theorem dX2_toNextWay_54 : decode cX2_toNextWay 54 = .ok (.iload_n 1, 1) := by decide +kernel
theorem dX2_toNextWay_55 : decode cX2_toNextWay 55 = .ok (.iconst 1, 1) := by decide +kernel
theorem dX2_toNextWay_56 : decode cX2_toNextWay 56 = .ok (.iadd, 1) := by decide +kernel
theorem dX2_toNextWay_57 : decode cX2_toNextWay 57 = .ok (.if_icmp .le 24, 3) := by decide +kernel
theorem dX2_toNextWay_60 : decode cX2_toNextWay 60 = .ok (.aload_n 0, 1) := by decide +kernel
theorem dX2_toNextWay_61 : decode cX2_toNextWay 61 = .ok (.getfield 32, 3) := by decide +kernel
theorem dX2_toNextWay_64 : decode cX2_toNextWay 64 = .ok (.iload_n 2, 1) := by decide +kernel
theorem dX2_toNextWay_65 : decode cX2_toNextWay 65 = .ok (.iaload, 1) := by decide +kernel
theorem dX2_toNextWay_66 : decode cX2_toNextWay 66 = .ok (.aload_n 0, 1) := by decide +kernel
theorem dX2_toNextWay_67 : decode cX2_toNextWay 67 = .ok (.getfield 32, 3) := by decide +kernel
theorem dX2_toNextWay_70 : decode cX2_toNextWay 70 = .ok (.iload_n 1, 1) := by decide +kernel
theorem dX2_toNextWay_71 : decode cX2_toNextWay 71 = .ok (.iaload, 1) := by decide +kernel
theorem dX2_toNextWay_72 : decode cX2_toNextWay 72 = .ok (.if_icmp .ge 9, 3) := by decide +kernel
theorem dX2_toNextWay_75 : decode cX2_toNextWay 75 = .ok (.iinc 2 (-1), 3) := by decide +kernel
theorem dX2_toNextWay_78 : decode cX2_toNextWay 78 = .ok (.goto (-25), 3) := by decide +kernel
theorem dX2_toNextWay_81 : decode cX2_toNextWay 81 = .ok (.aload_n 0, 1) := by decide +kernel
theorem dX2_toNextWay_82 : decode cX2_toNextWay 82 = .ok (.iload_n 1, 1) := by decide +kernel
theorem dX2_toNextWay_83 : decode cX2_toNextWay 83 = .ok (.iload_n 2, 1) := by decide +kernel
theorem dX2_toNextWay_84 : decode cX2_toNextWay 84 = .ok (.invokevirtual 131, 3) := by decide +kernel
theorem dX2_toNextWay_87 : decode cX2_toNextWay 87 = .ok (.aload_n 0, 1) := by decide +kernel
theorem dX2_toNextWay_88 : decode cX2_toNextWay 88 = .ok (.getfield 12, 3) := by decide +kernel
theorem dX2_toNextWay_91 : decode cX2_toNextWay 91 = .ok (.getfield 49, 3) := by decide +kernel
theorem dX2_toNextWay_94 : decode cX2_toNextWay 94 = .ok (.iconst 1, 1) := by decide +kernel
theorem dX2_toNextWay_95 : decode cX2_toNextWay 95 = .ok (.isub, 1) := by decide +kernel
theorem dX2_toNextWay_96 : decode cX2_toNextWay 96 = .ok (.istore_n 3, 1) := by decide +kernel
theorem dX2_toNextWay_97 : decode cX2_toNextWay 97 = .ok (.iload_n 1, 1) := by decide +kernel
theorem dX2_toNextWay_98 : decode cX2_toNextWay 98 = .ok (.iconst 1, 1) := by decide +kernel
theorem dX2_toNextWay_99 : decode cX2_toNextWay 99 = .ok (.iadd, 1) := by decide +kernel
theorem dX2_toNextWay_100 : decode cX2_toNextWay 100 = .ok (.istore 4, 2) := by decide +kernel
theorem dX2_toNextWay_102 : decode cX2_toNextWay 102 = .ok (.iload 4, 2) := by decide +kernel
theorem dX2_toNextWay_104 : decode cX2_toNextWay 104 = .ok (.iload_n 3, 1) := by decide +kernel
theorem dX2_toNextWay_105 : decode cX2_toNextWay 105 = .ok (.if_icmp .ge 19, 3) := by decide +kernel
theorem dX2_toNextWay_108 : decode cX2_toNextWay 108 = .ok (.aload_n 0, 1) := by decide +kernel
theorem dX2_toNextWay_109 : decode cX2_toNextWay 109 = .ok (.iload 4, 2) := by decide +kernel
theorem dX2_toNextWay_111 : decode cX2_toNextWay 111 = .ok (.iload_n 3, 1) := by decide +kernel
theorem dX2_toNextWay_112 : decode cX2_toNextWay 112 = .ok (.invokevirtual 131, 3) := by decide +kernel
theorem dX2_toNextWay_115 : decode cX2_toNextWay 115 = .ok (.iinc 3 (-1), 3) := by decide +kernel
theorem dX2_toNextWay_118 : decode cX2_toNextWay 118 = .ok (.iinc 4 1, 3) := by decide +kernel
theorem dX2_toNextWay_121 : decode cX2_toNextWay 121 = .ok (.goto (-19), 3) := by decide +kernel
theorem dX2_toNextWay_124 : decode cX2_toNextWay 124 = .ok (.iconst 1, 1) := by decide +kernel
theorem dX2_toNextWay_125 : decode cX2_toNextWay 125 = .ok (.ireturn, 1) := by decide +kernel
theorem dX2_swapInWay_0 : decode cX2_swapInWay 0 = .ok (.aload_n 0, 1) := by decide +kernel
theorem dX2_swapInWay_1 : decode cX2_swapInWay 1 = .ok (.getfield 32, 3) := by decide +kernel
theorem dX2_swapInWay_4 : decode cX2_swapInWay 4 = .ok (.iload_n 1, 1) := by decide +kernel
theorem dX2_swapInWay_5 : decode cX2_swapInWay 5 = .ok (.iaload, 1) := by decide +kernel
theorem dX2_swapInWay_6 : decode cX2_swapInWay 6 = .ok (.istore_n 3, 1) := by decide +kernel
theorem dX2_swapInWay_7 : decode cX2_swapInWay 7 = .ok (.aload_n 0, 1) := by decide +kernel
theorem dX2_swapInWay_8 : decode cX2_swapInWay 8 = .ok (.getfield 32, 3) := by decide +kernel
theorem dX2_swapInWay_11 : decode cX2_swapInWay 11 = .ok (.iload_n 1, 1) := by decide +kernel
theorem dX2_swapInWay_12 : decode cX2_swapInWay 12 = .ok (.aload_n 0, 1) := by decide +kernel
theorem dX2_swapInWay_13 : decode cX2_swapInWay 13 = .ok (.getfield 32, 3) := by decide +kernel
theorem dX2_swapInWay_16 : decode cX2_swapInWay 16 = .ok (.iload_n 2, 1) := by decide +kernel
theorem dX2_swapInWay_17 : decode cX2_swapInWay 17 = .ok (.iaload, 1) := by decide +kernel
theorem dX2_swapInWay_18 : decode cX2_swapInWay 18 = .ok (.iastore, 1) := by decide +kernel
theorem dX2_swapInWay_19 : decode cX2_swapInWay 19 = .ok (.aload_n 0, 1) := by decide +kernel
theorem dX2_swapInWay_20 : decode cX2_swapInWay 20 = .ok (.getfield 32, 3) := by decide +kernel
theorem dX2_swapInWay_23 : decode cX2_swapInWay 23 = .ok (.iload_n 2, 1) := by decide +kernel
theorem dX2_swapInWay_24 : decode cX2_swapInWay 24 = .ok (.iload_n 3, 1) := by decide +kernel
theorem dX2_swapInWay_25 : decode cX2_swapInWay 25 = .ok (.iastore, 1) := by decide +kernel
theorem dX2_swapInWay_26 : decode cX2_swapInWay 26 = .ok (.return_, 1) := by decide +kernel
theorem dX3_init_0 : decode cX3_init 0 = .ok (.aload_n 0, 1) := by decide +kernel
theorem dX3_init_1 : decode cX3_init 1 = .ok (.invokespecial 1, 3) := by decide +kernel
theorem dX3_init_4 : decode cX3_init 4 = .ok (.return_, 1) := by decide +kernel
theorem dX3_asChair_0 : decode cX3_asChair 0 = .ok (.aload_n 0, 1) := by decide +kernel
theorem dX3_asChair_1 : decode cX3_asChair 1 = .ok (.dup, 1) := by decide +kernel
theorem dX3_asChair_2 : decode cX3_asChair 2 = .ok (.getfield 7, 3) := by decide +kernel
theorem dX3_asChair_5 : decode cX3_asChair 5 = .ok (.lconst 1, 1) := by decide +kernel
theorem dX3_asChair_6 : decode cX3_asChair 6 = .ok (.ladd, 1) := by decide +kernel
theorem dX3_asChair_7 : decode cX3_asChair 7 = .ok (.putfield 7, 3) := by decide +kernel
theorem dX3_asChair_10 : decode cX3_asChair 10 = .ok (.aload_n 1, 1) := by decide +kernel
theorem dX3_asChair_11 : decode cX3_asChair 11 = .ok (.getfield 13, 3) := by decide +kernel
theorem dX3_asChair_14 : decode cX3_asChair 14 = .ok (.iload_n 2, 1) := by decide +kernel
theorem dX3_asChair_15 : decode cX3_asChair 15 = .ok (.iaload, 1) := by decide +kernel
theorem dX3_asChair_16 : decode cX3_asChair 16 = .ok (.ireturn, 1) := by decide +kernel
theorem dX3_asWidow_0 : decode cX3_asWidow 0 = .ok (.aload_n 0, 1) := by decide +kernel
theorem dX3_asWidow_1 : decode cX3_asWidow 1 = .ok (.dup, 1) := by decide +kernel
theorem dX3_asWidow_2 : decode cX3_asWidow 2 = .ok (.getfield 7, 3) := by decide +kernel
theorem dX3_asWidow_5 : decode cX3_asWidow 5 = .ok (.ldc2_w 19, 3) := by decide +kernel
theorem dX3_asWidow_8 : decode cX3_asWidow 8 = .ok (.ladd, 1) := by decide +kernel
theorem dX3_asWidow_9 : decode cX3_asWidow 9 = .ok (.putfield 7, 3) := by decide +kernel
theorem dX3_asWidow_12 : decode cX3_asWidow 12 = .ok (.aload_n 0, 1) := by decide +kernel
theorem dX3_asWidow_13 : decode cX3_asWidow 13 = .ok (.aload_n 1, 1) := by decide +kernel
theorem dX3_asWidow_14 : decode cX3_asWidow 14 = .ok (.iload_n 3, 1) := by decide +kernel
theorem dX3_asWidow_15 : decode cX3_asWidow 15 = .ok (.invokevirtual 21, 3) := by decide +kernel
theorem dX3_asWidow_18 : decode cX3_asWidow 18 = .ok (.aload_n 2, 1) := by decide +kernel
theorem dX3_asWidow_19 : decode cX3_asWidow 19 = .ok (.getfield 25, 3) := by decide +kernel
theorem dX3_asWidow_22 : decode cX3_asWidow 22 = .ok (.iload_n 3, 1) := by decide +kernel
theorem dX3_asWidow_23 : decode cX3_asWidow 23 = .ok (.iaload, 1) := by decide +kernel
theorem dX3_asWidow_24 : decode cX3_asWidow 24 = .ok (.iadd, 1) := by decide +kernel
theorem dX3_asWidow_25 : decode cX3_asWidow 25 = .ok (.ireturn, 1) := by decide +kernel
theorem dX3_asAunt_0 : decode cX3_asAunt 0 = .ok (.aload_n 0, 1) := by decide +kernel
theorem dX3_asAunt_1 : decode cX3_asAunt 1 = .ok (.dup, 1) := by decide +kernel
theorem dX3_asAunt_2 : decode cX3_asAunt 2 = .ok (.getfield 7, 3) := by decide +kernel
theorem dX3_asAunt_5 : decode cX3_asAunt 5 = .ok (.ldc2_w 30, 3) := by decide +kernel
theorem dX3_asAunt_8 : decode cX3_asAunt 8 = .ok (.ladd, 1) := by decide +kernel
theorem dX3_asAunt_9 : decode cX3_asAunt 9 = .ok (.putfield 7, 3) := by decide +kernel
theorem dX3_asAunt_12 : decode cX3_asAunt 12 = .ok (.aload_n 0, 1) := by decide +kernel
theorem dX3_asAunt_13 : decode cX3_asAunt 13 = .ok (.aload_n 1, 1) := by decide +kernel
theorem dX3_asAunt_14 : decode cX3_asAunt 14 = .ok (.iload_n 3, 1) := by decide +kernel
theorem dX3_asAunt_15 : decode cX3_asAunt 15 = .ok (.invokevirtual 21, 3) := by decide +kernel
theorem dX3_asAunt_18 : decode cX3_asAunt 18 = .ok (.aload_n 2, 1) := by decide +kernel
theorem dX3_asAunt_19 : decode cX3_asAunt 19 = .ok (.aload_n 1, 1) := by decide +kernel
theorem dX3_asAunt_20 : decode cX3_asAunt 20 = .ok (.iload_n 3, 1) := by decide +kernel
theorem dX3_asAunt_21 : decode cX3_asAunt 21 = .ok (.invokevirtual 32, 3) := by decide +kernel
theorem dX3_asAunt_24 : decode cX3_asAunt 24 = .ok (.isub, 1) := by decide +kernel
theorem dX3_asAunt_25 : decode cX3_asAunt 25 = .ok (.ireturn, 1) := by decide +kernel
theorem dX3_asPug_0 : decode cX3_asPug 0 = .ok (.aload_n 0, 1) := by decide +kernel
theorem dX3_asPug_1 : decode cX3_asPug 1 = .ok (.dup, 1) := by decide +kernel
theorem dX3_asPug_2 : decode cX3_asPug 2 = .ok (.getfield 7, 3) := by decide +kernel
theorem dX3_asPug_5 : decode cX3_asPug 5 = .ok (.ldc2_w 35, 3) := by decide +kernel
theorem dX3_asPug_8 : decode cX3_asPug 8 = .ok (.ladd, 1) := by decide +kernel
theorem dX3_asPug_9 : decode cX3_asPug 9 = .ok (.putfield 7, 3) := by decide +kernel
theorem dX3_asPug_12 : decode cX3_asPug 12 = .ok (.iconst 2, 1) := by decide +kernel
theorem dX3_asPug_13 : decode cX3_asPug 13 = .ok (.aload_n 0, 1) := by decide +kernel
theorem dX3_asPug_14 : decode cX3_asPug 14 = .ok (.aload_n 1, 1) := by decide +kernel
theorem dX3_asPug_15 : decode cX3_asPug 15 = .ok (.aload_n 2, 1) := by decide +kernel
theorem dX3_asPug_16 : decode cX3_asPug 16 = .ok (.iload_n 3, 1) := by decide +kernel
theorem dX3_asPug_17 : decode cX3_asPug 17 = .ok (.invokevirtual 37, 3) := by decide +kernel
theorem dX3_asPug_20 : decode cX3_asPug 20 = .ok (.imul, 1) := by decide +kernel
theorem dX3_asPug_21 : decode cX3_asPug 21 = .ok (.ireturn, 1) := by decide +kernel
theorem dX3_asVeil_0 : decode cX3_asVeil 0 = .ok (.aload_n 0, 1) := by decide +kernel
theorem dX3_asVeil_1 : decode cX3_asVeil 1 = .ok (.dup, 1) := by decide +kernel
theorem dX3_asVeil_2 : decode cX3_asVeil 2 = .ok (.getfield 7, 3) := by decide +kernel
theorem dX3_asVeil_5 : decode cX3_asVeil 5 = .ok (.ldc2_w 41, 3) := by decide +kernel
theorem dX3_asVeil_8 : decode cX3_asVeil 8 = .ok (.ladd, 1) := by decide +kernel
theorem dX3_asVeil_9 : decode cX3_asVeil 9 = .ok (.putfield 7, 3) := by decide +kernel
theorem dX3_asVeil_12 : decode cX3_asVeil 12 = .ok (.aload_n 0, 1) := by decide +kernel
theorem dX3_asVeil_13 : decode cX3_asVeil 13 = .ok (.aload_n 1, 1) := by decide +kernel
theorem dX3_asVeil_14 : decode cX3_asVeil 14 = .ok (.aload_n 2, 1) := by decide +kernel
theorem dX3_asVeil_15 : decode cX3_asVeil 15 = .ok (.iload_n 3, 1) := by decide +kernel
theorem dX3_asVeil_16 : decode cX3_asVeil 16 = .ok (.invokevirtual 43, 3) := by decide +kernel
theorem dX3_asVeil_19 : decode cX3_asVeil 19 = .ok (.iload_n 3, 1) := by decide +kernel
theorem dX3_asVeil_20 : decode cX3_asVeil 20 = .ok (.iadd, 1) := by decide +kernel
theorem dX3_asVeil_21 : decode cX3_asVeil 21 = .ok (.ireturn, 1) := by decide +kernel
theorem dX3_asInfant_0 : decode cX3_asInfant 0 = .ok (.aload_n 0, 1) := by decide +kernel
theorem dX3_asInfant_1 : decode cX3_asInfant 1 = .ok (.dup, 1) := by decide +kernel
theorem dX3_asInfant_2 : decode cX3_asInfant 2 = .ok (.getfield 7, 3) := by decide +kernel
theorem dX3_asInfant_5 : decode cX3_asInfant 5 = .ok (.ldc2_w 46, 3) := by decide +kernel
theorem dX3_asInfant_8 : decode cX3_asInfant 8 = .ok (.ladd, 1) := by decide +kernel
theorem dX3_asInfant_9 : decode cX3_asInfant 9 = .ok (.putfield 7, 3) := by decide +kernel
theorem dX3_asInfant_12 : decode cX3_asInfant 12 = .ok (.aload_n 0, 1) := by decide +kernel
theorem dX3_asInfant_13 : decode cX3_asInfant 13 = .ok (.aload_n 1, 1) := by decide +kernel
theorem dX3_asInfant_14 : decode cX3_asInfant 14 = .ok (.iload_n 3, 1) := by decide +kernel
theorem dX3_asInfant_15 : decode cX3_asInfant 15 = .ok (.invokevirtual 21, 3) := by decide +kernel
theorem dX3_asInfant_18 : decode cX3_asInfant 18 = .ok (.aload_n 2, 1) := by decide +kernel
theorem dX3_asInfant_19 : decode cX3_asInfant 19 = .ok (.getfield 48, 3) := by decide +kernel
theorem dX3_asInfant_22 : decode cX3_asInfant 22 = .ok (.iadd, 1) := by decide +kernel
theorem dX3_asInfant_23 : decode cX3_asInfant 23 = .ok (.ireturn, 1) := by decide +kernel
theorem dX4_init_0 : decode cX4_init 0 = .ok (.aload_n 0, 1) := by decide +kernel
theorem dX4_init_1 : decode cX4_init 1 = .ok (.invokespecial 3, 3) := by decide +kernel
theorem dX4_init_4 : decode cX4_init 4 = .ok (.aload_n 0, 1) := by decide +kernel
theorem dX4_init_5 : decode cX4_init 5 = .ok (.iconst 5, 1) := by decide +kernel
theorem dX4_init_6 : decode cX4_init 6 = .ok (.newarray .int, 2) := by decide +kernel
theorem dX4_init_8 : decode cX4_init 8 = .ok (.putfield 9, 3) := by decide +kernel
theorem dX4_init_11 : decode cX4_init 11 = .ok (.aload_n 0, 1) := by decide +kernel
theorem dX4_init_12 : decode cX4_init 12 = .ok (.iconst 5, 1) := by decide +kernel
theorem dX4_init_13 : decode cX4_init 13 = .ok (.newarray .int, 2) := by decide +kernel
theorem dX4_init_15 : decode cX4_init 15 = .ok (.putfield 15, 3) := by decide +kernel
theorem dX4_init_18 : decode cX4_init 18 = .ok (.aload_n 0, 1) := by decide +kernel
theorem dX4_init_19 : decode cX4_init 19 = .ok (.iconst 5, 1) := by decide +kernel
theorem dX4_init_20 : decode cX4_init 20 = .ok (.newarray .int, 2) := by decide +kernel
theorem dX4_init_22 : decode cX4_init 22 = .ok (.putfield 18, 3) := by decide +kernel
theorem dX4_init_25 : decode cX4_init 25 = .ok (.aload_n 0, 1) := by decide +kernel
theorem dX4_init_26 : decode cX4_init 26 = .ok (.iconst 5, 1) := by decide +kernel
theorem dX4_init_27 : decode cX4_init 27 = .ok (.newarray .int, 2) := by decide +kernel
theorem dX4_init_29 : decode cX4_init 29 = .ok (.putfield 21, 3) := by decide +kernel
theorem dX4_init_32 : decode cX4_init 32 = .ok (.aload_n 0, 1) := by decide +kernel
theorem dX4_init_33 : decode cX4_init 33 = .ok (.iconst 5, 1) := by decide +kernel
theorem dX4_init_34 : decode cX4_init 34 = .ok (.newarray .int, 2) := by decide +kernel
theorem dX4_init_36 : decode cX4_init 36 = .ok (.putfield 24, 3) := by decide +kernel
theorem dX4_init_39 : decode cX4_init 39 = .ok (.return_, 1) := by decide +kernel
theorem dX4_go_0 : decode cX4_go 0 = .ok (.aload_n 0, 1) := by decide +kernel
theorem dX4_go_1 : decode cX4_go 1 = .ok (.iconst 0, 1) := by decide +kernel
theorem dX4_go_2 : decode cX4_go 2 = .ok (.putfield 27, 3) := by decide +kernel
theorem dX4_go_5 : decode cX4_go 5 = .ok (.iconst 0, 1) := by decide +kernel
theorem dX4_go_6 : decode cX4_go 6 = .ok (.istore 4, 2) := by decide +kernel
theorem dX4_go_8 : decode cX4_go 8 = .ok (.iload 4, 2) := by decide +kernel
theorem dX4_go_10 : decode cX4_go 10 = .ok (.aload_n 1, 1) := by decide +kernel
theorem dX4_go_11 : decode cX4_go 11 = .ok (.getfield 31, 3) := by decide +kernel
theorem dX4_go_14 : decode cX4_go 14 = .ok (.if_icmp .ge 33, 3) := by decide +kernel
theorem dX4_go_17 : decode cX4_go 17 = .ok (.aload_n 0, 1) := by decide +kernel
theorem dX4_go_18 : decode cX4_go 18 = .ok (.getfield 18, 3) := by decide +kernel
theorem dX4_go_21 : decode cX4_go 21 = .ok (.iload 4, 2) := by decide +kernel
theorem dX4_go_23 : decode cX4_go 23 = .ok (.iconst 0, 1) := by decide +kernel
theorem dX4_go_24 : decode cX4_go 24 = .ok (.iastore, 1) := by decide +kernel
theorem dX4_go_25 : decode cX4_go 25 = .ok (.aload_n 0, 1) := by decide +kernel
theorem dX4_go_26 : decode cX4_go 26 = .ok (.getfield 21, 3) := by decide +kernel
theorem dX4_go_29 : decode cX4_go 29 = .ok (.iload 4, 2) := by decide +kernel
theorem dX4_go_31 : decode cX4_go 31 = .ok (.iconst 0, 1) := by decide +kernel
theorem dX4_go_32 : decode cX4_go 32 = .ok (.iastore, 1) := by decide +kernel
theorem dX4_go_33 : decode cX4_go 33 = .ok (.aload_n 0, 1) := by decide +kernel
theorem dX4_go_34 : decode cX4_go 34 = .ok (.getfield 15, 3) := by decide +kernel
theorem dX4_go_37 : decode cX4_go 37 = .ok (.iload 4, 2) := by decide +kernel
theorem dX4_go_39 : decode cX4_go 39 = .ok (.iconst 0, 1) := by decide +kernel
theorem dX4_go_40 : decode cX4_go 40 = .ok (.iastore, 1) := by decide +kernel
theorem dX4_go_41 : decode cX4_go 41 = .ok (.iinc 4 1, 3) := by decide +kernel
theorem dX4_go_44 : decode cX4_go 44 = .ok (.goto (-36), 3) := by decide +kernel
theorem dX4_go_47 : decode cX4_go 47 = .ok (.iconst 1, 1) := by decide +kernel
theorem dX4_go_48 : decode cX4_go 48 = .ok (.istore 4, 2) := by decide +kernel
theorem dX4_go_50 : decode cX4_go 50 = .ok (.iload 4, 2) := by decide +kernel
theorem dX4_go_52 : decode cX4_go 52 = .ok (.sipush 1000, 3) := by decide +kernel
theorem dX4_go_55 : decode cX4_go 55 = .ok (.if_icmp .gt 79, 3) := by decide +kernel
theorem dX4_go_58 : decode cX4_go 58 = .ok (.aload_n 0, 1) := by decide +kernel
theorem dX4_go_59 : decode cX4_go 59 = .ok (.getfield 27, 3) := by decide +kernel
theorem dX4_go_62 : decode cX4_go 62 = .ok (.iload_n 3, 1) := by decide +kernel
theorem dX4_go_63 : decode cX4_go 63 = .ok (.if_icmp .ge 71, 3) := by decide +kernel
theorem dX4_go_66 : decode cX4_go 66 = .ok (.iconst 0, 1) := by decide +kernel
theorem dX4_go_67 : decode cX4_go 67 = .ok (.istore 5, 2) := by decide +kernel
theorem dX4_go_69 : decode cX4_go 69 = .ok (.iload 5, 2) := by decide +kernel
theorem dX4_go_71 : decode cX4_go 71 = .ok (.aload_n 1, 1) := by decide +kernel
theorem dX4_go_72 : decode cX4_go 72 = .ok (.getfield 31, 3) := by decide +kernel
theorem dX4_go_75 : decode cX4_go 75 = .ok (.if_icmp .ge 53, 3) := by decide +kernel
theorem dX4_go_78 : decode cX4_go 78 = .ok (.aload_n 0, 1) := by decide +kernel
theorem dX4_go_79 : decode cX4_go 79 = .ok (.getfield 18, 3) := by decide +kernel
theorem dX4_go_82 : decode cX4_go 82 = .ok (.iload 5, 2) := by decide +kernel
theorem dX4_go_84 : decode cX4_go 84 = .ok (.iaload, 1) := by decide +kernel
theorem dX4_go_85 : decode cX4_go 85 = .ok (.aload_n 1, 1) := by decide +kernel
theorem dX4_go_86 : decode cX4_go 86 = .ok (.getfield 36, 3) := by decide +kernel
theorem dX4_go_89 : decode cX4_go 89 = .ok (.if_icmp .ge 7, 3) := by decide +kernel
theorem dX4_go_92 : decode cX4_go 92 = .ok (.iconst 1, 1) := by decide +kernel
theorem dX4_go_93 : decode cX4_go 93 = .ok (.goto 4, 3) := by decide +kernel
theorem dX4_go_96 : decode cX4_go 96 = .ok (.iconst 0, 1) := by decide +kernel
theorem dX4_go_97 : decode cX4_go 97 = .ok (.istore 6, 2) := by decide +kernel
theorem dX4_go_99 : decode cX4_go 99 = .ok (.iload 6, 2) := by decide +kernel
theorem dX4_go_101 : decode cX4_go 101 = .ok (.ifCond .eq 21, 3) := by decide +kernel
theorem dX4_go_104 : decode cX4_go 104 = .ok (.aload_n 2, 1) := by decide +kernel
theorem dX4_go_105 : decode cX4_go 105 = .ok (.iload 5, 2) := by decide +kernel
theorem dX4_go_107 : decode cX4_go 107 = .ok (.iaload, 1) := by decide +kernel
theorem dX4_go_108 : decode cX4_go 108 = .ok (.iload 4, 2) := by decide +kernel
theorem dX4_go_110 : decode cX4_go 110 = .ok (.if_icmp .ge 12, 3) := by decide +kernel
theorem dX4_go_113 : decode cX4_go 113 = .ok (.aload_n 0, 1) := by decide +kernel
theorem dX4_go_114 : decode cX4_go 114 = .ok (.aload_n 1, 1) := by decide +kernel
theorem dX4_go_115 : decode cX4_go 115 = .ok (.iload 5, 2) := by decide +kernel
theorem dX4_go_117 : decode cX4_go 117 = .ok (.iload 4, 2) := by decide +kernel
theorem dX4_go_119 : decode cX4_go 119 = .ok (.invokevirtual 39, 3) := by decide +kernel
theorem dX4_go_122 : decode cX4_go 122 = .ok (.iinc 5 1, 3) := by decide +kernel
theorem dX4_go_125 : decode cX4_go 125 = .ok (.goto (-56), 3) := by decide +kernel
theorem dX4_go_128 : decode cX4_go 128 = .ok (.iinc 4 1, 3) := by decide +kernel
theorem dX4_go_131 : decode cX4_go 131 = .ok (.goto (-81), 3) := by decide +kernel
theorem dX4_go_134 : decode cX4_go 134 = .ok (.return_, 1) := by decide +kernel
theorem dX4_inAs_0 : decode cX4_inAs 0 = .ok (.iload_n 1, 1) := by decide +kernel
theorem dX4_inAs_1 : decode cX4_inAs 1 = .ok (.ifCond .lt 20, 3) := by decide +kernel
theorem dX4_inAs_4 : decode cX4_inAs 4 = .ok (.iload_n 1, 1) := by decide +kernel
theorem dX4_inAs_5 : decode cX4_inAs 5 = .ok (.aload_n 0, 1) := by decide +kernel
theorem dX4_inAs_6 : decode cX4_inAs 6 = .ok (.getfield 27, 3) := by decide +kernel
theorem dX4_inAs_9 : decode cX4_inAs 9 = .ok (.if_icmp .ge 12, 3) := by decide +kernel
theorem dX4_inAs_12 : decode cX4_inAs 12 = .ok (.aload_n 0, 1) := by decide +kernel
theorem dX4_inAs_13 : decode cX4_inAs 13 = .ok (.getfield 24, 3) := by decide +kernel
theorem dX4_inAs_16 : decode cX4_inAs 16 = .ok (.iload_n 1, 1) := by decide +kernel
theorem dX4_inAs_17 : decode cX4_inAs 17 = .ok (.iaload, 1) := by decide +kernel
theorem dX4_inAs_18 : decode cX4_inAs 18 = .ok (.goto 5, 3) := by decide +kernel
theorem dX4_inAs_21 : decode cX4_inAs 21 = .ok (.bipush (-9), 2) := by decide +kernel
theorem dX4_inAs_23 : decode cX4_inAs 23 = .ok (.ireturn, 1) := by decide +kernel
theorem dX4_move_0 : decode cX4_move 0 = .ok (.aload_n 0, 1) := by decide +kernel
theorem dX4_move_1 : decode cX4_move 1 = .ok (.getfield 21, 3) := by decide +kernel
theorem dX4_move_4 : decode cX4_move 4 = .ok (.iload_n 2, 1) := by decide +kernel
theorem dX4_move_5 : decode cX4_move 5 = .ok (.dup2, 1) := by decide +kernel
theorem dX4_move_6 : decode cX4_move 6 = .ok (.iaload, 1) := by decide +kernel
theorem dX4_move_7 : decode cX4_move 7 = .ok (.aload_n 0, 1) := by decide +kernel
theorem dX4_move_8 : decode cX4_move 8 = .ok (.getfield 9, 3) := by decide +kernel
theorem dX4_move_11 : decode cX4_move 11 = .ok (.iload_n 2, 1) := by decide +kernel
theorem dX4_move_12 : decode cX4_move 12 = .ok (.iaload, 1) := by decide +kernel
theorem dX4_move_13 : decode cX4_move 13 = .ok (.iadd, 1) := by decide +kernel
theorem dX4_move_14 : decode cX4_move 14 = .ok (.iastore, 1) := by decide +kernel
theorem dX4_move_15 : decode cX4_move 15 = .ok (.aload_n 0, 1) := by decide +kernel
theorem dX4_move_16 : decode cX4_move 16 = .ok (.getfield 18, 3) := by decide +kernel
theorem dX4_move_19 : decode cX4_move 19 = .ok (.iload_n 2, 1) := by decide +kernel
theorem dX4_move_20 : decode cX4_move 20 = .ok (.iaload, 1) := by decide +kernel
theorem dX4_move_21 : decode cX4_move 21 = .ok (.istore 4, 2) := by decide +kernel
theorem dX4_move_23 : decode cX4_move 23 = .ok (.iload 4, 2) := by decide +kernel
theorem dX4_move_25 : decode cX4_move 25 = .ok (.aload_n 1, 1) := by decide +kernel
theorem dX4_move_26 : decode cX4_move 26 = .ok (.getfield 36, 3) := by decide +kernel
theorem dX4_move_29 : decode cX4_move 29 = .ok (.if_icmp .ge 73, 3) := by decide +kernel
theorem dX4_move_32 : decode cX4_move 32 = .ok (.aload_n 1, 1) := by decide +kernel
theorem dX4_move_33 : decode cX4_move 33 = .ok (.getfield 43, 3) := by decide +kernel
theorem dX4_move_36 : decode cX4_move 36 = .ok (.iload 4, 2) := by decide +kernel
theorem dX4_move_38 : decode cX4_move 38 = .ok (.iaload, 1) := by decide +kernel
theorem dX4_move_39 : decode cX4_move 39 = .ok (.istore 5, 2) := by decide +kernel
theorem dX4_move_41 : decode cX4_move 41 = .ok (.aload_n 0, 1) := by decide +kernel
theorem dX4_move_42 : decode cX4_move 42 = .ok (.getfield 21, 3) := by decide +kernel
theorem dX4_move_45 : decode cX4_move 45 = .ok (.iload_n 2, 1) := by decide +kernel
theorem dX4_move_46 : decode cX4_move 46 = .ok (.iaload, 1) := by decide +kernel
theorem dX4_move_47 : decode cX4_move 47 = .ok (.iload 5, 2) := by decide +kernel
theorem dX4_move_49 : decode cX4_move 49 = .ok (.if_icmp .ge 4, 3) := by decide +kernel
theorem dX4_move_52 : decode cX4_move 52 = .ok (.return_, 1) := by decide +kernel
theorem dX4_move_53 : decode cX4_move 53 = .ok (.aload_n 0, 1) := by decide +kernel
theorem dX4_move_54 : decode cX4_move 54 = .ok (.aload_n 1, 1) := by decide +kernel
theorem dX4_move_55 : decode cX4_move 55 = .ok (.iload_n 2, 1) := by decide +kernel
theorem dX4_move_56 : decode cX4_move 56 = .ok (.iload 4, 2) := by decide +kernel
theorem dX4_move_58 : decode cX4_move 58 = .ok (.iconst 1, 1) := by decide +kernel
theorem dX4_move_59 : decode cX4_move 59 = .ok (.iadd, 1) := by decide +kernel
theorem dX4_move_60 : decode cX4_move 60 = .ok (.invokevirtual 46, 3) := by decide +kernel
theorem dX4_move_63 : decode cX4_move 63 = .ok (.ifCond .eq 12, 3) := by decide +kernel
theorem dX4_move_66 : decode cX4_move 66 = .ok (.aload_n 0, 1) := by decide +kernel
theorem dX4_move_67 : decode cX4_move 67 = .ok (.getfield 21, 3) := by decide +kernel
theorem dX4_move_70 : decode cX4_move 70 = .ok (.iload_n 2, 1) := by decide +kernel
theorem dX4_move_71 : decode cX4_move 71 = .ok (.iload 5, 2) := by decide +kernel
theorem dX4_move_73 : decode cX4_move 73 = .ok (.iastore, 1) := by decide +kernel
theorem dX4_move_74 : decode cX4_move 74 = .ok (.return_, 1) := by decide +kernel
theorem dX4_move_75 : decode cX4_move 75 = .ok (.aload_n 0, 1) := by decide +kernel
theorem dX4_move_76 : decode cX4_move 76 = .ok (.getfield 21, 3) := by decide +kernel
theorem dX4_move_79 : decode cX4_move 79 = .ok (.iload_n 2, 1) := by decide +kernel
theorem dX4_move_80 : decode cX4_move 80 = .ok (.dup2, 1) := by decide +kernel
theorem dX4_move_81 : decode cX4_move 81 = .ok (.iaload, 1) := by decide +kernel
theorem dX4_move_82 : decode cX4_move 82 = .ok (.iload 5, 2) := by decide +kernel
theorem dX4_move_84 : decode cX4_move 84 = .ok (.isub, 1) := by decide +kernel
theorem dX4_move_85 : decode cX4_move 85 = .ok (.iastore, 1) := by decide +kernel
theorem dX4_move_86 : decode cX4_move 86 = .ok (.aload_n 0, 1) := by decide +kernel
theorem dX4_move_87 : decode cX4_move 87 = .ok (.getfield 18, 3) := by decide +kernel
theorem dX4_move_90 : decode cX4_move 90 = .ok (.iload_n 2, 1) := by decide +kernel
theorem dX4_move_91 : decode cX4_move 91 = .ok (.iload 4, 2) := by decide +kernel
theorem dX4_move_93 : decode cX4_move 93 = .ok (.iconst 1, 1) := by decide +kernel
theorem dX4_move_94 : decode cX4_move 94 = .ok (.iadd, 1) := by decide +kernel
theorem dX4_move_95 : decode cX4_move 95 = .ok (.iastore, 1) := by decide +kernel
theorem dX4_move_96 : decode cX4_move 96 = .ok (.iinc 4 1, 3) := by decide +kernel
theorem dX4_move_99 : decode cX4_move 99 = .ok (.goto (-76), 3) := by decide +kernel
theorem dX4_move_102 : decode cX4_move 102 = .ok (.aload_n 0, 1) := by decide +kernel
theorem dX4_move_103 : decode cX4_move 103 = .ok (.iload_n 2, 1) := by decide +kernel
theorem dX4_move_104 : decode cX4_move 104 = .ok (.iload_n 3, 1) := by decide +kernel
theorem dX4_move_105 : decode cX4_move 105 = .ok (.invokevirtual 50, 3) := by decide +kernel
theorem dX4_move_108 : decode cX4_move 108 = .ok (.return_, 1) := by decide +kernel
theorem dX4_isBlocked_0 : decode cX4_isBlocked 0 = .ok (.iload_n 3, 1) := by decide +kernel
theorem dX4_isBlocked_1 : decode cX4_isBlocked 1 = .ok (.aload_n 1, 1) := by decide +kernel
theorem dX4_isBlocked_2 : decode cX4_isBlocked 2 = .ok (.getfield 36, 3) := by decide +kernel
theorem dX4_isBlocked_5 : decode cX4_isBlocked 5 = .ok (.if_icmp .ge 14, 3) := by decide +kernel
theorem dX4_isBlocked_8 : decode cX4_isBlocked 8 = .ok (.aload_n 1, 1) := by decide +kernel
theorem dX4_isBlocked_9 : decode cX4_isBlocked 9 = .ok (.getfield 43, 3) := by decide +kernel
theorem dX4_isBlocked_12 : decode cX4_isBlocked 12 = .ok (.iload_n 3, 1) := by decide +kernel
theorem dX4_isBlocked_13 : decode cX4_isBlocked 13 = .ok (.iaload, 1) := by decide +kernel
theorem dX4_isBlocked_14 : decode cX4_isBlocked 14 = .ok (.bipush 6, 2) := by decide +kernel
theorem dX4_isBlocked_16 : decode cX4_isBlocked 16 = .ok (.if_icmp .eq 5, 3) := by decide +kernel
theorem dX4_isBlocked_19 : decode cX4_isBlocked 19 = .ok (.iconst 0, 1) := by decide +kernel
theorem dX4_isBlocked_20 : decode cX4_isBlocked 20 = .ok (.ireturn, 1) := by decide +kernel
theorem dX4_isBlocked_21 : decode cX4_isBlocked 21 = .ok (.iconst 0, 1) := by decide +kernel
theorem dX4_isBlocked_22 : decode cX4_isBlocked 22 = .ok (.istore 4, 2) := by decide +kernel
theorem dX4_isBlocked_24 : decode cX4_isBlocked 24 = .ok (.iload 4, 2) := by decide +kernel
theorem dX4_isBlocked_26 : decode cX4_isBlocked 26 = .ok (.aload_n 1, 1) := by decide +kernel
theorem dX4_isBlocked_27 : decode cX4_isBlocked 27 = .ok (.getfield 31, 3) := by decide +kernel
theorem dX4_isBlocked_30 : decode cX4_isBlocked 30 = .ok (.if_icmp .ge 28, 3) := by decide +kernel
theorem dX4_isBlocked_33 : decode cX4_isBlocked 33 = .ok (.iload 4, 2) := by decide +kernel
theorem dX4_isBlocked_35 : decode cX4_isBlocked 35 = .ok (.iload_n 2, 1) := by decide +kernel
theorem dX4_isBlocked_36 : decode cX4_isBlocked 36 = .ok (.if_icmp .eq 16, 3) := by decide +kernel
theorem dX4_isBlocked_39 : decode cX4_isBlocked 39 = .ok (.aload_n 0, 1) := by decide +kernel
theorem dX4_isBlocked_40 : decode cX4_isBlocked 40 = .ok (.getfield 18, 3) := by decide +kernel
theorem dX4_isBlocked_43 : decode cX4_isBlocked 43 = .ok (.iload 4, 2) := by decide +kernel
theorem dX4_isBlocked_45 : decode cX4_isBlocked 45 = .ok (.iaload, 1) := by decide +kernel
theorem dX4_isBlocked_46 : decode cX4_isBlocked 46 = .ok (.iload_n 3, 1) := by decide +kernel
theorem dX4_isBlocked_47 : decode cX4_isBlocked 47 = .ok (.if_icmp .ne 5, 3) := by decide +kernel
theorem dX4_isBlocked_50 : decode cX4_isBlocked 50 = .ok (.iconst 1, 1) := by decide +kernel
theorem dX4_isBlocked_51 : decode cX4_isBlocked 51 = .ok (.ireturn, 1) := by decide +kernel
theorem dX4_isBlocked_52 : decode cX4_isBlocked 52 = .ok (.iinc 4 1, 3) := by decide +kernel
theorem dX4_isBlocked_55 : decode cX4_isBlocked 55 = .ok (.goto (-31), 3) := by decide +kernel
theorem dX4_isBlocked_58 : decode cX4_isBlocked 58 = .ok (.iconst 0, 1) := by decide +kernel
theorem dX4_isBlocked_59 : decode cX4_isBlocked 59 = .ok (.ireturn, 1) := by decide +kernel
theorem dX4_arrive_0 : decode cX4_arrive 0 = .ok (.aload_n 0, 1) := by decide +kernel
theorem dX4_arrive_1 : decode cX4_arrive 1 = .ok (.getfield 27, 3) := by decide +kernel
theorem dX4_arrive_4 : decode cX4_arrive 4 = .ok (.iconst 5, 1) := by decide +kernel
theorem dX4_arrive_5 : decode cX4_arrive 5 = .ok (.if_icmp .lt 4, 3) := by decide +kernel
theorem dX4_arrive_8 : decode cX4_arrive 8 = .ok (.return_, 1) := by decide +kernel
theorem dX4_arrive_9 : decode cX4_arrive 9 = .ok (.aload_n 0, 1) := by decide +kernel
theorem dX4_arrive_10 : decode cX4_arrive 10 = .ok (.getfield 15, 3) := by decide +kernel
theorem dX4_arrive_13 : decode cX4_arrive 13 = .ok (.iload_n 1, 1) := by decide +kernel
theorem dX4_arrive_14 : decode cX4_arrive 14 = .ok (.iload_n 2, 1) := by decide +kernel
theorem dX4_arrive_15 : decode cX4_arrive 15 = .ok (.iastore, 1) := by decide +kernel
theorem dX4_arrive_16 : decode cX4_arrive 16 = .ok (.aload_n 0, 1) := by decide +kernel
theorem dX4_arrive_17 : decode cX4_arrive 17 = .ok (.getfield 24, 3) := by decide +kernel
theorem dX4_arrive_20 : decode cX4_arrive 20 = .ok (.aload_n 0, 1) := by decide +kernel
theorem dX4_arrive_21 : decode cX4_arrive 21 = .ok (.getfield 27, 3) := by decide +kernel
theorem dX4_arrive_24 : decode cX4_arrive 24 = .ok (.iload_n 1, 1) := by decide +kernel
theorem dX4_arrive_25 : decode cX4_arrive 25 = .ok (.iastore, 1) := by decide +kernel
theorem dX4_arrive_26 : decode cX4_arrive 26 = .ok (.aload_n 0, 1) := by decide +kernel
theorem dX4_arrive_27 : decode cX4_arrive 27 = .ok (.dup, 1) := by decide +kernel
theorem dX4_arrive_28 : decode cX4_arrive 28 = .ok (.getfield 27, 3) := by decide +kernel
theorem dX4_arrive_31 : decode cX4_arrive 31 = .ok (.iconst 1, 1) := by decide +kernel
theorem dX4_arrive_32 : decode cX4_arrive 32 = .ok (.iadd, 1) := by decide +kernel
theorem dX4_arrive_33 : decode cX4_arrive 33 = .ok (.putfield 27, 3) := by decide +kernel
theorem dX4_arrive_36 : decode cX4_arrive 36 = .ok (.return_, 1) := by decide +kernel
theorem dX5_init_0 : decode cX5_init 0 = .ok (.aload_n 0, 1) := by decide +kernel
theorem dX5_init_1 : decode cX5_init 1 = .ok (.invokespecial 3, 3) := by decide +kernel
theorem dX5_init_4 : decode cX5_init 4 = .ok (.aload_n 0, 1) := by decide +kernel
theorem dX5_init_5 : decode cX5_init 5 = .ok (.bipush 120, 2) := by decide +kernel
theorem dX5_init_7 : decode cX5_init 7 = .ok (.newarray .int, 2) := by decide +kernel
theorem dX5_init_9 : decode cX5_init 9 = .ok (.putfield 9, 3) := by decide +kernel
theorem dX5_init_12 : decode cX5_init 12 = .ok (.return_, 1) := by decide +kernel
theorem dX5_write_0 : decode cX5_write 0 = .ok (.aload_n 0, 1) := by decide +kernel
theorem dX5_write_1 : decode cX5_write 1 = .ok (.getfield 15, 3) := by decide +kernel
theorem dX5_write_4 : decode cX5_write 4 = .ok (.bipush 120, 2) := by decide +kernel
theorem dX5_write_6 : decode cX5_write 6 = .ok (.if_icmp .lt 4, 3) := by decide +kernel
theorem dX5_write_9 : decode cX5_write 9 = .ok (.return_, 1) := by decide +kernel
theorem dX5_write_10 : decode cX5_write 10 = .ok (.aload_n 0, 1) := by decide +kernel
theorem dX5_write_11 : decode cX5_write 11 = .ok (.getfield 9, 3) := by decide +kernel
theorem dX5_write_14 : decode cX5_write 14 = .ok (.aload_n 0, 1) := by decide +kernel
theorem dX5_write_15 : decode cX5_write 15 = .ok (.getfield 15, 3) := by decide +kernel
theorem dX5_write_18 : decode cX5_write 18 = .ok (.iload_n 1, 1) := by decide +kernel
theorem dX5_write_19 : decode cX5_write 19 = .ok (.iastore, 1) := by decide +kernel
theorem dX5_write_20 : decode cX5_write 20 = .ok (.aload_n 0, 1) := by decide +kernel
theorem dX5_write_21 : decode cX5_write 21 = .ok (.dup, 1) := by decide +kernel
theorem dX5_write_22 : decode cX5_write 22 = .ok (.getfield 15, 3) := by decide +kernel
theorem dX5_write_25 : decode cX5_write 25 = .ok (.iconst 1, 1) := by decide +kernel
theorem dX5_write_26 : decode cX5_write 26 = .ok (.iadd, 1) := by decide +kernel
theorem dX5_write_27 : decode cX5_write 27 = .ok (.putfield 15, 3) := by decide +kernel
theorem dX5_write_30 : decode cX5_write 30 = .ok (.return_, 1) := by decide +kernel
theorem dX5_readInto_0 : decode cX5_readInto 0 = .ok (.aload_n 1, 1) := by decide +kernel
theorem dX5_readInto_1 : decode cX5_readInto 1 = .ok (.invokevirtual 19, 3) := by decide +kernel
theorem dX5_readInto_4 : decode cX5_readInto 4 = .ok (.aload_n 0, 1) := by decide +kernel
theorem dX5_readInto_5 : decode cX5_readInto 5 = .ok (.iconst 0, 1) := by decide +kernel
theorem dX5_readInto_6 : decode cX5_readInto 6 = .ok (.putfield 24, 3) := by decide +kernel
theorem dX5_readInto_9 : decode cX5_readInto 9 = .ok (.iconst 0, 1) := by decide +kernel
theorem dX5_readInto_10 : decode cX5_readInto 10 = .ok (.istore_n 2, 1) := by decide +kernel
theorem dX5_readInto_11 : decode cX5_readInto 11 = .ok (.aload_n 0, 1) := by decide +kernel
theorem dX5_readInto_12 : decode cX5_readInto 12 = .ok (.invokevirtual 27, 3) := by decide +kernel
theorem dX5_readInto_15 : decode cX5_readInto 15 = .ok (.aload_n 0, 1) := by decide +kernel
theorem dX5_readInto_16 : decode cX5_readInto 16 = .ok (.getfield 30, 3) := by decide +kernel
theorem dX5_readInto_19 : decode cX5_readInto 19 = .ok (.iconst (-1), 1) := by decide +kernel
theorem dX5_readInto_20 : decode cX5_readInto 20 = .ok (.if_icmp .eq 35, 3) := by decide +kernel
theorem dX5_readInto_23 : decode cX5_readInto 23 = .ok (.iload_n 2, 1) := by decide +kernel
theorem dX5_readInto_24 : decode cX5_readInto 24 = .ok (.bipush 120, 2) := by decide +kernel
theorem dX5_readInto_26 : decode cX5_readInto 26 = .ok (.if_icmp .ge 29, 3) := by decide +kernel
theorem dX5_readInto_29 : decode cX5_readInto 29 = .ok (.aload_n 0, 1) := by decide +kernel
theorem dX5_readInto_30 : decode cX5_readInto 30 = .ok (.aload_n 1, 1) := by decide +kernel
theorem dX5_readInto_31 : decode cX5_readInto 31 = .ok (.invokevirtual 33, 3) := by decide +kernel
theorem dX5_readInto_34 : decode cX5_readInto 34 = .ok (.ifCond .ne 11, 3) := by decide +kernel
theorem dX5_readInto_37 : decode cX5_readInto 37 = .ok (.bipush (-10), 2) := by decide +kernel
theorem dX5_readInto_39 : decode cX5_readInto 39 = .ok (.aload_n 0, 1) := by decide +kernel
theorem dX5_readInto_40 : decode cX5_readInto 40 = .ok (.getfield 37, 3) := by decide +kernel
theorem dX5_readInto_43 : decode cX5_readInto 43 = .ok (.isub, 1) := by decide +kernel
theorem dX5_readInto_44 : decode cX5_readInto 44 = .ok (.ireturn, 1) := by decide +kernel
theorem dX5_readInto_45 : decode cX5_readInto 45 = .ok (.iinc 2 1, 3) := by decide +kernel
theorem dX5_readInto_48 : decode cX5_readInto 48 = .ok (.aload_n 0, 1) := by decide +kernel
theorem dX5_readInto_49 : decode cX5_readInto 49 = .ok (.invokevirtual 27, 3) := by decide +kernel
theorem dX5_readInto_52 : decode cX5_readInto 52 = .ok (.goto (-37), 3) := by decide +kernel
theorem dX5_readInto_55 : decode cX5_readInto 55 = .ok (.iload_n 2, 1) := by decide +kernel
theorem dX5_readInto_56 : decode cX5_readInto 56 = .ok (.ireturn, 1) := by decide +kernel
theorem dX5_readItem_0 : decode cX5_readItem 0 = .ok (.aload_n 0, 1) := by decide +kernel
theorem dX5_readItem_1 : decode cX5_readItem 1 = .ok (.getfield 30, 3) := by decide +kernel
theorem dX5_readItem_4 : decode cX5_readItem 4 = .ok (.lookupswitch 85 #[(99, 57), (108, 36), (112, 79)], 36) := by decide +kernel
theorem dX5_readItem_40 : decode cX5_readItem 40 = .ok (.aload_n 1, 1) := by decide +kernel
theorem dX5_readItem_41 : decode cX5_readItem 41 = .ok (.getfield 40, 3) := by decide +kernel
theorem dX5_readItem_44 : decode cX5_readItem 44 = .ok (.ifCond .ne 15, 3) := by decide +kernel
theorem dX5_readItem_47 : decode cX5_readItem 47 = .ok (.aload_n 0, 1) := by decide +kernel
theorem dX5_readItem_48 : decode cX5_readItem 48 = .ok (.aload_n 1, 1) := by decide +kernel
theorem dX5_readItem_49 : decode cX5_readItem 49 = .ok (.invokevirtual 43, 3) := by decide +kernel
theorem dX5_readItem_52 : decode cX5_readItem 52 = .ok (.ifCond .eq 7, 3) := by decide +kernel
theorem dX5_readItem_55 : decode cX5_readItem 55 = .ok (.iconst 1, 1) := by decide +kernel
theorem dX5_readItem_56 : decode cX5_readItem 56 = .ok (.goto 4, 3) := by decide +kernel
theorem dX5_readItem_59 : decode cX5_readItem 59 = .ok (.iconst 0, 1) := by decide +kernel
theorem dX5_readItem_60 : decode cX5_readItem 60 = .ok (.ireturn, 1) := by decide +kernel
theorem dX5_readItem_61 : decode cX5_readItem 61 = .ok (.aload_n 1, 1) := by decide +kernel
theorem dX5_readItem_62 : decode cX5_readItem 62 = .ok (.getfield 46, 3) := by decide +kernel
theorem dX5_readItem_65 : decode cX5_readItem 65 = .ok (.iconst 5, 1) := by decide +kernel
theorem dX5_readItem_66 : decode cX5_readItem 66 = .ok (.if_icmp .ge 15, 3) := by decide +kernel
theorem dX5_readItem_69 : decode cX5_readItem 69 = .ok (.aload_n 0, 1) := by decide +kernel
theorem dX5_readItem_70 : decode cX5_readItem 70 = .ok (.aload_n 1, 1) := by decide +kernel
theorem dX5_readItem_71 : decode cX5_readItem 71 = .ok (.invokevirtual 49, 3) := by decide +kernel
theorem dX5_readItem_74 : decode cX5_readItem 74 = .ok (.ifCond .eq 7, 3) := by decide +kernel
theorem dX5_readItem_77 : decode cX5_readItem 77 = .ok (.iconst 1, 1) := by decide +kernel
theorem dX5_readItem_78 : decode cX5_readItem 78 = .ok (.goto 4, 3) := by decide +kernel
theorem dX5_readItem_81 : decode cX5_readItem 81 = .ok (.iconst 0, 1) := by decide +kernel
theorem dX5_readItem_82 : decode cX5_readItem 82 = .ok (.ireturn, 1) := by decide +kernel
theorem dX5_readItem_83 : decode cX5_readItem 83 = .ok (.aload_n 0, 1) := by decide +kernel
theorem dX5_readItem_84 : decode cX5_readItem 84 = .ok (.aload_n 1, 1) := by decide +kernel
theorem dX5_readItem_85 : decode cX5_readItem 85 = .ok (.invokevirtual 52, 3) := by decide +kernel
theorem dX5_readItem_88 : decode cX5_readItem 88 = .ok (.ireturn, 1) := by decide +kernel
theorem dX5_readItem_89 : decode cX5_readItem 89 = .ok (.iconst 0, 1) := by decide +kernel
theorem dX5_readItem_90 : decode cX5_readItem 90 = .ok (.ireturn, 1) := by decide +kernel
theorem dX5_readPromenade_0 : decode cX5_readPromenade 0 = .ok (.aload_n 0, 1) := by decide +kernel
theorem dX5_readPromenade_1 : decode cX5_readPromenade 1 = .ok (.invokevirtual 27, 3) := by decide +kernel
theorem dX5_readPromenade_4 : decode cX5_readPromenade 4 = .ok (.iconst 0, 1) := by decide +kernel
theorem dX5_readPromenade_5 : decode cX5_readPromenade 5 = .ok (.istore_n 2, 1) := by decide +kernel
theorem dX5_readPromenade_6 : decode cX5_readPromenade 6 = .ok (.iload_n 2, 1) := by decide +kernel
theorem dX5_readPromenade_7 : decode cX5_readPromenade 7 = .ok (.bipush 16, 2) := by decide +kernel
theorem dX5_readPromenade_9 : decode cX5_readPromenade 9 = .ok (.if_icmp .ge 28, 3) := by decide +kernel
theorem dX5_readPromenade_12 : decode cX5_readPromenade 12 = .ok (.aload_n 0, 1) := by decide +kernel
theorem dX5_readPromenade_13 : decode cX5_readPromenade 13 = .ok (.invokevirtual 55, 3) := by decide +kernel
theorem dX5_readPromenade_16 : decode cX5_readPromenade 16 = .ok (.ifCond .le 21, 3) := by decide +kernel
theorem dX5_readPromenade_19 : decode cX5_readPromenade 19 = .ok (.aload_n 1, 1) := by decide +kernel
theorem dX5_readPromenade_20 : decode cX5_readPromenade 20 = .ok (.aload_n 0, 1) := by decide +kernel
theorem dX5_readPromenade_21 : decode cX5_readPromenade 21 = .ok (.invokevirtual 55, 3) := by decide +kernel
theorem dX5_readPromenade_24 : decode cX5_readPromenade 24 = .ok (.invokevirtual 59, 3) := by decide +kernel
theorem dX5_readPromenade_27 : decode cX5_readPromenade 27 = .ok (.aload_n 0, 1) := by decide +kernel
theorem dX5_readPromenade_28 : decode cX5_readPromenade 28 = .ok (.invokevirtual 27, 3) := by decide +kernel
theorem dX5_readPromenade_31 : decode cX5_readPromenade 31 = .ok (.iinc 2 1, 3) := by decide +kernel
theorem dX5_readPromenade_34 : decode cX5_readPromenade 34 = .ok (.goto (-28), 3) := by decide +kernel
theorem dX5_readPromenade_37 : decode cX5_readPromenade 37 = .ok (.aload_n 1, 1) := by decide +kernel
theorem dX5_readPromenade_38 : decode cX5_readPromenade 38 = .ok (.getfield 40, 3) := by decide +kernel
theorem dX5_readPromenade_41 : decode cX5_readPromenade 41 = .ok (.ifCond .le 16, 3) := by decide +kernel
theorem dX5_readPromenade_44 : decode cX5_readPromenade 44 = .ok (.aload_n 0, 1) := by decide +kernel
theorem dX5_readPromenade_45 : decode cX5_readPromenade 45 = .ok (.getfield 30, 3) := by decide +kernel
theorem dX5_readPromenade_48 : decode cX5_readPromenade 48 = .ok (.bipush 59, 2) := by decide +kernel
theorem dX5_readPromenade_50 : decode cX5_readPromenade 50 = .ok (.if_icmp .ne 7, 3) := by decide +kernel
theorem dX5_readPromenade_53 : decode cX5_readPromenade 53 = .ok (.iconst 1, 1) := by decide +kernel
theorem dX5_readPromenade_54 : decode cX5_readPromenade 54 = .ok (.goto 4, 3) := by decide +kernel
theorem dX5_readPromenade_57 : decode cX5_readPromenade 57 = .ok (.iconst 0, 1) := by decide +kernel
theorem dX5_readPromenade_58 : decode cX5_readPromenade 58 = .ok (.ireturn, 1) := by decide +kernel
theorem dX5_costOfToken_0 : decode cX5_costOfToken 0 = .ok (.aload_n 0, 1) := by decide +kernel
theorem dX5_costOfToken_1 : decode cX5_costOfToken 1 = .ok (.getfield 30, 3) := by decide +kernel
theorem dX5_costOfToken_4 : decode cX5_costOfToken 4 = .ok (.lookupswitch 54 #[(98, 51), (100, 49), (102, 44), (117, 46)], 44) := by decide +kernel
theorem dX5_costOfToken_48 : decode cX5_costOfToken 48 = .ok (.iconst 4, 1) := by decide +kernel
theorem dX5_costOfToken_49 : decode cX5_costOfToken 49 = .ok (.ireturn, 1) := by decide +kernel
theorem dX5_costOfToken_50 : decode cX5_costOfToken 50 = .ok (.bipush 8, 2) := by decide +kernel
theorem dX5_costOfToken_52 : decode cX5_costOfToken 52 = .ok (.ireturn, 1) := by decide +kernel
theorem dX5_costOfToken_53 : decode cX5_costOfToken 53 = .ok (.iconst 2, 1) := by decide +kernel
theorem dX5_costOfToken_54 : decode cX5_costOfToken 54 = .ok (.ireturn, 1) := by decide +kernel
theorem dX5_costOfToken_55 : decode cX5_costOfToken 55 = .ok (.bipush 6, 2) := by decide +kernel
theorem dX5_costOfToken_57 : decode cX5_costOfToken 57 = .ok (.ireturn, 1) := by decide +kernel
theorem dX5_costOfToken_58 : decode cX5_costOfToken 58 = .ok (.iconst 0, 1) := by decide +kernel
theorem dX5_costOfToken_59 : decode cX5_costOfToken 59 = .ok (.ireturn, 1) := by decide +kernel
theorem dX5_readChair_0 : decode cX5_readChair 0 = .ok (.aload_n 0, 1) := by decide +kernel
theorem dX5_readChair_1 : decode cX5_readChair 1 = .ok (.iconst 1, 1) := by decide +kernel
theorem dX5_readChair_2 : decode cX5_readChair 2 = .ok (.bipush 9, 2) := by decide +kernel
theorem dX5_readChair_4 : decode cX5_readChair 4 = .ok (.invokevirtual 63, 3) := by decide +kernel
theorem dX5_readChair_7 : decode cX5_readChair 7 = .ok (.ifCond .ne 5, 3) := by decide +kernel
theorem dX5_readChair_10 : decode cX5_readChair 10 = .ok (.iconst 0, 1) := by decide +kernel
theorem dX5_readChair_11 : decode cX5_readChair 11 = .ok (.ireturn, 1) := by decide +kernel
theorem dX5_readChair_12 : decode cX5_readChair 12 = .ok (.aload_n 0, 1) := by decide +kernel
theorem dX5_readChair_13 : decode cX5_readChair 13 = .ok (.getfield 67, 3) := by decide +kernel
theorem dX5_readChair_16 : decode cX5_readChair 16 = .ok (.istore_n 2, 1) := by decide +kernel
theorem dX5_readChair_17 : decode cX5_readChair 17 = .ok (.aload_n 0, 1) := by decide +kernel
theorem dX5_readChair_18 : decode cX5_readChair 18 = .ok (.iconst 0, 1) := by decide +kernel
theorem dX5_readChair_19 : decode cX5_readChair 19 = .ok (.iconst 3, 1) := by decide +kernel
theorem dX5_readChair_20 : decode cX5_readChair 20 = .ok (.invokevirtual 63, 3) := by decide +kernel
theorem dX5_readChair_23 : decode cX5_readChair 23 = .ok (.ifCond .ne 5, 3) := by decide +kernel
theorem dX5_readChair_26 : decode cX5_readChair 26 = .ok (.iconst 0, 1) := by decide +kernel
theorem dX5_readChair_27 : decode cX5_readChair 27 = .ok (.ireturn, 1) := by decide +kernel
theorem dX5_readChair_28 : decode cX5_readChair 28 = .ok (.aload_n 1, 1) := by decide +kernel
theorem dX5_readChair_29 : decode cX5_readChair 29 = .ok (.iload_n 2, 1) := by decide +kernel
theorem dX5_readChair_30 : decode cX5_readChair 30 = .ok (.aload_n 0, 1) := by decide +kernel
theorem dX5_readChair_31 : decode cX5_readChair 31 = .ok (.getfield 67, 3) := by decide +kernel
theorem dX5_readChair_34 : decode cX5_readChair 34 = .ok (.invokevirtual 70, 3) := by decide +kernel
theorem dX5_readChair_37 : decode cX5_readChair 37 = .ok (.aload_n 0, 1) := by decide +kernel
theorem dX5_readChair_38 : decode cX5_readChair 38 = .ok (.invokevirtual 74, 3) := by decide +kernel
theorem dX5_readChair_41 : decode cX5_readChair 41 = .ok (.ireturn, 1) := by decide +kernel
theorem dX5_readPusher_0 : decode cX5_readPusher 0 = .ok (.aload_n 0, 1) := by decide +kernel
theorem dX5_readPusher_1 : decode cX5_readPusher 1 = .ok (.iconst 0, 1) := by decide +kernel
theorem dX5_readPusher_2 : decode cX5_readPusher 2 = .ok (.aload_n 1, 1) := by decide +kernel
theorem dX5_readPusher_3 : decode cX5_readPusher 3 = .ok (.getfield 46, 3) := by decide +kernel
theorem dX5_readPusher_6 : decode cX5_readPusher 6 = .ok (.iconst 1, 1) := by decide +kernel
theorem dX5_readPusher_7 : decode cX5_readPusher 7 = .ok (.isub, 1) := by decide +kernel
theorem dX5_readPusher_8 : decode cX5_readPusher 8 = .ok (.invokevirtual 63, 3) := by decide +kernel
theorem dX5_readPusher_11 : decode cX5_readPusher 11 = .ok (.ifCond .ne 5, 3) := by decide +kernel
theorem dX5_readPusher_14 : decode cX5_readPusher 14 = .ok (.iconst 0, 1) := by decide +kernel
theorem dX5_readPusher_15 : decode cX5_readPusher 15 = .ok (.ireturn, 1) := by decide +kernel
theorem dX5_readPusher_16 : decode cX5_readPusher 16 = .ok (.aload_n 0, 1) := by decide +kernel
theorem dX5_readPusher_17 : decode cX5_readPusher 17 = .ok (.getfield 67, 3) := by decide +kernel
theorem dX5_readPusher_20 : decode cX5_readPusher 20 = .ok (.istore_n 2, 1) := by decide +kernel
theorem dX5_readPusher_21 : decode cX5_readPusher 21 = .ok (.aload_n 0, 1) := by decide +kernel
theorem dX5_readPusher_22 : decode cX5_readPusher 22 = .ok (.iconst 1, 1) := by decide +kernel
theorem dX5_readPusher_23 : decode cX5_readPusher 23 = .ok (.bipush 9, 2) := by decide +kernel
theorem dX5_readPusher_25 : decode cX5_readPusher 25 = .ok (.invokevirtual 63, 3) := by decide +kernel
theorem dX5_readPusher_28 : decode cX5_readPusher 28 = .ok (.ifCond .ne 5, 3) := by decide +kernel
theorem dX5_readPusher_31 : decode cX5_readPusher 31 = .ok (.iconst 0, 1) := by decide +kernel
theorem dX5_readPusher_32 : decode cX5_readPusher 32 = .ok (.ireturn, 1) := by decide +kernel
theorem dX5_readPusher_33 : decode cX5_readPusher 33 = .ok (.iload_n 2, 1) := by decide +kernel
theorem dX5_readPusher_34 : decode cX5_readPusher 34 = .ok (.ifCond .lt 21, 3) := by decide +kernel
theorem dX5_readPusher_37 : decode cX5_readPusher 37 = .ok (.iload_n 2, 1) := by decide +kernel
theorem dX5_readPusher_38 : decode cX5_readPusher 38 = .ok (.aload_n 1, 1) := by decide +kernel
theorem dX5_readPusher_39 : decode cX5_readPusher 39 = .ok (.getfield 46, 3) := by decide +kernel
theorem dX5_readPusher_42 : decode cX5_readPusher 42 = .ok (.if_icmp .ge 13, 3) := by decide +kernel
theorem dX5_readPusher_45 : decode cX5_readPusher 45 = .ok (.aload_n 1, 1) := by decide +kernel
theorem dX5_readPusher_46 : decode cX5_readPusher 46 = .ok (.getfield 78, 3) := by decide +kernel
theorem dX5_readPusher_49 : decode cX5_readPusher 49 = .ok (.iload_n 2, 1) := by decide +kernel
theorem dX5_readPusher_50 : decode cX5_readPusher 50 = .ok (.aload_n 0, 1) := by decide +kernel
theorem dX5_readPusher_51 : decode cX5_readPusher 51 = .ok (.getfield 67, 3) := by decide +kernel
theorem dX5_readPusher_54 : decode cX5_readPusher 54 = .ok (.iastore, 1) := by decide +kernel
theorem dX5_readPusher_55 : decode cX5_readPusher 55 = .ok (.aload_n 0, 1) := by decide +kernel
theorem dX5_readPusher_56 : decode cX5_readPusher 56 = .ok (.invokevirtual 74, 3) := by decide +kernel
theorem dX5_readPusher_59 : decode cX5_readPusher 59 = .ok (.ireturn, 1) := by decide +kernel
theorem dX5_readNumber_0 : decode cX5_readNumber 0 = .ok (.aload_n 0, 1) := by decide +kernel
theorem dX5_readNumber_1 : decode cX5_readNumber 1 = .ok (.invokevirtual 27, 3) := by decide +kernel
theorem dX5_readNumber_4 : decode cX5_readNumber 4 = .ok (.aload_n 0, 1) := by decide +kernel
theorem dX5_readNumber_5 : decode cX5_readNumber 5 = .ok (.getfield 30, 3) := by decide +kernel
theorem dX5_readNumber_8 : decode cX5_readNumber 8 = .ok (.bipush (-2), 2) := by decide +kernel
theorem dX5_readNumber_10 : decode cX5_readNumber 10 = .ok (.if_icmp .ne 23, 3) := by decide +kernel
theorem dX5_readNumber_13 : decode cX5_readNumber 13 = .ok (.aload_n 0, 1) := by decide +kernel
theorem dX5_readNumber_14 : decode cX5_readNumber 14 = .ok (.getfield 67, 3) := by decide +kernel
theorem dX5_readNumber_17 : decode cX5_readNumber 17 = .ok (.iload_n 1, 1) := by decide +kernel
theorem dX5_readNumber_18 : decode cX5_readNumber 18 = .ok (.if_icmp .lt 15, 3) := by decide +kernel
theorem dX5_readNumber_21 : decode cX5_readNumber 21 = .ok (.aload_n 0, 1) := by decide +kernel
theorem dX5_readNumber_22 : decode cX5_readNumber 22 = .ok (.getfield 67, 3) := by decide +kernel
theorem dX5_readNumber_25 : decode cX5_readNumber 25 = .ok (.iload_n 2, 1) := by decide +kernel
theorem dX5_readNumber_26 : decode cX5_readNumber 26 = .ok (.if_icmp .gt 7, 3) := by decide +kernel
theorem dX5_readNumber_29 : decode cX5_readNumber 29 = .ok (.iconst 1, 1) := by decide +kernel
theorem dX5_readNumber_30 : decode cX5_readNumber 30 = .ok (.goto 4, 3) := by decide +kernel
theorem dX5_readNumber_33 : decode cX5_readNumber 33 = .ok (.iconst 0, 1) := by decide +kernel
theorem dX5_readNumber_34 : decode cX5_readNumber 34 = .ok (.ireturn, 1) := by decide +kernel
theorem dX5_readEnd_0 : decode cX5_readEnd 0 = .ok (.aload_n 0, 1) := by decide +kernel
theorem dX5_readEnd_1 : decode cX5_readEnd 1 = .ok (.invokevirtual 27, 3) := by decide +kernel
theorem dX5_readEnd_4 : decode cX5_readEnd 4 = .ok (.aload_n 0, 1) := by decide +kernel
theorem dX5_readEnd_5 : decode cX5_readEnd 5 = .ok (.getfield 30, 3) := by decide +kernel
theorem dX5_readEnd_8 : decode cX5_readEnd 8 = .ok (.bipush 59, 2) := by decide +kernel
theorem dX5_readEnd_10 : decode cX5_readEnd 10 = .ok (.if_icmp .ne 7, 3) := by decide +kernel
theorem dX5_readEnd_13 : decode cX5_readEnd 13 = .ok (.iconst 1, 1) := by decide +kernel
theorem dX5_readEnd_14 : decode cX5_readEnd 14 = .ok (.goto 4, 3) := by decide +kernel
theorem dX5_readEnd_17 : decode cX5_readEnd 17 = .ok (.iconst 0, 1) := by decide +kernel
theorem dX5_readEnd_18 : decode cX5_readEnd 18 = .ok (.ireturn, 1) := by decide +kernel
theorem dX5_readToken_0 : decode cX5_readToken 0 = .ok (.aload_n 0, 1) := by decide +kernel
theorem dX5_readToken_1 : decode cX5_readToken 1 = .ok (.getfield 24, 3) := by decide +kernel
theorem dX5_readToken_4 : decode cX5_readToken 4 = .ok (.aload_n 0, 1) := by decide +kernel
theorem dX5_readToken_5 : decode cX5_readToken 5 = .ok (.getfield 15, 3) := by decide +kernel
theorem dX5_readToken_8 : decode cX5_readToken 8 = .ok (.if_icmp .ge 30, 3) := by decide +kernel
theorem dX5_readToken_11 : decode cX5_readToken 11 = .ok (.aload_n 0, 1) := by decide +kernel
theorem dX5_readToken_12 : decode cX5_readToken 12 = .ok (.getfield 9, 3) := by decide +kernel
theorem dX5_readToken_15 : decode cX5_readToken 15 = .ok (.aload_n 0, 1) := by decide +kernel
theorem dX5_readToken_16 : decode cX5_readToken 16 = .ok (.getfield 24, 3) := by decide +kernel
theorem dX5_readToken_19 : decode cX5_readToken 19 = .ok (.iaload, 1) := by decide +kernel
theorem dX5_readToken_20 : decode cX5_readToken 20 = .ok (.bipush 32, 2) := by decide +kernel
theorem dX5_readToken_22 : decode cX5_readToken 22 = .ok (.if_icmp .ne 16, 3) := by decide +kernel
theorem dX5_readToken_25 : decode cX5_readToken 25 = .ok (.aload_n 0, 1) := by decide +kernel
theorem dX5_readToken_26 : decode cX5_readToken 26 = .ok (.dup, 1) := by decide +kernel
theorem dX5_readToken_27 : decode cX5_readToken 27 = .ok (.getfield 24, 3) := by decide +kernel
theorem dX5_readToken_30 : decode cX5_readToken 30 = .ok (.iconst 1, 1) := by decide +kernel
theorem dX5_readToken_31 : decode cX5_readToken 31 = .ok (.iadd, 1) := by decide +kernel
theorem dX5_readToken_32 : decode cX5_readToken 32 = .ok (.putfield 24, 3) := by decide +kernel
theorem dX5_readToken_35 : decode cX5_readToken 35 = .ok (.goto (-35), 3) := by decide +kernel
theorem dX5_readToken_38 : decode cX5_readToken 38 = .ok (.aload_n 0, 1) := by decide +kernel
theorem dX5_readToken_39 : decode cX5_readToken 39 = .ok (.aload_n 0, 1) := by decide +kernel
theorem dX5_readToken_40 : decode cX5_readToken 40 = .ok (.getfield 24, 3) := by decide +kernel
theorem dX5_readToken_43 : decode cX5_readToken 43 = .ok (.putfield 37, 3) := by decide +kernel
theorem dX5_readToken_46 : decode cX5_readToken 46 = .ok (.aload_n 0, 1) := by decide +kernel
theorem dX5_readToken_47 : decode cX5_readToken 47 = .ok (.getfield 24, 3) := by decide +kernel
theorem dX5_readToken_50 : decode cX5_readToken 50 = .ok (.aload_n 0, 1) := by decide +kernel
theorem dX5_readToken_51 : decode cX5_readToken 51 = .ok (.getfield 15, 3) := by decide +kernel
theorem dX5_readToken_54 : decode cX5_readToken 54 = .ok (.if_icmp .lt 11, 3) := by decide +kernel
theorem dX5_readToken_57 : decode cX5_readToken 57 = .ok (.aload_n 0, 1) := by decide +kernel
theorem dX5_readToken_58 : decode cX5_readToken 58 = .ok (.iconst (-1), 1) := by decide +kernel
theorem dX5_readToken_59 : decode cX5_readToken 59 = .ok (.putfield 30, 3) := by decide +kernel
theorem dX5_readToken_62 : decode cX5_readToken 62 = .ok (.goto 44, 3) := by decide +kernel
theorem dX5_readToken_65 : decode cX5_readToken 65 = .ok (.aload_n 0, 1) := by decide +kernel
theorem dX5_readToken_66 : decode cX5_readToken 66 = .ok (.aload_n 0, 1) := by decide +kernel
theorem dX5_readToken_67 : decode cX5_readToken 67 = .ok (.getfield 24, 3) := by decide +kernel
theorem dX5_readToken_70 : decode cX5_readToken 70 = .ok (.invokevirtual 81, 3) := by decide +kernel
theorem dX5_readToken_73 : decode cX5_readToken 73 = .ok (.ifCond .eq 10, 3) := by decide +kernel
theorem dX5_readToken_76 : decode cX5_readToken 76 = .ok (.aload_n 0, 1) := by decide +kernel
theorem dX5_readToken_77 : decode cX5_readToken 77 = .ok (.invokevirtual 85, 3) := by decide +kernel
theorem dX5_readToken_80 : decode cX5_readToken 80 = .ok (.goto 26, 3) := by decide +kernel
theorem dX5_readToken_83 : decode cX5_readToken 83 = .ok (.aload_n 0, 1) := by decide +kernel
theorem dX5_readToken_84 : decode cX5_readToken 84 = .ok (.aload_n 0, 1) := by decide +kernel
theorem dX5_readToken_85 : decode cX5_readToken 85 = .ok (.getfield 9, 3) := by decide +kernel
theorem dX5_readToken_88 : decode cX5_readToken 88 = .ok (.aload_n 0, 1) := by decide +kernel
theorem dX5_readToken_89 : decode cX5_readToken 89 = .ok (.getfield 24, 3) := by decide +kernel
theorem dX5_readToken_92 : decode cX5_readToken 92 = .ok (.iaload, 1) := by decide +kernel
theorem dX5_readToken_93 : decode cX5_readToken 93 = .ok (.putfield 30, 3) := by decide +kernel
theorem dX5_readToken_96 : decode cX5_readToken 96 = .ok (.aload_n 0, 1) := by decide +kernel
theorem dX5_readToken_97 : decode cX5_readToken 97 = .ok (.dup, 1) := by decide +kernel
theorem dX5_readToken_98 : decode cX5_readToken 98 = .ok (.getfield 24, 3) := by decide +kernel
theorem dX5_readToken_101 : decode cX5_readToken 101 = .ok (.iconst 1, 1) := by decide +kernel
theorem dX5_readToken_102 : decode cX5_readToken 102 = .ok (.iadd, 1) := by decide +kernel
theorem dX5_readToken_103 : decode cX5_readToken 103 = .ok (.putfield 24, 3) := by decide +kernel
theorem dX5_readToken_106 : decode cX5_readToken 106 = .ok (.return_, 1) := by decide +kernel
theorem dX5_readDigits_0 : decode cX5_readDigits 0 = .ok (.aload_n 0, 1) := by decide +kernel
theorem dX5_readDigits_1 : decode cX5_readDigits 1 = .ok (.bipush (-2), 2) := by decide +kernel
theorem dX5_readDigits_3 : decode cX5_readDigits 3 = .ok (.putfield 30, 3) := by decide +kernel
theorem dX5_readDigits_6 : decode cX5_readDigits 6 = .ok (.aload_n 0, 1) := by decide +kernel
theorem dX5_readDigits_7 : decode cX5_readDigits 7 = .ok (.iconst 0, 1) := by decide +kernel
theorem dX5_readDigits_8 : decode cX5_readDigits 8 = .ok (.putfield 67, 3) := by decide +kernel
theorem dX5_readDigits_11 : decode cX5_readDigits 11 = .ok (.aload_n 0, 1) := by decide +kernel
theorem dX5_readDigits_12 : decode cX5_readDigits 12 = .ok (.getfield 24, 3) := by decide +kernel
theorem dX5_readDigits_15 : decode cX5_readDigits 15 = .ok (.aload_n 0, 1) := by decide +kernel
theorem dX5_readDigits_16 : decode cX5_readDigits 16 = .ok (.getfield 15, 3) := by decide +kernel
theorem dX5_readDigits_19 : decode cX5_readDigits 19 = .ok (.if_icmp .ge 118, 3) := by decide +kernel
theorem dX5_readDigits_22 : decode cX5_readDigits 22 = .ok (.aload_n 0, 1) := by decide +kernel
theorem dX5_readDigits_23 : decode cX5_readDigits 23 = .ok (.aload_n 0, 1) := by decide +kernel
theorem dX5_readDigits_24 : decode cX5_readDigits 24 = .ok (.getfield 24, 3) := by decide +kernel
theorem dX5_readDigits_27 : decode cX5_readDigits 27 = .ok (.invokevirtual 81, 3) := by decide +kernel
theorem dX5_readDigits_30 : decode cX5_readDigits 30 = .ok (.ifCond .eq 107, 3) := by decide +kernel
theorem dX5_readDigits_33 : decode cX5_readDigits 33 = .ok (.aload_n 0, 1) := by decide +kernel
theorem dX5_readDigits_34 : decode cX5_readDigits 34 = .ok (.getfield 24, 3) := by decide +kernel
theorem dX5_readDigits_37 : decode cX5_readDigits 37 = .ok (.aload_n 0, 1) := by decide +kernel
theorem dX5_readDigits_38 : decode cX5_readDigits 38 = .ok (.getfield 37, 3) := by decide +kernel
theorem dX5_readDigits_41 : decode cX5_readDigits 41 = .ok (.isub, 1) := by decide +kernel
theorem dX5_readDigits_42 : decode cX5_readDigits 42 = .ok (.iconst 2, 1) := by decide +kernel
theorem dX5_readDigits_43 : decode cX5_readDigits 43 = .ok (.if_icmp .lt 7, 3) := by decide +kernel
theorem dX5_readDigits_46 : decode cX5_readDigits 46 = .ok (.iconst 1, 1) := by decide +kernel
theorem dX5_readDigits_47 : decode cX5_readDigits 47 = .ok (.goto 4, 3) := by decide +kernel
theorem dX5_readDigits_50 : decode cX5_readDigits 50 = .ok (.iconst 0, 1) := by decide +kernel
theorem dX5_readDigits_51 : decode cX5_readDigits 51 = .ok (.istore_n 1, 1) := by decide +kernel
theorem dX5_readDigits_52 : decode cX5_readDigits 52 = .ok (.aload_n 0, 1) := by decide +kernel
theorem dX5_readDigits_53 : decode cX5_readDigits 53 = .ok (.getfield 24, 3) := by decide +kernel
theorem dX5_readDigits_56 : decode cX5_readDigits 56 = .ok (.aload_n 0, 1) := by decide +kernel
theorem dX5_readDigits_57 : decode cX5_readDigits 57 = .ok (.getfield 37, 3) := by decide +kernel
theorem dX5_readDigits_60 : decode cX5_readDigits 60 = .ok (.if_icmp .le 14, 3) := by decide +kernel
theorem dX5_readDigits_63 : decode cX5_readDigits 63 = .ok (.aload_n 0, 1) := by decide +kernel
theorem dX5_readDigits_64 : decode cX5_readDigits 64 = .ok (.getfield 67, 3) := by decide +kernel
theorem dX5_readDigits_67 : decode cX5_readDigits 67 = .ok (.ifCond .ne 7, 3) := by decide +kernel
theorem dX5_readDigits_70 : decode cX5_readDigits 70 = .ok (.iconst 1, 1) := by decide +kernel
theorem dX5_readDigits_71 : decode cX5_readDigits 71 = .ok (.goto 4, 3) := by decide +kernel
theorem dX5_readDigits_74 : decode cX5_readDigits 74 = .ok (.iconst 0, 1) := by decide +kernel
theorem dX5_readDigits_75 : decode cX5_readDigits 75 = .ok (.istore_n 2, 1) := by decide +kernel
theorem dX5_readDigits_76 : decode cX5_readDigits 76 = .ok (.iload_n 1, 1) := by decide +kernel
theorem dX5_readDigits_77 : decode cX5_readDigits 77 = .ok (.ifCond .ne 15, 3) := by decide +kernel
theorem dX5_readDigits_80 : decode cX5_readDigits 80 = .ok (.iload_n 2, 1) := by decide +kernel
theorem dX5_readDigits_81 : decode cX5_readDigits 81 = .ok (.ifCond .ne 11, 3) := by decide +kernel
theorem dX5_readDigits_84 : decode cX5_readDigits 84 = .ok (.aload_n 0, 1) := by decide +kernel
theorem dX5_readDigits_85 : decode cX5_readDigits 85 = .ok (.getfield 67, 3) := by decide +kernel
theorem dX5_readDigits_88 : decode cX5_readDigits 88 = .ok (.iconst (-1), 1) := by decide +kernel
theorem dX5_readDigits_89 : decode cX5_readDigits 89 = .ok (.if_icmp .ne 11, 3) := by decide +kernel
theorem dX5_readDigits_92 : decode cX5_readDigits 92 = .ok (.aload_n 0, 1) := by decide +kernel
theorem dX5_readDigits_93 : decode cX5_readDigits 93 = .ok (.iconst (-1), 1) := by decide +kernel
theorem dX5_readDigits_94 : decode cX5_readDigits 94 = .ok (.putfield 67, 3) := by decide +kernel
theorem dX5_readDigits_97 : decode cX5_readDigits 97 = .ok (.goto 27, 3) := by decide +kernel
theorem dX5_readDigits_100 : decode cX5_readDigits 100 = .ok (.aload_n 0, 1) := by decide +kernel
theorem dX5_readDigits_101 : decode cX5_readDigits 101 = .ok (.bipush 10, 2) := by decide +kernel
theorem dX5_readDigits_103 : decode cX5_readDigits 103 = .ok (.aload_n 0, 1) := by decide +kernel
theorem dX5_readDigits_104 : decode cX5_readDigits 104 = .ok (.getfield 67, 3) := by decide +kernel
theorem dX5_readDigits_107 : decode cX5_readDigits 107 = .ok (.imul, 1) := by decide +kernel
theorem dX5_readDigits_108 : decode cX5_readDigits 108 = .ok (.aload_n 0, 1) := by decide +kernel
theorem dX5_readDigits_109 : decode cX5_readDigits 109 = .ok (.getfield 9, 3) := by decide +kernel
theorem dX5_readDigits_112 : decode cX5_readDigits 112 = .ok (.aload_n 0, 1) := by decide +kernel
theorem dX5_readDigits_113 : decode cX5_readDigits 113 = .ok (.getfield 24, 3) := by decide +kernel
theorem dX5_readDigits_116 : decode cX5_readDigits 116 = .ok (.iaload, 1) := by decide +kernel
theorem dX5_readDigits_117 : decode cX5_readDigits 117 = .ok (.iadd, 1) := by decide +kernel
theorem dX5_readDigits_118 : decode cX5_readDigits 118 = .ok (.bipush 48, 2) := by decide +kernel
theorem dX5_readDigits_120 : decode cX5_readDigits 120 = .ok (.isub, 1) := by decide +kernel
theorem dX5_readDigits_121 : decode cX5_readDigits 121 = .ok (.putfield 67, 3) := by decide +kernel
theorem dX5_readDigits_124 : decode cX5_readDigits 124 = .ok (.aload_n 0, 1) := by decide +kernel
theorem dX5_readDigits_125 : decode cX5_readDigits 125 = .ok (.dup, 1) := by decide +kernel
theorem dX5_readDigits_126 : decode cX5_readDigits 126 = .ok (.getfield 24, 3) := by decide +kernel
theorem dX5_readDigits_129 : decode cX5_readDigits 129 = .ok (.iconst 1, 1) := by decide +kernel
theorem dX5_readDigits_130 : decode cX5_readDigits 130 = .ok (.iadd, 1) := by decide +kernel
theorem dX5_readDigits_131 : decode cX5_readDigits 131 = .ok (.putfield 24, 3) := by decide +kernel
theorem dX5_readDigits_134 : decode cX5_readDigits 134 = .ok (.goto (-123), 3) := by decide +kernel
theorem dX5_readDigits_137 : decode cX5_readDigits 137 = .ok (.return_, 1) := by decide +kernel
theorem dX5_isDigitAt_0 : decode cX5_isDigitAt 0 = .ok (.aload_n 0, 1) := by decide +kernel
theorem dX5_isDigitAt_1 : decode cX5_isDigitAt 1 = .ok (.getfield 9, 3) := by decide +kernel
theorem dX5_isDigitAt_4 : decode cX5_isDigitAt 4 = .ok (.iload_n 1, 1) := by decide +kernel
theorem dX5_isDigitAt_5 : decode cX5_isDigitAt 5 = .ok (.iaload, 1) := by decide +kernel
theorem dX5_isDigitAt_6 : decode cX5_isDigitAt 6 = .ok (.bipush 48, 2) := by decide +kernel
theorem dX5_isDigitAt_8 : decode cX5_isDigitAt 8 = .ok (.if_icmp .lt 18, 3) := by decide +kernel
theorem dX5_isDigitAt_11 : decode cX5_isDigitAt 11 = .ok (.aload_n 0, 1) := by decide +kernel
theorem dX5_isDigitAt_12 : decode cX5_isDigitAt 12 = .ok (.getfield 9, 3) := by decide +kernel
theorem dX5_isDigitAt_15 : decode cX5_isDigitAt 15 = .ok (.iload_n 1, 1) := by decide +kernel
theorem dX5_isDigitAt_16 : decode cX5_isDigitAt 16 = .ok (.iaload, 1) := by decide +kernel
theorem dX5_isDigitAt_17 : decode cX5_isDigitAt 17 = .ok (.bipush 57, 2) := by decide +kernel
theorem dX5_isDigitAt_19 : decode cX5_isDigitAt 19 = .ok (.if_icmp .gt 7, 3) := by decide +kernel
theorem dX5_isDigitAt_22 : decode cX5_isDigitAt 22 = .ok (.iconst 1, 1) := by decide +kernel
theorem dX5_isDigitAt_23 : decode cX5_isDigitAt 23 = .ok (.goto 4, 3) := by decide +kernel
theorem dX5_isDigitAt_26 : decode cX5_isDigitAt 26 = .ok (.iconst 0, 1) := by decide +kernel
theorem dX5_isDigitAt_27 : decode cX5_isDigitAt 27 = .ok (.ireturn, 1) := by decide +kernel
theorem dX6_init_0 : decode cX6_init 0 = .ok (.aload_n 0, 1) := by decide +kernel
theorem dX6_init_1 : decode cX6_init 1 = .ok (.invokespecial 3, 3) := by decide +kernel
theorem dX6_init_4 : decode cX6_init 4 = .ok (.aload_n 0, 1) := by decide +kernel
theorem dX6_init_5 : decode cX6_init 5 = .ok (.bipush 16, 2) := by decide +kernel
theorem dX6_init_7 : decode cX6_init 7 = .ok (.newarray .int, 2) := by decide +kernel
theorem dX6_init_9 : decode cX6_init 9 = .ok (.putfield 9, 3) := by decide +kernel
theorem dX6_init_12 : decode cX6_init 12 = .ok (.aload_n 0, 1) := by decide +kernel
theorem dX6_init_13 : decode cX6_init 13 = .ok (.iconst 5, 1) := by decide +kernel
theorem dX6_init_14 : decode cX6_init 14 = .ok (.newarray .int, 2) := by decide +kernel
theorem dX6_init_16 : decode cX6_init 16 = .ok (.putfield 15, 3) := by decide +kernel
theorem dX6_init_19 : decode cX6_init 19 = .ok (.aload_n 0, 1) := by decide +kernel
theorem dX6_init_20 : decode cX6_init 20 = .ok (.iconst 5, 1) := by decide +kernel
theorem dX6_init_21 : decode cX6_init 21 = .ok (.newarray .int, 2) := by decide +kernel
theorem dX6_init_23 : decode cX6_init 23 = .ok (.putfield 18, 3) := by decide +kernel
theorem dX6_init_26 : decode cX6_init 26 = .ok (.aload_n 0, 1) := by decide +kernel
theorem dX6_init_27 : decode cX6_init 27 = .ok (.iconst 5, 1) := by decide +kernel
theorem dX6_init_28 : decode cX6_init 28 = .ok (.newarray .int, 2) := by decide +kernel
theorem dX6_init_30 : decode cX6_init 30 = .ok (.putfield 21, 3) := by decide +kernel
theorem dX6_init_33 : decode cX6_init 33 = .ok (.return_, 1) := by decide +kernel
theorem dX6_empty_0 : decode cX6_empty 0 = .ok (.aload_n 0, 1) := by decide +kernel
theorem dX6_empty_1 : decode cX6_empty 1 = .ok (.iconst 0, 1) := by decide +kernel
theorem dX6_empty_2 : decode cX6_empty 2 = .ok (.putfield 24, 3) := by decide +kernel
theorem dX6_empty_5 : decode cX6_empty 5 = .ok (.aload_n 0, 1) := by decide +kernel
theorem dX6_empty_6 : decode cX6_empty 6 = .ok (.iconst 0, 1) := by decide +kernel
theorem dX6_empty_7 : decode cX6_empty 7 = .ok (.putfield 28, 3) := by decide +kernel
theorem dX6_empty_10 : decode cX6_empty 10 = .ok (.aload_n 0, 1) := by decide +kernel
theorem dX6_empty_11 : decode cX6_empty 11 = .ok (.iconst 0, 1) := by decide +kernel
theorem dX6_empty_12 : decode cX6_empty 12 = .ok (.putfield 31, 3) := by decide +kernel
theorem dX6_empty_15 : decode cX6_empty 15 = .ok (.return_, 1) := by decide +kernel
theorem dX6_become_0 : decode cX6_become 0 = .ok (.aload_n 1, 1) := by decide +kernel
theorem dX6_become_1 : decode cX6_become 1 = .ok (.getfield 9, 3) := by decide +kernel
theorem dX6_become_4 : decode cX6_become 4 = .ok (.iconst 0, 1) := by decide +kernel
theorem dX6_become_5 : decode cX6_become 5 = .ok (.aload_n 0, 1) := by decide +kernel
theorem dX6_become_6 : decode cX6_become 6 = .ok (.getfield 9, 3) := by decide +kernel
theorem dX6_become_9 : decode cX6_become 9 = .ok (.iconst 0, 1) := by decide +kernel
theorem dX6_become_10 : decode cX6_become 10 = .ok (.bipush 16, 2) := by decide +kernel
theorem dX6_become_12 : decode cX6_become 12 = .ok (.invokestatic 34, 3) := by decide +kernel
theorem dX6_become_15 : decode cX6_become 15 = .ok (.aload_n 1, 1) := by decide +kernel
theorem dX6_become_16 : decode cX6_become 16 = .ok (.getfield 15, 3) := by decide +kernel
theorem dX6_become_19 : decode cX6_become 19 = .ok (.iconst 0, 1) := by decide +kernel
theorem dX6_become_20 : decode cX6_become 20 = .ok (.aload_n 0, 1) := by decide +kernel
theorem dX6_become_21 : decode cX6_become 21 = .ok (.getfield 15, 3) := by decide +kernel
theorem dX6_become_24 : decode cX6_become 24 = .ok (.iconst 0, 1) := by decide +kernel
theorem dX6_become_25 : decode cX6_become 25 = .ok (.iconst 5, 1) := by decide +kernel
theorem dX6_become_26 : decode cX6_become 26 = .ok (.invokestatic 34, 3) := by decide +kernel
theorem dX6_become_29 : decode cX6_become 29 = .ok (.aload_n 1, 1) := by decide +kernel
theorem dX6_become_30 : decode cX6_become 30 = .ok (.getfield 18, 3) := by decide +kernel
theorem dX6_become_33 : decode cX6_become 33 = .ok (.iconst 0, 1) := by decide +kernel
theorem dX6_become_34 : decode cX6_become 34 = .ok (.aload_n 0, 1) := by decide +kernel
theorem dX6_become_35 : decode cX6_become 35 = .ok (.getfield 18, 3) := by decide +kernel
theorem dX6_become_38 : decode cX6_become 38 = .ok (.iconst 0, 1) := by decide +kernel
theorem dX6_become_39 : decode cX6_become 39 = .ok (.iconst 5, 1) := by decide +kernel
theorem dX6_become_40 : decode cX6_become 40 = .ok (.invokestatic 34, 3) := by decide +kernel
theorem dX6_become_43 : decode cX6_become 43 = .ok (.aload_n 1, 1) := by decide +kernel
theorem dX6_become_44 : decode cX6_become 44 = .ok (.getfield 21, 3) := by decide +kernel
theorem dX6_become_47 : decode cX6_become 47 = .ok (.iconst 0, 1) := by decide +kernel
theorem dX6_become_48 : decode cX6_become 48 = .ok (.aload_n 0, 1) := by decide +kernel
theorem dX6_become_49 : decode cX6_become 49 = .ok (.getfield 21, 3) := by decide +kernel
theorem dX6_become_52 : decode cX6_become 52 = .ok (.iconst 0, 1) := by decide +kernel
theorem dX6_become_53 : decode cX6_become 53 = .ok (.iconst 5, 1) := by decide +kernel
theorem dX6_become_54 : decode cX6_become 54 = .ok (.invokestatic 34, 3) := by decide +kernel
theorem dX6_become_57 : decode cX6_become 57 = .ok (.aload_n 0, 1) := by decide +kernel
theorem dX6_become_58 : decode cX6_become 58 = .ok (.aload_n 1, 1) := by decide +kernel
theorem dX6_become_59 : decode cX6_become 59 = .ok (.getfield 24, 3) := by decide +kernel
theorem dX6_become_62 : decode cX6_become 62 = .ok (.putfield 24, 3) := by decide +kernel
theorem dX6_become_65 : decode cX6_become 65 = .ok (.aload_n 0, 1) := by decide +kernel
theorem dX6_become_66 : decode cX6_become 66 = .ok (.aload_n 1, 1) := by decide +kernel
theorem dX6_become_67 : decode cX6_become 67 = .ok (.getfield 28, 3) := by decide +kernel
theorem dX6_become_70 : decode cX6_become 70 = .ok (.putfield 28, 3) := by decide +kernel
theorem dX6_become_73 : decode cX6_become 73 = .ok (.aload_n 0, 1) := by decide +kernel
theorem dX6_become_74 : decode cX6_become 74 = .ok (.aload_n 1, 1) := by decide +kernel
theorem dX6_become_75 : decode cX6_become 75 = .ok (.getfield 31, 3) := by decide +kernel
theorem dX6_become_78 : decode cX6_become 78 = .ok (.putfield 31, 3) := by decide +kernel
theorem dX6_become_81 : decode cX6_become 81 = .ok (.return_, 1) := by decide +kernel
theorem dX6_hasRace_0 : decode cX6_hasRace 0 = .ok (.aload_n 0, 1) := by decide +kernel
theorem dX6_hasRace_1 : decode cX6_hasRace 1 = .ok (.getfield 24, 3) := by decide +kernel
theorem dX6_hasRace_4 : decode cX6_hasRace 4 = .ok (.ifCond .le 14, 3) := by decide +kernel
theorem dX6_hasRace_7 : decode cX6_hasRace 7 = .ok (.aload_n 0, 1) := by decide +kernel
theorem dX6_hasRace_8 : decode cX6_hasRace 8 = .ok (.getfield 28, 3) := by decide +kernel
theorem dX6_hasRace_11 : decode cX6_hasRace 11 = .ok (.ifCond .le 7, 3) := by decide +kernel
theorem dX6_hasRace_14 : decode cX6_hasRace 14 = .ok (.iconst 1, 1) := by decide +kernel
theorem dX6_hasRace_15 : decode cX6_hasRace 15 = .ok (.goto 4, 3) := by decide +kernel
theorem dX6_hasRace_18 : decode cX6_hasRace 18 = .ok (.iconst 0, 1) := by decide +kernel
theorem dX6_hasRace_19 : decode cX6_hasRace 19 = .ok (.ireturn, 1) := by decide +kernel
theorem dX6_addCell_0 : decode cX6_addCell 0 = .ok (.aload_n 0, 1) := by decide +kernel
theorem dX6_addCell_1 : decode cX6_addCell 1 = .ok (.getfield 24, 3) := by decide +kernel
theorem dX6_addCell_4 : decode cX6_addCell 4 = .ok (.bipush 16, 2) := by decide +kernel
theorem dX6_addCell_6 : decode cX6_addCell 6 = .ok (.if_icmp .lt 4, 3) := by decide +kernel
theorem dX6_addCell_9 : decode cX6_addCell 9 = .ok (.return_, 1) := by decide +kernel
theorem dX6_addCell_10 : decode cX6_addCell 10 = .ok (.aload_n 0, 1) := by decide +kernel
theorem dX6_addCell_11 : decode cX6_addCell 11 = .ok (.getfield 9, 3) := by decide +kernel
theorem dX6_addCell_14 : decode cX6_addCell 14 = .ok (.aload_n 0, 1) := by decide +kernel
theorem dX6_addCell_15 : decode cX6_addCell 15 = .ok (.getfield 24, 3) := by decide +kernel
theorem dX6_addCell_18 : decode cX6_addCell 18 = .ok (.iload_n 1, 1) := by decide +kernel
theorem dX6_addCell_19 : decode cX6_addCell 19 = .ok (.iastore, 1) := by decide +kernel
theorem dX6_addCell_20 : decode cX6_addCell 20 = .ok (.aload_n 0, 1) := by decide +kernel
theorem dX6_addCell_21 : decode cX6_addCell 21 = .ok (.dup, 1) := by decide +kernel
theorem dX6_addCell_22 : decode cX6_addCell 22 = .ok (.getfield 24, 3) := by decide +kernel
theorem dX6_addCell_25 : decode cX6_addCell 25 = .ok (.iconst 1, 1) := by decide +kernel
theorem dX6_addCell_26 : decode cX6_addCell 26 = .ok (.iadd, 1) := by decide +kernel
theorem dX6_addCell_27 : decode cX6_addCell 27 = .ok (.putfield 24, 3) := by decide +kernel
theorem dX6_addCell_30 : decode cX6_addCell 30 = .ok (.aload_n 0, 1) := by decide +kernel
theorem dX6_addCell_31 : decode cX6_addCell 31 = .ok (.dup, 1) := by decide +kernel
theorem dX6_addCell_32 : decode cX6_addCell 32 = .ok (.getfield 31, 3) := by decide +kernel
theorem dX6_addCell_35 : decode cX6_addCell 35 = .ok (.iload_n 1, 1) := by decide +kernel
theorem dX6_addCell_36 : decode cX6_addCell 36 = .ok (.iadd, 1) := by decide +kernel
theorem dX6_addCell_37 : decode cX6_addCell 37 = .ok (.putfield 31, 3) := by decide +kernel
theorem dX6_addCell_40 : decode cX6_addCell 40 = .ok (.return_, 1) := by decide +kernel
theorem dX6_addChair_0 : decode cX6_addChair 0 = .ok (.aload_n 0, 1) := by decide +kernel
theorem dX6_addChair_1 : decode cX6_addChair 1 = .ok (.getfield 28, 3) := by decide +kernel
theorem dX6_addChair_4 : decode cX6_addChair 4 = .ok (.iconst 5, 1) := by decide +kernel
theorem dX6_addChair_5 : decode cX6_addChair 5 = .ok (.if_icmp .lt 4, 3) := by decide +kernel
theorem dX6_addChair_8 : decode cX6_addChair 8 = .ok (.return_, 1) := by decide +kernel
theorem dX6_addChair_9 : decode cX6_addChair 9 = .ok (.aload_n 0, 1) := by decide +kernel
theorem dX6_addChair_10 : decode cX6_addChair 10 = .ok (.getfield 15, 3) := by decide +kernel
theorem dX6_addChair_13 : decode cX6_addChair 13 = .ok (.aload_n 0, 1) := by decide +kernel
theorem dX6_addChair_14 : decode cX6_addChair 14 = .ok (.getfield 28, 3) := by decide +kernel
theorem dX6_addChair_17 : decode cX6_addChair 17 = .ok (.iload_n 1, 1) := by decide +kernel
theorem dX6_addChair_18 : decode cX6_addChair 18 = .ok (.iastore, 1) := by decide +kernel
theorem dX6_addChair_19 : decode cX6_addChair 19 = .ok (.aload_n 0, 1) := by decide +kernel
theorem dX6_addChair_20 : decode cX6_addChair 20 = .ok (.getfield 18, 3) := by decide +kernel
theorem dX6_addChair_23 : decode cX6_addChair 23 = .ok (.aload_n 0, 1) := by decide +kernel
theorem dX6_addChair_24 : decode cX6_addChair 24 = .ok (.getfield 28, 3) := by decide +kernel
theorem dX6_addChair_27 : decode cX6_addChair 27 = .ok (.iload_n 2, 1) := by decide +kernel
theorem dX6_addChair_28 : decode cX6_addChair 28 = .ok (.iastore, 1) := by decide +kernel
theorem dX6_addChair_29 : decode cX6_addChair 29 = .ok (.aload_n 0, 1) := by decide +kernel
theorem dX6_addChair_30 : decode cX6_addChair 30 = .ok (.getfield 21, 3) := by decide +kernel
theorem dX6_addChair_33 : decode cX6_addChair 33 = .ok (.aload_n 0, 1) := by decide +kernel
theorem dX6_addChair_34 : decode cX6_addChair 34 = .ok (.getfield 28, 3) := by decide +kernel
theorem dX6_addChair_37 : decode cX6_addChair 37 = .ok (.iconst 5, 1) := by decide +kernel
theorem dX6_addChair_38 : decode cX6_addChair 38 = .ok (.iastore, 1) := by decide +kernel
theorem dX6_addChair_39 : decode cX6_addChair 39 = .ok (.aload_n 0, 1) := by decide +kernel
theorem dX6_addChair_40 : decode cX6_addChair 40 = .ok (.dup, 1) := by decide +kernel
theorem dX6_addChair_41 : decode cX6_addChair 41 = .ok (.getfield 28, 3) := by decide +kernel
theorem dX6_addChair_44 : decode cX6_addChair 44 = .ok (.iconst 1, 1) := by decide +kernel
theorem dX6_addChair_45 : decode cX6_addChair 45 = .ok (.iadd, 1) := by decide +kernel
theorem dX6_addChair_46 : decode cX6_addChair 46 = .ok (.putfield 28, 3) := by decide +kernel
theorem dX6_addChair_49 : decode cX6_addChair 49 = .ok (.return_, 1) := by decide +kernel
theorem dX6_strengthOf_0 : decode cX6_strengthOf 0 = .ok (.iload_n 1, 1) := by decide +kernel
theorem dX6_strengthOf_1 : decode cX6_strengthOf 1 = .ok (.ifCond .lt 20, 3) := by decide +kernel
theorem dX6_strengthOf_4 : decode cX6_strengthOf 4 = .ok (.iload_n 1, 1) := by decide +kernel
theorem dX6_strengthOf_5 : decode cX6_strengthOf 5 = .ok (.aload_n 0, 1) := by decide +kernel
theorem dX6_strengthOf_6 : decode cX6_strengthOf 6 = .ok (.getfield 28, 3) := by decide +kernel
theorem dX6_strengthOf_9 : decode cX6_strengthOf 9 = .ok (.if_icmp .ge 12, 3) := by decide +kernel
theorem dX6_strengthOf_12 : decode cX6_strengthOf 12 = .ok (.aload_n 0, 1) := by decide +kernel
theorem dX6_strengthOf_13 : decode cX6_strengthOf 13 = .ok (.getfield 21, 3) := by decide +kernel
theorem dX6_strengthOf_16 : decode cX6_strengthOf 16 = .ok (.iload_n 1, 1) := by decide +kernel
theorem dX6_strengthOf_17 : decode cX6_strengthOf 17 = .ok (.iaload, 1) := by decide +kernel
theorem dX6_strengthOf_18 : decode cX6_strengthOf 18 = .ok (.goto 4, 3) := by decide +kernel
theorem dX6_strengthOf_21 : decode cX6_strengthOf 21 = .ok (.iconst 5, 1) := by decide +kernel
theorem dX6_strengthOf_22 : decode cX6_strengthOf 22 = .ok (.ireturn, 1) := by decide +kernel
theorem dX6_gainBy_0 : decode cX6_gainBy 0 = .ok (.iconst 1, 1) := by decide +kernel
theorem dX6_gainBy_1 : decode cX6_gainBy 1 = .ok (.iconst 2, 1) := by decide +kernel
theorem dX6_gainBy_2 : decode cX6_gainBy 2 = .ok (.iload_n 2, 1) := by decide +kernel
theorem dX6_gainBy_3 : decode cX6_gainBy 3 = .ok (.imul, 1) := by decide +kernel
theorem dX6_gainBy_4 : decode cX6_gainBy 4 = .ok (.aload_n 0, 1) := by decide +kernel
theorem dX6_gainBy_5 : decode cX6_gainBy 5 = .ok (.getfield 15, 3) := by decide +kernel
theorem dX6_gainBy_8 : decode cX6_gainBy 8 = .ok (.iload_n 1, 1) := by decide +kernel
theorem dX6_gainBy_9 : decode cX6_gainBy 9 = .ok (.iaload, 1) := by decide +kernel
theorem dX6_gainBy_10 : decode cX6_gainBy 10 = .ok (.isub, 1) := by decide +kernel
theorem dX6_gainBy_11 : decode cX6_gainBy 11 = .ok (.invokestatic 40, 3) := by decide +kernel
theorem dX6_gainBy_14 : decode cX6_gainBy 14 = .ok (.istore 4, 2) := by decide +kernel
theorem dX6_gainBy_16 : decode cX6_gainBy 16 = .ok (.iload_n 3, 1) := by decide +kernel
theorem dX6_gainBy_17 : decode cX6_gainBy 17 = .ok (.ifCond .eq 10, 3) := by decide +kernel
theorem dX6_gainBy_20 : decode cX6_gainBy 20 = .ok (.iload 4, 2) := by decide +kernel
theorem dX6_gainBy_22 : decode cX6_gainBy 22 = .ok (.iconst 3, 1) := by decide +kernel
theorem dX6_gainBy_23 : decode cX6_gainBy 23 = .ok (.iadd, 1) := by decide +kernel
theorem dX6_gainBy_24 : decode cX6_gainBy 24 = .ok (.goto 5, 3) := by decide +kernel
theorem dX6_gainBy_27 : decode cX6_gainBy 27 = .ok (.iload 4, 2) := by decide +kernel
theorem dX6_gainBy_29 : decode cX6_gainBy 29 = .ok (.ireturn, 1) := by decide +kernel
theorem dX6_minutesBy_0 : decode cX6_minutesBy 0 = .ok (.iload_n 1, 1) := by decide +kernel
theorem dX6_minutesBy_1 : decode cX6_minutesBy 1 = .ok (.iconst 1, 1) := by decide +kernel
theorem dX6_minutesBy_2 : decode cX6_minutesBy 2 = .ok (.if_icmp .ge 7, 3) := by decide +kernel
theorem dX6_minutesBy_5 : decode cX6_minutesBy 5 = .ok (.iconst 0, 1) := by decide +kernel
theorem dX6_minutesBy_6 : decode cX6_minutesBy 6 = .ok (.goto 13, 3) := by decide +kernel
theorem dX6_minutesBy_9 : decode cX6_minutesBy 9 = .ok (.aload_n 0, 1) := by decide +kernel
theorem dX6_minutesBy_10 : decode cX6_minutesBy 10 = .ok (.getfield 31, 3) := by decide +kernel
theorem dX6_minutesBy_13 : decode cX6_minutesBy 13 = .ok (.iload_n 1, 1) := by decide +kernel
theorem dX6_minutesBy_14 : decode cX6_minutesBy 14 = .ok (.iadd, 1) := by decide +kernel
theorem dX6_minutesBy_15 : decode cX6_minutesBy 15 = .ok (.iconst 1, 1) := by decide +kernel
theorem dX6_minutesBy_16 : decode cX6_minutesBy 16 = .ok (.isub, 1) := by decide +kernel
theorem dX6_minutesBy_17 : decode cX6_minutesBy 17 = .ok (.iload_n 1, 1) := by decide +kernel
theorem dX6_minutesBy_18 : decode cX6_minutesBy 18 = .ok (.idiv, 1) := by decide +kernel
theorem dX6_minutesBy_19 : decode cX6_minutesBy 19 = .ok (.ireturn, 1) := by decide +kernel
theorem dX7_init_0 : decode cX7_init 0 = .ok (.aload_n 0, 1) := by decide +kernel
theorem dX7_init_1 : decode cX7_init 1 = .ok (.invokespecial 3, 3) := by decide +kernel
theorem dX7_init_4 : decode cX7_init 4 = .ok (.aload_n 0, 1) := by decide +kernel
theorem dX7_init_5 : decode cX7_init 5 = .ok (.bipush 6, 2) := by decide +kernel
theorem dX7_init_7 : decode cX7_init 7 = .ok (.newarray .int, 2) := by decide +kernel
theorem dX7_init_9 : decode cX7_init 9 = .ok (.putfield 9, 3) := by decide +kernel
theorem dX7_init_12 : decode cX7_init 12 = .ok (.aload_n 0, 1) := by decide +kernel
theorem dX7_init_13 : decode cX7_init 13 = .ok (.bipush 6, 2) := by decide +kernel
theorem dX7_init_15 : decode cX7_init 15 = .ok (.newarray .int, 2) := by decide +kernel
theorem dX7_init_17 : decode cX7_init 17 = .ok (.putfield 15, 3) := by decide +kernel
theorem dX7_init_20 : decode cX7_init 20 = .ok (.return_, 1) := by decide +kernel
theorem dX7_note_0 : decode cX7_note 0 = .ok (.aload_n 0, 1) := by decide +kernel
theorem dX7_note_1 : decode cX7_note 1 = .ok (.getfield 18, 3) := by decide +kernel
theorem dX7_note_4 : decode cX7_note 4 = .ok (.bipush 6, 2) := by decide +kernel
theorem dX7_note_6 : decode cX7_note 6 = .ok (.if_icmp .lt 4, 3) := by decide +kernel
theorem dX7_note_9 : decode cX7_note 9 = .ok (.return_, 1) := by decide +kernel
theorem dX7_note_10 : decode cX7_note 10 = .ok (.aload_n 0, 1) := by decide +kernel
theorem dX7_note_11 : decode cX7_note 11 = .ok (.getfield 9, 3) := by decide +kernel
theorem dX7_note_14 : decode cX7_note 14 = .ok (.aload_n 0, 1) := by decide +kernel
theorem dX7_note_15 : decode cX7_note 15 = .ok (.getfield 18, 3) := by decide +kernel
theorem dX7_note_18 : decode cX7_note 18 = .ok (.iload_n 1, 1) := by decide +kernel
theorem dX7_note_19 : decode cX7_note 19 = .ok (.iastore, 1) := by decide +kernel
theorem dX7_note_20 : decode cX7_note 20 = .ok (.aload_n 0, 1) := by decide +kernel
theorem dX7_note_21 : decode cX7_note 21 = .ok (.getfield 15, 3) := by decide +kernel
theorem dX7_note_24 : decode cX7_note 24 = .ok (.aload_n 0, 1) := by decide +kernel
theorem dX7_note_25 : decode cX7_note 25 = .ok (.getfield 18, 3) := by decide +kernel
theorem dX7_note_28 : decode cX7_note 28 = .ok (.iload_n 2, 1) := by decide +kernel
theorem dX7_note_29 : decode cX7_note 29 = .ok (.iastore, 1) := by decide +kernel
theorem dX7_note_30 : decode cX7_note 30 = .ok (.aload_n 0, 1) := by decide +kernel
theorem dX7_note_31 : decode cX7_note 31 = .ok (.dup, 1) := by decide +kernel
theorem dX7_note_32 : decode cX7_note 32 = .ok (.getfield 18, 3) := by decide +kernel
theorem dX7_note_35 : decode cX7_note 35 = .ok (.iconst 1, 1) := by decide +kernel
theorem dX7_note_36 : decode cX7_note 36 = .ok (.iadd, 1) := by decide +kernel
theorem dX7_note_37 : decode cX7_note 37 = .ok (.putfield 18, 3) := by decide +kernel
theorem dX7_note_40 : decode cX7_note 40 = .ok (.return_, 1) := by decide +kernel
theorem dX7_suspects_0 : decode cX7_suspects 0 = .ok (.iconst 0, 1) := by decide +kernel
theorem dX7_suspects_1 : decode cX7_suspects 1 = .ok (.istore 4, 2) := by decide +kernel
theorem dX7_suspects_3 : decode cX7_suspects 3 = .ok (.iconst 0, 1) := by decide +kernel
theorem dX7_suspects_4 : decode cX7_suspects 4 = .ok (.istore 5, 2) := by decide +kernel
theorem dX7_suspects_6 : decode cX7_suspects 6 = .ok (.iload 5, 2) := by decide +kernel
theorem dX7_suspects_8 : decode cX7_suspects 8 = .ok (.aload_n 2, 1) := by decide +kernel
theorem dX7_suspects_9 : decode cX7_suspects 9 = .ok (.getfield 22, 3) := by decide +kernel
theorem dX7_suspects_12 : decode cX7_suspects 12 = .ok (.if_icmp .ge 47, 3) := by decide +kernel
theorem dX7_suspects_15 : decode cX7_suspects 15 = .ok (.aload_n 0, 1) := by decide +kernel
theorem dX7_suspects_16 : decode cX7_suspects 16 = .ok (.iconst 0, 1) := by decide +kernel
theorem dX7_suspects_17 : decode cX7_suspects 17 = .ok (.aload_n 2, 1) := by decide +kernel
theorem dX7_suspects_18 : decode cX7_suspects 18 = .ok (.aload_n 3, 1) := by decide +kernel
theorem dX7_suspects_19 : decode cX7_suspects 19 = .ok (.iload 5, 2) := by decide +kernel
theorem dX7_suspects_21 : decode cX7_suspects 21 = .ok (.invokevirtual 27, 3) := by decide +kernel
theorem dX7_suspects_24 : decode cX7_suspects 24 = .ok (.istore 6, 2) := by decide +kernel
theorem dX7_suspects_26 : decode cX7_suspects 26 = .ok (.iload 6, 2) := by decide +kernel
theorem dX7_suspects_28 : decode cX7_suspects 28 = .ok (.ifCond .ne 25, 3) := by decide +kernel
theorem dX7_suspects_31 : decode cX7_suspects 31 = .ok (.aload_n 0, 1) := by decide +kernel
theorem dX7_suspects_32 : decode cX7_suspects 32 = .ok (.iconst 1, 1) := by decide +kernel
theorem dX7_suspects_33 : decode cX7_suspects 33 = .ok (.aload_n 2, 1) := by decide +kernel
theorem dX7_suspects_34 : decode cX7_suspects 34 = .ok (.aload_n 3, 1) := by decide +kernel
theorem dX7_suspects_35 : decode cX7_suspects 35 = .ok (.iload 5, 2) := by decide +kernel
theorem dX7_suspects_37 : decode cX7_suspects 37 = .ok (.invokevirtual 27, 3) := by decide +kernel
theorem dX7_suspects_40 : decode cX7_suspects 40 = .ok (.iload_n 1, 1) := by decide +kernel
theorem dX7_suspects_41 : decode cX7_suspects 41 = .ok (.if_icmp .ne 12, 3) := by decide +kernel
theorem dX7_suspects_44 : decode cX7_suspects 44 = .ok (.iload 4, 2) := by decide +kernel
theorem dX7_suspects_46 : decode cX7_suspects 46 = .ok (.iconst 1, 1) := by decide +kernel
theorem dX7_suspects_47 : decode cX7_suspects 47 = .ok (.iload 5, 2) := by decide +kernel
theorem dX7_suspects_49 : decode cX7_suspects 49 = .ok (.ishl, 1) := by decide +kernel
theorem dX7_suspects_50 : decode cX7_suspects 50 = .ok (.ior, 1) := by decide +kernel
theorem dX7_suspects_51 : decode cX7_suspects 51 = .ok (.istore 4, 2) := by decide +kernel
theorem dX7_suspects_53 : decode cX7_suspects 53 = .ok (.iinc 5 1, 3) := by decide +kernel
theorem dX7_suspects_56 : decode cX7_suspects 56 = .ok (.goto (-50), 3) := by decide +kernel
theorem dX7_suspects_59 : decode cX7_suspects 59 = .ok (.iload 4, 2) := by decide +kernel
theorem dX7_suspects_61 : decode cX7_suspects 61 = .ok (.ireturn, 1) := by decide +kernel
theorem dX7_isAllAsIf_0 : decode cX7_isAllAsIf 0 = .ok (.aload_n 3, 1) := by decide +kernel
theorem dX7_isAllAsIf_1 : decode cX7_isAllAsIf 1 = .ok (.aload_n 2, 1) := by decide +kernel
theorem dX7_isAllAsIf_2 : decode cX7_isAllAsIf 2 = .ok (.iload 4, 2) := by decide +kernel
theorem dX7_isAllAsIf_4 : decode cX7_isAllAsIf 4 = .ok (.iload_n 1, 1) := by decide +kernel
theorem dX7_isAllAsIf_5 : decode cX7_isAllAsIf 5 = .ok (.invokevirtual 31, 3) := by decide +kernel
theorem dX7_isAllAsIf_8 : decode cX7_isAllAsIf 8 = .ok (.istore 5, 2) := by decide +kernel
theorem dX7_isAllAsIf_10 : decode cX7_isAllAsIf 10 = .ok (.iconst 0, 1) := by decide +kernel
theorem dX7_isAllAsIf_11 : decode cX7_isAllAsIf 11 = .ok (.istore 6, 2) := by decide +kernel
theorem dX7_isAllAsIf_13 : decode cX7_isAllAsIf 13 = .ok (.iload 6, 2) := by decide +kernel
theorem dX7_isAllAsIf_15 : decode cX7_isAllAsIf 15 = .ok (.aload_n 0, 1) := by decide +kernel
theorem dX7_isAllAsIf_16 : decode cX7_isAllAsIf 16 = .ok (.getfield 18, 3) := by decide +kernel
theorem dX7_isAllAsIf_19 : decode cX7_isAllAsIf 19 = .ok (.if_icmp .ge 35, 3) := by decide +kernel
theorem dX7_isAllAsIf_22 : decode cX7_isAllAsIf 22 = .ok (.aload_n 0, 1) := by decide +kernel
theorem dX7_isAllAsIf_23 : decode cX7_isAllAsIf 23 = .ok (.getfield 9, 3) := by decide +kernel
theorem dX7_isAllAsIf_26 : decode cX7_isAllAsIf 26 = .ok (.iload 6, 2) := by decide +kernel
theorem dX7_isAllAsIf_28 : decode cX7_isAllAsIf 28 = .ok (.iaload, 1) := by decide +kernel
theorem dX7_isAllAsIf_29 : decode cX7_isAllAsIf 29 = .ok (.iload 4, 2) := by decide +kernel
theorem dX7_isAllAsIf_31 : decode cX7_isAllAsIf 31 = .ok (.if_icmp .ne 17, 3) := by decide +kernel
theorem dX7_isAllAsIf_34 : decode cX7_isAllAsIf 34 = .ok (.aload_n 0, 1) := by decide +kernel
theorem dX7_isAllAsIf_35 : decode cX7_isAllAsIf 35 = .ok (.getfield 15, 3) := by decide +kernel
theorem dX7_isAllAsIf_38 : decode cX7_isAllAsIf 38 = .ok (.iload 6, 2) := by decide +kernel
theorem dX7_isAllAsIf_40 : decode cX7_isAllAsIf 40 = .ok (.iaload, 1) := by decide +kernel
theorem dX7_isAllAsIf_41 : decode cX7_isAllAsIf 41 = .ok (.iload 5, 2) := by decide +kernel
theorem dX7_isAllAsIf_43 : decode cX7_isAllAsIf 43 = .ok (.if_icmp .eq 5, 3) := by decide +kernel
theorem dX7_isAllAsIf_46 : decode cX7_isAllAsIf 46 = .ok (.iconst 0, 1) := by decide +kernel
theorem dX7_isAllAsIf_47 : decode cX7_isAllAsIf 47 = .ok (.ireturn, 1) := by decide +kernel
theorem dX7_isAllAsIf_48 : decode cX7_isAllAsIf 48 = .ok (.iinc 6 1, 3) := by decide +kernel
theorem dX7_isAllAsIf_51 : decode cX7_isAllAsIf 51 = .ok (.goto (-38), 3) := by decide +kernel
theorem dX7_isAllAsIf_54 : decode cX7_isAllAsIf 54 = .ok (.iconst 1, 1) := by decide +kernel
theorem dX7_isAllAsIf_55 : decode cX7_isAllAsIf 55 = .ok (.ireturn, 1) := by decide +kernel
theorem dX8_init_0 : decode cX8_init 0 = .ok (.aload_n 0, 1) := by decide +kernel
theorem dX8_init_1 : decode cX8_init 1 = .ok (.invokespecial 1, 3) := by decide +kernel
theorem dX8_init_4 : decode cX8_init 4 = .ok (.aload_n 0, 1) := by decide +kernel
theorem dX8_init_5 : decode cX8_init 5 = .ok (.new 7, 3) := by decide +kernel
theorem dX8_init_8 : decode cX8_init 8 = .ok (.dup, 1) := by decide +kernel
theorem dX8_init_9 : decode cX8_init 9 = .ok (.invokespecial 9, 3) := by decide +kernel
theorem dX8_init_12 : decode cX8_init 12 = .ok (.putfield 10, 3) := by decide +kernel
theorem dX8_init_15 : decode cX8_init 15 = .ok (.aload_n 0, 1) := by decide +kernel
theorem dX8_init_16 : decode cX8_init 16 = .ok (.new 16, 3) := by decide +kernel
theorem dX8_init_19 : decode cX8_init 19 = .ok (.dup, 1) := by decide +kernel
theorem dX8_init_20 : decode cX8_init 20 = .ok (.invokespecial 18, 3) := by decide +kernel
theorem dX8_init_23 : decode cX8_init 23 = .ok (.putfield 19, 3) := by decide +kernel
theorem dX8_init_26 : decode cX8_init 26 = .ok (.aload_n 0, 1) := by decide +kernel
theorem dX8_init_27 : decode cX8_init 27 = .ok (.new 23, 3) := by decide +kernel
theorem dX8_init_30 : decode cX8_init 30 = .ok (.dup, 1) := by decide +kernel
theorem dX8_init_31 : decode cX8_init 31 = .ok (.invokespecial 25, 3) := by decide +kernel
theorem dX8_init_34 : decode cX8_init 34 = .ok (.putfield 26, 3) := by decide +kernel
theorem dX8_init_37 : decode cX8_init 37 = .ok (.aload_n 0, 1) := by decide +kernel
theorem dX8_init_38 : decode cX8_init 38 = .ok (.new 23, 3) := by decide +kernel
theorem dX8_init_41 : decode cX8_init 41 = .ok (.dup, 1) := by decide +kernel
theorem dX8_init_42 : decode cX8_init 42 = .ok (.invokespecial 25, 3) := by decide +kernel
theorem dX8_init_45 : decode cX8_init 45 = .ok (.putfield 30, 3) := by decide +kernel
theorem dX8_init_48 : decode cX8_init 48 = .ok (.aload_n 0, 1) := by decide +kernel
theorem dX8_init_49 : decode cX8_init 49 = .ok (.new 33, 3) := by decide +kernel
theorem dX8_init_52 : decode cX8_init 52 = .ok (.dup, 1) := by decide +kernel
theorem dX8_init_53 : decode cX8_init 53 = .ok (.invokespecial 35, 3) := by decide +kernel
theorem dX8_init_56 : decode cX8_init 56 = .ok (.putfield 36, 3) := by decide +kernel
theorem dX8_init_59 : decode cX8_init 59 = .ok (.aload_n 0, 1) := by decide +kernel
theorem dX8_init_60 : decode cX8_init 60 = .ok (.new 40, 3) := by decide +kernel
theorem dX8_init_63 : decode cX8_init 63 = .ok (.dup, 1) := by decide +kernel
theorem dX8_init_64 : decode cX8_init 64 = .ok (.invokespecial 42, 3) := by decide +kernel
theorem dX8_init_67 : decode cX8_init 67 = .ok (.putfield 43, 3) := by decide +kernel
theorem dX8_init_70 : decode cX8_init 70 = .ok (.aload_n 0, 1) := by decide +kernel
theorem dX8_init_71 : decode cX8_init 71 = .ok (.new 47, 3) := by decide +kernel
theorem dX8_init_74 : decode cX8_init 74 = .ok (.dup, 1) := by decide +kernel
theorem dX8_init_75 : decode cX8_init 75 = .ok (.invokespecial 49, 3) := by decide +kernel
theorem dX8_init_78 : decode cX8_init 78 = .ok (.putfield 50, 3) := by decide +kernel
theorem dX8_init_81 : decode cX8_init 81 = .ok (.aload_n 0, 1) := by decide +kernel
theorem dX8_init_82 : decode cX8_init 82 = .ok (.new 54, 3) := by decide +kernel
theorem dX8_init_85 : decode cX8_init 85 = .ok (.dup, 1) := by decide +kernel
theorem dX8_init_86 : decode cX8_init 86 = .ok (.invokespecial 56, 3) := by decide +kernel
theorem dX8_init_89 : decode cX8_init 89 = .ok (.putfield 57, 3) := by decide +kernel
theorem dX8_init_92 : decode cX8_init 92 = .ok (.aload_n 0, 1) := by decide +kernel
theorem dX8_init_93 : decode cX8_init 93 = .ok (.aload_n 0, 1) := by decide +kernel
theorem dX8_init_94 : decode cX8_init 94 = .ok (.getfield 57, 3) := by decide +kernel
theorem dX8_init_97 : decode cX8_init 97 = .ok (.getfield 61, 3) := by decide +kernel
theorem dX8_init_100 : decode cX8_init 100 = .ok (.putfield 64, 3) := by decide +kernel
theorem dX8_init_103 : decode cX8_init 103 = .ok (.aload_n 0, 1) := by decide +kernel
theorem dX8_init_104 : decode cX8_init 104 = .ok (.aload_n 0, 1) := by decide +kernel
theorem dX8_init_105 : decode cX8_init 105 = .ok (.getfield 57, 3) := by decide +kernel
theorem dX8_init_108 : decode cX8_init 108 = .ok (.getfield 65, 3) := by decide +kernel
theorem dX8_init_111 : decode cX8_init 111 = .ok (.putfield 68, 3) := by decide +kernel
theorem dX8_init_114 : decode cX8_init 114 = .ok (.return_, 1) := by decide +kernel
theorem dX8_type_0 : decode cX8_type 0 = .ok (.iload_n 1, 1) := by decide +kernel
theorem dX8_type_1 : decode cX8_type 1 = .ok (.ifCond .lt 10, 3) := by decide +kernel
theorem dX8_type_4 : decode cX8_type 4 = .ok (.iload_n 1, 1) := by decide +kernel
theorem dX8_type_5 : decode cX8_type 5 = .ok (.sipush 255, 3) := by decide +kernel
theorem dX8_type_8 : decode cX8_type 8 = .ok (.if_icmp .le 5, 3) := by decide +kernel
theorem dX8_type_11 : decode cX8_type 11 = .ok (.iconst (-1), 1) := by decide +kernel
theorem dX8_type_12 : decode cX8_type 12 = .ok (.ireturn, 1) := by decide +kernel
theorem dX8_type_13 : decode cX8_type 13 = .ok (.aload_n 0, 1) := by decide +kernel
theorem dX8_type_14 : decode cX8_type 14 = .ok (.getfield 10, 3) := by decide +kernel
theorem dX8_type_17 : decode cX8_type 17 = .ok (.getfield 69, 3) := by decide +kernel
theorem dX8_type_20 : decode cX8_type 20 = .ok (.bipush 120, 2) := by decide +kernel
theorem dX8_type_22 : decode cX8_type 22 = .ok (.if_icmp .lt 6, 3) := by decide +kernel
theorem dX8_type_25 : decode cX8_type 25 = .ok (.bipush (-3), 2) := by decide +kernel
theorem dX8_type_27 : decode cX8_type 27 = .ok (.ireturn, 1) := by decide +kernel
theorem dX8_type_28 : decode cX8_type 28 = .ok (.aload_n 0, 1) := by decide +kernel
theorem dX8_type_29 : decode cX8_type 29 = .ok (.getfield 10, 3) := by decide +kernel
theorem dX8_type_32 : decode cX8_type 32 = .ok (.iload_n 1, 1) := by decide +kernel
theorem dX8_type_33 : decode cX8_type 33 = .ok (.invokevirtual 73, 3) := by decide +kernel
theorem dX8_type_36 : decode cX8_type 36 = .ok (.aload_n 0, 1) := by decide +kernel
theorem dX8_type_37 : decode cX8_type 37 = .ok (.getfield 10, 3) := by decide +kernel
theorem dX8_type_40 : decode cX8_type 40 = .ok (.getfield 69, 3) := by decide +kernel
theorem dX8_type_43 : decode cX8_type 43 = .ok (.ireturn, 1) := by decide +kernel
theorem dX8_clear_0 : decode cX8_clear 0 = .ok (.aload_n 0, 1) := by decide +kernel
theorem dX8_clear_1 : decode cX8_clear 1 = .ok (.getfield 10, 3) := by decide +kernel
theorem dX8_clear_4 : decode cX8_clear 4 = .ok (.getfield 69, 3) := by decide +kernel
theorem dX8_clear_7 : decode cX8_clear 7 = .ok (.istore_n 1, 1) := by decide +kernel
theorem dX8_clear_8 : decode cX8_clear 8 = .ok (.aload_n 0, 1) := by decide +kernel
theorem dX8_clear_9 : decode cX8_clear 9 = .ok (.getfield 10, 3) := by decide +kernel
theorem dX8_clear_12 : decode cX8_clear 12 = .ok (.iconst 0, 1) := by decide +kernel
theorem dX8_clear_13 : decode cX8_clear 13 = .ok (.putfield 69, 3) := by decide +kernel
theorem dX8_clear_16 : decode cX8_clear 16 = .ok (.iload_n 1, 1) := by decide +kernel
theorem dX8_clear_17 : decode cX8_clear 17 = .ok (.ireturn, 1) := by decide +kernel
theorem dX8_spa_0 : decode cX8_spa 0 = .ok (.aload_n 0, 1) := by decide +kernel
theorem dX8_spa_1 : decode cX8_spa 1 = .ok (.getfield 10, 3) := by decide +kernel
theorem dX8_spa_4 : decode cX8_spa 4 = .ok (.aload_n 0, 1) := by decide +kernel
theorem dX8_spa_5 : decode cX8_spa 5 = .ok (.getfield 19, 3) := by decide +kernel
theorem dX8_spa_8 : decode cX8_spa 8 = .ok (.invokevirtual 77, 3) := by decide +kernel
theorem dX8_spa_11 : decode cX8_spa 11 = .ok (.istore_n 1, 1) := by decide +kernel
theorem dX8_spa_12 : decode cX8_spa 12 = .ok (.iload_n 1, 1) := by decide +kernel
theorem dX8_spa_13 : decode cX8_spa 13 = .ok (.ifCond .ge 5, 3) := by decide +kernel
theorem dX8_spa_16 : decode cX8_spa 16 = .ok (.iload_n 1, 1) := by decide +kernel
theorem dX8_spa_17 : decode cX8_spa 17 = .ok (.ireturn, 1) := by decide +kernel
theorem dX8_spa_18 : decode cX8_spa 18 = .ok (.aload_n 0, 1) := by decide +kernel
theorem dX8_spa_19 : decode cX8_spa 19 = .ok (.getfield 64, 3) := by decide +kernel
theorem dX8_spa_22 : decode cX8_spa 22 = .ok (.aload_n 0, 1) := by decide +kernel
theorem dX8_spa_23 : decode cX8_spa 23 = .ok (.getfield 19, 3) := by decide +kernel
theorem dX8_spa_26 : decode cX8_spa 26 = .ok (.invokevirtual 81, 3) := by decide +kernel
theorem dX8_spa_29 : decode cX8_spa 29 = .ok (.aload_n 0, 1) := by decide +kernel
theorem dX8_spa_30 : decode cX8_spa 30 = .ok (.getfield 68, 3) := by decide +kernel
theorem dX8_spa_33 : decode cX8_spa 33 = .ok (.invokevirtual 85, 3) := by decide +kernel
theorem dX8_spa_36 : decode cX8_spa 36 = .ok (.aload_n 0, 1) := by decide +kernel
theorem dX8_spa_37 : decode cX8_spa 37 = .ok (.getfield 36, 3) := by decide +kernel
theorem dX8_spa_40 : decode cX8_spa 40 = .ok (.iconst 0, 1) := by decide +kernel
theorem dX8_spa_41 : decode cX8_spa 41 = .ok (.putfield 88, 3) := by decide +kernel
theorem dX8_spa_44 : decode cX8_spa 44 = .ok (.aload_n 0, 1) := by decide +kernel
theorem dX8_spa_45 : decode cX8_spa 45 = .ok (.getfield 43, 3) := by decide +kernel
theorem dX8_spa_48 : decode cX8_spa 48 = .ok (.iconst 0, 1) := by decide +kernel
theorem dX8_spa_49 : decode cX8_spa 49 = .ok (.putfield 91, 3) := by decide +kernel
theorem dX8_spa_52 : decode cX8_spa 52 = .ok (.aload_n 0, 1) := by decide +kernel
theorem dX8_spa_53 : decode cX8_spa 53 = .ok (.getfield 26, 3) := by decide +kernel
theorem dX8_spa_56 : decode cX8_spa 56 = .ok (.iconst 0, 1) := by decide +kernel
theorem dX8_spa_57 : decode cX8_spa 57 = .ok (.putfield 92, 3) := by decide +kernel
theorem dX8_spa_60 : decode cX8_spa 60 = .ok (.aload_n 0, 1) := by decide +kernel
theorem dX8_spa_61 : decode cX8_spa 61 = .ok (.getfield 30, 3) := by decide +kernel
theorem dX8_spa_64 : decode cX8_spa 64 = .ok (.iconst 0, 1) := by decide +kernel
theorem dX8_spa_65 : decode cX8_spa 65 = .ok (.putfield 92, 3) := by decide +kernel
theorem dX8_spa_68 : decode cX8_spa 68 = .ok (.aload_n 0, 1) := by decide +kernel
theorem dX8_spa_69 : decode cX8_spa 69 = .ok (.getfield 10, 3) := by decide +kernel
theorem dX8_spa_72 : decode cX8_spa 72 = .ok (.iconst 0, 1) := by decide +kernel
theorem dX8_spa_73 : decode cX8_spa 73 = .ok (.putfield 69, 3) := by decide +kernel
theorem dX8_spa_76 : decode cX8_spa 76 = .ok (.iload_n 1, 1) := by decide +kernel
theorem dX8_spa_77 : decode cX8_spa 77 = .ok (.ireturn, 1) := by decide +kernel
theorem dX8_chair_0 : decode cX8_chair 0 = .ok (.aload_n 0, 1) := by decide +kernel
theorem dX8_chair_1 : decode cX8_chair 1 = .ok (.iload_n 1, 1) := by decide +kernel
theorem dX8_chair_2 : decode cX8_chair 2 = .ok (.invokevirtual 96, 3) := by decide +kernel
theorem dX8_chair_5 : decode cX8_chair 5 = .ok (.ifCond .ne 5, 3) := by decide +kernel
theorem dX8_chair_8 : decode cX8_chair 8 = .ok (.iconst (-1), 1) := by decide +kernel
theorem dX8_chair_9 : decode cX8_chair 9 = .ok (.ireturn, 1) := by decide +kernel
theorem dX8_chair_10 : decode cX8_chair 10 = .ok (.iload_n 2, 1) := by decide +kernel
theorem dX8_chair_11 : decode cX8_chair 11 = .ok (.tableswitch 122 0 6 #[41, 51, 61, 71, 81, 99, 112], 41) := by decide +kernel
theorem dX8_chair_52 : decode cX8_chair 52 = .ok (.aload_n 0, 1) := by decide +kernel
theorem dX8_chair_53 : decode cX8_chair 53 = .ok (.getfield 64, 3) := by decide +kernel
theorem dX8_chair_56 : decode cX8_chair 56 = .ok (.getfield 100, 3) := by decide +kernel
theorem dX8_chair_59 : decode cX8_chair 59 = .ok (.iload_n 1, 1) := by decide +kernel
theorem dX8_chair_60 : decode cX8_chair 60 = .ok (.iaload, 1) := by decide +kernel
theorem dX8_chair_61 : decode cX8_chair 61 = .ok (.ireturn, 1) := by decide +kernel
theorem dX8_chair_62 : decode cX8_chair 62 = .ok (.aload_n 0, 1) := by decide +kernel
theorem dX8_chair_63 : decode cX8_chair 63 = .ok (.getfield 64, 3) := by decide +kernel
theorem dX8_chair_66 : decode cX8_chair 66 = .ok (.getfield 104, 3) := by decide +kernel
theorem dX8_chair_69 : decode cX8_chair 69 = .ok (.iload_n 1, 1) := by decide +kernel
theorem dX8_chair_70 : decode cX8_chair 70 = .ok (.iaload, 1) := by decide +kernel
theorem dX8_chair_71 : decode cX8_chair 71 = .ok (.ireturn, 1) := by decide +kernel
theorem dX8_chair_72 : decode cX8_chair 72 = .ok (.aload_n 0, 1) := by decide +kernel
theorem dX8_chair_73 : decode cX8_chair 73 = .ok (.getfield 68, 3) := by decide +kernel
theorem dX8_chair_76 : decode cX8_chair 76 = .ok (.getfield 107, 3) := by decide +kernel
theorem dX8_chair_79 : decode cX8_chair 79 = .ok (.iload_n 1, 1) := by decide +kernel
theorem dX8_chair_80 : decode cX8_chair 80 = .ok (.iaload, 1) := by decide +kernel
theorem dX8_chair_81 : decode cX8_chair 81 = .ok (.ireturn, 1) := by decide +kernel
theorem dX8_chair_82 : decode cX8_chair 82 = .ok (.aload_n 0, 1) := by decide +kernel
theorem dX8_chair_83 : decode cX8_chair 83 = .ok (.getfield 68, 3) := by decide +kernel
theorem dX8_chair_86 : decode cX8_chair 86 = .ok (.getfield 110, 3) := by decide +kernel
theorem dX8_chair_89 : decode cX8_chair 89 = .ok (.iload_n 1, 1) := by decide +kernel
theorem dX8_chair_90 : decode cX8_chair 90 = .ok (.iaload, 1) := by decide +kernel
theorem dX8_chair_91 : decode cX8_chair 91 = .ok (.ireturn, 1) := by decide +kernel
theorem dX8_chair_92 : decode cX8_chair 92 = .ok (.aload_n 0, 1) := by decide +kernel
theorem dX8_chair_93 : decode cX8_chair 93 = .ok (.getfield 68, 3) := by decide +kernel
theorem dX8_chair_96 : decode cX8_chair 96 = .ok (.getfield 113, 3) := by decide +kernel
theorem dX8_chair_99 : decode cX8_chair 99 = .ok (.iload_n 1, 1) := by decide +kernel
theorem dX8_chair_100 : decode cX8_chair 100 = .ok (.baload, 1) := by decide +kernel
theorem dX8_chair_101 : decode cX8_chair 101 = .ok (.ifCond .eq 7, 3) := by decide +kernel
theorem dX8_chair_104 : decode cX8_chair 104 = .ok (.iconst 1, 1) := by decide +kernel
theorem dX8_chair_105 : decode cX8_chair 105 = .ok (.goto 4, 3) := by decide +kernel
theorem dX8_chair_108 : decode cX8_chair 108 = .ok (.iconst 0, 1) := by decide +kernel
theorem dX8_chair_109 : decode cX8_chair 109 = .ok (.ireturn, 1) := by decide +kernel
theorem dX8_chair_110 : decode cX8_chair 110 = .ok (.aload_n 0, 1) := by decide +kernel
theorem dX8_chair_111 : decode cX8_chair 111 = .ok (.getfield 68, 3) := by decide +kernel
theorem dX8_chair_114 : decode cX8_chair 114 = .ok (.aload_n 0, 1) := by decide +kernel
theorem dX8_chair_115 : decode cX8_chair 115 = .ok (.getfield 64, 3) := by decide +kernel
theorem dX8_chair_118 : decode cX8_chair 118 = .ok (.iload_n 1, 1) := by decide +kernel
theorem dX8_chair_119 : decode cX8_chair 119 = .ok (.invokevirtual 117, 3) := by decide +kernel
theorem dX8_chair_122 : decode cX8_chair 122 = .ok (.ireturn, 1) := by decide +kernel
theorem dX8_chair_123 : decode cX8_chair 123 = .ok (.aload_n 0, 1) := by decide +kernel
theorem dX8_chair_124 : decode cX8_chair 124 = .ok (.getfield 68, 3) := by decide +kernel
theorem dX8_chair_127 : decode cX8_chair 127 = .ok (.getfield 121, 3) := by decide +kernel
theorem dX8_chair_130 : decode cX8_chair 130 = .ok (.iload_n 1, 1) := by decide +kernel
theorem dX8_chair_131 : decode cX8_chair 131 = .ok (.iaload, 1) := by decide +kernel
theorem dX8_chair_132 : decode cX8_chair 132 = .ok (.ireturn, 1) := by decide +kernel
theorem dX8_chair_133 : decode cX8_chair 133 = .ok (.iconst (-1), 1) := by decide +kernel
theorem dX8_chair_134 : decode cX8_chair 134 = .ok (.ireturn, 1) := by decide +kernel
theorem dX8_pusher_0 : decode cX8_pusher 0 = .ok (.aload_n 0, 1) := by decide +kernel
theorem dX8_pusher_1 : decode cX8_pusher 1 = .ok (.iload_n 1, 1) := by decide +kernel
theorem dX8_pusher_2 : decode cX8_pusher 2 = .ok (.invokevirtual 96, 3) := by decide +kernel
theorem dX8_pusher_5 : decode cX8_pusher 5 = .ok (.ifCond .eq 15, 3) := by decide +kernel
theorem dX8_pusher_8 : decode cX8_pusher 8 = .ok (.aload_n 0, 1) := by decide +kernel
theorem dX8_pusher_9 : decode cX8_pusher 9 = .ok (.getfield 64, 3) := by decide +kernel
theorem dX8_pusher_12 : decode cX8_pusher 12 = .ok (.getfield 124, 3) := by decide +kernel
theorem dX8_pusher_15 : decode cX8_pusher 15 = .ok (.iload_n 1, 1) := by decide +kernel
theorem dX8_pusher_16 : decode cX8_pusher 16 = .ok (.iaload, 1) := by decide +kernel
theorem dX8_pusher_17 : decode cX8_pusher 17 = .ok (.goto 4, 3) := by decide +kernel
theorem dX8_pusher_20 : decode cX8_pusher 20 = .ok (.iconst (-1), 1) := by decide +kernel
theorem dX8_pusher_21 : decode cX8_pusher 21 = .ok (.ireturn, 1) := by decide +kernel
theorem dX8_cell_0 : decode cX8_cell 0 = .ok (.iload_n 1, 1) := by decide +kernel
theorem dX8_cell_1 : decode cX8_cell 1 = .ok (.ifCond .lt 26, 3) := by decide +kernel
theorem dX8_cell_4 : decode cX8_cell 4 = .ok (.iload_n 1, 1) := by decide +kernel
theorem dX8_cell_5 : decode cX8_cell 5 = .ok (.aload_n 0, 1) := by decide +kernel
theorem dX8_cell_6 : decode cX8_cell 6 = .ok (.getfield 64, 3) := by decide +kernel
theorem dX8_cell_9 : decode cX8_cell 9 = .ok (.getfield 127, 3) := by decide +kernel
theorem dX8_cell_12 : decode cX8_cell 12 = .ok (.if_icmp .ge 15, 3) := by decide +kernel
theorem dX8_cell_15 : decode cX8_cell 15 = .ok (.aload_n 0, 1) := by decide +kernel
theorem dX8_cell_16 : decode cX8_cell 16 = .ok (.getfield 64, 3) := by decide +kernel
theorem dX8_cell_19 : decode cX8_cell 19 = .ok (.getfield 130, 3) := by decide +kernel
theorem dX8_cell_22 : decode cX8_cell 22 = .ok (.iload_n 1, 1) := by decide +kernel
theorem dX8_cell_23 : decode cX8_cell 23 = .ok (.iaload, 1) := by decide +kernel
theorem dX8_cell_24 : decode cX8_cell 24 = .ok (.goto 4, 3) := by decide +kernel
theorem dX8_cell_27 : decode cX8_cell 27 = .ok (.iconst (-1), 1) := by decide +kernel
theorem dX8_cell_28 : decode cX8_cell 28 = .ok (.ireturn, 1) := by decide +kernel
theorem dX8_now_0 : decode cX8_now 0 = .ok (.iload_n 1, 1) := by decide +kernel
theorem dX8_now_1 : decode cX8_now 1 = .ok (.tableswitch 178 0 6 #[43, 51, 74, 96, 108, 139, 170], 43) := by decide +kernel
theorem dX8_now_44 : decode cX8_now 44 = .ok (.aload_n 0, 1) := by decide +kernel
theorem dX8_now_45 : decode cX8_now 45 = .ok (.getfield 68, 3) := by decide +kernel
theorem dX8_now_48 : decode cX8_now 48 = .ok (.getfield 133, 3) := by decide +kernel
theorem dX8_now_51 : decode cX8_now 51 = .ok (.ireturn, 1) := by decide +kernel
theorem dX8_now_52 : decode cX8_now 52 = .ok (.aload_n 0, 1) := by decide +kernel
theorem dX8_now_53 : decode cX8_now 53 = .ok (.getfield 64, 3) := by decide +kernel
theorem dX8_now_56 : decode cX8_now 56 = .ok (.invokevirtual 136, 3) := by decide +kernel
theorem dX8_now_59 : decode cX8_now 59 = .ok (.ifCond .eq 13, 3) := by decide +kernel
theorem dX8_now_62 : decode cX8_now 62 = .ok (.aload_n 0, 1) := by decide +kernel
theorem dX8_now_63 : decode cX8_now 63 = .ok (.getfield 57, 3) := by decide +kernel
theorem dX8_now_66 : decode cX8_now 66 = .ok (.invokevirtual 140, 3) := by decide +kernel
theorem dX8_now_69 : decode cX8_now 69 = .ok (.goto 5, 3) := by decide +kernel
theorem dX8_now_72 : decode cX8_now 72 = .ok (.bipush (-9), 2) := by decide +kernel
theorem dX8_now_74 : decode cX8_now 74 = .ok (.ireturn, 1) := by decide +kernel
theorem dX8_now_75 : decode cX8_now 75 = .ok (.aload_n 0, 1) := by decide +kernel
theorem dX8_now_76 : decode cX8_now 76 = .ok (.getfield 64, 3) := by decide +kernel
theorem dX8_now_79 : decode cX8_now 79 = .ok (.invokevirtual 136, 3) := by decide +kernel
theorem dX8_now_82 : decode cX8_now 82 = .ok (.ifCond .eq 13, 3) := by decide +kernel
theorem dX8_now_85 : decode cX8_now 85 = .ok (.aload_n 0, 1) := by decide +kernel
theorem dX8_now_86 : decode cX8_now 86 = .ok (.getfield 57, 3) := by decide +kernel
theorem dX8_now_89 : decode cX8_now 89 = .ok (.invokevirtual 144, 3) := by decide +kernel
theorem dX8_now_92 : decode cX8_now 92 = .ok (.goto 4, 3) := by decide +kernel
theorem dX8_now_95 : decode cX8_now 95 = .ok (.iconst 0, 1) := by decide +kernel
theorem dX8_now_96 : decode cX8_now 96 = .ok (.ireturn, 1) := by decide +kernel
theorem dX8_now_97 : decode cX8_now 97 = .ok (.aload_n 0, 1) := by decide +kernel
theorem dX8_now_98 : decode cX8_now 98 = .ok (.getfield 68, 3) := by decide +kernel
theorem dX8_now_101 : decode cX8_now 101 = .ok (.aload_n 0, 1) := by decide +kernel
theorem dX8_now_102 : decode cX8_now 102 = .ok (.getfield 64, 3) := by decide +kernel
theorem dX8_now_105 : decode cX8_now 105 = .ok (.invokevirtual 147, 3) := by decide +kernel
theorem dX8_now_108 : decode cX8_now 108 = .ok (.ireturn, 1) := by decide +kernel
theorem dX8_now_109 : decode cX8_now 109 = .ok (.aload_n 0, 1) := by decide +kernel
theorem dX8_now_110 : decode cX8_now 110 = .ok (.getfield 64, 3) := by decide +kernel
theorem dX8_now_113 : decode cX8_now 113 = .ok (.invokevirtual 136, 3) := by decide +kernel
theorem dX8_now_116 : decode cX8_now 116 = .ok (.ifCond .eq 22, 3) := by decide +kernel
theorem dX8_now_119 : decode cX8_now 119 = .ok (.aload_n 0, 1) := by decide +kernel
theorem dX8_now_120 : decode cX8_now 120 = .ok (.getfield 43, 3) := by decide +kernel
theorem dX8_now_123 : decode cX8_now 123 = .ok (.iconst 1, 1) := by decide +kernel
theorem dX8_now_124 : decode cX8_now 124 = .ok (.aload_n 0, 1) := by decide +kernel
theorem dX8_now_125 : decode cX8_now 125 = .ok (.getfield 64, 3) := by decide +kernel
theorem dX8_now_128 : decode cX8_now 128 = .ok (.aload_n 0, 1) := by decide +kernel
theorem dX8_now_129 : decode cX8_now 129 = .ok (.getfield 68, 3) := by decide +kernel
theorem dX8_now_132 : decode cX8_now 132 = .ok (.invokevirtual 150, 3) := by decide +kernel
theorem dX8_now_135 : decode cX8_now 135 = .ok (.goto 4, 3) := by decide +kernel
theorem dX8_now_138 : decode cX8_now 138 = .ok (.iconst 0, 1) := by decide +kernel
theorem dX8_now_139 : decode cX8_now 139 = .ok (.ireturn, 1) := by decide +kernel
theorem dX8_now_140 : decode cX8_now 140 = .ok (.aload_n 0, 1) := by decide +kernel
theorem dX8_now_141 : decode cX8_now 141 = .ok (.getfield 64, 3) := by decide +kernel
theorem dX8_now_144 : decode cX8_now 144 = .ok (.invokevirtual 136, 3) := by decide +kernel
theorem dX8_now_147 : decode cX8_now 147 = .ok (.ifCond .eq 22, 3) := by decide +kernel
theorem dX8_now_150 : decode cX8_now 150 = .ok (.aload_n 0, 1) := by decide +kernel
theorem dX8_now_151 : decode cX8_now 151 = .ok (.getfield 43, 3) := by decide +kernel
theorem dX8_now_154 : decode cX8_now 154 = .ok (.iconst 0, 1) := by decide +kernel
theorem dX8_now_155 : decode cX8_now 155 = .ok (.aload_n 0, 1) := by decide +kernel
theorem dX8_now_156 : decode cX8_now 156 = .ok (.getfield 64, 3) := by decide +kernel
theorem dX8_now_159 : decode cX8_now 159 = .ok (.aload_n 0, 1) := by decide +kernel
theorem dX8_now_160 : decode cX8_now 160 = .ok (.getfield 68, 3) := by decide +kernel
theorem dX8_now_163 : decode cX8_now 163 = .ok (.invokevirtual 150, 3) := by decide +kernel
theorem dX8_now_166 : decode cX8_now 166 = .ok (.goto 4, 3) := by decide +kernel
theorem dX8_now_169 : decode cX8_now 169 = .ok (.iconst 0, 1) := by decide +kernel
theorem dX8_now_170 : decode cX8_now 170 = .ok (.ireturn, 1) := by decide +kernel
theorem dX8_now_171 : decode cX8_now 171 = .ok (.aload_n 0, 1) := by decide +kernel
theorem dX8_now_172 : decode cX8_now 172 = .ok (.getfield 36, 3) := by decide +kernel
theorem dX8_now_175 : decode cX8_now 175 = .ok (.getfield 88, 3) := by decide +kernel
theorem dX8_now_178 : decode cX8_now 178 = .ok (.ireturn, 1) := by decide +kernel
theorem dX8_now_179 : decode cX8_now 179 = .ok (.iconst (-1), 1) := by decide +kernel
theorem dX8_now_180 : decode cX8_now 180 = .ok (.ireturn, 1) := by decide +kernel
theorem dX8_tuesday_0 : decode cX8_tuesday 0 = .ok (.aload_n 0, 1) := by decide +kernel
theorem dX8_tuesday_1 : decode cX8_tuesday 1 = .ok (.getfield 64, 3) := by decide +kernel
theorem dX8_tuesday_4 : decode cX8_tuesday 4 = .ok (.invokevirtual 136, 3) := by decide +kernel
theorem dX8_tuesday_7 : decode cX8_tuesday 7 = .ok (.ifCond .eq 16, 3) := by decide +kernel
theorem dX8_tuesday_10 : decode cX8_tuesday 10 = .ok (.aload_n 0, 1) := by decide +kernel
theorem dX8_tuesday_11 : decode cX8_tuesday 11 = .ok (.getfield 68, 3) := by decide +kernel
theorem dX8_tuesday_14 : decode cX8_tuesday 14 = .ok (.getfield 133, 3) := by decide +kernel
theorem dX8_tuesday_17 : decode cX8_tuesday 17 = .ok (.sipush 999, 3) := by decide +kernel
theorem dX8_tuesday_20 : decode cX8_tuesday 20 = .ok (.if_icmp .lt 6, 3) := by decide +kernel
theorem dX8_tuesday_23 : decode cX8_tuesday 23 = .ok (.bipush (-2), 2) := by decide +kernel
theorem dX8_tuesday_25 : decode cX8_tuesday 25 = .ok (.ireturn, 1) := by decide +kernel
theorem dX8_tuesday_26 : decode cX8_tuesday 26 = .ok (.aload_n 0, 1) := by decide +kernel
theorem dX8_tuesday_27 : decode cX8_tuesday 27 = .ok (.getfield 57, 3) := by decide +kernel
theorem dX8_tuesday_30 : decode cX8_tuesday 30 = .ok (.invokevirtual 140, 3) := by decide +kernel
theorem dX8_tuesday_33 : decode cX8_tuesday 33 = .ok (.istore_n 1, 1) := by decide +kernel
theorem dX8_tuesday_34 : decode cX8_tuesday 34 = .ok (.aload_n 0, 1) := by decide +kernel
theorem dX8_tuesday_35 : decode cX8_tuesday 35 = .ok (.iload_n 1, 1) := by decide +kernel
theorem dX8_tuesday_36 : decode cX8_tuesday 36 = .ok (.invokevirtual 96, 3) := by decide +kernel
theorem dX8_tuesday_39 : decode cX8_tuesday 39 = .ok (.ifCond .ne 6, 3) := by decide +kernel
theorem dX8_tuesday_42 : decode cX8_tuesday 42 = .ok (.bipush (-2), 2) := by decide +kernel
theorem dX8_tuesday_44 : decode cX8_tuesday 44 = .ok (.ireturn, 1) := by decide +kernel
theorem dX8_tuesday_45 : decode cX8_tuesday 45 = .ok (.aload_n 0, 1) := by decide +kernel
theorem dX8_tuesday_46 : decode cX8_tuesday 46 = .ok (.getfield 68, 3) := by decide +kernel
theorem dX8_tuesday_49 : decode cX8_tuesday 49 = .ok (.getfield 121, 3) := by decide +kernel
theorem dX8_tuesday_52 : decode cX8_tuesday 52 = .ok (.iload_n 1, 1) := by decide +kernel
theorem dX8_tuesday_53 : decode cX8_tuesday 53 = .ok (.dup2, 1) := by decide +kernel
theorem dX8_tuesday_54 : decode cX8_tuesday 54 = .ok (.iaload, 1) := by decide +kernel
theorem dX8_tuesday_55 : decode cX8_tuesday 55 = .ok (.iconst 1, 1) := by decide +kernel
theorem dX8_tuesday_56 : decode cX8_tuesday 56 = .ok (.iadd, 1) := by decide +kernel
theorem dX8_tuesday_57 : decode cX8_tuesday 57 = .ok (.iastore, 1) := by decide +kernel
theorem dX8_tuesday_58 : decode cX8_tuesday 58 = .ok (.aload_n 0, 1) := by decide +kernel
theorem dX8_tuesday_59 : decode cX8_tuesday 59 = .ok (.getfield 68, 3) := by decide +kernel
theorem dX8_tuesday_62 : decode cX8_tuesday 62 = .ok (.dup, 1) := by decide +kernel
theorem dX8_tuesday_63 : decode cX8_tuesday 63 = .ok (.getfield 133, 3) := by decide +kernel
theorem dX8_tuesday_66 : decode cX8_tuesday 66 = .ok (.iconst 1, 1) := by decide +kernel
theorem dX8_tuesday_67 : decode cX8_tuesday 67 = .ok (.iadd, 1) := by decide +kernel
theorem dX8_tuesday_68 : decode cX8_tuesday 68 = .ok (.putfield 133, 3) := by decide +kernel
theorem dX8_tuesday_71 : decode cX8_tuesday 71 = .ok (.aload_n 0, 1) := by decide +kernel
theorem dX8_tuesday_72 : decode cX8_tuesday 72 = .ok (.getfield 36, 3) := by decide +kernel
theorem dX8_tuesday_75 : decode cX8_tuesday 75 = .ok (.iconst 0, 1) := by decide +kernel
theorem dX8_tuesday_76 : decode cX8_tuesday 76 = .ok (.iload_n 1, 1) := by decide +kernel
theorem dX8_tuesday_77 : decode cX8_tuesday 77 = .ok (.iconst 0, 1) := by decide +kernel
theorem dX8_tuesday_78 : decode cX8_tuesday 78 = .ok (.invokevirtual 154, 3) := by decide +kernel
theorem dX8_tuesday_81 : decode cX8_tuesday 81 = .ok (.iload_n 1, 1) := by decide +kernel
theorem dX8_tuesday_82 : decode cX8_tuesday 82 = .ok (.ireturn, 1) := by decide +kernel
theorem dX8_changes_0 : decode cX8_changes 0 = .ok (.aload_n 0, 1) := by decide +kernel
theorem dX8_changes_1 : decode cX8_changes 1 = .ok (.iload_n 1, 1) := by decide +kernel
theorem dX8_changes_2 : decode cX8_changes 2 = .ok (.invokevirtual 96, 3) := by decide +kernel
theorem dX8_changes_5 : decode cX8_changes 5 = .ok (.ifCond .eq 16, 3) := by decide +kernel
theorem dX8_changes_8 : decode cX8_changes 8 = .ok (.aload_n 0, 1) := by decide +kernel
theorem dX8_changes_9 : decode cX8_changes 9 = .ok (.iload_n 2, 1) := by decide +kernel
theorem dX8_changes_10 : decode cX8_changes 10 = .ok (.invokevirtual 96, 3) := by decide +kernel
theorem dX8_changes_13 : decode cX8_changes 13 = .ok (.ifCond .eq 8, 3) := by decide +kernel
theorem dX8_changes_16 : decode cX8_changes 16 = .ok (.iload_n 1, 1) := by decide +kernel
theorem dX8_changes_17 : decode cX8_changes 17 = .ok (.iload_n 2, 1) := by decide +kernel
theorem dX8_changes_18 : decode cX8_changes 18 = .ok (.if_icmp .ne 5, 3) := by decide +kernel
theorem dX8_changes_21 : decode cX8_changes 21 = .ok (.iconst (-1), 1) := by decide +kernel
theorem dX8_changes_22 : decode cX8_changes 22 = .ok (.ireturn, 1) := by decide +kernel
theorem dX8_changes_23 : decode cX8_changes 23 = .ok (.aload_n 0, 1) := by decide +kernel
theorem dX8_changes_24 : decode cX8_changes 24 = .ok (.getfield 68, 3) := by decide +kernel
theorem dX8_changes_27 : decode cX8_changes 27 = .ok (.iload_n 1, 1) := by decide +kernel
theorem dX8_changes_28 : decode cX8_changes 28 = .ok (.iload_n 2, 1) := by decide +kernel
theorem dX8_changes_29 : decode cX8_changes 29 = .ok (.invokevirtual 158, 3) := by decide +kernel
theorem dX8_changes_32 : decode cX8_changes 32 = .ok (.aload_n 0, 1) := by decide +kernel
theorem dX8_changes_33 : decode cX8_changes 33 = .ok (.getfield 36, 3) := by decide +kernel
theorem dX8_changes_36 : decode cX8_changes 36 = .ok (.iconst 1, 1) := by decide +kernel
theorem dX8_changes_37 : decode cX8_changes 37 = .ok (.iload_n 1, 1) := by decide +kernel
theorem dX8_changes_38 : decode cX8_changes 38 = .ok (.iload_n 2, 1) := by decide +kernel
theorem dX8_changes_39 : decode cX8_changes 39 = .ok (.invokevirtual 154, 3) := by decide +kernel
theorem dX8_changes_42 : decode cX8_changes 42 = .ok (.aload_n 0, 1) := by decide +kernel
theorem dX8_changes_43 : decode cX8_changes 43 = .ok (.getfield 68, 3) := by decide +kernel
theorem dX8_changes_46 : decode cX8_changes 46 = .ok (.getfield 107, 3) := by decide +kernel
theorem dX8_changes_49 : decode cX8_changes 49 = .ok (.iload_n 1, 1) := by decide +kernel
theorem dX8_changes_50 : decode cX8_changes 50 = .ok (.iaload, 1) := by decide +kernel
theorem dX8_changes_51 : decode cX8_changes 51 = .ok (.ireturn, 1) := by decide +kernel
theorem dX8_sets_0 : decode cX8_sets 0 = .ok (.aload_n 0, 1) := by decide +kernel
theorem dX8_sets_1 : decode cX8_sets 1 = .ok (.iload_n 1, 1) := by decide +kernel
theorem dX8_sets_2 : decode cX8_sets 2 = .ok (.invokevirtual 96, 3) := by decide +kernel
theorem dX8_sets_5 : decode cX8_sets 5 = .ok (.ifCond .eq 12, 3) := by decide +kernel
theorem dX8_sets_8 : decode cX8_sets 8 = .ok (.iload_n 2, 1) := by decide +kernel
theorem dX8_sets_9 : decode cX8_sets 9 = .ok (.ifCond .lt 8, 3) := by decide +kernel
theorem dX8_sets_12 : decode cX8_sets 12 = .ok (.iload_n 2, 1) := by decide +kernel
theorem dX8_sets_13 : decode cX8_sets 13 = .ok (.iconst 5, 1) := by decide +kernel
theorem dX8_sets_14 : decode cX8_sets 14 = .ok (.if_icmp .le 5, 3) := by decide +kernel
theorem dX8_sets_17 : decode cX8_sets 17 = .ok (.iconst (-1), 1) := by decide +kernel
theorem dX8_sets_18 : decode cX8_sets 18 = .ok (.ireturn, 1) := by decide +kernel
theorem dX8_sets_19 : decode cX8_sets 19 = .ok (.aload_n 0, 1) := by decide +kernel
theorem dX8_sets_20 : decode cX8_sets 20 = .ok (.getfield 68, 3) := by decide +kernel
theorem dX8_sets_23 : decode cX8_sets 23 = .ok (.getfield 110, 3) := by decide +kernel
theorem dX8_sets_26 : decode cX8_sets 26 = .ok (.iload_n 1, 1) := by decide +kernel
theorem dX8_sets_27 : decode cX8_sets 27 = .ok (.iaload, 1) := by decide +kernel
theorem dX8_sets_28 : decode cX8_sets 28 = .ok (.istore_n 3, 1) := by decide +kernel
theorem dX8_sets_29 : decode cX8_sets 29 = .ok (.iload_n 3, 1) := by decide +kernel
theorem dX8_sets_30 : decode cX8_sets 30 = .ok (.iload_n 2, 1) := by decide +kernel
theorem dX8_sets_31 : decode cX8_sets 31 = .ok (.if_icmp .ne 6, 3) := by decide +kernel
theorem dX8_sets_34 : decode cX8_sets 34 = .ok (.bipush (-2), 2) := by decide +kernel
theorem dX8_sets_36 : decode cX8_sets 36 = .ok (.ireturn, 1) := by decide +kernel
theorem dX8_sets_37 : decode cX8_sets 37 = .ok (.aload_n 0, 1) := by decide +kernel
theorem dX8_sets_38 : decode cX8_sets 38 = .ok (.getfield 68, 3) := by decide +kernel
theorem dX8_sets_41 : decode cX8_sets 41 = .ok (.getfield 110, 3) := by decide +kernel
theorem dX8_sets_44 : decode cX8_sets 44 = .ok (.iload_n 1, 1) := by decide +kernel
theorem dX8_sets_45 : decode cX8_sets 45 = .ok (.iload_n 2, 1) := by decide +kernel
theorem dX8_sets_46 : decode cX8_sets 46 = .ok (.iastore, 1) := by decide +kernel
theorem dX8_sets_47 : decode cX8_sets 47 = .ok (.aload_n 0, 1) := by decide +kernel
theorem dX8_sets_48 : decode cX8_sets 48 = .ok (.getfield 36, 3) := by decide +kernel
theorem dX8_sets_51 : decode cX8_sets 51 = .ok (.iconst 2, 1) := by decide +kernel
theorem dX8_sets_52 : decode cX8_sets 52 = .ok (.iload_n 1, 1) := by decide +kernel
theorem dX8_sets_53 : decode cX8_sets 53 = .ok (.iload_n 3, 1) := by decide +kernel
theorem dX8_sets_54 : decode cX8_sets 54 = .ok (.invokevirtual 154, 3) := by decide +kernel
theorem dX8_sets_57 : decode cX8_sets 57 = .ok (.iload_n 3, 1) := by decide +kernel
theorem dX8_sets_58 : decode cX8_sets 58 = .ok (.ireturn, 1) := by decide +kernel
theorem dX8_greases_0 : decode cX8_greases 0 = .ok (.aload_n 0, 1) := by decide +kernel
theorem dX8_greases_1 : decode cX8_greases 1 = .ok (.iload_n 1, 1) := by decide +kernel
theorem dX8_greases_2 : decode cX8_greases 2 = .ok (.invokevirtual 96, 3) := by decide +kernel
theorem dX8_greases_5 : decode cX8_greases 5 = .ok (.ifCond .eq 12, 3) := by decide +kernel
theorem dX8_greases_8 : decode cX8_greases 8 = .ok (.iload_n 2, 1) := by decide +kernel
theorem dX8_greases_9 : decode cX8_greases 9 = .ok (.ifCond .lt 8, 3) := by decide +kernel
theorem dX8_greases_12 : decode cX8_greases 12 = .ok (.iload_n 2, 1) := by decide +kernel
theorem dX8_greases_13 : decode cX8_greases 13 = .ok (.iconst 1, 1) := by decide +kernel
theorem dX8_greases_14 : decode cX8_greases 14 = .ok (.if_icmp .le 5, 3) := by decide +kernel
theorem dX8_greases_17 : decode cX8_greases 17 = .ok (.iconst (-1), 1) := by decide +kernel
theorem dX8_greases_18 : decode cX8_greases 18 = .ok (.ireturn, 1) := by decide +kernel
theorem dX8_greases_19 : decode cX8_greases 19 = .ok (.iload_n 2, 1) := by decide +kernel
theorem dX8_greases_20 : decode cX8_greases 20 = .ok (.iconst 1, 1) := by decide +kernel
theorem dX8_greases_21 : decode cX8_greases 21 = .ok (.if_icmp .ne 7, 3) := by decide +kernel
theorem dX8_greases_24 : decode cX8_greases 24 = .ok (.iconst 1, 1) := by decide +kernel
theorem dX8_greases_25 : decode cX8_greases 25 = .ok (.goto 4, 3) := by decide +kernel
theorem dX8_greases_28 : decode cX8_greases 28 = .ok (.iconst 0, 1) := by decide +kernel
theorem dX8_greases_29 : decode cX8_greases 29 = .ok (.istore_n 3, 1) := by decide +kernel
theorem dX8_greases_30 : decode cX8_greases 30 = .ok (.aload_n 0, 1) := by decide +kernel
theorem dX8_greases_31 : decode cX8_greases 31 = .ok (.getfield 68, 3) := by decide +kernel
theorem dX8_greases_34 : decode cX8_greases 34 = .ok (.getfield 113, 3) := by decide +kernel
theorem dX8_greases_37 : decode cX8_greases 37 = .ok (.iload_n 1, 1) := by decide +kernel
theorem dX8_greases_38 : decode cX8_greases 38 = .ok (.baload, 1) := by decide +kernel
theorem dX8_greases_39 : decode cX8_greases 39 = .ok (.iload_n 3, 1) := by decide +kernel
theorem dX8_greases_40 : decode cX8_greases 40 = .ok (.if_icmp .ne 6, 3) := by decide +kernel
theorem dX8_greases_43 : decode cX8_greases 43 = .ok (.bipush (-2), 2) := by decide +kernel
theorem dX8_greases_45 : decode cX8_greases 45 = .ok (.ireturn, 1) := by decide +kernel
theorem dX8_greases_46 : decode cX8_greases 46 = .ok (.aload_n 0, 1) := by decide +kernel
theorem dX8_greases_47 : decode cX8_greases 47 = .ok (.getfield 68, 3) := by decide +kernel
theorem dX8_greases_50 : decode cX8_greases 50 = .ok (.getfield 113, 3) := by decide +kernel
theorem dX8_greases_53 : decode cX8_greases 53 = .ok (.iload_n 1, 1) := by decide +kernel
theorem dX8_greases_54 : decode cX8_greases 54 = .ok (.iload_n 3, 1) := by decide +kernel
theorem dX8_greases_55 : decode cX8_greases 55 = .ok (.bastore, 1) := by decide +kernel
theorem dX8_greases_56 : decode cX8_greases 56 = .ok (.aload_n 0, 1) := by decide +kernel
theorem dX8_greases_57 : decode cX8_greases 57 = .ok (.getfield 36, 3) := by decide +kernel
theorem dX8_greases_60 : decode cX8_greases 60 = .ok (.iconst 3, 1) := by decide +kernel
theorem dX8_greases_61 : decode cX8_greases 61 = .ok (.iload_n 1, 1) := by decide +kernel
theorem dX8_greases_62 : decode cX8_greases 62 = .ok (.iconst 0, 1) := by decide +kernel
theorem dX8_greases_63 : decode cX8_greases 63 = .ok (.invokevirtual 154, 3) := by decide +kernel
theorem dX8_greases_66 : decode cX8_greases 66 = .ok (.aload_n 0, 1) := by decide +kernel
theorem dX8_greases_67 : decode cX8_greases 67 = .ok (.getfield 68, 3) := by decide +kernel
theorem dX8_greases_70 : decode cX8_greases 70 = .ok (.aload_n 0, 1) := by decide +kernel
theorem dX8_greases_71 : decode cX8_greases 71 = .ok (.getfield 64, 3) := by decide +kernel
theorem dX8_greases_74 : decode cX8_greases 74 = .ok (.getfield 162, 3) := by decide +kernel
theorem dX8_greases_77 : decode cX8_greases 77 = .ok (.invokevirtual 165, 3) := by decide +kernel
theorem dX8_greases_80 : decode cX8_greases 80 = .ok (.ireturn, 1) := by decide +kernel
theorem dX8_undo_0 : decode cX8_undo 0 = .ok (.aload_n 0, 1) := by decide +kernel
theorem dX8_undo_1 : decode cX8_undo 1 = .ok (.getfield 36, 3) := by decide +kernel
theorem dX8_undo_4 : decode cX8_undo 4 = .ok (.getfield 88, 3) := by decide +kernel
theorem dX8_undo_7 : decode cX8_undo 7 = .ok (.iconst 1, 1) := by decide +kernel
theorem dX8_undo_8 : decode cX8_undo 8 = .ok (.if_icmp .ge 6, 3) := by decide +kernel
theorem dX8_undo_11 : decode cX8_undo 11 = .ok (.bipush (-2), 2) := by decide +kernel
theorem dX8_undo_13 : decode cX8_undo 13 = .ok (.ireturn, 1) := by decide +kernel
theorem dX8_undo_14 : decode cX8_undo 14 = .ok (.aload_n 0, 1) := by decide +kernel
theorem dX8_undo_15 : decode cX8_undo 15 = .ok (.getfield 36, 3) := by decide +kernel
theorem dX8_undo_18 : decode cX8_undo 18 = .ok (.aload_n 0, 1) := by decide +kernel
theorem dX8_undo_19 : decode cX8_undo 19 = .ok (.getfield 68, 3) := by decide +kernel
theorem dX8_undo_22 : decode cX8_undo 22 = .ok (.invokevirtual 169, 3) := by decide +kernel
theorem dX8_undo_25 : decode cX8_undo 25 = .ok (.aload_n 0, 1) := by decide +kernel
theorem dX8_undo_26 : decode cX8_undo 26 = .ok (.getfield 36, 3) := by decide +kernel
theorem dX8_undo_29 : decode cX8_undo 29 = .ok (.getfield 88, 3) := by decide +kernel
theorem dX8_undo_32 : decode cX8_undo 32 = .ok (.ireturn, 1) := by decide +kernel
theorem dX8_time_0 : decode cX8_time 0 = .ok (.aload_n 0, 1) := by decide +kernel
theorem dX8_time_1 : decode cX8_time 1 = .ok (.iload_n 1, 1) := by decide +kernel
theorem dX8_time_2 : decode cX8_time 2 = .ok (.invokevirtual 96, 3) := by decide +kernel
theorem dX8_time_5 : decode cX8_time 5 = .ok (.ifCond .ne 5, 3) := by decide +kernel
theorem dX8_time_8 : decode cX8_time 8 = .ok (.iconst (-1), 1) := by decide +kernel
theorem dX8_time_9 : decode cX8_time 9 = .ok (.ireturn, 1) := by decide +kernel
theorem dX8_time_10 : decode cX8_time 10 = .ok (.aload_n 0, 1) := by decide +kernel
theorem dX8_time_11 : decode cX8_time 11 = .ok (.getfield 64, 3) := by decide +kernel
theorem dX8_time_14 : decode cX8_time 14 = .ok (.invokevirtual 136, 3) := by decide +kernel
theorem dX8_time_17 : decode cX8_time 17 = .ok (.ifCond .ne 6, 3) := by decide +kernel
theorem dX8_time_20 : decode cX8_time 20 = .ok (.bipush (-2), 2) := by decide +kernel
theorem dX8_time_22 : decode cX8_time 22 = .ok (.ireturn, 1) := by decide +kernel
theorem dX8_time_23 : decode cX8_time 23 = .ok (.aload_n 0, 1) := by decide +kernel
theorem dX8_time_24 : decode cX8_time 24 = .ok (.getfield 57, 3) := by decide +kernel
theorem dX8_time_27 : decode cX8_time 27 = .ok (.iload_n 1, 1) := by decide +kernel
theorem dX8_time_28 : decode cX8_time 28 = .ok (.invokevirtual 173, 3) := by decide +kernel
theorem dX8_time_31 : decode cX8_time 31 = .ok (.ireturn, 1) := by decide +kernel
theorem dX8_place_0 : decode cX8_place 0 = .ok (.aload_n 0, 1) := by decide +kernel
theorem dX8_place_1 : decode cX8_place 1 = .ok (.iload_n 1, 1) := by decide +kernel
theorem dX8_place_2 : decode cX8_place 2 = .ok (.invokevirtual 96, 3) := by decide +kernel
theorem dX8_place_5 : decode cX8_place 5 = .ok (.ifCond .ne 5, 3) := by decide +kernel
theorem dX8_place_8 : decode cX8_place 8 = .ok (.iconst (-1), 1) := by decide +kernel
theorem dX8_place_9 : decode cX8_place 9 = .ok (.ireturn, 1) := by decide +kernel
theorem dX8_place_10 : decode cX8_place 10 = .ok (.aload_n 0, 1) := by decide +kernel
theorem dX8_place_11 : decode cX8_place 11 = .ok (.getfield 64, 3) := by decide +kernel
theorem dX8_place_14 : decode cX8_place 14 = .ok (.invokevirtual 136, 3) := by decide +kernel
theorem dX8_place_17 : decode cX8_place 17 = .ok (.ifCond .ne 6, 3) := by decide +kernel
theorem dX8_place_20 : decode cX8_place 20 = .ok (.bipush (-2), 2) := by decide +kernel
theorem dX8_place_22 : decode cX8_place 22 = .ok (.ireturn, 1) := by decide +kernel
theorem dX8_place_23 : decode cX8_place 23 = .ok (.aload_n 0, 1) := by decide +kernel
theorem dX8_place_24 : decode cX8_place 24 = .ok (.getfield 57, 3) := by decide +kernel
theorem dX8_place_27 : decode cX8_place 27 = .ok (.iload_n 1, 1) := by decide +kernel
theorem dX8_place_28 : decode cX8_place 28 = .ok (.invokevirtual 176, 3) := by decide +kernel
theorem dX8_place_31 : decode cX8_place 31 = .ok (.ireturn, 1) := by decide +kernel
theorem dX8_alone_0 : decode cX8_alone 0 = .ok (.aload_n 0, 1) := by decide +kernel
theorem dX8_alone_1 : decode cX8_alone 1 = .ok (.iload_n 1, 1) := by decide +kernel
theorem dX8_alone_2 : decode cX8_alone 2 = .ok (.invokevirtual 96, 3) := by decide +kernel
theorem dX8_alone_5 : decode cX8_alone 5 = .ok (.ifCond .ne 5, 3) := by decide +kernel
theorem dX8_alone_8 : decode cX8_alone 8 = .ok (.iconst (-1), 1) := by decide +kernel
theorem dX8_alone_9 : decode cX8_alone 9 = .ok (.ireturn, 1) := by decide +kernel
theorem dX8_alone_10 : decode cX8_alone 10 = .ok (.aload_n 0, 1) := by decide +kernel
theorem dX8_alone_11 : decode cX8_alone 11 = .ok (.getfield 64, 3) := by decide +kernel
theorem dX8_alone_14 : decode cX8_alone 14 = .ok (.invokevirtual 136, 3) := by decide +kernel
theorem dX8_alone_17 : decode cX8_alone 17 = .ok (.ifCond .ne 6, 3) := by decide +kernel
theorem dX8_alone_20 : decode cX8_alone 20 = .ok (.bipush (-2), 2) := by decide +kernel
theorem dX8_alone_22 : decode cX8_alone 22 = .ok (.ireturn, 1) := by decide +kernel
theorem dX8_alone_23 : decode cX8_alone 23 = .ok (.aload_n 0, 1) := by decide +kernel
theorem dX8_alone_24 : decode cX8_alone 24 = .ok (.getfield 68, 3) := by decide +kernel
theorem dX8_alone_27 : decode cX8_alone 27 = .ok (.aload_n 0, 1) := by decide +kernel
theorem dX8_alone_28 : decode cX8_alone 28 = .ok (.getfield 64, 3) := by decide +kernel
theorem dX8_alone_31 : decode cX8_alone 31 = .ok (.iload_n 1, 1) := by decide +kernel
theorem dX8_alone_32 : decode cX8_alone 32 = .ok (.aload_n 0, 1) := by decide +kernel
theorem dX8_alone_33 : decode cX8_alone 33 = .ok (.getfield 68, 3) := by decide +kernel
theorem dX8_alone_36 : decode cX8_alone 36 = .ok (.getfield 113, 3) := by decide +kernel
theorem dX8_alone_39 : decode cX8_alone 39 = .ok (.iload_n 1, 1) := by decide +kernel
theorem dX8_alone_40 : decode cX8_alone 40 = .ok (.baload, 1) := by decide +kernel
theorem dX8_alone_41 : decode cX8_alone 41 = .ok (.invokevirtual 179, 3) := by decide +kernel
theorem dX8_alone_44 : decode cX8_alone 44 = .ok (.ireturn, 1) := by decide +kernel
theorem dX8_king_0 : decode cX8_king 0 = .ok (.aload_n 0, 1) := by decide +kernel
theorem dX8_king_1 : decode cX8_king 1 = .ok (.iload_n 1, 1) := by decide +kernel
theorem dX8_king_2 : decode cX8_king 2 = .ok (.invokevirtual 96, 3) := by decide +kernel
theorem dX8_king_5 : decode cX8_king 5 = .ok (.ifCond .eq 16, 3) := by decide +kernel
theorem dX8_king_8 : decode cX8_king 8 = .ok (.iload_n 2, 1) := by decide +kernel
theorem dX8_king_9 : decode cX8_king 9 = .ok (.iconst (-1), 1) := by decide +kernel
theorem dX8_king_10 : decode cX8_king 10 = .ok (.if_icmp .eq 13, 3) := by decide +kernel
theorem dX8_king_13 : decode cX8_king 13 = .ok (.aload_n 0, 1) := by decide +kernel
theorem dX8_king_14 : decode cX8_king 14 = .ok (.iload_n 2, 1) := by decide +kernel
theorem dX8_king_15 : decode cX8_king 15 = .ok (.invokevirtual 96, 3) := by decide +kernel
theorem dX8_king_18 : decode cX8_king 18 = .ok (.ifCond .ne 5, 3) := by decide +kernel
theorem dX8_king_21 : decode cX8_king 21 = .ok (.iconst (-1), 1) := by decide +kernel
theorem dX8_king_22 : decode cX8_king 22 = .ok (.ireturn, 1) := by decide +kernel
theorem dX8_king_23 : decode cX8_king 23 = .ok (.aload_n 0, 1) := by decide +kernel
theorem dX8_king_24 : decode cX8_king 24 = .ok (.getfield 64, 3) := by decide +kernel
theorem dX8_king_27 : decode cX8_king 27 = .ok (.invokevirtual 136, 3) := by decide +kernel
theorem dX8_king_30 : decode cX8_king 30 = .ok (.ifCond .ne 6, 3) := by decide +kernel
theorem dX8_king_33 : decode cX8_king 33 = .ok (.bipush (-2), 2) := by decide +kernel
theorem dX8_king_35 : decode cX8_king 35 = .ok (.ireturn, 1) := by decide +kernel
theorem dX8_king_36 : decode cX8_king 36 = .ok (.aload_n 0, 1) := by decide +kernel
theorem dX8_king_37 : decode cX8_king 37 = .ok (.getfield 57, 3) := by decide +kernel
theorem dX8_king_40 : decode cX8_king 40 = .ok (.iload_n 1, 1) := by decide +kernel
theorem dX8_king_41 : decode cX8_king 41 = .ok (.invokevirtual 183, 3) := by decide +kernel
theorem dX8_king_44 : decode cX8_king 44 = .ok (.istore_n 3, 1) := by decide +kernel
theorem dX8_king_45 : decode cX8_king 45 = .ok (.iload_n 3, 1) := by decide +kernel
theorem dX8_king_46 : decode cX8_king 46 = .ok (.bipush (-9), 2) := by decide +kernel
theorem dX8_king_48 : decode cX8_king 48 = .ok (.if_icmp .eq 8, 3) := by decide +kernel
theorem dX8_king_51 : decode cX8_king 51 = .ok (.iload_n 2, 1) := by decide +kernel
theorem dX8_king_52 : decode cX8_king 52 = .ok (.iconst (-1), 1) := by decide +kernel
theorem dX8_king_53 : decode cX8_king 53 = .ok (.if_icmp .ne 7, 3) := by decide +kernel
theorem dX8_king_56 : decode cX8_king 56 = .ok (.iload_n 3, 1) := by decide +kernel
theorem dX8_king_57 : decode cX8_king 57 = .ok (.goto 11, 3) := by decide +kernel
theorem dX8_king_60 : decode cX8_king 60 = .ok (.aload_n 0, 1) := by decide +kernel
theorem dX8_king_61 : decode cX8_king 61 = .ok (.getfield 57, 3) := by decide +kernel
theorem dX8_king_64 : decode cX8_king 64 = .ok (.iload_n 2, 1) := by decide +kernel
theorem dX8_king_65 : decode cX8_king 65 = .ok (.invokevirtual 186, 3) := by decide +kernel
theorem dX8_king_68 : decode cX8_king 68 = .ok (.ireturn, 1) := by decide +kernel
theorem dX8_fair_0 : decode cX8_fair 0 = .ok (.iload_n 1, 1) := by decide +kernel
theorem dX8_fair_1 : decode cX8_fair 1 = .ok (.iconst (-1), 1) := by decide +kernel
theorem dX8_fair_2 : decode cX8_fair 2 = .ok (.if_icmp .eq 13, 3) := by decide +kernel
theorem dX8_fair_5 : decode cX8_fair 5 = .ok (.aload_n 0, 1) := by decide +kernel
theorem dX8_fair_6 : decode cX8_fair 6 = .ok (.iload_n 1, 1) := by decide +kernel
theorem dX8_fair_7 : decode cX8_fair 7 = .ok (.invokevirtual 96, 3) := by decide +kernel
theorem dX8_fair_10 : decode cX8_fair 10 = .ok (.ifCond .ne 5, 3) := by decide +kernel
theorem dX8_fair_13 : decode cX8_fair 13 = .ok (.iconst (-1), 1) := by decide +kernel
theorem dX8_fair_14 : decode cX8_fair 14 = .ok (.ireturn, 1) := by decide +kernel
theorem dX8_fair_15 : decode cX8_fair 15 = .ok (.aload_n 0, 1) := by decide +kernel
theorem dX8_fair_16 : decode cX8_fair 16 = .ok (.getfield 64, 3) := by decide +kernel
theorem dX8_fair_19 : decode cX8_fair 19 = .ok (.invokevirtual 136, 3) := by decide +kernel
theorem dX8_fair_22 : decode cX8_fair 22 = .ok (.ifCond .ne 6, 3) := by decide +kernel
theorem dX8_fair_25 : decode cX8_fair 25 = .ok (.bipush (-2), 2) := by decide +kernel
theorem dX8_fair_27 : decode cX8_fair 27 = .ok (.ireturn, 1) := by decide +kernel
theorem dX8_fair_28 : decode cX8_fair 28 = .ok (.aload_n 0, 1) := by decide +kernel
theorem dX8_fair_29 : decode cX8_fair 29 = .ok (.getfield 57, 3) := by decide +kernel
theorem dX8_fair_32 : decode cX8_fair 32 = .ok (.invokevirtual 189, 3) := by decide +kernel
theorem dX8_fair_35 : decode cX8_fair 35 = .ok (.istore_n 2, 1) := by decide +kernel
theorem dX8_fair_36 : decode cX8_fair 36 = .ok (.iload_n 1, 1) := by decide +kernel
theorem dX8_fair_37 : decode cX8_fair 37 = .ok (.iconst (-1), 1) := by decide +kernel
theorem dX8_fair_38 : decode cX8_fair 38 = .ok (.if_icmp .ne 14, 3) := by decide +kernel
theorem dX8_fair_41 : decode cX8_fair 41 = .ok (.aload_n 0, 1) := by decide +kernel
theorem dX8_fair_42 : decode cX8_fair 42 = .ok (.getfield 57, 3) := by decide +kernel
theorem dX8_fair_45 : decode cX8_fair 45 = .ok (.iload_n 2, 1) := by decide +kernel
theorem dX8_fair_46 : decode cX8_fair 46 = .ok (.invokevirtual 192, 3) := by decide +kernel
theorem dX8_fair_49 : decode cX8_fair 49 = .ok (.goto 12, 3) := by decide +kernel
theorem dX8_fair_52 : decode cX8_fair 52 = .ok (.aload_n 0, 1) := by decide +kernel
theorem dX8_fair_53 : decode cX8_fair 53 = .ok (.getfield 57, 3) := by decide +kernel
theorem dX8_fair_56 : decode cX8_fair 56 = .ok (.iload_n 2, 1) := by decide +kernel
theorem dX8_fair_57 : decode cX8_fair 57 = .ok (.iload_n 1, 1) := by decide +kernel
theorem dX8_fair_58 : decode cX8_fair 58 = .ok (.invokevirtual 195, 3) := by decide +kernel
theorem dX8_fair_61 : decode cX8_fair 61 = .ok (.ireturn, 1) := by decide +kernel
theorem dX8_odds_0 : decode cX8_odds 0 = .ok (.aload_n 0, 1) := by decide +kernel
theorem dX8_odds_1 : decode cX8_odds 1 = .ok (.iload_n 1, 1) := by decide +kernel
theorem dX8_odds_2 : decode cX8_odds 2 = .ok (.invokevirtual 96, 3) := by decide +kernel
theorem dX8_odds_5 : decode cX8_odds 5 = .ok (.ifCond .eq 22, 3) := by decide +kernel
theorem dX8_odds_8 : decode cX8_odds 8 = .ok (.iload_n 2, 1) := by decide +kernel
theorem dX8_odds_9 : decode cX8_odds 9 = .ok (.ifCond .lt 18, 3) := by decide +kernel
theorem dX8_odds_12 : decode cX8_odds 12 = .ok (.iload_n 2, 1) := by decide +kernel
theorem dX8_odds_13 : decode cX8_odds 13 = .ok (.bipush 10, 2) := by decide +kernel
theorem dX8_odds_15 : decode cX8_odds 15 = .ok (.if_icmp .gt 12, 3) := by decide +kernel
theorem dX8_odds_18 : decode cX8_odds 18 = .ok (.iload_n 3, 1) := by decide +kernel
theorem dX8_odds_19 : decode cX8_odds 19 = .ok (.ifCond .lt 8, 3) := by decide +kernel
theorem dX8_odds_22 : decode cX8_odds 22 = .ok (.iload_n 3, 1) := by decide +kernel
theorem dX8_odds_23 : decode cX8_odds 23 = .ok (.iconst 1, 1) := by decide +kernel
theorem dX8_odds_24 : decode cX8_odds 24 = .ok (.if_icmp .le 5, 3) := by decide +kernel
theorem dX8_odds_27 : decode cX8_odds 27 = .ok (.iconst (-1), 1) := by decide +kernel
theorem dX8_odds_28 : decode cX8_odds 28 = .ok (.ireturn, 1) := by decide +kernel
theorem dX8_odds_29 : decode cX8_odds 29 = .ok (.aload_n 0, 1) := by decide +kernel
theorem dX8_odds_30 : decode cX8_odds 30 = .ok (.getfield 64, 3) := by decide +kernel
theorem dX8_odds_33 : decode cX8_odds 33 = .ok (.invokevirtual 136, 3) := by decide +kernel
theorem dX8_odds_36 : decode cX8_odds 36 = .ok (.ifCond .ne 6, 3) := by decide +kernel
theorem dX8_odds_39 : decode cX8_odds 39 = .ok (.bipush (-2), 2) := by decide +kernel
theorem dX8_odds_41 : decode cX8_odds 41 = .ok (.ireturn, 1) := by decide +kernel
theorem dX8_odds_42 : decode cX8_odds 42 = .ok (.aload_n 0, 1) := by decide +kernel
theorem dX8_odds_43 : decode cX8_odds 43 = .ok (.getfield 57, 3) := by decide +kernel
theorem dX8_odds_46 : decode cX8_odds 46 = .ok (.iload_n 1, 1) := by decide +kernel
theorem dX8_odds_47 : decode cX8_odds 47 = .ok (.iload_n 2, 1) := by decide +kernel
theorem dX8_odds_48 : decode cX8_odds 48 = .ok (.invokevirtual 199, 3) := by decide +kernel
theorem dX8_odds_51 : decode cX8_odds 51 = .ok (.istore 4, 2) := by decide +kernel
theorem dX8_odds_53 : decode cX8_odds 53 = .ok (.aload_n 0, 1) := by decide +kernel
theorem dX8_odds_54 : decode cX8_odds 54 = .ok (.getfield 57, 3) := by decide +kernel
theorem dX8_odds_57 : decode cX8_odds 57 = .ok (.invokevirtual 202, 3) := by decide +kernel
theorem dX8_odds_60 : decode cX8_odds 60 = .ok (.istore 5, 2) := by decide +kernel
theorem dX8_odds_62 : decode cX8_odds 62 = .ok (.iload 5, 2) := by decide +kernel
theorem dX8_odds_64 : decode cX8_odds 64 = .ok (.iload 4, 2) := by decide +kernel
theorem dX8_odds_66 : decode cX8_odds 66 = .ok (.invokestatic 205, 3) := by decide +kernel
theorem dX8_odds_69 : decode cX8_odds 69 = .ok (.istore 6, 2) := by decide +kernel
theorem dX8_odds_71 : decode cX8_odds 71 = .ok (.iload 6, 2) := by decide +kernel
theorem dX8_odds_73 : decode cX8_odds 73 = .ok (.iconst 1, 1) := by decide +kernel
theorem dX8_odds_74 : decode cX8_odds 74 = .ok (.if_icmp .ge 6, 3) := by decide +kernel
theorem dX8_odds_77 : decode cX8_odds 77 = .ok (.bipush (-2), 2) := by decide +kernel
theorem dX8_odds_79 : decode cX8_odds 79 = .ok (.ireturn, 1) := by decide +kernel
theorem dX8_odds_80 : decode cX8_odds 80 = .ok (.iload_n 3, 1) := by decide +kernel
theorem dX8_odds_81 : decode cX8_odds 81 = .ok (.ifCond .ne 8, 3) := by decide +kernel
theorem dX8_odds_84 : decode cX8_odds 84 = .ok (.iload 4, 2) := by decide +kernel
theorem dX8_odds_86 : decode cX8_odds 86 = .ok (.goto 5, 3) := by decide +kernel
theorem dX8_odds_89 : decode cX8_odds 89 = .ok (.iload 5, 2) := by decide +kernel
theorem dX8_odds_91 : decode cX8_odds 91 = .ok (.iload 6, 2) := by decide +kernel
theorem dX8_odds_93 : decode cX8_odds 93 = .ok (.idiv, 1) := by decide +kernel
theorem dX8_odds_94 : decode cX8_odds 94 = .ok (.ireturn, 1) := by decide +kernel
theorem dX8_times_0 : decode cX8_times 0 = .ok (.aload_n 0, 1) := by decide +kernel
theorem dX8_times_1 : decode cX8_times 1 = .ok (.iload_n 1, 1) := by decide +kernel
theorem dX8_times_2 : decode cX8_times 2 = .ok (.invokevirtual 96, 3) := by decide +kernel
theorem dX8_times_5 : decode cX8_times 5 = .ok (.ifCond .eq 15, 3) := by decide +kernel
theorem dX8_times_8 : decode cX8_times 8 = .ok (.iload_n 2, 1) := by decide +kernel
theorem dX8_times_9 : decode cX8_times 9 = .ok (.iconst 1, 1) := by decide +kernel
theorem dX8_times_10 : decode cX8_times 10 = .ok (.if_icmp .lt 10, 3) := by decide +kernel
theorem dX8_times_13 : decode cX8_times 13 = .ok (.iload_n 2, 1) := by decide +kernel
theorem dX8_times_14 : decode cX8_times 14 = .ok (.sipush 200, 3) := by decide +kernel
theorem dX8_times_17 : decode cX8_times 17 = .ok (.if_icmp .le 5, 3) := by decide +kernel
theorem dX8_times_20 : decode cX8_times 20 = .ok (.iconst (-1), 1) := by decide +kernel
theorem dX8_times_21 : decode cX8_times 21 = .ok (.ireturn, 1) := by decide +kernel
theorem dX8_times_22 : decode cX8_times 22 = .ok (.aload_n 0, 1) := by decide +kernel
theorem dX8_times_23 : decode cX8_times 23 = .ok (.getfield 64, 3) := by decide +kernel
theorem dX8_times_26 : decode cX8_times 26 = .ok (.invokevirtual 136, 3) := by decide +kernel
theorem dX8_times_29 : decode cX8_times 29 = .ok (.ifCond .ne 6, 3) := by decide +kernel
theorem dX8_times_32 : decode cX8_times 32 = .ok (.bipush (-2), 2) := by decide +kernel
theorem dX8_times_34 : decode cX8_times 34 = .ok (.ireturn, 1) := by decide +kernel
theorem dX8_times_35 : decode cX8_times 35 = .ok (.aload_n 0, 1) := by decide +kernel
theorem dX8_times_36 : decode cX8_times 36 = .ok (.getfield 43, 3) := by decide +kernel
theorem dX8_times_39 : decode cX8_times 39 = .ok (.getfield 91, 3) := by decide +kernel
theorem dX8_times_42 : decode cX8_times 42 = .ok (.bipush 6, 2) := by decide +kernel
theorem dX8_times_44 : decode cX8_times 44 = .ok (.if_icmp .lt 6, 3) := by decide +kernel
theorem dX8_times_47 : decode cX8_times 47 = .ok (.bipush (-3), 2) := by decide +kernel
theorem dX8_times_49 : decode cX8_times 49 = .ok (.ireturn, 1) := by decide +kernel
theorem dX8_times_50 : decode cX8_times 50 = .ok (.aload_n 0, 1) := by decide +kernel
theorem dX8_times_51 : decode cX8_times 51 = .ok (.getfield 43, 3) := by decide +kernel
theorem dX8_times_54 : decode cX8_times 54 = .ok (.iload_n 1, 1) := by decide +kernel
theorem dX8_times_55 : decode cX8_times 55 = .ok (.iload_n 2, 1) := by decide +kernel
theorem dX8_times_56 : decode cX8_times 56 = .ok (.invokevirtual 208, 3) := by decide +kernel
theorem dX8_times_59 : decode cX8_times 59 = .ok (.aload_n 0, 1) := by decide +kernel
theorem dX8_times_60 : decode cX8_times 60 = .ok (.getfield 43, 3) := by decide +kernel
theorem dX8_times_63 : decode cX8_times 63 = .ok (.getfield 91, 3) := by decide +kernel
theorem dX8_times_66 : decode cX8_times 66 = .ok (.ireturn, 1) := by decide +kernel
theorem dX8_forget_0 : decode cX8_forget 0 = .ok (.aload_n 0, 1) := by decide +kernel
theorem dX8_forget_1 : decode cX8_forget 1 = .ok (.getfield 43, 3) := by decide +kernel
theorem dX8_forget_4 : decode cX8_forget 4 = .ok (.getfield 91, 3) := by decide +kernel
theorem dX8_forget_7 : decode cX8_forget 7 = .ok (.istore_n 1, 1) := by decide +kernel
theorem dX8_forget_8 : decode cX8_forget 8 = .ok (.aload_n 0, 1) := by decide +kernel
theorem dX8_forget_9 : decode cX8_forget 9 = .ok (.getfield 43, 3) := by decide +kernel
theorem dX8_forget_12 : decode cX8_forget 12 = .ok (.iconst 0, 1) := by decide +kernel
theorem dX8_forget_13 : decode cX8_forget 13 = .ok (.putfield 91, 3) := by decide +kernel
theorem dX8_forget_16 : decode cX8_forget 16 = .ok (.iload_n 1, 1) := by decide +kernel
theorem dX8_forget_17 : decode cX8_forget 17 = .ok (.ireturn, 1) := by decide +kernel
theorem dX8_rate_0 : decode cX8_rate 0 = .ok (.aload_n 0, 1) := by decide +kernel
theorem dX8_rate_1 : decode cX8_rate 1 = .ok (.iload_n 2, 1) := by decide +kernel
theorem dX8_rate_2 : decode cX8_rate 2 = .ok (.invokevirtual 96, 3) := by decide +kernel
theorem dX8_rate_5 : decode cX8_rate 5 = .ok (.ifCond .ne 6, 3) := by decide +kernel
theorem dX8_rate_8 : decode cX8_rate 8 = .ok (.ldc 211, 2) := by decide +kernel
theorem dX8_rate_10 : decode cX8_rate 10 = .ok (.ireturn, 1) := by decide +kernel
theorem dX8_rate_11 : decode cX8_rate 11 = .ok (.iload_n 1, 1) := by decide +kernel
theorem dX8_rate_12 : decode cX8_rate 12 = .ok (.tableswitch 138 0 5 #[40, 53, 70, 87, 104, 121], 40) := by decide +kernel
theorem dX8_rate_52 : decode cX8_rate 52 = .ok (.aload_n 0, 1) := by decide +kernel
theorem dX8_rate_53 : decode cX8_rate 53 = .ok (.getfield 50, 3) := by decide +kernel
theorem dX8_rate_56 : decode cX8_rate 56 = .ok (.aload_n 0, 1) := by decide +kernel
theorem dX8_rate_57 : decode cX8_rate 57 = .ok (.getfield 64, 3) := by decide +kernel
theorem dX8_rate_60 : decode cX8_rate 60 = .ok (.iload_n 2, 1) := by decide +kernel
theorem dX8_rate_61 : decode cX8_rate 61 = .ok (.invokevirtual 212, 3) := by decide +kernel
theorem dX8_rate_64 : decode cX8_rate 64 = .ok (.ireturn, 1) := by decide +kernel
theorem dX8_rate_65 : decode cX8_rate 65 = .ok (.aload_n 0, 1) := by decide +kernel
theorem dX8_rate_66 : decode cX8_rate 66 = .ok (.getfield 50, 3) := by decide +kernel
theorem dX8_rate_69 : decode cX8_rate 69 = .ok (.aload_n 0, 1) := by decide +kernel
theorem dX8_rate_70 : decode cX8_rate 70 = .ok (.getfield 64, 3) := by decide +kernel
theorem dX8_rate_73 : decode cX8_rate 73 = .ok (.aload_n 0, 1) := by decide +kernel
theorem dX8_rate_74 : decode cX8_rate 74 = .ok (.getfield 68, 3) := by decide +kernel
theorem dX8_rate_77 : decode cX8_rate 77 = .ok (.iload_n 2, 1) := by decide +kernel
theorem dX8_rate_78 : decode cX8_rate 78 = .ok (.invokevirtual 215, 3) := by decide +kernel
theorem dX8_rate_81 : decode cX8_rate 81 = .ok (.ireturn, 1) := by decide +kernel
theorem dX8_rate_82 : decode cX8_rate 82 = .ok (.aload_n 0, 1) := by decide +kernel
theorem dX8_rate_83 : decode cX8_rate 83 = .ok (.getfield 50, 3) := by decide +kernel
theorem dX8_rate_86 : decode cX8_rate 86 = .ok (.aload_n 0, 1) := by decide +kernel
theorem dX8_rate_87 : decode cX8_rate 87 = .ok (.getfield 64, 3) := by decide +kernel
theorem dX8_rate_90 : decode cX8_rate 90 = .ok (.aload_n 0, 1) := by decide +kernel
theorem dX8_rate_91 : decode cX8_rate 91 = .ok (.getfield 68, 3) := by decide +kernel
theorem dX8_rate_94 : decode cX8_rate 94 = .ok (.iload_n 2, 1) := by decide +kernel
theorem dX8_rate_95 : decode cX8_rate 95 = .ok (.invokevirtual 219, 3) := by decide +kernel
theorem dX8_rate_98 : decode cX8_rate 98 = .ok (.ireturn, 1) := by decide +kernel
theorem dX8_rate_99 : decode cX8_rate 99 = .ok (.aload_n 0, 1) := by decide +kernel
theorem dX8_rate_100 : decode cX8_rate 100 = .ok (.getfield 50, 3) := by decide +kernel
theorem dX8_rate_103 : decode cX8_rate 103 = .ok (.aload_n 0, 1) := by decide +kernel
theorem dX8_rate_104 : decode cX8_rate 104 = .ok (.getfield 64, 3) := by decide +kernel
theorem dX8_rate_107 : decode cX8_rate 107 = .ok (.aload_n 0, 1) := by decide +kernel
theorem dX8_rate_108 : decode cX8_rate 108 = .ok (.getfield 68, 3) := by decide +kernel
theorem dX8_rate_111 : decode cX8_rate 111 = .ok (.iload_n 2, 1) := by decide +kernel
theorem dX8_rate_112 : decode cX8_rate 112 = .ok (.invokevirtual 222, 3) := by decide +kernel
theorem dX8_rate_115 : decode cX8_rate 115 = .ok (.ireturn, 1) := by decide +kernel
theorem dX8_rate_116 : decode cX8_rate 116 = .ok (.aload_n 0, 1) := by decide +kernel
theorem dX8_rate_117 : decode cX8_rate 117 = .ok (.getfield 50, 3) := by decide +kernel
theorem dX8_rate_120 : decode cX8_rate 120 = .ok (.aload_n 0, 1) := by decide +kernel
theorem dX8_rate_121 : decode cX8_rate 121 = .ok (.getfield 64, 3) := by decide +kernel
theorem dX8_rate_124 : decode cX8_rate 124 = .ok (.aload_n 0, 1) := by decide +kernel
theorem dX8_rate_125 : decode cX8_rate 125 = .ok (.getfield 68, 3) := by decide +kernel
theorem dX8_rate_128 : decode cX8_rate 128 = .ok (.iload_n 2, 1) := by decide +kernel
theorem dX8_rate_129 : decode cX8_rate 129 = .ok (.invokevirtual 225, 3) := by decide +kernel
theorem dX8_rate_132 : decode cX8_rate 132 = .ok (.ireturn, 1) := by decide +kernel
theorem dX8_rate_133 : decode cX8_rate 133 = .ok (.aload_n 0, 1) := by decide +kernel
theorem dX8_rate_134 : decode cX8_rate 134 = .ok (.getfield 50, 3) := by decide +kernel
theorem dX8_rate_137 : decode cX8_rate 137 = .ok (.aload_n 0, 1) := by decide +kernel
theorem dX8_rate_138 : decode cX8_rate 138 = .ok (.getfield 64, 3) := by decide +kernel
theorem dX8_rate_141 : decode cX8_rate 141 = .ok (.aload_n 0, 1) := by decide +kernel
theorem dX8_rate_142 : decode cX8_rate 142 = .ok (.getfield 68, 3) := by decide +kernel
theorem dX8_rate_145 : decode cX8_rate 145 = .ok (.iload_n 2, 1) := by decide +kernel
theorem dX8_rate_146 : decode cX8_rate 146 = .ok (.invokevirtual 228, 3) := by decide +kernel
theorem dX8_rate_149 : decode cX8_rate 149 = .ok (.ireturn, 1) := by decide +kernel
theorem dX8_rate_150 : decode cX8_rate 150 = .ok (.ldc 211, 2) := by decide +kernel
theorem dX8_rate_152 : decode cX8_rate 152 = .ok (.ireturn, 1) := by decide +kernel
theorem dX8_keep_0 : decode cX8_keep 0 = .ok (.iload_n 1, 1) := by decide +kernel
theorem dX8_keep_1 : decode cX8_keep 1 = .ok (.ifCond .lt 8, 3) := by decide +kernel
theorem dX8_keep_4 : decode cX8_keep 4 = .ok (.iload_n 1, 1) := by decide +kernel
theorem dX8_keep_5 : decode cX8_keep 5 = .ok (.iconst 1, 1) := by decide +kernel
theorem dX8_keep_6 : decode cX8_keep 6 = .ok (.if_icmp .le 5, 3) := by decide +kernel
theorem dX8_keep_9 : decode cX8_keep 9 = .ok (.iconst (-1), 1) := by decide +kernel
theorem dX8_keep_10 : decode cX8_keep 10 = .ok (.ireturn, 1) := by decide +kernel
theorem dX8_keep_11 : decode cX8_keep 11 = .ok (.aload_n 0, 1) := by decide +kernel
theorem dX8_keep_12 : decode cX8_keep 12 = .ok (.iload_n 1, 1) := by decide +kernel
theorem dX8_keep_13 : decode cX8_keep 13 = .ok (.invokevirtual 231, 3) := by decide +kernel
theorem dX8_keep_16 : decode cX8_keep 16 = .ok (.astore_n 2, 1) := by decide +kernel
theorem dX8_keep_17 : decode cX8_keep 17 = .ok (.aload_n 2, 1) := by decide +kernel
theorem dX8_keep_18 : decode cX8_keep 18 = .ok (.aload_n 0, 1) := by decide +kernel
theorem dX8_keep_19 : decode cX8_keep 19 = .ok (.getfield 68, 3) := by decide +kernel
theorem dX8_keep_22 : decode cX8_keep 22 = .ok (.invokevirtual 235, 3) := by decide +kernel
theorem dX8_keep_25 : decode cX8_keep 25 = .ok (.aload_n 2, 1) := by decide +kernel
theorem dX8_keep_26 : decode cX8_keep 26 = .ok (.iconst 1, 1) := by decide +kernel
theorem dX8_keep_27 : decode cX8_keep 27 = .ok (.putfield 92, 3) := by decide +kernel
theorem dX8_keep_30 : decode cX8_keep 30 = .ok (.aload_n 0, 1) := by decide +kernel
theorem dX8_keep_31 : decode cX8_keep 31 = .ok (.getfield 68, 3) := by decide +kernel
theorem dX8_keep_34 : decode cX8_keep 34 = .ok (.getfield 133, 3) := by decide +kernel
theorem dX8_keep_37 : decode cX8_keep 37 = .ok (.ireturn, 1) := by decide +kernel
theorem dX8_back_0 : decode cX8_back 0 = .ok (.iload_n 1, 1) := by decide +kernel
theorem dX8_back_1 : decode cX8_back 1 = .ok (.ifCond .lt 8, 3) := by decide +kernel
theorem dX8_back_4 : decode cX8_back 4 = .ok (.iload_n 1, 1) := by decide +kernel
theorem dX8_back_5 : decode cX8_back 5 = .ok (.iconst 1, 1) := by decide +kernel
theorem dX8_back_6 : decode cX8_back 6 = .ok (.if_icmp .le 5, 3) := by decide +kernel
theorem dX8_back_9 : decode cX8_back 9 = .ok (.iconst (-1), 1) := by decide +kernel
theorem dX8_back_10 : decode cX8_back 10 = .ok (.ireturn, 1) := by decide +kernel
theorem dX8_back_11 : decode cX8_back 11 = .ok (.aload_n 0, 1) := by decide +kernel
theorem dX8_back_12 : decode cX8_back 12 = .ok (.iload_n 1, 1) := by decide +kernel
theorem dX8_back_13 : decode cX8_back 13 = .ok (.invokevirtual 231, 3) := by decide +kernel
theorem dX8_back_16 : decode cX8_back 16 = .ok (.astore_n 2, 1) := by decide +kernel
theorem dX8_back_17 : decode cX8_back 17 = .ok (.aload_n 2, 1) := by decide +kernel
theorem dX8_back_18 : decode cX8_back 18 = .ok (.getfield 92, 3) := by decide +kernel
theorem dX8_back_21 : decode cX8_back 21 = .ok (.ifCond .ne 6, 3) := by decide +kernel
theorem dX8_back_24 : decode cX8_back 24 = .ok (.bipush (-2), 2) := by decide +kernel
theorem dX8_back_26 : decode cX8_back 26 = .ok (.ireturn, 1) := by decide +kernel
theorem dX8_back_27 : decode cX8_back 27 = .ok (.aload_n 0, 1) := by decide +kernel
theorem dX8_back_28 : decode cX8_back 28 = .ok (.getfield 68, 3) := by decide +kernel
theorem dX8_back_31 : decode cX8_back 31 = .ok (.aload_n 2, 1) := by decide +kernel
theorem dX8_back_32 : decode cX8_back 32 = .ok (.invokevirtual 235, 3) := by decide +kernel
theorem dX8_back_35 : decode cX8_back 35 = .ok (.aload_n 0, 1) := by decide +kernel
theorem dX8_back_36 : decode cX8_back 36 = .ok (.getfield 36, 3) := by decide +kernel
theorem dX8_back_39 : decode cX8_back 39 = .ok (.iconst 0, 1) := by decide +kernel
theorem dX8_back_40 : decode cX8_back 40 = .ok (.putfield 88, 3) := by decide +kernel
theorem dX8_back_43 : decode cX8_back 43 = .ok (.aload_n 0, 1) := by decide +kernel
theorem dX8_back_44 : decode cX8_back 44 = .ok (.getfield 68, 3) := by decide +kernel
theorem dX8_back_47 : decode cX8_back 47 = .ok (.getfield 133, 3) := by decide +kernel
theorem dX8_back_50 : decode cX8_back 50 = .ok (.ireturn, 1) := by decide +kernel
theorem dX8_count_0 : decode cX8_count 0 = .ok (.iload_n 1, 1) := by decide +kernel
theorem dX8_count_1 : decode cX8_count 1 = .ok (.tableswitch 63 0 3 #[31, 39, 47, 55], 31) := by decide +kernel
theorem dX8_count_32 : decode cX8_count 32 = .ok (.aload_n 0, 1) := by decide +kernel
theorem dX8_count_33 : decode cX8_count 33 = .ok (.getfield 64, 3) := by decide +kernel
theorem dX8_count_36 : decode cX8_count 36 = .ok (.getfield 127, 3) := by decide +kernel
theorem dX8_count_39 : decode cX8_count 39 = .ok (.ireturn, 1) := by decide +kernel
theorem dX8_count_40 : decode cX8_count 40 = .ok (.aload_n 0, 1) := by decide +kernel
theorem dX8_count_41 : decode cX8_count 41 = .ok (.getfield 64, 3) := by decide +kernel
theorem dX8_count_44 : decode cX8_count 44 = .ok (.getfield 162, 3) := by decide +kernel
theorem dX8_count_47 : decode cX8_count 47 = .ok (.ireturn, 1) := by decide +kernel
theorem dX8_count_48 : decode cX8_count 48 = .ok (.aload_n 0, 1) := by decide +kernel
theorem dX8_count_49 : decode cX8_count 49 = .ok (.getfield 43, 3) := by decide +kernel
theorem dX8_count_52 : decode cX8_count 52 = .ok (.getfield 91, 3) := by decide +kernel
theorem dX8_count_55 : decode cX8_count 55 = .ok (.ireturn, 1) := by decide +kernel
theorem dX8_count_56 : decode cX8_count 56 = .ok (.aload_n 0, 1) := by decide +kernel
theorem dX8_count_57 : decode cX8_count 57 = .ok (.getfield 10, 3) := by decide +kernel
theorem dX8_count_60 : decode cX8_count 60 = .ok (.getfield 69, 3) := by decide +kernel
theorem dX8_count_63 : decode cX8_count 63 = .ok (.ireturn, 1) := by decide +kernel
theorem dX8_count_64 : decode cX8_count 64 = .ok (.iconst (-1), 1) := by decide +kernel
theorem dX8_count_65 : decode cX8_count 65 = .ok (.ireturn, 1) := by decide +kernel
theorem dX8_trace_0 : decode cX8_trace 0 = .ok (.aload_n 0, 1) := by decide +kernel
theorem dX8_trace_1 : decode cX8_trace 1 = .ok (.getfield 50, 3) := by decide +kernel
theorem dX8_trace_4 : decode cX8_trace 4 = .ok (.getfield 237, 3) := by decide +kernel
theorem dX8_trace_7 : decode cX8_trace 7 = .ok (.lreturn, 1) := by decide +kernel
theorem dX8_isChair_0 : decode cX8_isChair 0 = .ok (.iload_n 1, 1) := by decide +kernel
theorem dX8_isChair_1 : decode cX8_isChair 1 = .ok (.ifCond .lt 18, 3) := by decide +kernel
theorem dX8_isChair_4 : decode cX8_isChair 4 = .ok (.iload_n 1, 1) := by decide +kernel
theorem dX8_isChair_5 : decode cX8_isChair 5 = .ok (.aload_n 0, 1) := by decide +kernel
theorem dX8_isChair_6 : decode cX8_isChair 6 = .ok (.getfield 64, 3) := by decide +kernel
theorem dX8_isChair_9 : decode cX8_isChair 9 = .ok (.getfield 162, 3) := by decide +kernel
theorem dX8_isChair_12 : decode cX8_isChair 12 = .ok (.if_icmp .ge 7, 3) := by decide +kernel
theorem dX8_isChair_15 : decode cX8_isChair 15 = .ok (.iconst 1, 1) := by decide +kernel
theorem dX8_isChair_16 : decode cX8_isChair 16 = .ok (.goto 4, 3) := by decide +kernel
theorem dX8_isChair_19 : decode cX8_isChair 19 = .ok (.iconst 0, 1) := by decide +kernel
theorem dX8_isChair_20 : decode cX8_isChair 20 = .ok (.ireturn, 1) := by decide +kernel
theorem dX8_imageOf_0 : decode cX8_imageOf 0 = .ok (.iload_n 1, 1) := by decide +kernel
theorem dX8_imageOf_1 : decode cX8_imageOf 1 = .ok (.ifCond .ne 10, 3) := by decide +kernel
theorem dX8_imageOf_4 : decode cX8_imageOf 4 = .ok (.aload_n 0, 1) := by decide +kernel
theorem dX8_imageOf_5 : decode cX8_imageOf 5 = .ok (.getfield 26, 3) := by decide +kernel
theorem dX8_imageOf_8 : decode cX8_imageOf 8 = .ok (.goto 7, 3) := by decide +kernel
theorem dX8_imageOf_11 : decode cX8_imageOf 11 = .ok (.aload_n 0, 1) := by decide +kernel
theorem dX8_imageOf_12 : decode cX8_imageOf 12 = .ok (.getfield 30, 3) := by decide +kernel
theorem dX8_imageOf_15 : decode cX8_imageOf 15 = .ok (.areturn, 1) := by decide +kernel
theorem dX8_commonDivisor_0 : decode cX8_commonDivisor 0 = .ok (.iload_n 0, 1) := by decide +kernel
theorem dX8_commonDivisor_1 : decode cX8_commonDivisor 1 = .ok (.istore_n 2, 1) := by decide +kernel
theorem dX8_commonDivisor_2 : decode cX8_commonDivisor 2 = .ok (.iload_n 1, 1) := by decide +kernel
theorem dX8_commonDivisor_3 : decode cX8_commonDivisor 3 = .ok (.istore_n 3, 1) := by decide +kernel
theorem dX8_commonDivisor_4 : decode cX8_commonDivisor 4 = .ok (.iconst 0, 1) := by decide +kernel
theorem dX8_commonDivisor_5 : decode cX8_commonDivisor 5 = .ok (.istore 4, 2) := by decide +kernel
theorem dX8_commonDivisor_7 : decode cX8_commonDivisor 7 = .ok (.iload 4, 2) := by decide +kernel
theorem dX8_commonDivisor_9 : decode cX8_commonDivisor 9 = .ok (.bipush 100, 2) := by decide +kernel
theorem dX8_commonDivisor_11 : decode cX8_commonDivisor 11 = .ok (.if_icmp .ge 23, 3) := by decide +kernel
theorem dX8_commonDivisor_14 : decode cX8_commonDivisor 14 = .ok (.iload_n 3, 1) := by decide +kernel
theorem dX8_commonDivisor_15 : decode cX8_commonDivisor 15 = .ok (.ifCond .eq 19, 3) := by decide +kernel
theorem dX8_commonDivisor_18 : decode cX8_commonDivisor 18 = .ok (.iload_n 2, 1) := by decide +kernel
theorem dX8_commonDivisor_19 : decode cX8_commonDivisor 19 = .ok (.iload_n 3, 1) := by decide +kernel
theorem dX8_commonDivisor_20 : decode cX8_commonDivisor 20 = .ok (.irem, 1) := by decide +kernel
theorem dX8_commonDivisor_21 : decode cX8_commonDivisor 21 = .ok (.istore 5, 2) := by decide +kernel
theorem dX8_commonDivisor_23 : decode cX8_commonDivisor 23 = .ok (.iload_n 3, 1) := by decide +kernel
theorem dX8_commonDivisor_24 : decode cX8_commonDivisor 24 = .ok (.istore_n 2, 1) := by decide +kernel
theorem dX8_commonDivisor_25 : decode cX8_commonDivisor 25 = .ok (.iload 5, 2) := by decide +kernel
theorem dX8_commonDivisor_27 : decode cX8_commonDivisor 27 = .ok (.istore_n 3, 1) := by decide +kernel
theorem dX8_commonDivisor_28 : decode cX8_commonDivisor 28 = .ok (.iinc 4 1, 3) := by decide +kernel
theorem dX8_commonDivisor_31 : decode cX8_commonDivisor 31 = .ok (.goto (-24), 3) := by decide +kernel
theorem dX8_commonDivisor_34 : decode cX8_commonDivisor 34 = .ok (.iload_n 2, 1) := by decide +kernel
theorem dX8_commonDivisor_35 : decode cX8_commonDivisor 35 = .ok (.ireturn, 1) := by decide +kernel
