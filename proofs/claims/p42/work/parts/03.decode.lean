theorem dX0_init_0 : decode cX0_init 0 = .ok (.aload_n 0, 1) := by decide +kernel
theorem dX0_init_1 : decode cX0_init 1 = .ok (.invokespecial 3, 3) := by decide +kernel
theorem dX0_init_4 : decode cX0_init 4 = .ok (.aload_n 0, 1) := by decide +kernel
theorem dX0_init_5 : decode cX0_init 5 = .ok (.iload_n 1, 1) := by decide +kernel
theorem dX0_init_6 : decode cX0_init 6 = .ok (.putfield 9, 3) := by decide +kernel
theorem dX0_init_9 : decode cX0_init 9 = .ok (.aload_n 0, 1) := by decide +kernel
theorem dX0_init_10 : decode cX0_init 10 = .ok (.bipush 100, 2) := by decide +kernel
theorem dX0_init_12 : decode cX0_init 12 = .ok (.newarray .int, 2) := by decide +kernel
theorem dX0_init_14 : decode cX0_init 14 = .ok (.putfield 15, 3) := by decide +kernel
theorem dX0_init_17 : decode cX0_init 17 = .ok (.aload_n 0, 1) := by decide +kernel
theorem dX0_init_18 : decode cX0_init 18 = .ok (.getfield 15, 3) := by decide +kernel
theorem dX0_init_21 : decode cX0_init 21 = .ok (.iconst (-1), 1) := by decide +kernel
theorem dX0_init_22 : decode cX0_init 22 = .ok (.invokestatic 19, 3) := by decide +kernel
theorem dX0_init_25 : decode cX0_init 25 = .ok (.return_, 1) := by decide +kernel
theorem dX0_turned_0 : decode cX0_turned 0 = .ok (.aload_n 0, 1) := by decide +kernel
theorem dX0_turned_1 : decode cX0_turned 1 = .ok (.getfield 9, 3) := by decide +kernel
theorem dX0_turned_4 : decode cX0_turned 4 = .ok (.ifCond .ne 5, 3) := by decide +kernel
theorem dX0_turned_7 : decode cX0_turned 7 = .ok (.iload_n 1, 1) := by decide +kernel
theorem dX0_turned_8 : decode cX0_turned 8 = .ok (.ireturn, 1) := by decide +kernel
theorem dX0_turned_9 : decode cX0_turned 9 = .ok (.aload_n 0, 1) := by decide +kernel
theorem dX0_turned_10 : decode cX0_turned 10 = .ok (.getfield 9, 3) := by decide +kernel
theorem dX0_turned_13 : decode cX0_turned 13 = .ok (.iconst 1, 1) := by decide +kernel
theorem dX0_turned_14 : decode cX0_turned 14 = .ok (.if_icmp .ne 10, 3) := by decide +kernel
theorem dX0_turned_17 : decode cX0_turned 17 = .ok (.bipush 99, 2) := by decide +kernel
theorem dX0_turned_19 : decode cX0_turned 19 = .ok (.iload_n 1, 1) := by decide +kernel
theorem dX0_turned_20 : decode cX0_turned 20 = .ok (.isub, 1) := by decide +kernel
theorem dX0_turned_21 : decode cX0_turned 21 = .ok (.goto 15, 3) := by decide +kernel
theorem dX0_turned_24 : decode cX0_turned 24 = .ok (.iload_n 1, 1) := by decide +kernel
theorem dX0_turned_25 : decode cX0_turned 25 = .ok (.bipush 10, 2) := by decide +kernel
theorem dX0_turned_27 : decode cX0_turned 27 = .ok (.irem, 1) := by decide +kernel
theorem dX0_turned_28 : decode cX0_turned 28 = .ok (.bipush 10, 2) := by decide +kernel
theorem dX0_turned_30 : decode cX0_turned 30 = .ok (.imul, 1) := by decide +kernel
theorem dX0_turned_31 : decode cX0_turned 31 = .ok (.iload_n 1, 1) := by decide +kernel
theorem dX0_turned_32 : decode cX0_turned 32 = .ok (.bipush 10, 2) := by decide +kernel
theorem dX0_turned_34 : decode cX0_turned 34 = .ok (.idiv, 1) := by decide +kernel
theorem dX0_turned_35 : decode cX0_turned 35 = .ok (.iadd, 1) := by decide +kernel
theorem dX0_turned_36 : decode cX0_turned 36 = .ok (.ireturn, 1) := by decide +kernel
theorem dX0_rankOf_0 : decode cX0_rankOf 0 = .ok (.aload_n 0, 1) := by decide +kernel
theorem dX0_rankOf_1 : decode cX0_rankOf 1 = .ok (.iload_n 1, 1) := by decide +kernel
theorem dX0_rankOf_2 : decode cX0_rankOf 2 = .ok (.invokevirtual 25, 3) := by decide +kernel
theorem dX0_rankOf_5 : decode cX0_rankOf 5 = .ok (.ireturn, 1) := by decide +kernel
theorem dX0_keyOf_0 : decode cX0_keyOf 0 = .ok (.iload_n 1, 1) := by decide +kernel
theorem dX0_keyOf_1 : decode cX0_keyOf 1 = .ok (.iconst (-1), 1) := by decide +kernel
theorem dX0_keyOf_2 : decode cX0_keyOf 2 = .ok (.if_icmp .ne 7, 3) := by decide +kernel
theorem dX0_keyOf_5 : decode cX0_keyOf 5 = .ok (.iconst (-1), 1) := by decide +kernel
theorem dX0_keyOf_6 : decode cX0_keyOf 6 = .ok (.goto 8, 3) := by decide +kernel
theorem dX0_keyOf_9 : decode cX0_keyOf 9 = .ok (.aload_n 0, 1) := by decide +kernel
theorem dX0_keyOf_10 : decode cX0_keyOf 10 = .ok (.iload_n 1, 1) := by decide +kernel
theorem dX0_keyOf_11 : decode cX0_keyOf 11 = .ok (.invokevirtual 25, 3) := by decide +kernel
theorem dX0_keyOf_14 : decode cX0_keyOf 14 = .ok (.ireturn, 1) := by decide +kernel
theorem dX0_isAhead_0 : decode cX0_isAhead 0 = .ok (.aload_n 0, 1) := by decide +kernel
theorem dX0_isAhead_1 : decode cX0_isAhead 1 = .ok (.iload_n 1, 1) := by decide +kernel
theorem dX0_isAhead_2 : decode cX0_isAhead 2 = .ok (.invokevirtual 29, 3) := by decide +kernel
theorem dX0_isAhead_5 : decode cX0_isAhead 5 = .ok (.aload_n 0, 1) := by decide +kernel
theorem dX0_isAhead_6 : decode cX0_isAhead 6 = .ok (.iload_n 2, 1) := by decide +kernel
theorem dX0_isAhead_7 : decode cX0_isAhead 7 = .ok (.invokevirtual 29, 3) := by decide +kernel
theorem dX0_isAhead_10 : decode cX0_isAhead 10 = .ok (.if_icmp .ge 7, 3) := by decide +kernel
theorem dX0_isAhead_13 : decode cX0_isAhead 13 = .ok (.iconst 1, 1) := by decide +kernel
theorem dX0_isAhead_14 : decode cX0_isAhead 14 = .ok (.goto 4, 3) := by decide +kernel
theorem dX0_isAhead_17 : decode cX0_isAhead 17 = .ok (.iconst 0, 1) := by decide +kernel
theorem dX0_isAhead_18 : decode cX0_isAhead 18 = .ok (.ireturn, 1) := by decide +kernel
theorem dX0_worthAt_0 : decode cX0_worthAt 0 = .ok (.iload_n 1, 1) := by decide +kernel
theorem dX0_worthAt_1 : decode cX0_worthAt 1 = .ok (.ifCond .lt 9, 3) := by decide +kernel
theorem dX0_worthAt_4 : decode cX0_worthAt 4 = .ok (.iload_n 1, 1) := by decide +kernel
theorem dX0_worthAt_5 : decode cX0_worthAt 5 = .ok (.bipush 100, 2) := by decide +kernel
theorem dX0_worthAt_7 : decode cX0_worthAt 7 = .ok (.if_icmp .lt 7, 3) := by decide +kernel
theorem dX0_worthAt_10 : decode cX0_worthAt 10 = .ok (.iconst (-1), 1) := by decide +kernel
theorem dX0_worthAt_11 : decode cX0_worthAt 11 = .ok (.goto 9, 3) := by decide +kernel
theorem dX0_worthAt_14 : decode cX0_worthAt 14 = .ok (.aload_n 0, 1) := by decide +kernel
theorem dX0_worthAt_15 : decode cX0_worthAt 15 = .ok (.getfield 15, 3) := by decide +kernel
theorem dX0_worthAt_18 : decode cX0_worthAt 18 = .ok (.iload_n 1, 1) := by decide +kernel
theorem dX0_worthAt_19 : decode cX0_worthAt 19 = .ok (.iaload, 1) := by decide +kernel
theorem dX0_worthAt_20 : decode cX0_worthAt 20 = .ok (.ireturn, 1) := by decide +kernel
theorem dX0_isThere_0 : decode cX0_isThere 0 = .ok (.iload_n 1, 1) := by decide +kernel
theorem dX0_isThere_1 : decode cX0_isThere 1 = .ok (.ifCond .lt 23, 3) := by decide +kernel
theorem dX0_isThere_4 : decode cX0_isThere 4 = .ok (.iload_n 1, 1) := by decide +kernel
theorem dX0_isThere_5 : decode cX0_isThere 5 = .ok (.bipush 100, 2) := by decide +kernel
theorem dX0_isThere_7 : decode cX0_isThere 7 = .ok (.if_icmp .ge 17, 3) := by decide +kernel
theorem dX0_isThere_10 : decode cX0_isThere 10 = .ok (.aload_n 0, 1) := by decide +kernel
theorem dX0_isThere_11 : decode cX0_isThere 11 = .ok (.getfield 15, 3) := by decide +kernel
theorem dX0_isThere_14 : decode cX0_isThere 14 = .ok (.iload_n 1, 1) := by decide +kernel
theorem dX0_isThere_15 : decode cX0_isThere 15 = .ok (.iaload, 1) := by decide +kernel
theorem dX0_isThere_16 : decode cX0_isThere 16 = .ok (.iconst (-1), 1) := by decide +kernel
theorem dX0_isThere_17 : decode cX0_isThere 17 = .ok (.if_icmp .eq 7, 3) := by decide +kernel
theorem dX0_isThere_20 : decode cX0_isThere 20 = .ok (.iconst 1, 1) := by decide +kernel
theorem dX0_isThere_21 : decode cX0_isThere 21 = .ok (.goto 4, 3) := by decide +kernel
theorem dX0_isThere_24 : decode cX0_isThere 24 = .ok (.iconst 0, 1) := by decide +kernel
theorem dX0_isThere_25 : decode cX0_isThere 25 = .ok (.ireturn, 1) := by decide +kernel
theorem dX0_pairAt_0 : decode cX0_pairAt 0 = .ok (.aload_n 0, 1) := by decide +kernel
theorem dX0_pairAt_1 : decode cX0_pairAt 1 = .ok (.iload_n 1, 1) := by decide +kernel
theorem dX0_pairAt_2 : decode cX0_pairAt 2 = .ok (.invokevirtual 32, 3) := by decide +kernel
theorem dX0_pairAt_5 : decode cX0_pairAt 5 = .ok (.ifCond .eq 20, 3) := by decide +kernel
theorem dX0_pairAt_8 : decode cX0_pairAt 8 = .ok (.aload_n 0, 1) := by decide +kernel
theorem dX0_pairAt_9 : decode cX0_pairAt 9 = .ok (.iload_n 1, 1) := by decide +kernel
theorem dX0_pairAt_10 : decode cX0_pairAt 10 = .ok (.invokevirtual 36, 3) := by decide +kernel
theorem dX0_pairAt_13 : decode cX0_pairAt 13 = .ok (.bipush 100, 2) := by decide +kernel
theorem dX0_pairAt_15 : decode cX0_pairAt 15 = .ok (.imul, 1) := by decide +kernel
theorem dX0_pairAt_16 : decode cX0_pairAt 16 = .ok (.aload_n 0, 1) := by decide +kernel
theorem dX0_pairAt_17 : decode cX0_pairAt 17 = .ok (.iload_n 1, 1) := by decide +kernel
theorem dX0_pairAt_18 : decode cX0_pairAt 18 = .ok (.invokevirtual 39, 3) := by decide +kernel
theorem dX0_pairAt_21 : decode cX0_pairAt 21 = .ok (.iadd, 1) := by decide +kernel
theorem dX0_pairAt_22 : decode cX0_pairAt 22 = .ok (.goto 4, 3) := by decide +kernel
theorem dX0_pairAt_25 : decode cX0_pairAt 25 = .ok (.iconst (-1), 1) := by decide +kernel
theorem dX0_pairAt_26 : decode cX0_pairAt 26 = .ok (.ireturn, 1) := by decide +kernel
theorem dX0_come_0 : decode cX0_come 0 = .ok (.iload_n 1, 1) := by decide +kernel
theorem dX0_come_1 : decode cX0_come 1 = .ok (.ifCond .lt 9, 3) := by decide +kernel
theorem dX0_come_4 : decode cX0_come 4 = .ok (.iload_n 1, 1) := by decide +kernel
theorem dX0_come_5 : decode cX0_come 5 = .ok (.bipush 100, 2) := by decide +kernel
theorem dX0_come_7 : decode cX0_come 7 = .ok (.if_icmp .lt 5, 3) := by decide +kernel
theorem dX0_come_10 : decode cX0_come 10 = .ok (.iconst (-1), 1) := by decide +kernel
theorem dX0_come_11 : decode cX0_come 11 = .ok (.ireturn, 1) := by decide +kernel
theorem dX0_come_12 : decode cX0_come 12 = .ok (.aload_n 0, 1) := by decide +kernel
theorem dX0_come_13 : decode cX0_come 13 = .ok (.getfield 15, 3) := by decide +kernel
theorem dX0_come_16 : decode cX0_come 16 = .ok (.iload_n 1, 1) := by decide +kernel
theorem dX0_come_17 : decode cX0_come 17 = .ok (.iaload, 1) := by decide +kernel
theorem dX0_come_18 : decode cX0_come 18 = .ok (.istore_n 3, 1) := by decide +kernel
theorem dX0_come_19 : decode cX0_come 19 = .ok (.aload_n 0, 1) := by decide +kernel
theorem dX0_come_20 : decode cX0_come 20 = .ok (.getfield 15, 3) := by decide +kernel
theorem dX0_come_23 : decode cX0_come 23 = .ok (.iload_n 1, 1) := by decide +kernel
theorem dX0_come_24 : decode cX0_come 24 = .ok (.iload_n 2, 1) := by decide +kernel
theorem dX0_come_25 : decode cX0_come 25 = .ok (.iastore, 1) := by decide +kernel
theorem dX0_come_26 : decode cX0_come 26 = .ok (.iload_n 3, 1) := by decide +kernel
theorem dX0_come_27 : decode cX0_come 27 = .ok (.iconst (-1), 1) := by decide +kernel
theorem dX0_come_28 : decode cX0_come 28 = .ok (.if_icmp .ne 23, 3) := by decide +kernel
theorem dX0_come_31 : decode cX0_come 31 = .ok (.aload_n 0, 1) := by decide +kernel
theorem dX0_come_32 : decode cX0_come 32 = .ok (.dup, 1) := by decide +kernel
theorem dX0_come_33 : decode cX0_come 33 = .ok (.getfield 42, 3) := by decide +kernel
theorem dX0_come_36 : decode cX0_come 36 = .ok (.iconst 1, 1) := by decide +kernel
theorem dX0_come_37 : decode cX0_come 37 = .ok (.iadd, 1) := by decide +kernel
theorem dX0_come_38 : decode cX0_come 38 = .ok (.putfield 42, 3) := by decide +kernel
theorem dX0_come_41 : decode cX0_come 41 = .ok (.aload_n 0, 1) := by decide +kernel
theorem dX0_come_42 : decode cX0_come 42 = .ok (.dup, 1) := by decide +kernel
theorem dX0_come_43 : decode cX0_come 43 = .ok (.getfield 45, 3) := by decide +kernel
theorem dX0_come_46 : decode cX0_come 46 = .ok (.iconst 1, 1) := by decide +kernel
theorem dX0_come_47 : decode cX0_come 47 = .ok (.iadd, 1) := by decide +kernel
theorem dX0_come_48 : decode cX0_come 48 = .ok (.putfield 45, 3) := by decide +kernel
theorem dX0_come_51 : decode cX0_come 51 = .ok (.iload_n 3, 1) := by decide +kernel
theorem dX0_come_52 : decode cX0_come 52 = .ok (.ireturn, 1) := by decide +kernel
theorem dX0_go_0 : decode cX0_go 0 = .ok (.iload_n 1, 1) := by decide +kernel
theorem dX0_go_1 : decode cX0_go 1 = .ok (.ifCond .lt 9, 3) := by decide +kernel
theorem dX0_go_4 : decode cX0_go 4 = .ok (.iload_n 1, 1) := by decide +kernel
theorem dX0_go_5 : decode cX0_go 5 = .ok (.bipush 100, 2) := by decide +kernel
theorem dX0_go_7 : decode cX0_go 7 = .ok (.if_icmp .lt 5, 3) := by decide +kernel
theorem dX0_go_10 : decode cX0_go 10 = .ok (.iconst (-1), 1) := by decide +kernel
theorem dX0_go_11 : decode cX0_go 11 = .ok (.ireturn, 1) := by decide +kernel
theorem dX0_go_12 : decode cX0_go 12 = .ok (.aload_n 0, 1) := by decide +kernel
theorem dX0_go_13 : decode cX0_go 13 = .ok (.getfield 15, 3) := by decide +kernel
theorem dX0_go_16 : decode cX0_go 16 = .ok (.iload_n 1, 1) := by decide +kernel
theorem dX0_go_17 : decode cX0_go 17 = .ok (.iaload, 1) := by decide +kernel
theorem dX0_go_18 : decode cX0_go 18 = .ok (.istore_n 2, 1) := by decide +kernel
theorem dX0_go_19 : decode cX0_go 19 = .ok (.aload_n 0, 1) := by decide +kernel
theorem dX0_go_20 : decode cX0_go 20 = .ok (.getfield 15, 3) := by decide +kernel
theorem dX0_go_23 : decode cX0_go 23 = .ok (.iload_n 1, 1) := by decide +kernel
theorem dX0_go_24 : decode cX0_go 24 = .ok (.iconst (-1), 1) := by decide +kernel
theorem dX0_go_25 : decode cX0_go 25 = .ok (.iastore, 1) := by decide +kernel
theorem dX0_go_26 : decode cX0_go 26 = .ok (.iload_n 2, 1) := by decide +kernel
theorem dX0_go_27 : decode cX0_go 27 = .ok (.iconst (-1), 1) := by decide +kernel
theorem dX0_go_28 : decode cX0_go 28 = .ok (.if_icmp .eq 23, 3) := by decide +kernel
theorem dX0_go_31 : decode cX0_go 31 = .ok (.aload_n 0, 1) := by decide +kernel
theorem dX0_go_32 : decode cX0_go 32 = .ok (.dup, 1) := by decide +kernel
theorem dX0_go_33 : decode cX0_go 33 = .ok (.getfield 42, 3) := by decide +kernel
theorem dX0_go_36 : decode cX0_go 36 = .ok (.iconst 1, 1) := by decide +kernel
theorem dX0_go_37 : decode cX0_go 37 = .ok (.isub, 1) := by decide +kernel
theorem dX0_go_38 : decode cX0_go 38 = .ok (.putfield 42, 3) := by decide +kernel
theorem dX0_go_41 : decode cX0_go 41 = .ok (.aload_n 0, 1) := by decide +kernel
theorem dX0_go_42 : decode cX0_go 42 = .ok (.dup, 1) := by decide +kernel
theorem dX0_go_43 : decode cX0_go 43 = .ok (.getfield 45, 3) := by decide +kernel
theorem dX0_go_46 : decode cX0_go 46 = .ok (.iconst 1, 1) := by decide +kernel
theorem dX0_go_47 : decode cX0_go 47 = .ok (.iadd, 1) := by decide +kernel
theorem dX0_go_48 : decode cX0_go 48 = .ok (.putfield 45, 3) := by decide +kernel
theorem dX0_go_51 : decode cX0_go 51 = .ok (.iload_n 2, 1) := by decide +kernel
theorem dX0_go_52 : decode cX0_go 52 = .ok (.ireturn, 1) := by decide +kernel
theorem dX0_firstInPart_0 : decode cX0_firstInPart 0 = .ok (.iload_n 1, 1) := by decide +kernel
theorem dX0_firstInPart_1 : decode cX0_firstInPart 1 = .ok (.istore_n 3, 1) := by decide +kernel
theorem dX0_firstInPart_2 : decode cX0_firstInPart 2 = .ok (.iload_n 3, 1) := by decide +kernel
theorem dX0_firstInPart_3 : decode cX0_firstInPart 3 = .ok (.iload_n 2, 1) := by decide +kernel
theorem dX0_firstInPart_4 : decode cX0_firstInPart 4 = .ok (.if_icmp .gt 19, 3) := by decide +kernel
theorem dX0_firstInPart_7 : decode cX0_firstInPart 7 = .ok (.aload_n 0, 1) := by decide +kernel
theorem dX0_firstInPart_8 : decode cX0_firstInPart 8 = .ok (.iload_n 3, 1) := by decide +kernel
theorem dX0_firstInPart_9 : decode cX0_firstInPart 9 = .ok (.invokevirtual 32, 3) := by decide +kernel
theorem dX0_firstInPart_12 : decode cX0_firstInPart 12 = .ok (.ifCond .eq 5, 3) := by decide +kernel
theorem dX0_firstInPart_15 : decode cX0_firstInPart 15 = .ok (.iload_n 3, 1) := by decide +kernel
theorem dX0_firstInPart_16 : decode cX0_firstInPart 16 = .ok (.ireturn, 1) := by decide +kernel
theorem dX0_firstInPart_17 : decode cX0_firstInPart 17 = .ok (.iinc 3 1, 3) := by decide +kernel
theorem dX0_firstInPart_20 : decode cX0_firstInPart 20 = .ok (.goto (-18), 3) := by decide +kernel
theorem dX0_firstInPart_23 : decode cX0_firstInPart 23 = .ok (.iconst (-1), 1) := by decide +kernel
theorem dX0_firstInPart_24 : decode cX0_firstInPart 24 = .ok (.ireturn, 1) := by decide +kernel
theorem dX0_lastInPart_0 : decode cX0_lastInPart 0 = .ok (.iload_n 2, 1) := by decide +kernel
theorem dX0_lastInPart_1 : decode cX0_lastInPart 1 = .ok (.istore_n 3, 1) := by decide +kernel
theorem dX0_lastInPart_2 : decode cX0_lastInPart 2 = .ok (.iload_n 3, 1) := by decide +kernel
theorem dX0_lastInPart_3 : decode cX0_lastInPart 3 = .ok (.iload_n 1, 1) := by decide +kernel
theorem dX0_lastInPart_4 : decode cX0_lastInPart 4 = .ok (.if_icmp .lt 19, 3) := by decide +kernel
theorem dX0_lastInPart_7 : decode cX0_lastInPart 7 = .ok (.aload_n 0, 1) := by decide +kernel
theorem dX0_lastInPart_8 : decode cX0_lastInPart 8 = .ok (.iload_n 3, 1) := by decide +kernel
theorem dX0_lastInPart_9 : decode cX0_lastInPart 9 = .ok (.invokevirtual 32, 3) := by decide +kernel
theorem dX0_lastInPart_12 : decode cX0_lastInPart 12 = .ok (.ifCond .eq 5, 3) := by decide +kernel
theorem dX0_lastInPart_15 : decode cX0_lastInPart 15 = .ok (.iload_n 3, 1) := by decide +kernel
theorem dX0_lastInPart_16 : decode cX0_lastInPart 16 = .ok (.ireturn, 1) := by decide +kernel
theorem dX0_lastInPart_17 : decode cX0_lastInPart 17 = .ok (.iinc 3 (-1), 3) := by decide +kernel
theorem dX0_lastInPart_20 : decode cX0_lastInPart 20 = .ok (.goto (-18), 3) := by decide +kernel
theorem dX0_lastInPart_23 : decode cX0_lastInPart 23 = .ok (.iconst (-1), 1) := by decide +kernel
theorem dX0_lastInPart_24 : decode cX0_lastInPart 24 = .ok (.ireturn, 1) := by decide +kernel
theorem dX0_endOfPart_0 : decode cX0_endOfPart 0 = .ok (.iload_n 3, 1) := by decide +kernel
theorem dX0_endOfPart_1 : decode cX0_endOfPart 1 = .ok (.ifCond .eq 12, 3) := by decide +kernel
theorem dX0_endOfPart_4 : decode cX0_endOfPart 4 = .ok (.aload_n 0, 1) := by decide +kernel
theorem dX0_endOfPart_5 : decode cX0_endOfPart 5 = .ok (.iload_n 1, 1) := by decide +kernel
theorem dX0_endOfPart_6 : decode cX0_endOfPart 6 = .ok (.iload_n 2, 1) := by decide +kernel
theorem dX0_endOfPart_7 : decode cX0_endOfPart 7 = .ok (.invokevirtual 48, 3) := by decide +kernel
theorem dX0_endOfPart_10 : decode cX0_endOfPart 10 = .ok (.goto 9, 3) := by decide +kernel
theorem dX0_endOfPart_13 : decode cX0_endOfPart 13 = .ok (.aload_n 0, 1) := by decide +kernel
theorem dX0_endOfPart_14 : decode cX0_endOfPart 14 = .ok (.iload_n 1, 1) := by decide +kernel
theorem dX0_endOfPart_15 : decode cX0_endOfPart 15 = .ok (.iload_n 2, 1) := by decide +kernel
theorem dX0_endOfPart_16 : decode cX0_endOfPart 16 = .ok (.invokevirtual 52, 3) := by decide +kernel
theorem dX0_endOfPart_19 : decode cX0_endOfPart 19 = .ok (.ireturn, 1) := by decide +kernel
theorem dX0_nearInPart_0 : decode cX0_nearInPart 0 = .ok (.aload_n 0, 1) := by decide +kernel
theorem dX0_nearInPart_1 : decode cX0_nearInPart 1 = .ok (.iload_n 3, 1) := by decide +kernel
theorem dX0_nearInPart_2 : decode cX0_nearInPart 2 = .ok (.invokevirtual 29, 3) := by decide +kernel
theorem dX0_nearInPart_5 : decode cX0_nearInPart 5 = .ok (.istore 5, 2) := by decide +kernel
theorem dX0_nearInPart_7 : decode cX0_nearInPart 7 = .ok (.iload 4, 2) := by decide +kernel
theorem dX0_nearInPart_9 : decode cX0_nearInPart 9 = .ok (.tableswitch 83 0 3 #[31, 43, 55, 69], 31) := by decide +kernel
theorem dX0_nearInPart_40 : decode cX0_nearInPart 40 = .ok (.aload_n 0, 1) := by decide +kernel
theorem dX0_nearInPart_41 : decode cX0_nearInPart 41 = .ok (.iload_n 1, 1) := by decide +kernel
theorem dX0_nearInPart_42 : decode cX0_nearInPart 42 = .ok (.iload 5, 2) := by decide +kernel
theorem dX0_nearInPart_44 : decode cX0_nearInPart 44 = .ok (.iload_n 2, 1) := by decide +kernel
theorem dX0_nearInPart_45 : decode cX0_nearInPart 45 = .ok (.invokestatic 55, 3) := by decide +kernel
theorem dX0_nearInPart_48 : decode cX0_nearInPart 48 = .ok (.invokevirtual 48, 3) := by decide +kernel
theorem dX0_nearInPart_51 : decode cX0_nearInPart 51 = .ok (.ireturn, 1) := by decide +kernel
theorem dX0_nearInPart_52 : decode cX0_nearInPart 52 = .ok (.aload_n 0, 1) := by decide +kernel
theorem dX0_nearInPart_53 : decode cX0_nearInPart 53 = .ok (.iload 5, 2) := by decide +kernel
theorem dX0_nearInPart_55 : decode cX0_nearInPart 55 = .ok (.iload_n 1, 1) := by decide +kernel
theorem dX0_nearInPart_56 : decode cX0_nearInPart 56 = .ok (.invokestatic 60, 3) := by decide +kernel
theorem dX0_nearInPart_59 : decode cX0_nearInPart 59 = .ok (.iload_n 2, 1) := by decide +kernel
theorem dX0_nearInPart_60 : decode cX0_nearInPart 60 = .ok (.invokevirtual 52, 3) := by decide +kernel
theorem dX0_nearInPart_63 : decode cX0_nearInPart 63 = .ok (.ireturn, 1) := by decide +kernel
theorem dX0_nearInPart_64 : decode cX0_nearInPart 64 = .ok (.aload_n 0, 1) := by decide +kernel
theorem dX0_nearInPart_65 : decode cX0_nearInPart 65 = .ok (.iload_n 1, 1) := by decide +kernel
theorem dX0_nearInPart_66 : decode cX0_nearInPart 66 = .ok (.iload 5, 2) := by decide +kernel
theorem dX0_nearInPart_68 : decode cX0_nearInPart 68 = .ok (.iconst 1, 1) := by decide +kernel
theorem dX0_nearInPart_69 : decode cX0_nearInPart 69 = .ok (.isub, 1) := by decide +kernel
theorem dX0_nearInPart_70 : decode cX0_nearInPart 70 = .ok (.iload_n 2, 1) := by decide +kernel
theorem dX0_nearInPart_71 : decode cX0_nearInPart 71 = .ok (.invokestatic 55, 3) := by decide +kernel
theorem dX0_nearInPart_74 : decode cX0_nearInPart 74 = .ok (.invokevirtual 48, 3) := by decide +kernel
theorem dX0_nearInPart_77 : decode cX0_nearInPart 77 = .ok (.ireturn, 1) := by decide +kernel
theorem dX0_nearInPart_78 : decode cX0_nearInPart 78 = .ok (.aload_n 0, 1) := by decide +kernel
theorem dX0_nearInPart_79 : decode cX0_nearInPart 79 = .ok (.iload 5, 2) := by decide +kernel
theorem dX0_nearInPart_81 : decode cX0_nearInPart 81 = .ok (.iconst 1, 1) := by decide +kernel
theorem dX0_nearInPart_82 : decode cX0_nearInPart 82 = .ok (.iadd, 1) := by decide +kernel
theorem dX0_nearInPart_83 : decode cX0_nearInPart 83 = .ok (.iload_n 1, 1) := by decide +kernel
theorem dX0_nearInPart_84 : decode cX0_nearInPart 84 = .ok (.invokestatic 60, 3) := by decide +kernel
theorem dX0_nearInPart_87 : decode cX0_nearInPart 87 = .ok (.iload_n 2, 1) := by decide +kernel
theorem dX0_nearInPart_88 : decode cX0_nearInPart 88 = .ok (.invokevirtual 52, 3) := by decide +kernel
theorem dX0_nearInPart_91 : decode cX0_nearInPart 91 = .ok (.ireturn, 1) := by decide +kernel
theorem dX0_nearInPart_92 : decode cX0_nearInPart 92 = .ok (.aload_n 0, 1) := by decide +kernel
theorem dX0_nearInPart_93 : decode cX0_nearInPart 93 = .ok (.iload 5, 2) := by decide +kernel
theorem dX0_nearInPart_95 : decode cX0_nearInPart 95 = .ok (.iload_n 1, 1) := by decide +kernel
theorem dX0_nearInPart_96 : decode cX0_nearInPart 96 = .ok (.invokestatic 60, 3) := by decide +kernel
theorem dX0_nearInPart_99 : decode cX0_nearInPart 99 = .ok (.iload 5, 2) := by decide +kernel
theorem dX0_nearInPart_101 : decode cX0_nearInPart 101 = .ok (.iload_n 2, 1) := by decide +kernel
theorem dX0_nearInPart_102 : decode cX0_nearInPart 102 = .ok (.invokestatic 55, 3) := by decide +kernel
theorem dX0_nearInPart_105 : decode cX0_nearInPart 105 = .ok (.invokevirtual 52, 3) := by decide +kernel
theorem dX0_nearInPart_108 : decode cX0_nearInPart 108 = .ok (.ireturn, 1) := by decide +kernel
theorem dX0_rankBehind_0 : decode cX0_rankBehind 0 = .ok (.iconst 0, 1) := by decide +kernel
theorem dX0_rankBehind_1 : decode cX0_rankBehind 1 = .ok (.istore_n 2, 1) := by decide +kernel
theorem dX0_rankBehind_2 : decode cX0_rankBehind 2 = .ok (.iconst 0, 1) := by decide +kernel
theorem dX0_rankBehind_3 : decode cX0_rankBehind 3 = .ok (.istore_n 3, 1) := by decide +kernel
theorem dX0_rankBehind_4 : decode cX0_rankBehind 4 = .ok (.iload_n 3, 1) := by decide +kernel
theorem dX0_rankBehind_5 : decode cX0_rankBehind 5 = .ok (.bipush 100, 2) := by decide +kernel
theorem dX0_rankBehind_7 : decode cX0_rankBehind 7 = .ok (.if_icmp .ge 27, 3) := by decide +kernel
theorem dX0_rankBehind_10 : decode cX0_rankBehind 10 = .ok (.aload_n 0, 1) := by decide +kernel
theorem dX0_rankBehind_11 : decode cX0_rankBehind 11 = .ok (.iload_n 3, 1) := by decide +kernel
theorem dX0_rankBehind_12 : decode cX0_rankBehind 12 = .ok (.invokevirtual 32, 3) := by decide +kernel
theorem dX0_rankBehind_15 : decode cX0_rankBehind 15 = .ok (.ifCond .eq 13, 3) := by decide +kernel
theorem dX0_rankBehind_18 : decode cX0_rankBehind 18 = .ok (.iload_n 2, 1) := by decide +kernel
theorem dX0_rankBehind_19 : decode cX0_rankBehind 19 = .ok (.iload_n 1, 1) := by decide +kernel
theorem dX0_rankBehind_20 : decode cX0_rankBehind 20 = .ok (.if_icmp .ne 5, 3) := by decide +kernel
theorem dX0_rankBehind_23 : decode cX0_rankBehind 23 = .ok (.iload_n 3, 1) := by decide +kernel
theorem dX0_rankBehind_24 : decode cX0_rankBehind 24 = .ok (.ireturn, 1) := by decide +kernel
theorem dX0_rankBehind_25 : decode cX0_rankBehind 25 = .ok (.iinc 2 1, 3) := by decide +kernel
theorem dX0_rankBehind_28 : decode cX0_rankBehind 28 = .ok (.iinc 3 1, 3) := by decide +kernel
theorem dX0_rankBehind_31 : decode cX0_rankBehind 31 = .ok (.goto (-27), 3) := by decide +kernel
theorem dX0_rankBehind_34 : decode cX0_rankBehind 34 = .ok (.iconst (-1), 1) := by decide +kernel
theorem dX0_rankBehind_35 : decode cX0_rankBehind 35 = .ok (.ireturn, 1) := by decide +kernel
theorem dX0_countOfPart_0 : decode cX0_countOfPart 0 = .ok (.iconst 0, 1) := by decide +kernel
theorem dX0_countOfPart_1 : decode cX0_countOfPart 1 = .ok (.istore_n 3, 1) := by decide +kernel
theorem dX0_countOfPart_2 : decode cX0_countOfPart 2 = .ok (.iload_n 1, 1) := by decide +kernel
theorem dX0_countOfPart_3 : decode cX0_countOfPart 3 = .ok (.istore 4, 2) := by decide +kernel
theorem dX0_countOfPart_5 : decode cX0_countOfPart 5 = .ok (.iload 4, 2) := by decide +kernel
theorem dX0_countOfPart_7 : decode cX0_countOfPart 7 = .ok (.iload_n 2, 1) := by decide +kernel
theorem dX0_countOfPart_8 : decode cX0_countOfPart 8 = .ok (.if_icmp .gt 21, 3) := by decide +kernel
theorem dX0_countOfPart_11 : decode cX0_countOfPart 11 = .ok (.aload_n 0, 1) := by decide +kernel
theorem dX0_countOfPart_12 : decode cX0_countOfPart 12 = .ok (.iload 4, 2) := by decide +kernel
theorem dX0_countOfPart_14 : decode cX0_countOfPart 14 = .ok (.invokevirtual 32, 3) := by decide +kernel
theorem dX0_countOfPart_17 : decode cX0_countOfPart 17 = .ok (.ifCond .eq 6, 3) := by decide +kernel
theorem dX0_countOfPart_20 : decode cX0_countOfPart 20 = .ok (.iinc 3 1, 3) := by decide +kernel
theorem dX0_countOfPart_23 : decode cX0_countOfPart 23 = .ok (.iinc 4 1, 3) := by decide +kernel
theorem dX0_countOfPart_26 : decode cX0_countOfPart 26 = .ok (.goto (-21), 3) := by decide +kernel
theorem dX0_countOfPart_29 : decode cX0_countOfPart 29 = .ok (.iload_n 3, 1) := by decide +kernel
theorem dX0_countOfPart_30 : decode cX0_countOfPart 30 = .ok (.ireturn, 1) := by decide +kernel
theorem dX0_worthsOfPart_0 : decode cX0_worthsOfPart 0 = .ok (.iconst 0, 1) := by decide +kernel
theorem dX0_worthsOfPart_1 : decode cX0_worthsOfPart 1 = .ok (.istore_n 3, 1) := by decide +kernel
theorem dX0_worthsOfPart_2 : decode cX0_worthsOfPart 2 = .ok (.iload_n 1, 1) := by decide +kernel
theorem dX0_worthsOfPart_3 : decode cX0_worthsOfPart 3 = .ok (.istore 4, 2) := by decide +kernel
theorem dX0_worthsOfPart_5 : decode cX0_worthsOfPart 5 = .ok (.iload 4, 2) := by decide +kernel
theorem dX0_worthsOfPart_7 : decode cX0_worthsOfPart 7 = .ok (.iload_n 2, 1) := by decide +kernel
theorem dX0_worthsOfPart_8 : decode cX0_worthsOfPart 8 = .ok (.if_icmp .gt 27, 3) := by decide +kernel
theorem dX0_worthsOfPart_11 : decode cX0_worthsOfPart 11 = .ok (.aload_n 0, 1) := by decide +kernel
theorem dX0_worthsOfPart_12 : decode cX0_worthsOfPart 12 = .ok (.iload 4, 2) := by decide +kernel
theorem dX0_worthsOfPart_14 : decode cX0_worthsOfPart 14 = .ok (.invokevirtual 32, 3) := by decide +kernel
theorem dX0_worthsOfPart_17 : decode cX0_worthsOfPart 17 = .ok (.ifCond .eq 12, 3) := by decide +kernel
theorem dX0_worthsOfPart_20 : decode cX0_worthsOfPart 20 = .ok (.iload_n 3, 1) := by decide +kernel
theorem dX0_worthsOfPart_21 : decode cX0_worthsOfPart 21 = .ok (.aload_n 0, 1) := by decide +kernel
theorem dX0_worthsOfPart_22 : decode cX0_worthsOfPart 22 = .ok (.iload 4, 2) := by decide +kernel
theorem dX0_worthsOfPart_24 : decode cX0_worthsOfPart 24 = .ok (.invokevirtual 39, 3) := by decide +kernel
theorem dX0_worthsOfPart_27 : decode cX0_worthsOfPart 27 = .ok (.iadd, 1) := by decide +kernel
theorem dX0_worthsOfPart_28 : decode cX0_worthsOfPart 28 = .ok (.istore_n 3, 1) := by decide +kernel
theorem dX0_worthsOfPart_29 : decode cX0_worthsOfPart 29 = .ok (.iinc 4 1, 3) := by decide +kernel
theorem dX0_worthsOfPart_32 : decode cX0_worthsOfPart 32 = .ok (.goto (-27), 3) := by decide +kernel
theorem dX0_worthsOfPart_35 : decode cX0_worthsOfPart 35 = .ok (.iload_n 3, 1) := by decide +kernel
theorem dX0_worthsOfPart_36 : decode cX0_worthsOfPart 36 = .ok (.ireturn, 1) := by decide +kernel
theorem dX0_sumOfKeys_0 : decode cX0_sumOfKeys 0 = .ok (.iconst 0, 1) := by decide +kernel
theorem dX0_sumOfKeys_1 : decode cX0_sumOfKeys 1 = .ok (.istore_n 1, 1) := by decide +kernel
theorem dX0_sumOfKeys_2 : decode cX0_sumOfKeys 2 = .ok (.iconst 0, 1) := by decide +kernel
theorem dX0_sumOfKeys_3 : decode cX0_sumOfKeys 3 = .ok (.istore_n 2, 1) := by decide +kernel
theorem dX0_sumOfKeys_4 : decode cX0_sumOfKeys 4 = .ok (.iload_n 2, 1) := by decide +kernel
theorem dX0_sumOfKeys_5 : decode cX0_sumOfKeys 5 = .ok (.bipush 100, 2) := by decide +kernel
theorem dX0_sumOfKeys_7 : decode cX0_sumOfKeys 7 = .ok (.if_icmp .ge 25, 3) := by decide +kernel
theorem dX0_sumOfKeys_10 : decode cX0_sumOfKeys 10 = .ok (.aload_n 0, 1) := by decide +kernel
theorem dX0_sumOfKeys_11 : decode cX0_sumOfKeys 11 = .ok (.iload_n 2, 1) := by decide +kernel
theorem dX0_sumOfKeys_12 : decode cX0_sumOfKeys 12 = .ok (.invokevirtual 32, 3) := by decide +kernel
theorem dX0_sumOfKeys_15 : decode cX0_sumOfKeys 15 = .ok (.ifCond .eq 11, 3) := by decide +kernel
theorem dX0_sumOfKeys_18 : decode cX0_sumOfKeys 18 = .ok (.iload_n 1, 1) := by decide +kernel
theorem dX0_sumOfKeys_19 : decode cX0_sumOfKeys 19 = .ok (.aload_n 0, 1) := by decide +kernel
theorem dX0_sumOfKeys_20 : decode cX0_sumOfKeys 20 = .ok (.iload_n 2, 1) := by decide +kernel
theorem dX0_sumOfKeys_21 : decode cX0_sumOfKeys 21 = .ok (.invokevirtual 36, 3) := by decide +kernel
theorem dX0_sumOfKeys_24 : decode cX0_sumOfKeys 24 = .ok (.iadd, 1) := by decide +kernel
theorem dX0_sumOfKeys_25 : decode cX0_sumOfKeys 25 = .ok (.istore_n 1, 1) := by decide +kernel
theorem dX0_sumOfKeys_26 : decode cX0_sumOfKeys 26 = .ok (.iinc 2 1, 3) := by decide +kernel
theorem dX0_sumOfKeys_29 : decode cX0_sumOfKeys 29 = .ok (.goto (-25), 3) := by decide +kernel
theorem dX0_sumOfKeys_32 : decode cX0_sumOfKeys 32 = .ok (.iload_n 1, 1) := by decide +kernel
theorem dX0_sumOfKeys_33 : decode cX0_sumOfKeys 33 = .ok (.ireturn, 1) := by decide +kernel
theorem dX0_hash_0 : decode cX0_hash 0 = .ok (.iconst 0, 1) := by decide +kernel
theorem dX0_hash_1 : decode cX0_hash 1 = .ok (.istore_n 1, 1) := by decide +kernel
theorem dX0_hash_2 : decode cX0_hash 2 = .ok (.iconst 0, 1) := by decide +kernel
theorem dX0_hash_3 : decode cX0_hash 3 = .ok (.istore_n 2, 1) := by decide +kernel
theorem dX0_hash_4 : decode cX0_hash 4 = .ok (.iload_n 2, 1) := by decide +kernel
theorem dX0_hash_5 : decode cX0_hash 5 = .ok (.bipush 100, 2) := by decide +kernel
theorem dX0_hash_7 : decode cX0_hash 7 = .ok (.if_icmp .ge 31, 3) := by decide +kernel
theorem dX0_hash_10 : decode cX0_hash 10 = .ok (.aload_n 0, 1) := by decide +kernel
theorem dX0_hash_11 : decode cX0_hash 11 = .ok (.iload_n 2, 1) := by decide +kernel
theorem dX0_hash_12 : decode cX0_hash 12 = .ok (.invokevirtual 32, 3) := by decide +kernel
theorem dX0_hash_15 : decode cX0_hash 15 = .ok (.ifCond .eq 17, 3) := by decide +kernel
theorem dX0_hash_18 : decode cX0_hash 18 = .ok (.iload_n 1, 1) := by decide +kernel
theorem dX0_hash_19 : decode cX0_hash 19 = .ok (.aload_n 0, 1) := by decide +kernel
theorem dX0_hash_20 : decode cX0_hash 20 = .ok (.iload_n 2, 1) := by decide +kernel
theorem dX0_hash_21 : decode cX0_hash 21 = .ok (.invokevirtual 36, 3) := by decide +kernel
theorem dX0_hash_24 : decode cX0_hash 24 = .ok (.aload_n 0, 1) := by decide +kernel
theorem dX0_hash_25 : decode cX0_hash 25 = .ok (.iload_n 2, 1) := by decide +kernel
theorem dX0_hash_26 : decode cX0_hash 26 = .ok (.invokevirtual 39, 3) := by decide +kernel
theorem dX0_hash_29 : decode cX0_hash 29 = .ok (.ixor, 1) := by decide +kernel
theorem dX0_hash_30 : decode cX0_hash 30 = .ok (.iadd, 1) := by decide +kernel
theorem dX0_hash_31 : decode cX0_hash 31 = .ok (.istore_n 1, 1) := by decide +kernel
theorem dX0_hash_32 : decode cX0_hash 32 = .ok (.iinc 2 1, 3) := by decide +kernel
theorem dX0_hash_35 : decode cX0_hash 35 = .ok (.goto (-31), 3) := by decide +kernel
theorem dX0_hash_38 : decode cX0_hash 38 = .ok (.iload_n 1, 1) := by decide +kernel
theorem dX0_hash_39 : decode cX0_hash 39 = .ok (.ireturn, 1) := by decide +kernel
theorem dX0_hasWorth_0 : decode cX0_hasWorth 0 = .ok (.iconst 0, 1) := by decide +kernel
theorem dX0_hasWorth_1 : decode cX0_hasWorth 1 = .ok (.istore_n 2, 1) := by decide +kernel
theorem dX0_hasWorth_2 : decode cX0_hasWorth 2 = .ok (.iload_n 2, 1) := by decide +kernel
theorem dX0_hasWorth_3 : decode cX0_hasWorth 3 = .ok (.bipush 100, 2) := by decide +kernel
theorem dX0_hasWorth_5 : decode cX0_hasWorth 5 = .ok (.if_icmp .ge 20, 3) := by decide +kernel
theorem dX0_hasWorth_8 : decode cX0_hasWorth 8 = .ok (.aload_n 0, 1) := by decide +kernel
theorem dX0_hasWorth_9 : decode cX0_hasWorth 9 = .ok (.iload_n 2, 1) := by decide +kernel
theorem dX0_hasWorth_10 : decode cX0_hasWorth 10 = .ok (.invokevirtual 39, 3) := by decide +kernel
theorem dX0_hasWorth_13 : decode cX0_hasWorth 13 = .ok (.iload_n 1, 1) := by decide +kernel
theorem dX0_hasWorth_14 : decode cX0_hasWorth 14 = .ok (.if_icmp .ne 5, 3) := by decide +kernel
theorem dX0_hasWorth_17 : decode cX0_hasWorth 17 = .ok (.iconst 1, 1) := by decide +kernel
theorem dX0_hasWorth_18 : decode cX0_hasWorth 18 = .ok (.ireturn, 1) := by decide +kernel
theorem dX0_hasWorth_19 : decode cX0_hasWorth 19 = .ok (.iinc 2 1, 3) := by decide +kernel
theorem dX0_hasWorth_22 : decode cX0_hasWorth 22 = .ok (.goto (-20), 3) := by decide +kernel
theorem dX0_hasWorth_25 : decode cX0_hasWorth 25 = .ok (.iconst 0, 1) := by decide +kernel
theorem dX0_hasWorth_26 : decode cX0_hasWorth 26 = .ok (.ireturn, 1) := by decide +kernel
theorem dX0_hasKeysOf_0 : decode cX0_hasKeysOf 0 = .ok (.iconst 0, 1) := by decide +kernel
theorem dX0_hasKeysOf_1 : decode cX0_hasKeysOf 1 = .ok (.istore_n 2, 1) := by decide +kernel
theorem dX0_hasKeysOf_2 : decode cX0_hasKeysOf 2 = .ok (.iload_n 2, 1) := by decide +kernel
theorem dX0_hasKeysOf_3 : decode cX0_hasKeysOf 3 = .ok (.bipush 100, 2) := by decide +kernel
theorem dX0_hasKeysOf_5 : decode cX0_hasKeysOf 5 = .ok (.if_icmp .ge 35, 3) := by decide +kernel
theorem dX0_hasKeysOf_8 : decode cX0_hasKeysOf 8 = .ok (.aload_n 1, 1) := by decide +kernel
theorem dX0_hasKeysOf_9 : decode cX0_hasKeysOf 9 = .ok (.iload_n 2, 1) := by decide +kernel
theorem dX0_hasKeysOf_10 : decode cX0_hasKeysOf 10 = .ok (.invokevirtual 32, 3) := by decide +kernel
theorem dX0_hasKeysOf_13 : decode cX0_hasKeysOf 13 = .ok (.ifCond .eq 21, 3) := by decide +kernel
theorem dX0_hasKeysOf_16 : decode cX0_hasKeysOf 16 = .ok (.aload_n 0, 1) := by decide +kernel
theorem dX0_hasKeysOf_17 : decode cX0_hasKeysOf 17 = .ok (.aload_n 0, 1) := by decide +kernel
theorem dX0_hasKeysOf_18 : decode cX0_hasKeysOf 18 = .ok (.aload_n 1, 1) := by decide +kernel
theorem dX0_hasKeysOf_19 : decode cX0_hasKeysOf 19 = .ok (.iload_n 2, 1) := by decide +kernel
theorem dX0_hasKeysOf_20 : decode cX0_hasKeysOf 20 = .ok (.invokevirtual 36, 3) := by decide +kernel
theorem dX0_hasKeysOf_23 : decode cX0_hasKeysOf 23 = .ok (.invokevirtual 29, 3) := by decide +kernel
theorem dX0_hasKeysOf_26 : decode cX0_hasKeysOf 26 = .ok (.invokevirtual 32, 3) := by decide +kernel
theorem dX0_hasKeysOf_29 : decode cX0_hasKeysOf 29 = .ok (.ifCond .ne 5, 3) := by decide +kernel
theorem dX0_hasKeysOf_32 : decode cX0_hasKeysOf 32 = .ok (.iconst 0, 1) := by decide +kernel
theorem dX0_hasKeysOf_33 : decode cX0_hasKeysOf 33 = .ok (.ireturn, 1) := by decide +kernel
theorem dX0_hasKeysOf_34 : decode cX0_hasKeysOf 34 = .ok (.iinc 2 1, 3) := by decide +kernel
theorem dX0_hasKeysOf_37 : decode cX0_hasKeysOf 37 = .ok (.goto (-35), 3) := by decide +kernel
theorem dX0_hasKeysOf_40 : decode cX0_hasKeysOf 40 = .ok (.iconst 1, 1) := by decide +kernel
theorem dX0_hasKeysOf_41 : decode cX0_hasKeysOf 41 = .ok (.ireturn, 1) := by decide +kernel
theorem dX0_isSameAs_0 : decode cX0_isSameAs 0 = .ok (.iconst 0, 1) := by decide +kernel
theorem dX0_isSameAs_1 : decode cX0_isSameAs 1 = .ok (.istore_n 2, 1) := by decide +kernel
theorem dX0_isSameAs_2 : decode cX0_isSameAs 2 = .ok (.iload_n 2, 1) := by decide +kernel
theorem dX0_isSameAs_3 : decode cX0_isSameAs 3 = .ok (.bipush 100, 2) := by decide +kernel
theorem dX0_isSameAs_5 : decode cX0_isSameAs 5 = .ok (.if_icmp .ge 32, 3) := by decide +kernel
theorem dX0_isSameAs_8 : decode cX0_isSameAs 8 = .ok (.aload_n 0, 1) := by decide +kernel
theorem dX0_isSameAs_9 : decode cX0_isSameAs 9 = .ok (.aload_n 0, 1) := by decide +kernel
theorem dX0_isSameAs_10 : decode cX0_isSameAs 10 = .ok (.iload_n 2, 1) := by decide +kernel
theorem dX0_isSameAs_11 : decode cX0_isSameAs 11 = .ok (.invokevirtual 29, 3) := by decide +kernel
theorem dX0_isSameAs_14 : decode cX0_isSameAs 14 = .ok (.invokevirtual 39, 3) := by decide +kernel
theorem dX0_isSameAs_17 : decode cX0_isSameAs 17 = .ok (.aload_n 1, 1) := by decide +kernel
theorem dX0_isSameAs_18 : decode cX0_isSameAs 18 = .ok (.aload_n 1, 1) := by decide +kernel
theorem dX0_isSameAs_19 : decode cX0_isSameAs 19 = .ok (.iload_n 2, 1) := by decide +kernel
theorem dX0_isSameAs_20 : decode cX0_isSameAs 20 = .ok (.invokevirtual 29, 3) := by decide +kernel
theorem dX0_isSameAs_23 : decode cX0_isSameAs 23 = .ok (.invokevirtual 39, 3) := by decide +kernel
theorem dX0_isSameAs_26 : decode cX0_isSameAs 26 = .ok (.if_icmp .eq 5, 3) := by decide +kernel
theorem dX0_isSameAs_29 : decode cX0_isSameAs 29 = .ok (.iconst 0, 1) := by decide +kernel
theorem dX0_isSameAs_30 : decode cX0_isSameAs 30 = .ok (.ireturn, 1) := by decide +kernel
theorem dX0_isSameAs_31 : decode cX0_isSameAs 31 = .ok (.iinc 2 1, 3) := by decide +kernel
theorem dX0_isSameAs_34 : decode cX0_isSameAs 34 = .ok (.goto (-32), 3) := by decide +kernel
theorem dX0_isSameAs_37 : decode cX0_isSameAs 37 = .ok (.iconst 1, 1) := by decide +kernel
theorem dX0_isSameAs_38 : decode cX0_isSameAs 38 = .ok (.ireturn, 1) := by decide +kernel
theorem dX0_copyOfPart_0 : decode cX0_copyOfPart 0 = .ok (.new 10, 3) := by decide +kernel
theorem dX0_copyOfPart_3 : decode cX0_copyOfPart 3 = .ok (.dup, 1) := by decide +kernel
theorem dX0_copyOfPart_4 : decode cX0_copyOfPart 4 = .ok (.iload_n 3, 1) := by decide +kernel
theorem dX0_copyOfPart_5 : decode cX0_copyOfPart 5 = .ok (.invokespecial 63, 3) := by decide +kernel
theorem dX0_copyOfPart_8 : decode cX0_copyOfPart 8 = .ok (.astore 4, 2) := by decide +kernel
theorem dX0_copyOfPart_10 : decode cX0_copyOfPart 10 = .ok (.aload 4, 2) := by decide +kernel
theorem dX0_copyOfPart_12 : decode cX0_copyOfPart 12 = .ok (.aload_n 0, 1) := by decide +kernel
theorem dX0_copyOfPart_13 : decode cX0_copyOfPart 13 = .ok (.iload_n 1, 1) := by decide +kernel
theorem dX0_copyOfPart_14 : decode cX0_copyOfPart 14 = .ok (.iload_n 2, 1) := by decide +kernel
theorem dX0_copyOfPart_15 : decode cX0_copyOfPart 15 = .ok (.invokevirtual 66, 3) := by decide +kernel
theorem dX0_copyOfPart_18 : decode cX0_copyOfPart 18 = .ok (.pop, 1) := by decide +kernel
theorem dX0_copyOfPart_19 : decode cX0_copyOfPart 19 = .ok (.aload 4, 2) := by decide +kernel
theorem dX0_copyOfPart_21 : decode cX0_copyOfPart 21 = .ok (.areturn, 1) := by decide +kernel
theorem dX0_copyOfKeys_0 : decode cX0_copyOfKeys 0 = .ok (.new 10, 3) := by decide +kernel
theorem dX0_copyOfKeys_3 : decode cX0_copyOfKeys 3 = .ok (.dup, 1) := by decide +kernel
theorem dX0_copyOfKeys_4 : decode cX0_copyOfKeys 4 = .ok (.iconst 0, 1) := by decide +kernel
theorem dX0_copyOfKeys_5 : decode cX0_copyOfKeys 5 = .ok (.invokespecial 63, 3) := by decide +kernel
theorem dX0_copyOfKeys_8 : decode cX0_copyOfKeys 8 = .ok (.astore_n 1, 1) := by decide +kernel
theorem dX0_copyOfKeys_9 : decode cX0_copyOfKeys 9 = .ok (.iconst 0, 1) := by decide +kernel
theorem dX0_copyOfKeys_10 : decode cX0_copyOfKeys 10 = .ok (.istore_n 2, 1) := by decide +kernel
theorem dX0_copyOfKeys_11 : decode cX0_copyOfKeys 11 = .ok (.iload_n 2, 1) := by decide +kernel
theorem dX0_copyOfKeys_12 : decode cX0_copyOfKeys 12 = .ok (.bipush 100, 2) := by decide +kernel
theorem dX0_copyOfKeys_14 : decode cX0_copyOfKeys 14 = .ok (.if_icmp .ge 32, 3) := by decide +kernel
theorem dX0_copyOfKeys_17 : decode cX0_copyOfKeys 17 = .ok (.aload_n 0, 1) := by decide +kernel
theorem dX0_copyOfKeys_18 : decode cX0_copyOfKeys 18 = .ok (.iload_n 2, 1) := by decide +kernel
theorem dX0_copyOfKeys_19 : decode cX0_copyOfKeys 19 = .ok (.invokevirtual 32, 3) := by decide +kernel
theorem dX0_copyOfKeys_22 : decode cX0_copyOfKeys 22 = .ok (.ifCond .eq 18, 3) := by decide +kernel
theorem dX0_copyOfKeys_25 : decode cX0_copyOfKeys 25 = .ok (.aload_n 1, 1) := by decide +kernel
theorem dX0_copyOfKeys_26 : decode cX0_copyOfKeys 26 = .ok (.aload_n 1, 1) := by decide +kernel
theorem dX0_copyOfKeys_27 : decode cX0_copyOfKeys 27 = .ok (.aload_n 0, 1) := by decide +kernel
theorem dX0_copyOfKeys_28 : decode cX0_copyOfKeys 28 = .ok (.iload_n 2, 1) := by decide +kernel
theorem dX0_copyOfKeys_29 : decode cX0_copyOfKeys 29 = .ok (.invokevirtual 36, 3) := by decide +kernel
theorem dX0_copyOfKeys_32 : decode cX0_copyOfKeys 32 = .ok (.invokevirtual 29, 3) := by decide +kernel
theorem dX0_copyOfKeys_35 : decode cX0_copyOfKeys 35 = .ok (.iconst 0, 1) := by decide +kernel
theorem dX0_copyOfKeys_36 : decode cX0_copyOfKeys 36 = .ok (.invokevirtual 70, 3) := by decide +kernel
theorem dX0_copyOfKeys_39 : decode cX0_copyOfKeys 39 = .ok (.pop, 1) := by decide +kernel
theorem dX0_copyOfKeys_40 : decode cX0_copyOfKeys 40 = .ok (.iinc 2 1, 3) := by decide +kernel
theorem dX0_copyOfKeys_43 : decode cX0_copyOfKeys 43 = .ok (.goto (-32), 3) := by decide +kernel
theorem dX0_copyOfKeys_46 : decode cX0_copyOfKeys 46 = .ok (.aload_n 1, 1) := by decide +kernel
theorem dX0_copyOfKeys_47 : decode cX0_copyOfKeys 47 = .ok (.areturn, 1) := by decide +kernel
theorem dX0_addPart_0 : decode cX0_addPart 0 = .ok (.aload_n 0, 1) := by decide +kernel
theorem dX0_addPart_1 : decode cX0_addPart 1 = .ok (.getfield 42, 3) := by decide +kernel
theorem dX0_addPart_4 : decode cX0_addPart 4 = .ok (.istore 4, 2) := by decide +kernel
theorem dX0_addPart_6 : decode cX0_addPart 6 = .ok (.iload_n 2, 1) := by decide +kernel
theorem dX0_addPart_7 : decode cX0_addPart 7 = .ok (.istore 5, 2) := by decide +kernel
theorem dX0_addPart_9 : decode cX0_addPart 9 = .ok (.iload 5, 2) := by decide +kernel
theorem dX0_addPart_11 : decode cX0_addPart 11 = .ok (.iload_n 3, 1) := by decide +kernel
theorem dX0_addPart_12 : decode cX0_addPart 12 = .ok (.if_icmp .gt 39, 3) := by decide +kernel
theorem dX0_addPart_15 : decode cX0_addPart 15 = .ok (.aload_n 1, 1) := by decide +kernel
theorem dX0_addPart_16 : decode cX0_addPart 16 = .ok (.iload 5, 2) := by decide +kernel
theorem dX0_addPart_18 : decode cX0_addPart 18 = .ok (.invokevirtual 32, 3) := by decide +kernel
theorem dX0_addPart_21 : decode cX0_addPart 21 = .ok (.ifCond .eq 24, 3) := by decide +kernel
theorem dX0_addPart_24 : decode cX0_addPart 24 = .ok (.aload_n 0, 1) := by decide +kernel
theorem dX0_addPart_25 : decode cX0_addPart 25 = .ok (.aload_n 0, 1) := by decide +kernel
theorem dX0_addPart_26 : decode cX0_addPart 26 = .ok (.aload_n 1, 1) := by decide +kernel
theorem dX0_addPart_27 : decode cX0_addPart 27 = .ok (.iload 5, 2) := by decide +kernel
theorem dX0_addPart_29 : decode cX0_addPart 29 = .ok (.invokevirtual 36, 3) := by decide +kernel
theorem dX0_addPart_32 : decode cX0_addPart 32 = .ok (.invokevirtual 29, 3) := by decide +kernel
theorem dX0_addPart_35 : decode cX0_addPart 35 = .ok (.aload_n 1, 1) := by decide +kernel
theorem dX0_addPart_36 : decode cX0_addPart 36 = .ok (.iload 5, 2) := by decide +kernel
theorem dX0_addPart_38 : decode cX0_addPart 38 = .ok (.invokevirtual 39, 3) := by decide +kernel
theorem dX0_addPart_41 : decode cX0_addPart 41 = .ok (.invokevirtual 70, 3) := by decide +kernel
theorem dX0_addPart_44 : decode cX0_addPart 44 = .ok (.pop, 1) := by decide +kernel
theorem dX0_addPart_45 : decode cX0_addPart 45 = .ok (.iinc 5 1, 3) := by decide +kernel
theorem dX0_addPart_48 : decode cX0_addPart 48 = .ok (.goto (-39), 3) := by decide +kernel
theorem dX0_addPart_51 : decode cX0_addPart 51 = .ok (.aload_n 0, 1) := by decide +kernel
theorem dX0_addPart_52 : decode cX0_addPart 52 = .ok (.getfield 42, 3) := by decide +kernel
theorem dX0_addPart_55 : decode cX0_addPart 55 = .ok (.iload 4, 2) := by decide +kernel
theorem dX0_addPart_57 : decode cX0_addPart 57 = .ok (.isub, 1) := by decide +kernel
theorem dX0_addPart_58 : decode cX0_addPart 58 = .ok (.ireturn, 1) := by decide +kernel
theorem dX0_addSteps_0 : decode cX0_addSteps 0 = .ok (.aload_n 0, 1) := by decide +kernel
theorem dX0_addSteps_1 : decode cX0_addSteps 1 = .ok (.getfield 42, 3) := by decide +kernel
theorem dX0_addSteps_4 : decode cX0_addSteps 4 = .ok (.istore 5, 2) := by decide +kernel
theorem dX0_addSteps_6 : decode cX0_addSteps 6 = .ok (.iconst 0, 1) := by decide +kernel
theorem dX0_addSteps_7 : decode cX0_addSteps 7 = .ok (.istore 6, 2) := by decide +kernel
theorem dX0_addSteps_9 : decode cX0_addSteps 9 = .ok (.iload 6, 2) := by decide +kernel
theorem dX0_addSteps_11 : decode cX0_addSteps 11 = .ok (.iload_n 3, 1) := by decide +kernel
theorem dX0_addSteps_12 : decode cX0_addSteps 12 = .ok (.if_icmp .ge 35, 3) := by decide +kernel
theorem dX0_addSteps_15 : decode cX0_addSteps 15 = .ok (.aload_n 0, 1) := by decide +kernel
theorem dX0_addSteps_16 : decode cX0_addSteps 16 = .ok (.aload_n 0, 1) := by decide +kernel
theorem dX0_addSteps_17 : decode cX0_addSteps 17 = .ok (.iload_n 1, 1) := by decide +kernel
theorem dX0_addSteps_18 : decode cX0_addSteps 18 = .ok (.iload 6, 2) := by decide +kernel
theorem dX0_addSteps_20 : decode cX0_addSteps 20 = .ok (.iload_n 2, 1) := by decide +kernel
theorem dX0_addSteps_21 : decode cX0_addSteps 21 = .ok (.imul, 1) := by decide +kernel
theorem dX0_addSteps_22 : decode cX0_addSteps 22 = .ok (.iadd, 1) := by decide +kernel
theorem dX0_addSteps_23 : decode cX0_addSteps 23 = .ok (.bipush 100, 2) := by decide +kernel
theorem dX0_addSteps_25 : decode cX0_addSteps 25 = .ok (.irem, 1) := by decide +kernel
theorem dX0_addSteps_26 : decode cX0_addSteps 26 = .ok (.invokevirtual 29, 3) := by decide +kernel
theorem dX0_addSteps_29 : decode cX0_addSteps 29 = .ok (.iload 4, 2) := by decide +kernel
theorem dX0_addSteps_31 : decode cX0_addSteps 31 = .ok (.iload 6, 2) := by decide +kernel
theorem dX0_addSteps_33 : decode cX0_addSteps 33 = .ok (.iadd, 1) := by decide +kernel
theorem dX0_addSteps_34 : decode cX0_addSteps 34 = .ok (.bipush 100, 2) := by decide +kernel
theorem dX0_addSteps_36 : decode cX0_addSteps 36 = .ok (.irem, 1) := by decide +kernel
theorem dX0_addSteps_37 : decode cX0_addSteps 37 = .ok (.invokevirtual 70, 3) := by decide +kernel
theorem dX0_addSteps_40 : decode cX0_addSteps 40 = .ok (.pop, 1) := by decide +kernel
theorem dX0_addSteps_41 : decode cX0_addSteps 41 = .ok (.iinc 6 1, 3) := by decide +kernel
theorem dX0_addSteps_44 : decode cX0_addSteps 44 = .ok (.goto (-35), 3) := by decide +kernel
theorem dX0_addSteps_47 : decode cX0_addSteps 47 = .ok (.aload_n 0, 1) := by decide +kernel
theorem dX0_addSteps_48 : decode cX0_addSteps 48 = .ok (.getfield 42, 3) := by decide +kernel
theorem dX0_addSteps_51 : decode cX0_addSteps 51 = .ok (.iload 5, 2) := by decide +kernel
theorem dX0_addSteps_53 : decode cX0_addSteps 53 = .ok (.isub, 1) := by decide +kernel
theorem dX0_addSteps_54 : decode cX0_addSteps 54 = .ok (.ireturn, 1) := by decide +kernel
theorem dX0_addKeySteps_0 : decode cX0_addKeySteps 0 = .ok (.aload_n 0, 1) := by decide +kernel
theorem dX0_addKeySteps_1 : decode cX0_addKeySteps 1 = .ok (.getfield 42, 3) := by decide +kernel
theorem dX0_addKeySteps_4 : decode cX0_addKeySteps 4 = .ok (.istore 4, 2) := by decide +kernel
theorem dX0_addKeySteps_6 : decode cX0_addKeySteps 6 = .ok (.iconst 0, 1) := by decide +kernel
theorem dX0_addKeySteps_7 : decode cX0_addKeySteps 7 = .ok (.istore 5, 2) := by decide +kernel
theorem dX0_addKeySteps_9 : decode cX0_addKeySteps 9 = .ok (.iload 5, 2) := by decide +kernel
theorem dX0_addKeySteps_11 : decode cX0_addKeySteps 11 = .ok (.iload_n 3, 1) := by decide +kernel
theorem dX0_addKeySteps_12 : decode cX0_addKeySteps 12 = .ok (.if_icmp .ge 28, 3) := by decide +kernel
theorem dX0_addKeySteps_15 : decode cX0_addKeySteps 15 = .ok (.aload_n 0, 1) := by decide +kernel
theorem dX0_addKeySteps_16 : decode cX0_addKeySteps 16 = .ok (.aload_n 0, 1) := by decide +kernel
theorem dX0_addKeySteps_17 : decode cX0_addKeySteps 17 = .ok (.iload_n 1, 1) := by decide +kernel
theorem dX0_addKeySteps_18 : decode cX0_addKeySteps 18 = .ok (.iload 5, 2) := by decide +kernel
theorem dX0_addKeySteps_20 : decode cX0_addKeySteps 20 = .ok (.iload_n 2, 1) := by decide +kernel
theorem dX0_addKeySteps_21 : decode cX0_addKeySteps 21 = .ok (.imul, 1) := by decide +kernel
theorem dX0_addKeySteps_22 : decode cX0_addKeySteps 22 = .ok (.iadd, 1) := by decide +kernel
theorem dX0_addKeySteps_23 : decode cX0_addKeySteps 23 = .ok (.bipush 100, 2) := by decide +kernel
theorem dX0_addKeySteps_25 : decode cX0_addKeySteps 25 = .ok (.irem, 1) := by decide +kernel
theorem dX0_addKeySteps_26 : decode cX0_addKeySteps 26 = .ok (.invokevirtual 29, 3) := by decide +kernel
theorem dX0_addKeySteps_29 : decode cX0_addKeySteps 29 = .ok (.iconst 0, 1) := by decide +kernel
theorem dX0_addKeySteps_30 : decode cX0_addKeySteps 30 = .ok (.invokevirtual 70, 3) := by decide +kernel
theorem dX0_addKeySteps_33 : decode cX0_addKeySteps 33 = .ok (.pop, 1) := by decide +kernel
theorem dX0_addKeySteps_34 : decode cX0_addKeySteps 34 = .ok (.iinc 5 1, 3) := by decide +kernel
theorem dX0_addKeySteps_37 : decode cX0_addKeySteps 37 = .ok (.goto (-28), 3) := by decide +kernel
theorem dX0_addKeySteps_40 : decode cX0_addKeySteps 40 = .ok (.aload_n 0, 1) := by decide +kernel
theorem dX0_addKeySteps_41 : decode cX0_addKeySteps 41 = .ok (.getfield 42, 3) := by decide +kernel
theorem dX0_addKeySteps_44 : decode cX0_addKeySteps 44 = .ok (.iload 4, 2) := by decide +kernel
theorem dX0_addKeySteps_46 : decode cX0_addKeySteps 46 = .ok (.isub, 1) := by decide +kernel
theorem dX0_addKeySteps_47 : decode cX0_addKeySteps 47 = .ok (.ireturn, 1) := by decide +kernel
theorem dX0_removeSteps_0 : decode cX0_removeSteps 0 = .ok (.aload_n 0, 1) := by decide +kernel
theorem dX0_removeSteps_1 : decode cX0_removeSteps 1 = .ok (.getfield 42, 3) := by decide +kernel
theorem dX0_removeSteps_4 : decode cX0_removeSteps 4 = .ok (.istore 4, 2) := by decide +kernel
theorem dX0_removeSteps_6 : decode cX0_removeSteps 6 = .ok (.iconst 0, 1) := by decide +kernel
theorem dX0_removeSteps_7 : decode cX0_removeSteps 7 = .ok (.istore 5, 2) := by decide +kernel
theorem dX0_removeSteps_9 : decode cX0_removeSteps 9 = .ok (.iload 5, 2) := by decide +kernel
theorem dX0_removeSteps_11 : decode cX0_removeSteps 11 = .ok (.iload_n 3, 1) := by decide +kernel
theorem dX0_removeSteps_12 : decode cX0_removeSteps 12 = .ok (.if_icmp .ge 27, 3) := by decide +kernel
theorem dX0_removeSteps_15 : decode cX0_removeSteps 15 = .ok (.aload_n 0, 1) := by decide +kernel
theorem dX0_removeSteps_16 : decode cX0_removeSteps 16 = .ok (.aload_n 0, 1) := by decide +kernel
theorem dX0_removeSteps_17 : decode cX0_removeSteps 17 = .ok (.iload_n 1, 1) := by decide +kernel
theorem dX0_removeSteps_18 : decode cX0_removeSteps 18 = .ok (.iload 5, 2) := by decide +kernel
theorem dX0_removeSteps_20 : decode cX0_removeSteps 20 = .ok (.iload_n 2, 1) := by decide +kernel
theorem dX0_removeSteps_21 : decode cX0_removeSteps 21 = .ok (.imul, 1) := by decide +kernel
theorem dX0_removeSteps_22 : decode cX0_removeSteps 22 = .ok (.iadd, 1) := by decide +kernel
theorem dX0_removeSteps_23 : decode cX0_removeSteps 23 = .ok (.bipush 100, 2) := by decide +kernel
theorem dX0_removeSteps_25 : decode cX0_removeSteps 25 = .ok (.irem, 1) := by decide +kernel
theorem dX0_removeSteps_26 : decode cX0_removeSteps 26 = .ok (.invokevirtual 29, 3) := by decide +kernel
theorem dX0_removeSteps_29 : decode cX0_removeSteps 29 = .ok (.invokevirtual 73, 3) := by decide +kernel
theorem dX0_removeSteps_32 : decode cX0_removeSteps 32 = .ok (.pop, 1) := by decide +kernel
theorem dX0_removeSteps_33 : decode cX0_removeSteps 33 = .ok (.iinc 5 1, 3) := by decide +kernel
theorem dX0_removeSteps_36 : decode cX0_removeSteps 36 = .ok (.goto (-27), 3) := by decide +kernel
theorem dX0_removeSteps_39 : decode cX0_removeSteps 39 = .ok (.iload 4, 2) := by decide +kernel
theorem dX0_removeSteps_41 : decode cX0_removeSteps 41 = .ok (.aload_n 0, 1) := by decide +kernel
theorem dX0_removeSteps_42 : decode cX0_removeSteps 42 = .ok (.getfield 42, 3) := by decide +kernel
theorem dX0_removeSteps_45 : decode cX0_removeSteps 45 = .ok (.isub, 1) := by decide +kernel
theorem dX0_removeSteps_46 : decode cX0_removeSteps 46 = .ok (.ireturn, 1) := by decide +kernel
theorem dX0_retain_0 : decode cX0_retain 0 = .ok (.aload_n 0, 1) := by decide +kernel
theorem dX0_retain_1 : decode cX0_retain 1 = .ok (.getfield 42, 3) := by decide +kernel
theorem dX0_retain_4 : decode cX0_retain 4 = .ok (.istore_n 3, 1) := by decide +kernel
theorem dX0_retain_5 : decode cX0_retain 5 = .ok (.iconst 0, 1) := by decide +kernel
theorem dX0_retain_6 : decode cX0_retain 6 = .ok (.istore 4, 2) := by decide +kernel
theorem dX0_retain_8 : decode cX0_retain 8 = .ok (.iload 4, 2) := by decide +kernel
theorem dX0_retain_10 : decode cX0_retain 10 = .ok (.bipush 100, 2) := by decide +kernel
theorem dX0_retain_12 : decode cX0_retain 12 = .ok (.if_icmp .ge 34, 3) := by decide +kernel
theorem dX0_retain_15 : decode cX0_retain 15 = .ok (.aload_n 1, 1) := by decide +kernel
theorem dX0_retain_16 : decode cX0_retain 16 = .ok (.aload_n 1, 1) := by decide +kernel
theorem dX0_retain_17 : decode cX0_retain 17 = .ok (.aload_n 0, 1) := by decide +kernel
theorem dX0_retain_18 : decode cX0_retain 18 = .ok (.iload 4, 2) := by decide +kernel
theorem dX0_retain_20 : decode cX0_retain 20 = .ok (.invokevirtual 36, 3) := by decide +kernel
theorem dX0_retain_23 : decode cX0_retain 23 = .ok (.invokevirtual 29, 3) := by decide +kernel
theorem dX0_retain_26 : decode cX0_retain 26 = .ok (.invokevirtual 32, 3) := by decide +kernel
theorem dX0_retain_29 : decode cX0_retain 29 = .ok (.iload_n 2, 1) := by decide +kernel
theorem dX0_retain_30 : decode cX0_retain 30 = .ok (.if_icmp .eq 10, 3) := by decide +kernel
theorem dX0_retain_33 : decode cX0_retain 33 = .ok (.aload_n 0, 1) := by decide +kernel
theorem dX0_retain_34 : decode cX0_retain 34 = .ok (.iload 4, 2) := by decide +kernel
theorem dX0_retain_36 : decode cX0_retain 36 = .ok (.invokevirtual 73, 3) := by decide +kernel
theorem dX0_retain_39 : decode cX0_retain 39 = .ok (.pop, 1) := by decide +kernel
theorem dX0_retain_40 : decode cX0_retain 40 = .ok (.iinc 4 1, 3) := by decide +kernel
theorem dX0_retain_43 : decode cX0_retain 43 = .ok (.goto (-35), 3) := by decide +kernel
theorem dX0_retain_46 : decode cX0_retain 46 = .ok (.iload_n 3, 1) := by decide +kernel
theorem dX0_retain_47 : decode cX0_retain 47 = .ok (.aload_n 0, 1) := by decide +kernel
theorem dX0_retain_48 : decode cX0_retain 48 = .ok (.getfield 42, 3) := by decide +kernel
theorem dX0_retain_51 : decode cX0_retain 51 = .ok (.isub, 1) := by decide +kernel
theorem dX0_retain_52 : decode cX0_retain 52 = .ok (.ireturn, 1) := by decide +kernel
theorem dX0_clearPart_0 : decode cX0_clearPart 0 = .ok (.aload_n 0, 1) := by decide +kernel
theorem dX0_clearPart_1 : decode cX0_clearPart 1 = .ok (.getfield 42, 3) := by decide +kernel
theorem dX0_clearPart_4 : decode cX0_clearPart 4 = .ok (.istore_n 3, 1) := by decide +kernel
theorem dX0_clearPart_5 : decode cX0_clearPart 5 = .ok (.iload_n 1, 1) := by decide +kernel
theorem dX0_clearPart_6 : decode cX0_clearPart 6 = .ok (.istore 4, 2) := by decide +kernel
theorem dX0_clearPart_8 : decode cX0_clearPart 8 = .ok (.iload 4, 2) := by decide +kernel
theorem dX0_clearPart_10 : decode cX0_clearPart 10 = .ok (.iload_n 2, 1) := by decide +kernel
theorem dX0_clearPart_11 : decode cX0_clearPart 11 = .ok (.if_icmp .gt 16, 3) := by decide +kernel
theorem dX0_clearPart_14 : decode cX0_clearPart 14 = .ok (.aload_n 0, 1) := by decide +kernel
theorem dX0_clearPart_15 : decode cX0_clearPart 15 = .ok (.iload 4, 2) := by decide +kernel
theorem dX0_clearPart_17 : decode cX0_clearPart 17 = .ok (.invokevirtual 73, 3) := by decide +kernel
theorem dX0_clearPart_20 : decode cX0_clearPart 20 = .ok (.pop, 1) := by decide +kernel
theorem dX0_clearPart_21 : decode cX0_clearPart 21 = .ok (.iinc 4 1, 3) := by decide +kernel
theorem dX0_clearPart_24 : decode cX0_clearPart 24 = .ok (.goto (-16), 3) := by decide +kernel
theorem dX0_clearPart_27 : decode cX0_clearPart 27 = .ok (.iload_n 3, 1) := by decide +kernel
theorem dX0_clearPart_28 : decode cX0_clearPart 28 = .ok (.aload_n 0, 1) := by decide +kernel
theorem dX0_clearPart_29 : decode cX0_clearPart 29 = .ok (.getfield 42, 3) := by decide +kernel
theorem dX0_clearPart_32 : decode cX0_clearPart 32 = .ok (.isub, 1) := by decide +kernel
theorem dX0_clearPart_33 : decode cX0_clearPart 33 = .ok (.ireturn, 1) := by decide +kernel
theorem dX0_dropOfPart_0 : decode cX0_dropOfPart 0 = .ok (.iload_n 3, 1) := by decide +kernel
theorem dX0_dropOfPart_1 : decode cX0_dropOfPart 1 = .ok (.iconst 2, 1) := by decide +kernel
theorem dX0_dropOfPart_2 : decode cX0_dropOfPart 2 = .ok (.if_icmp .ne 10, 3) := by decide +kernel
theorem dX0_dropOfPart_5 : decode cX0_dropOfPart 5 = .ok (.aload_n 0, 1) := by decide +kernel
theorem dX0_dropOfPart_6 : decode cX0_dropOfPart 6 = .ok (.iload_n 1, 1) := by decide +kernel
theorem dX0_dropOfPart_7 : decode cX0_dropOfPart 7 = .ok (.iload_n 2, 1) := by decide +kernel
theorem dX0_dropOfPart_8 : decode cX0_dropOfPart 8 = .ok (.invokevirtual 76, 3) := by decide +kernel
theorem dX0_dropOfPart_11 : decode cX0_dropOfPart 11 = .ok (.ireturn, 1) := by decide +kernel
theorem dX0_dropOfPart_12 : decode cX0_dropOfPart 12 = .ok (.aload_n 0, 1) := by decide +kernel
theorem dX0_dropOfPart_13 : decode cX0_dropOfPart 13 = .ok (.iload_n 1, 1) := by decide +kernel
theorem dX0_dropOfPart_14 : decode cX0_dropOfPart 14 = .ok (.iload_n 2, 1) := by decide +kernel
theorem dX0_dropOfPart_15 : decode cX0_dropOfPart 15 = .ok (.iload_n 3, 1) := by decide +kernel
theorem dX0_dropOfPart_16 : decode cX0_dropOfPart 16 = .ok (.iconst 1, 1) := by decide +kernel
theorem dX0_dropOfPart_17 : decode cX0_dropOfPart 17 = .ok (.if_icmp .ne 7, 3) := by decide +kernel
theorem dX0_dropOfPart_20 : decode cX0_dropOfPart 20 = .ok (.iconst 1, 1) := by decide +kernel
theorem dX0_dropOfPart_21 : decode cX0_dropOfPart 21 = .ok (.goto 4, 3) := by decide +kernel
theorem dX0_dropOfPart_24 : decode cX0_dropOfPart 24 = .ok (.iconst 0, 1) := by decide +kernel
theorem dX0_dropOfPart_25 : decode cX0_dropOfPart 25 = .ok (.invokevirtual 79, 3) := by decide +kernel
theorem dX0_dropOfPart_28 : decode cX0_dropOfPart 28 = .ok (.istore 4, 2) := by decide +kernel
theorem dX0_dropOfPart_30 : decode cX0_dropOfPart 30 = .ok (.aload_n 0, 1) := by decide +kernel
theorem dX0_dropOfPart_31 : decode cX0_dropOfPart 31 = .ok (.iload 4, 2) := by decide +kernel
theorem dX0_dropOfPart_33 : decode cX0_dropOfPart 33 = .ok (.invokevirtual 83, 3) := by decide +kernel
theorem dX0_dropOfPart_36 : decode cX0_dropOfPart 36 = .ok (.istore 5, 2) := by decide +kernel
theorem dX0_dropOfPart_38 : decode cX0_dropOfPart 38 = .ok (.aload_n 0, 1) := by decide +kernel
theorem dX0_dropOfPart_39 : decode cX0_dropOfPart 39 = .ok (.iload 4, 2) := by decide +kernel
theorem dX0_dropOfPart_41 : decode cX0_dropOfPart 41 = .ok (.invokevirtual 73, 3) := by decide +kernel
theorem dX0_dropOfPart_44 : decode cX0_dropOfPart 44 = .ok (.pop, 1) := by decide +kernel
theorem dX0_dropOfPart_45 : decode cX0_dropOfPart 45 = .ok (.iload 5, 2) := by decide +kernel
theorem dX0_dropOfPart_47 : decode cX0_dropOfPart 47 = .ok (.ireturn, 1) := by decide +kernel
theorem dX0_dropKeyOfPart_0 : decode cX0_dropKeyOfPart 0 = .ok (.aload_n 0, 1) := by decide +kernel
theorem dX0_dropKeyOfPart_1 : decode cX0_dropKeyOfPart 1 = .ok (.iload_n 1, 1) := by decide +kernel
theorem dX0_dropKeyOfPart_2 : decode cX0_dropKeyOfPart 2 = .ok (.iload_n 2, 1) := by decide +kernel
theorem dX0_dropKeyOfPart_3 : decode cX0_dropKeyOfPart 3 = .ok (.iload_n 3, 1) := by decide +kernel
theorem dX0_dropKeyOfPart_4 : decode cX0_dropKeyOfPart 4 = .ok (.invokevirtual 79, 3) := by decide +kernel
theorem dX0_dropKeyOfPart_7 : decode cX0_dropKeyOfPart 7 = .ok (.istore 4, 2) := by decide +kernel
theorem dX0_dropKeyOfPart_9 : decode cX0_dropKeyOfPart 9 = .ok (.aload_n 0, 1) := by decide +kernel
theorem dX0_dropKeyOfPart_10 : decode cX0_dropKeyOfPart 10 = .ok (.iload 4, 2) := by decide +kernel
theorem dX0_dropKeyOfPart_12 : decode cX0_dropKeyOfPart 12 = .ok (.invokevirtual 73, 3) := by decide +kernel
theorem dX0_dropKeyOfPart_15 : decode cX0_dropKeyOfPart 15 = .ok (.pop, 1) := by decide +kernel
theorem dX0_dropKeyOfPart_16 : decode cX0_dropKeyOfPart 16 = .ok (.aload_n 0, 1) := by decide +kernel
theorem dX0_dropKeyOfPart_17 : decode cX0_dropKeyOfPart 17 = .ok (.iload 4, 2) := by decide +kernel
theorem dX0_dropKeyOfPart_19 : decode cX0_dropKeyOfPart 19 = .ok (.invokevirtual 36, 3) := by decide +kernel
theorem dX0_dropKeyOfPart_22 : decode cX0_dropKeyOfPart 22 = .ok (.ireturn, 1) := by decide +kernel
theorem dX1_init_0 : decode cX1_init 0 = .ok (.aload_n 0, 1) := by decide +kernel
theorem dX1_init_1 : decode cX1_init 1 = .ok (.invokespecial 3, 3) := by decide +kernel
theorem dX1_init_4 : decode cX1_init 4 = .ok (.aload_n 0, 1) := by decide +kernel
theorem dX1_init_5 : decode cX1_init 5 = .ok (.aload_n 1, 1) := by decide +kernel
theorem dX1_init_6 : decode cX1_init 6 = .ok (.putfield 9, 3) := by decide +kernel
theorem dX1_init_9 : decode cX1_init 9 = .ok (.aload_n 0, 1) := by decide +kernel
theorem dX1_init_10 : decode cX1_init 10 = .ok (.bipush 99, 2) := by decide +kernel
theorem dX1_init_12 : decode cX1_init 12 = .ok (.putfield 15, 3) := by decide +kernel
theorem dX1_init_15 : decode cX1_init 15 = .ok (.return_, 1) := by decide +kernel
theorem dX1_isWithin_0 : decode cX1_isWithin 0 = .ok (.aload_n 0, 1) := by decide +kernel
theorem dX1_isWithin_1 : decode cX1_isWithin 1 = .ok (.getfield 19, 3) := by decide +kernel
theorem dX1_isWithin_4 : decode cX1_isWithin 4 = .ok (.iload_n 1, 1) := by decide +kernel
theorem dX1_isWithin_5 : decode cX1_isWithin 5 = .ok (.if_icmp .gt 15, 3) := by decide +kernel
theorem dX1_isWithin_8 : decode cX1_isWithin 8 = .ok (.iload_n 1, 1) := by decide +kernel
theorem dX1_isWithin_9 : decode cX1_isWithin 9 = .ok (.aload_n 0, 1) := by decide +kernel
theorem dX1_isWithin_10 : decode cX1_isWithin 10 = .ok (.getfield 15, 3) := by decide +kernel
theorem dX1_isWithin_13 : decode cX1_isWithin 13 = .ok (.if_icmp .gt 7, 3) := by decide +kernel
theorem dX1_isWithin_16 : decode cX1_isWithin 16 = .ok (.iconst 1, 1) := by decide +kernel
theorem dX1_isWithin_17 : decode cX1_isWithin 17 = .ok (.goto 4, 3) := by decide +kernel
theorem dX1_isWithin_20 : decode cX1_isWithin 20 = .ok (.iconst 0, 1) := by decide +kernel
theorem dX1_isWithin_21 : decode cX1_isWithin 21 = .ok (.ireturn, 1) := by decide +kernel
theorem dX2_init_0 : decode cX2_init 0 = .ok (.aload_n 0, 1) := by decide +kernel
theorem dX2_init_1 : decode cX2_init 1 = .ok (.invokespecial 3, 3) := by decide +kernel
theorem dX2_init_4 : decode cX2_init 4 = .ok (.return_, 1) := by decide +kernel
theorem dX2_begin_0 : decode cX2_begin 0 = .ok (.aload_n 0, 1) := by decide +kernel
theorem dX2_begin_1 : decode cX2_begin 1 = .ok (.aload_n 1, 1) := by decide +kernel
theorem dX2_begin_2 : decode cX2_begin 2 = .ok (.putfield 9, 3) := by decide +kernel
theorem dX2_begin_5 : decode cX2_begin 5 = .ok (.aload_n 0, 1) := by decide +kernel
theorem dX2_begin_6 : decode cX2_begin 6 = .ok (.aload_n 1, 1) := by decide +kernel
theorem dX2_begin_7 : decode cX2_begin 7 = .ok (.getfield 15, 3) := by decide +kernel
theorem dX2_begin_10 : decode cX2_begin 10 = .ok (.putfield 21, 3) := by decide +kernel
theorem dX2_begin_13 : decode cX2_begin 13 = .ok (.aload_n 0, 1) := by decide +kernel
theorem dX2_begin_14 : decode cX2_begin 14 = .ok (.iconst (-1), 1) := by decide +kernel
theorem dX2_begin_15 : decode cX2_begin 15 = .ok (.putfield 24, 3) := by decide +kernel
theorem dX2_begin_18 : decode cX2_begin 18 = .ok (.aload_n 0, 1) := by decide +kernel
theorem dX2_begin_19 : decode cX2_begin 19 = .ok (.iconst 0, 1) := by decide +kernel
theorem dX2_begin_20 : decode cX2_begin 20 = .ok (.putfield 27, 3) := by decide +kernel
theorem dX2_begin_23 : decode cX2_begin 23 = .ok (.return_, 1) := by decide +kernel
theorem dX2_isGoing_0 : decode cX2_isGoing 0 = .ok (.aload_n 0, 1) := by decide +kernel
theorem dX2_isGoing_1 : decode cX2_isGoing 1 = .ok (.getfield 9, 3) := by decide +kernel
theorem dX2_isGoing_4 : decode cX2_isGoing 4 = .ok (.ifnull 21, 3) := by decide +kernel
theorem dX2_isGoing_7 : decode cX2_isGoing 7 = .ok (.aload_n 0, 1) := by decide +kernel
theorem dX2_isGoing_8 : decode cX2_isGoing 8 = .ok (.getfield 9, 3) := by decide +kernel
theorem dX2_isGoing_11 : decode cX2_isGoing 11 = .ok (.getfield 15, 3) := by decide +kernel
theorem dX2_isGoing_14 : decode cX2_isGoing 14 = .ok (.aload_n 0, 1) := by decide +kernel
theorem dX2_isGoing_15 : decode cX2_isGoing 15 = .ok (.getfield 21, 3) := by decide +kernel
theorem dX2_isGoing_18 : decode cX2_isGoing 18 = .ok (.if_icmp .ne 7, 3) := by decide +kernel
theorem dX2_isGoing_21 : decode cX2_isGoing 21 = .ok (.iconst 1, 1) := by decide +kernel
theorem dX2_isGoing_22 : decode cX2_isGoing 22 = .ok (.goto 4, 3) := by decide +kernel
theorem dX2_isGoing_25 : decode cX2_isGoing 25 = .ok (.iconst 0, 1) := by decide +kernel
theorem dX2_isGoing_26 : decode cX2_isGoing 26 = .ok (.ireturn, 1) := by decide +kernel
theorem dX2_isTelling_0 : decode cX2_isTelling 0 = .ok (.aload_n 0, 1) := by decide +kernel
theorem dX2_isTelling_1 : decode cX2_isTelling 1 = .ok (.getfield 9, 3) := by decide +kernel
theorem dX2_isTelling_4 : decode cX2_isTelling 4 = .ok (.ifnull 14, 3) := by decide +kernel
theorem dX2_isTelling_7 : decode cX2_isTelling 7 = .ok (.aload_n 0, 1) := by decide +kernel
theorem dX2_isTelling_8 : decode cX2_isTelling 8 = .ok (.getfield 27, 3) := by decide +kernel
theorem dX2_isTelling_11 : decode cX2_isTelling 11 = .ok (.ifCond .eq 7, 3) := by decide +kernel
theorem dX2_isTelling_14 : decode cX2_isTelling 14 = .ok (.iconst 1, 1) := by decide +kernel
theorem dX2_isTelling_15 : decode cX2_isTelling 15 = .ok (.goto 4, 3) := by decide +kernel
theorem dX2_isTelling_18 : decode cX2_isTelling 18 = .ok (.iconst 0, 1) := by decide +kernel
theorem dX2_isTelling_19 : decode cX2_isTelling 19 = .ok (.ireturn, 1) := by decide +kernel
theorem dX2_forgetIfOn_0 : decode cX2_forgetIfOn 0 = .ok (.aload_n 0, 1) := by decide +kernel
theorem dX2_forgetIfOn_1 : decode cX2_forgetIfOn 1 = .ok (.getfield 9, 3) := by decide +kernel
theorem dX2_forgetIfOn_4 : decode cX2_forgetIfOn 4 = .ok (.aload_n 1, 1) := by decide +kernel
theorem dX2_forgetIfOn_5 : decode cX2_forgetIfOn 5 = .ok (.if_acmp .ne 8, 3) := by decide +kernel
theorem dX2_forgetIfOn_8 : decode cX2_forgetIfOn 8 = .ok (.aload_n 0, 1) := by decide +kernel
theorem dX2_forgetIfOn_9 : decode cX2_forgetIfOn 9 = .ok (.iconst 0, 1) := by decide +kernel
theorem dX2_forgetIfOn_10 : decode cX2_forgetIfOn 10 = .ok (.putfield 27, 3) := by decide +kernel
theorem dX2_forgetIfOn_13 : decode cX2_forgetIfOn 13 = .ok (.return_, 1) := by decide +kernel
theorem dX2_tellNext_0 : decode cX2_tellNext 0 = .ok (.aload_n 0, 1) := by decide +kernel
theorem dX2_tellNext_1 : decode cX2_tellNext 1 = .ok (.getfield 9, 3) := by decide +kernel
theorem dX2_tellNext_4 : decode cX2_tellNext 4 = .ok (.ifnonnull 5, 3) := by decide +kernel
theorem dX2_tellNext_7 : decode cX2_tellNext 7 = .ok (.iconst (-1), 1) := by decide +kernel
theorem dX2_tellNext_8 : decode cX2_tellNext 8 = .ok (.ireturn, 1) := by decide +kernel
theorem dX2_tellNext_9 : decode cX2_tellNext 9 = .ok (.aload_n 0, 1) := by decide +kernel
theorem dX2_tellNext_10 : decode cX2_tellNext 10 = .ok (.getfield 9, 3) := by decide +kernel
theorem dX2_tellNext_13 : decode cX2_tellNext 13 = .ok (.aload_n 0, 1) := by decide +kernel
theorem dX2_tellNext_14 : decode cX2_tellNext 14 = .ok (.getfield 24, 3) := by decide +kernel
theorem dX2_tellNext_17 : decode cX2_tellNext 17 = .ok (.iconst 1, 1) := by decide +kernel
theorem dX2_tellNext_18 : decode cX2_tellNext 18 = .ok (.iadd, 1) := by decide +kernel
theorem dX2_tellNext_19 : decode cX2_tellNext 19 = .ok (.bipush 99, 2) := by decide +kernel
theorem dX2_tellNext_21 : decode cX2_tellNext 21 = .ok (.invokevirtual 31, 3) := by decide +kernel
theorem dX2_tellNext_24 : decode cX2_tellNext 24 = .ok (.istore_n 1, 1) := by decide +kernel
theorem dX2_tellNext_25 : decode cX2_tellNext 25 = .ok (.iload_n 1, 1) := by decide +kernel
theorem dX2_tellNext_26 : decode cX2_tellNext 26 = .ok (.iconst (-1), 1) := by decide +kernel
theorem dX2_tellNext_27 : decode cX2_tellNext 27 = .ok (.if_icmp .ne 5, 3) := by decide +kernel
theorem dX2_tellNext_30 : decode cX2_tellNext 30 = .ok (.iconst (-1), 1) := by decide +kernel
theorem dX2_tellNext_31 : decode cX2_tellNext 31 = .ok (.ireturn, 1) := by decide +kernel
theorem dX2_tellNext_32 : decode cX2_tellNext 32 = .ok (.aload_n 0, 1) := by decide +kernel
theorem dX2_tellNext_33 : decode cX2_tellNext 33 = .ok (.iload_n 1, 1) := by decide +kernel
theorem dX2_tellNext_34 : decode cX2_tellNext 34 = .ok (.putfield 24, 3) := by decide +kernel
theorem dX2_tellNext_37 : decode cX2_tellNext 37 = .ok (.aload_n 0, 1) := by decide +kernel
theorem dX2_tellNext_38 : decode cX2_tellNext 38 = .ok (.iconst 1, 1) := by decide +kernel
theorem dX2_tellNext_39 : decode cX2_tellNext 39 = .ok (.putfield 27, 3) := by decide +kernel
theorem dX2_tellNext_42 : decode cX2_tellNext 42 = .ok (.aload_n 0, 1) := by decide +kernel
theorem dX2_tellNext_43 : decode cX2_tellNext 43 = .ok (.getfield 9, 3) := by decide +kernel
theorem dX2_tellNext_46 : decode cX2_tellNext 46 = .ok (.iload_n 1, 1) := by decide +kernel
theorem dX2_tellNext_47 : decode cX2_tellNext 47 = .ok (.invokevirtual 35, 3) := by decide +kernel
theorem dX2_tellNext_50 : decode cX2_tellNext 50 = .ok (.ireturn, 1) := by decide +kernel
theorem dX2_setTold_0 : decode cX2_setTold 0 = .ok (.aload_n 0, 1) := by decide +kernel
theorem dX2_setTold_1 : decode cX2_setTold 1 = .ok (.getfield 9, 3) := by decide +kernel
theorem dX2_setTold_4 : decode cX2_setTold 4 = .ok (.ifnonnull 7, 3) := by decide +kernel
theorem dX2_setTold_7 : decode cX2_setTold 7 = .ok (.iconst (-1), 1) := by decide +kernel
theorem dX2_setTold_8 : decode cX2_setTold 8 = .ok (.goto 15, 3) := by decide +kernel
theorem dX2_setTold_11 : decode cX2_setTold 11 = .ok (.aload_n 0, 1) := by decide +kernel
theorem dX2_setTold_12 : decode cX2_setTold 12 = .ok (.getfield 9, 3) := by decide +kernel
theorem dX2_setTold_15 : decode cX2_setTold 15 = .ok (.aload_n 0, 1) := by decide +kernel
theorem dX2_setTold_16 : decode cX2_setTold 16 = .ok (.getfield 24, 3) := by decide +kernel
theorem dX2_setTold_19 : decode cX2_setTold 19 = .ok (.iload_n 1, 1) := by decide +kernel
theorem dX2_setTold_20 : decode cX2_setTold 20 = .ok (.invokevirtual 39, 3) := by decide +kernel
theorem dX2_setTold_23 : decode cX2_setTold 23 = .ok (.ireturn, 1) := by decide +kernel
theorem dX2_removeTold_0 : decode cX2_removeTold 0 = .ok (.aload_n 0, 1) := by decide +kernel
theorem dX2_removeTold_1 : decode cX2_removeTold 1 = .ok (.getfield 9, 3) := by decide +kernel
theorem dX2_removeTold_4 : decode cX2_removeTold 4 = .ok (.ifnonnull 5, 3) := by decide +kernel
theorem dX2_removeTold_7 : decode cX2_removeTold 7 = .ok (.iconst (-1), 1) := by decide +kernel
theorem dX2_removeTold_8 : decode cX2_removeTold 8 = .ok (.ireturn, 1) := by decide +kernel
theorem dX2_removeTold_9 : decode cX2_removeTold 9 = .ok (.aload_n 0, 1) := by decide +kernel
theorem dX2_removeTold_10 : decode cX2_removeTold 10 = .ok (.getfield 9, 3) := by decide +kernel
theorem dX2_removeTold_13 : decode cX2_removeTold 13 = .ok (.aload_n 0, 1) := by decide +kernel
theorem dX2_removeTold_14 : decode cX2_removeTold 14 = .ok (.getfield 24, 3) := by decide +kernel
theorem dX2_removeTold_17 : decode cX2_removeTold 17 = .ok (.invokevirtual 35, 3) := by decide +kernel
theorem dX2_removeTold_20 : decode cX2_removeTold 20 = .ok (.istore_n 1, 1) := by decide +kernel
theorem dX2_removeTold_21 : decode cX2_removeTold 21 = .ok (.aload_n 0, 1) := by decide +kernel
theorem dX2_removeTold_22 : decode cX2_removeTold 22 = .ok (.getfield 9, 3) := by decide +kernel
theorem dX2_removeTold_25 : decode cX2_removeTold 25 = .ok (.aload_n 0, 1) := by decide +kernel
theorem dX2_removeTold_26 : decode cX2_removeTold 26 = .ok (.getfield 24, 3) := by decide +kernel
theorem dX2_removeTold_29 : decode cX2_removeTold 29 = .ok (.invokevirtual 42, 3) := by decide +kernel
theorem dX2_removeTold_32 : decode cX2_removeTold 32 = .ok (.pop, 1) := by decide +kernel
theorem dX2_removeTold_33 : decode cX2_removeTold 33 = .ok (.aload_n 0, 1) := by decide +kernel
theorem dX2_removeTold_34 : decode cX2_removeTold 34 = .ok (.aload_n 0, 1) := by decide +kernel
theorem dX2_removeTold_35 : decode cX2_removeTold 35 = .ok (.getfield 9, 3) := by decide +kernel
theorem dX2_removeTold_38 : decode cX2_removeTold 38 = .ok (.getfield 15, 3) := by decide +kernel
theorem dX2_removeTold_41 : decode cX2_removeTold 41 = .ok (.putfield 21, 3) := by decide +kernel
theorem dX2_removeTold_44 : decode cX2_removeTold 44 = .ok (.aload_n 0, 1) := by decide +kernel
theorem dX2_removeTold_45 : decode cX2_removeTold 45 = .ok (.iconst 0, 1) := by decide +kernel
theorem dX2_removeTold_46 : decode cX2_removeTold 46 = .ok (.putfield 27, 3) := by decide +kernel
theorem dX2_removeTold_49 : decode cX2_removeTold 49 = .ok (.iload_n 1, 1) := by decide +kernel
theorem dX2_removeTold_50 : decode cX2_removeTold 50 = .ok (.ireturn, 1) := by decide +kernel
theorem dX2_toldKey_0 : decode cX2_toldKey 0 = .ok (.aload_n 0, 1) := by decide +kernel
theorem dX2_toldKey_1 : decode cX2_toldKey 1 = .ok (.getfield 9, 3) := by decide +kernel
theorem dX2_toldKey_4 : decode cX2_toldKey 4 = .ok (.ifnull 24, 3) := by decide +kernel
theorem dX2_toldKey_7 : decode cX2_toldKey 7 = .ok (.aload_n 0, 1) := by decide +kernel
theorem dX2_toldKey_8 : decode cX2_toldKey 8 = .ok (.getfield 27, 3) := by decide +kernel
theorem dX2_toldKey_11 : decode cX2_toldKey 11 = .ok (.ifCond .eq 17, 3) := by decide +kernel
theorem dX2_toldKey_14 : decode cX2_toldKey 14 = .ok (.aload_n 0, 1) := by decide +kernel
theorem dX2_toldKey_15 : decode cX2_toldKey 15 = .ok (.getfield 9, 3) := by decide +kernel
theorem dX2_toldKey_18 : decode cX2_toldKey 18 = .ok (.aload_n 0, 1) := by decide +kernel
theorem dX2_toldKey_19 : decode cX2_toldKey 19 = .ok (.getfield 24, 3) := by decide +kernel
theorem dX2_toldKey_22 : decode cX2_toldKey 22 = .ok (.invokevirtual 45, 3) := by decide +kernel
theorem dX2_toldKey_25 : decode cX2_toldKey 25 = .ok (.goto 4, 3) := by decide +kernel
theorem dX2_toldKey_28 : decode cX2_toldKey 28 = .ok (.iconst (-1), 1) := by decide +kernel
theorem dX2_toldKey_29 : decode cX2_toldKey 29 = .ok (.ireturn, 1) := by decide +kernel
theorem dJ7_fill_53178_0 : decode cJ7_fill_53178 0 = .ok (.iconst 0, 1) := by decide +kernel
theorem dJ7_fill_53178_1 : decode cJ7_fill_53178 1 = .ok (.istore_n 2, 1) := by decide +kernel
theorem dJ7_fill_53178_2 : decode cJ7_fill_53178 2 = .ok (.aload_n 0, 1) := by decide +kernel
theorem dJ7_fill_53178_3 : decode cJ7_fill_53178 3 = .ok (.arraylength, 1) := by decide +kernel
theorem dJ7_fill_53178_4 : decode cJ7_fill_53178 4 = .ok (.istore_n 3, 1) := by decide +kernel
theorem dJ7_fill_53178_5 : decode cJ7_fill_53178 5 = .ok (.iload_n 2, 1) := by decide +kernel
theorem dJ7_fill_53178_6 : decode cJ7_fill_53178 6 = .ok (.iload_n 3, 1) := by decide +kernel
theorem dJ7_fill_53178_7 : decode cJ7_fill_53178 7 = .ok (.if_icmp .ge 13, 3) := by decide +kernel
theorem dJ7_fill_53178_10 : decode cJ7_fill_53178 10 = .ok (.aload_n 0, 1) := by decide +kernel
theorem dJ7_fill_53178_11 : decode cJ7_fill_53178 11 = .ok (.iload_n 2, 1) := by decide +kernel
theorem dJ7_fill_53178_12 : decode cJ7_fill_53178 12 = .ok (.iload_n 1, 1) := by decide +kernel
theorem dJ7_fill_53178_13 : decode cJ7_fill_53178 13 = .ok (.iastore, 1) := by decide +kernel
theorem dJ7_fill_53178_14 : decode cJ7_fill_53178 14 = .ok (.iinc 2 1, 3) := by decide +kernel
theorem dJ7_fill_53178_17 : decode cJ7_fill_53178 17 = .ok (.goto (-12), 3) := by decide +kernel
theorem dJ7_fill_53178_20 : decode cJ7_fill_53178 20 = .ok (.return_, 1) := by decide +kernel
theorem dJ7_copyOf_9075b_0 : decode cJ7_copyOf_9075b 0 = .ok (.iload_n 1, 1) := by decide +kernel
theorem dJ7_copyOf_9075b_1 : decode cJ7_copyOf_9075b 1 = .ok (.aload_n 0, 1) := by decide +kernel
theorem dJ7_copyOf_9075b_2 : decode cJ7_copyOf_9075b 2 = .ok (.arraylength, 1) := by decide +kernel
theorem dJ7_copyOf_9075b_3 : decode cJ7_copyOf_9075b 3 = .ok (.if_icmp .ne 11, 3) := by decide +kernel
theorem dJ7_copyOf_9075b_6 : decode cJ7_copyOf_9075b 6 = .ok (.aload_n 0, 1) := by decide +kernel
theorem dJ7_copyOf_9075b_7 : decode cJ7_copyOf_9075b 7 = .ok (.invokevirtual 310, 3) := by decide +kernel
theorem dJ7_copyOf_9075b_10 : decode cJ7_copyOf_9075b 10 = .ok (.checkcast 311, 3) := by decide +kernel
theorem dJ7_copyOf_9075b_13 : decode cJ7_copyOf_9075b 13 = .ok (.areturn, 1) := by decide +kernel
theorem dJ7_copyOf_9075b_14 : decode cJ7_copyOf_9075b 14 = .ok (.iload_n 1, 1) := by decide +kernel
theorem dJ7_copyOf_9075b_15 : decode cJ7_copyOf_9075b 15 = .ok (.newarray .byte, 2) := by decide +kernel
theorem dJ7_copyOf_9075b_17 : decode cJ7_copyOf_9075b 17 = .ok (.astore_n 2, 1) := by decide +kernel
theorem dJ7_copyOf_9075b_18 : decode cJ7_copyOf_9075b 18 = .ok (.aload_n 0, 1) := by decide +kernel
theorem dJ7_copyOf_9075b_19 : decode cJ7_copyOf_9075b 19 = .ok (.iconst 0, 1) := by decide +kernel
theorem dJ7_copyOf_9075b_20 : decode cJ7_copyOf_9075b 20 = .ok (.aload_n 2, 1) := by decide +kernel
theorem dJ7_copyOf_9075b_21 : decode cJ7_copyOf_9075b 21 = .ok (.iconst 0, 1) := by decide +kernel
theorem dJ7_copyOf_9075b_22 : decode cJ7_copyOf_9075b 22 = .ok (.aload_n 0, 1) := by decide +kernel
theorem dJ7_copyOf_9075b_23 : decode cJ7_copyOf_9075b 23 = .ok (.arraylength, 1) := by decide +kernel
theorem dJ7_copyOf_9075b_24 : decode cJ7_copyOf_9075b 24 = .ok (.iload_n 1, 1) := by decide +kernel
theorem dJ7_copyOf_9075b_25 : decode cJ7_copyOf_9075b 25 = .ok (.invokestatic 304, 3) := by decide +kernel
theorem dJ7_copyOf_9075b_28 : decode cJ7_copyOf_9075b 28 = .ok (.invokestatic 150, 3) := by decide +kernel
theorem dJ7_copyOf_9075b_31 : decode cJ7_copyOf_9075b 31 = .ok (.aload_n 2, 1) := by decide +kernel
theorem dJ7_copyOf_9075b_32 : decode cJ7_copyOf_9075b 32 = .ok (.areturn, 1) := by decide +kernel
theorem dJ7_checkLength_df160_0 : decode cJ7_checkLength_df160 0 = .ok (.iload_n 1, 1) := by decide +kernel
theorem dJ7_checkLength_df160_1 : decode cJ7_checkLength_df160 1 = .ok (.iload_n 0, 1) := by decide +kernel
theorem dJ7_checkLength_df160_2 : decode cJ7_checkLength_df160 2 = .ok (.if_icmp .ge 35, 3) := by decide +kernel
theorem dJ7_checkLength_df160_5 : decode cJ7_checkLength_df160 5 = .ok (.new 43, 3) := by decide +kernel
theorem dJ7_checkLength_df160_8 : decode cJ7_checkLength_df160 8 = .ok (.dup, 1) := by decide +kernel
theorem dJ7_checkLength_df160_9 : decode cJ7_checkLength_df160 9 = .ok (.new 45, 3) := by decide +kernel
theorem dJ7_checkLength_df160_12 : decode cJ7_checkLength_df160 12 = .ok (.dup, 1) := by decide +kernel
theorem dJ7_checkLength_df160_13 : decode cJ7_checkLength_df160 13 = .ok (.invokespecial 47, 3) := by decide +kernel
theorem dJ7_checkLength_df160_16 : decode cJ7_checkLength_df160 16 = .ok (.iload_n 0, 1) := by decide +kernel
theorem dJ7_checkLength_df160_17 : decode cJ7_checkLength_df160 17 = .ok (.invokevirtual 54, 3) := by decide +kernel
theorem dJ7_checkLength_df160_20 : decode cJ7_checkLength_df160 20 = .ok (.ldc_w 337, 3) := by decide +kernel
theorem dJ7_checkLength_df160_23 : decode cJ7_checkLength_df160 23 = .ok (.invokevirtual 50, 3) := by decide +kernel
theorem dJ7_checkLength_df160_26 : decode cJ7_checkLength_df160 26 = .ok (.iload_n 1, 1) := by decide +kernel
theorem dJ7_checkLength_df160_27 : decode cJ7_checkLength_df160 27 = .ok (.invokevirtual 54, 3) := by decide +kernel
theorem dJ7_checkLength_df160_30 : decode cJ7_checkLength_df160 30 = .ok (.invokevirtual 61, 3) := by decide +kernel
theorem dJ7_checkLength_df160_33 : decode cJ7_checkLength_df160 33 = .ok (.invokespecial 65, 3) := by decide +kernel
theorem dJ7_checkLength_df160_36 : decode cJ7_checkLength_df160 36 = .ok (.athrow, 1) := by decide +kernel
theorem dJ7_checkLength_df160_37 : decode cJ7_checkLength_df160 37 = .ok (.return_, 1) := by decide +kernel
theorem dJ7_copyOfRange_39247_0 : decode cJ7_copyOfRange_39247 0 = .ok (.iload_n 1, 1) := by decide +kernel
theorem dJ7_copyOfRange_39247_1 : decode cJ7_copyOfRange_39247 1 = .ok (.ifCond .ne 9, 3) := by decide +kernel
theorem dJ7_copyOfRange_39247_4 : decode cJ7_copyOfRange_39247 4 = .ok (.iload_n 2, 1) := by decide +kernel
theorem dJ7_copyOfRange_39247_5 : decode cJ7_copyOfRange_39247 5 = .ok (.aload_n 0, 1) := by decide +kernel
theorem dJ7_copyOfRange_39247_6 : decode cJ7_copyOfRange_39247 6 = .ok (.arraylength, 1) := by decide +kernel
theorem dJ7_copyOfRange_39247_7 : decode cJ7_copyOfRange_39247 7 = .ok (.if_icmp .eq 10, 3) := by decide +kernel
theorem dJ7_copyOfRange_39247_10 : decode cJ7_copyOfRange_39247 10 = .ok (.aload_n 0, 1) := by decide +kernel
theorem dJ7_copyOfRange_39247_11 : decode cJ7_copyOfRange_39247 11 = .ok (.iload_n 1, 1) := by decide +kernel
theorem dJ7_copyOfRange_39247_12 : decode cJ7_copyOfRange_39247 12 = .ok (.iload_n 2, 1) := by decide +kernel
theorem dJ7_copyOfRange_39247_13 : decode cJ7_copyOfRange_39247 13 = .ok (.invokestatic 339, 3) := by decide +kernel
theorem dJ7_copyOfRange_39247_16 : decode cJ7_copyOfRange_39247 16 = .ok (.areturn, 1) := by decide +kernel
theorem dJ7_copyOfRange_39247_17 : decode cJ7_copyOfRange_39247 17 = .ok (.aload_n 0, 1) := by decide +kernel
theorem dJ7_copyOfRange_39247_18 : decode cJ7_copyOfRange_39247 18 = .ok (.invokevirtual 310, 3) := by decide +kernel
theorem dJ7_copyOfRange_39247_21 : decode cJ7_copyOfRange_39247 21 = .ok (.checkcast 311, 3) := by decide +kernel
theorem dJ7_copyOfRange_39247_24 : decode cJ7_copyOfRange_39247 24 = .ok (.areturn, 1) := by decide +kernel
theorem dJ7_copyOfRangeByte_39247_0 : decode cJ7_copyOfRangeByte_39247 0 = .ok (.iload_n 1, 1) := by decide +kernel
theorem dJ7_copyOfRangeByte_39247_1 : decode cJ7_copyOfRangeByte_39247 1 = .ok (.iload_n 2, 1) := by decide +kernel
theorem dJ7_copyOfRangeByte_39247_2 : decode cJ7_copyOfRangeByte_39247 2 = .ok (.invokestatic 343, 3) := by decide +kernel
theorem dJ7_copyOfRangeByte_39247_5 : decode cJ7_copyOfRangeByte_39247 5 = .ok (.iload_n 2, 1) := by decide +kernel
theorem dJ7_copyOfRangeByte_39247_6 : decode cJ7_copyOfRangeByte_39247 6 = .ok (.iload_n 1, 1) := by decide +kernel
theorem dJ7_copyOfRangeByte_39247_7 : decode cJ7_copyOfRangeByte_39247 7 = .ok (.isub, 1) := by decide +kernel
theorem dJ7_copyOfRangeByte_39247_8 : decode cJ7_copyOfRangeByte_39247 8 = .ok (.istore_n 3, 1) := by decide +kernel
theorem dJ7_copyOfRangeByte_39247_9 : decode cJ7_copyOfRangeByte_39247 9 = .ok (.iload_n 3, 1) := by decide +kernel
theorem dJ7_copyOfRangeByte_39247_10 : decode cJ7_copyOfRangeByte_39247 10 = .ok (.newarray .byte, 2) := by decide +kernel
theorem dJ7_copyOfRangeByte_39247_12 : decode cJ7_copyOfRangeByte_39247 12 = .ok (.astore 4, 2) := by decide +kernel
theorem dJ7_copyOfRangeByte_39247_14 : decode cJ7_copyOfRangeByte_39247 14 = .ok (.aload_n 0, 1) := by decide +kernel
theorem dJ7_copyOfRangeByte_39247_15 : decode cJ7_copyOfRangeByte_39247 15 = .ok (.iload_n 1, 1) := by decide +kernel
theorem dJ7_copyOfRangeByte_39247_16 : decode cJ7_copyOfRangeByte_39247 16 = .ok (.aload 4, 2) := by decide +kernel
theorem dJ7_copyOfRangeByte_39247_18 : decode cJ7_copyOfRangeByte_39247 18 = .ok (.iconst 0, 1) := by decide +kernel
theorem dJ7_copyOfRangeByte_39247_19 : decode cJ7_copyOfRangeByte_39247 19 = .ok (.aload_n 0, 1) := by decide +kernel
theorem dJ7_copyOfRangeByte_39247_20 : decode cJ7_copyOfRangeByte_39247 20 = .ok (.arraylength, 1) := by decide +kernel
theorem dJ7_copyOfRangeByte_39247_21 : decode cJ7_copyOfRangeByte_39247 21 = .ok (.iload_n 1, 1) := by decide +kernel
theorem dJ7_copyOfRangeByte_39247_22 : decode cJ7_copyOfRangeByte_39247 22 = .ok (.isub, 1) := by decide +kernel
theorem dJ7_copyOfRangeByte_39247_23 : decode cJ7_copyOfRangeByte_39247 23 = .ok (.iload_n 3, 1) := by decide +kernel
theorem dJ7_copyOfRangeByte_39247_24 : decode cJ7_copyOfRangeByte_39247 24 = .ok (.invokestatic 304, 3) := by decide +kernel
theorem dJ7_copyOfRangeByte_39247_27 : decode cJ7_copyOfRangeByte_39247 27 = .ok (.invokestatic 150, 3) := by decide +kernel
theorem dJ7_copyOfRangeByte_39247_30 : decode cJ7_copyOfRangeByte_39247 30 = .ok (.aload 4, 2) := by decide +kernel
theorem dJ7_copyOfRangeByte_39247_32 : decode cJ7_copyOfRangeByte_39247 32 = .ok (.areturn, 1) := by decide +kernel
