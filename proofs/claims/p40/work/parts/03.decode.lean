theorem eX0_init_0 : (fdecl cX0_init.data.toList 0 = some (.aload_n 0, 1)) ∧ (fdecl cX0_init.data.toList 1 = some (.invokespecial 3, 3)) ∧ (fdecl cX0_init.data.toList 4 = some (.aload_n 0, 1)) ∧ (fdecl cX0_init.data.toList 5 = some (.iload_n 1, 1)) ∧ (fdecl cX0_init.data.toList 6 = some (.putfield 9, 3)) ∧ (fdecl cX0_init.data.toList 9 = some (.aload_n 0, 1)) ∧ (fdecl cX0_init.data.toList 10 = some (.bipush 100, 2)) ∧ (fdecl cX0_init.data.toList 14 = some (.putfield 15, 3)) ∧ (fdecl cX0_init.data.toList 17 = some (.aload_n 0, 1)) ∧ (fdecl cX0_init.data.toList 18 = some (.getfield 15, 3)) ∧ (fdecl cX0_init.data.toList 21 = some (.iconst (-1), 1)) ∧ (fdecl cX0_init.data.toList 22 = some (.invokestatic 19, 3)) ∧ (fdecl cX0_init.data.toList 25 = some (.return_, 1)) := by decide +kernel
theorem dX0_init_0 : decode cX0_init 0 = .ok (.aload_n 0, 1) := fx_ok0 eX0_init_0.1
theorem dX0_init_1 : decode cX0_init 1 = .ok (.invokespecial 3, 3) := fx_ok0 eX0_init_0.2.1
theorem dX0_init_4 : decode cX0_init 4 = .ok (.aload_n 0, 1) := fx_ok0 eX0_init_0.2.2.1
theorem dX0_init_5 : decode cX0_init 5 = .ok (.iload_n 1, 1) := fx_ok0 eX0_init_0.2.2.2.1
theorem dX0_init_6 : decode cX0_init 6 = .ok (.putfield 9, 3) := fx_ok0 eX0_init_0.2.2.2.2.1
theorem dX0_init_9 : decode cX0_init 9 = .ok (.aload_n 0, 1) := fx_ok0 eX0_init_0.2.2.2.2.2.1
theorem dX0_init_10 : decode cX0_init 10 = .ok (.bipush 100, 2) := fx_ok0 eX0_init_0.2.2.2.2.2.2.1
theorem dX0_init_14 : decode cX0_init 14 = .ok (.putfield 15, 3) := fx_ok0 eX0_init_0.2.2.2.2.2.2.2.1
theorem dX0_init_17 : decode cX0_init 17 = .ok (.aload_n 0, 1) := fx_ok0 eX0_init_0.2.2.2.2.2.2.2.2.1
theorem dX0_init_18 : decode cX0_init 18 = .ok (.getfield 15, 3) := fx_ok0 eX0_init_0.2.2.2.2.2.2.2.2.2.1
theorem dX0_init_21 : decode cX0_init 21 = .ok (.iconst (-1), 1) := fx_ok0 eX0_init_0.2.2.2.2.2.2.2.2.2.2.1
theorem dX0_init_22 : decode cX0_init 22 = .ok (.invokestatic 19, 3) := fx_ok0 eX0_init_0.2.2.2.2.2.2.2.2.2.2.2.1
theorem dX0_init_25 : decode cX0_init 25 = .ok (.return_, 1) := fx_ok0 eX0_init_0.2.2.2.2.2.2.2.2.2.2.2.2
theorem dX0_init_12 : decode cX0_init 12 = .ok (.newarray .int, 2) := by decide +kernel
theorem eX0_turned_0 : (fdecl cX0_turned.data.toList 0 = some (.aload_n 0, 1)) ∧ (fdecl cX0_turned.data.toList 1 = some (.getfield 9, 3)) ∧ (fdecl cX0_turned.data.toList 4 = some (.ifCond .ne 5, 3)) ∧ (fdecl cX0_turned.data.toList 7 = some (.iload_n 1, 1)) ∧ (fdecl cX0_turned.data.toList 8 = some (.ireturn, 1)) ∧ (fdecl cX0_turned.data.toList 9 = some (.aload_n 0, 1)) ∧ (fdecl cX0_turned.data.toList 10 = some (.getfield 9, 3)) ∧ (fdecl cX0_turned.data.toList 13 = some (.iconst 1, 1)) ∧ (fdecl cX0_turned.data.toList 14 = some (.if_icmp .ne 10, 3)) ∧ (fdecl cX0_turned.data.toList 17 = some (.bipush 99, 2)) ∧ (fdecl cX0_turned.data.toList 19 = some (.iload_n 1, 1)) ∧ (fdecl cX0_turned.data.toList 20 = some (.isub, 1)) ∧ (fdecl cX0_turned.data.toList 21 = some (.goto 15, 3)) ∧ (fdecl cX0_turned.data.toList 24 = some (.iload_n 1, 1)) ∧ (fdecl cX0_turned.data.toList 25 = some (.bipush 10, 2)) ∧ (fdecl cX0_turned.data.toList 27 = some (.irem, 1)) := by decide +kernel
theorem dX0_turned_0 : decode cX0_turned 0 = .ok (.aload_n 0, 1) := fx_ok0 eX0_turned_0.1
theorem dX0_turned_1 : decode cX0_turned 1 = .ok (.getfield 9, 3) := fx_ok0 eX0_turned_0.2.1
theorem dX0_turned_4 : decode cX0_turned 4 = .ok (.ifCond .ne 5, 3) := fx_ok0 eX0_turned_0.2.2.1
theorem dX0_turned_7 : decode cX0_turned 7 = .ok (.iload_n 1, 1) := fx_ok0 eX0_turned_0.2.2.2.1
theorem dX0_turned_8 : decode cX0_turned 8 = .ok (.ireturn, 1) := fx_ok0 eX0_turned_0.2.2.2.2.1
theorem dX0_turned_9 : decode cX0_turned 9 = .ok (.aload_n 0, 1) := fx_ok0 eX0_turned_0.2.2.2.2.2.1
theorem dX0_turned_10 : decode cX0_turned 10 = .ok (.getfield 9, 3) := fx_ok0 eX0_turned_0.2.2.2.2.2.2.1
theorem dX0_turned_13 : decode cX0_turned 13 = .ok (.iconst 1, 1) := fx_ok0 eX0_turned_0.2.2.2.2.2.2.2.1
theorem dX0_turned_14 : decode cX0_turned 14 = .ok (.if_icmp .ne 10, 3) := fx_ok0 eX0_turned_0.2.2.2.2.2.2.2.2.1
theorem dX0_turned_17 : decode cX0_turned 17 = .ok (.bipush 99, 2) := fx_ok0 eX0_turned_0.2.2.2.2.2.2.2.2.2.1
theorem dX0_turned_19 : decode cX0_turned 19 = .ok (.iload_n 1, 1) := fx_ok0 eX0_turned_0.2.2.2.2.2.2.2.2.2.2.1
theorem dX0_turned_20 : decode cX0_turned 20 = .ok (.isub, 1) := fx_ok0 eX0_turned_0.2.2.2.2.2.2.2.2.2.2.2.1
theorem dX0_turned_21 : decode cX0_turned 21 = .ok (.goto 15, 3) := fx_ok0 eX0_turned_0.2.2.2.2.2.2.2.2.2.2.2.2.1
theorem dX0_turned_24 : decode cX0_turned 24 = .ok (.iload_n 1, 1) := fx_ok0 eX0_turned_0.2.2.2.2.2.2.2.2.2.2.2.2.2.1
theorem dX0_turned_25 : decode cX0_turned 25 = .ok (.bipush 10, 2) := fx_ok0 eX0_turned_0.2.2.2.2.2.2.2.2.2.2.2.2.2.2.1
theorem dX0_turned_27 : decode cX0_turned 27 = .ok (.irem, 1) := fx_ok0 eX0_turned_0.2.2.2.2.2.2.2.2.2.2.2.2.2.2.2
theorem eX0_turned_28 : (fdecl cX0_turned.data.toList 28 = some (.bipush 10, 2)) ∧ (fdecl cX0_turned.data.toList 30 = some (.imul, 1)) ∧ (fdecl cX0_turned.data.toList 31 = some (.iload_n 1, 1)) ∧ (fdecl cX0_turned.data.toList 32 = some (.bipush 10, 2)) ∧ (fdecl cX0_turned.data.toList 34 = some (.idiv, 1)) ∧ (fdecl cX0_turned.data.toList 35 = some (.iadd, 1)) ∧ (fdecl cX0_turned.data.toList 36 = some (.ireturn, 1)) := by decide +kernel
theorem dX0_turned_28 : decode cX0_turned 28 = .ok (.bipush 10, 2) := fx_ok0 eX0_turned_28.1
theorem dX0_turned_30 : decode cX0_turned 30 = .ok (.imul, 1) := fx_ok0 eX0_turned_28.2.1
theorem dX0_turned_31 : decode cX0_turned 31 = .ok (.iload_n 1, 1) := fx_ok0 eX0_turned_28.2.2.1
theorem dX0_turned_32 : decode cX0_turned 32 = .ok (.bipush 10, 2) := fx_ok0 eX0_turned_28.2.2.2.1
theorem dX0_turned_34 : decode cX0_turned 34 = .ok (.idiv, 1) := fx_ok0 eX0_turned_28.2.2.2.2.1
theorem dX0_turned_35 : decode cX0_turned 35 = .ok (.iadd, 1) := fx_ok0 eX0_turned_28.2.2.2.2.2.1
theorem dX0_turned_36 : decode cX0_turned 36 = .ok (.ireturn, 1) := fx_ok0 eX0_turned_28.2.2.2.2.2.2
theorem eX0_rankOf_0 : (fdecl cX0_rankOf.data.toList 0 = some (.aload_n 0, 1)) ∧ (fdecl cX0_rankOf.data.toList 1 = some (.iload_n 1, 1)) ∧ (fdecl cX0_rankOf.data.toList 2 = some (.invokevirtual 25, 3)) ∧ (fdecl cX0_rankOf.data.toList 5 = some (.ireturn, 1)) := by decide +kernel
theorem dX0_rankOf_0 : decode cX0_rankOf 0 = .ok (.aload_n 0, 1) := fx_ok0 eX0_rankOf_0.1
theorem dX0_rankOf_1 : decode cX0_rankOf 1 = .ok (.iload_n 1, 1) := fx_ok0 eX0_rankOf_0.2.1
theorem dX0_rankOf_2 : decode cX0_rankOf 2 = .ok (.invokevirtual 25, 3) := fx_ok0 eX0_rankOf_0.2.2.1
theorem dX0_rankOf_5 : decode cX0_rankOf 5 = .ok (.ireturn, 1) := fx_ok0 eX0_rankOf_0.2.2.2
theorem eX0_keyOf_0 : (fdecl cX0_keyOf.data.toList 0 = some (.iload_n 1, 1)) ∧ (fdecl cX0_keyOf.data.toList 1 = some (.iconst (-1), 1)) ∧ (fdecl cX0_keyOf.data.toList 2 = some (.if_icmp .ne 7, 3)) ∧ (fdecl cX0_keyOf.data.toList 5 = some (.iconst (-1), 1)) ∧ (fdecl cX0_keyOf.data.toList 6 = some (.goto 8, 3)) ∧ (fdecl cX0_keyOf.data.toList 9 = some (.aload_n 0, 1)) ∧ (fdecl cX0_keyOf.data.toList 10 = some (.iload_n 1, 1)) ∧ (fdecl cX0_keyOf.data.toList 11 = some (.invokevirtual 25, 3)) ∧ (fdecl cX0_keyOf.data.toList 14 = some (.ireturn, 1)) := by decide +kernel
theorem dX0_keyOf_0 : decode cX0_keyOf 0 = .ok (.iload_n 1, 1) := fx_ok0 eX0_keyOf_0.1
theorem dX0_keyOf_1 : decode cX0_keyOf 1 = .ok (.iconst (-1), 1) := fx_ok0 eX0_keyOf_0.2.1
theorem dX0_keyOf_2 : decode cX0_keyOf 2 = .ok (.if_icmp .ne 7, 3) := fx_ok0 eX0_keyOf_0.2.2.1
theorem dX0_keyOf_5 : decode cX0_keyOf 5 = .ok (.iconst (-1), 1) := fx_ok0 eX0_keyOf_0.2.2.2.1
theorem dX0_keyOf_6 : decode cX0_keyOf 6 = .ok (.goto 8, 3) := fx_ok0 eX0_keyOf_0.2.2.2.2.1
theorem dX0_keyOf_9 : decode cX0_keyOf 9 = .ok (.aload_n 0, 1) := fx_ok0 eX0_keyOf_0.2.2.2.2.2.1
theorem dX0_keyOf_10 : decode cX0_keyOf 10 = .ok (.iload_n 1, 1) := fx_ok0 eX0_keyOf_0.2.2.2.2.2.2.1
theorem dX0_keyOf_11 : decode cX0_keyOf 11 = .ok (.invokevirtual 25, 3) := fx_ok0 eX0_keyOf_0.2.2.2.2.2.2.2.1
theorem dX0_keyOf_14 : decode cX0_keyOf 14 = .ok (.ireturn, 1) := fx_ok0 eX0_keyOf_0.2.2.2.2.2.2.2.2
theorem eX0_isAhead_0 : (fdecl cX0_isAhead.data.toList 0 = some (.aload_n 0, 1)) ∧ (fdecl cX0_isAhead.data.toList 1 = some (.iload_n 1, 1)) ∧ (fdecl cX0_isAhead.data.toList 2 = some (.invokevirtual 29, 3)) ∧ (fdecl cX0_isAhead.data.toList 5 = some (.aload_n 0, 1)) ∧ (fdecl cX0_isAhead.data.toList 6 = some (.iload_n 2, 1)) ∧ (fdecl cX0_isAhead.data.toList 7 = some (.invokevirtual 29, 3)) ∧ (fdecl cX0_isAhead.data.toList 10 = some (.if_icmp .ge 7, 3)) ∧ (fdecl cX0_isAhead.data.toList 13 = some (.iconst 1, 1)) ∧ (fdecl cX0_isAhead.data.toList 14 = some (.goto 4, 3)) ∧ (fdecl cX0_isAhead.data.toList 17 = some (.iconst 0, 1)) ∧ (fdecl cX0_isAhead.data.toList 18 = some (.ireturn, 1)) := by decide +kernel
theorem dX0_isAhead_0 : decode cX0_isAhead 0 = .ok (.aload_n 0, 1) := fx_ok0 eX0_isAhead_0.1
theorem dX0_isAhead_1 : decode cX0_isAhead 1 = .ok (.iload_n 1, 1) := fx_ok0 eX0_isAhead_0.2.1
theorem dX0_isAhead_2 : decode cX0_isAhead 2 = .ok (.invokevirtual 29, 3) := fx_ok0 eX0_isAhead_0.2.2.1
theorem dX0_isAhead_5 : decode cX0_isAhead 5 = .ok (.aload_n 0, 1) := fx_ok0 eX0_isAhead_0.2.2.2.1
theorem dX0_isAhead_6 : decode cX0_isAhead 6 = .ok (.iload_n 2, 1) := fx_ok0 eX0_isAhead_0.2.2.2.2.1
theorem dX0_isAhead_7 : decode cX0_isAhead 7 = .ok (.invokevirtual 29, 3) := fx_ok0 eX0_isAhead_0.2.2.2.2.2.1
theorem dX0_isAhead_10 : decode cX0_isAhead 10 = .ok (.if_icmp .ge 7, 3) := fx_ok0 eX0_isAhead_0.2.2.2.2.2.2.1
theorem dX0_isAhead_13 : decode cX0_isAhead 13 = .ok (.iconst 1, 1) := fx_ok0 eX0_isAhead_0.2.2.2.2.2.2.2.1
theorem dX0_isAhead_14 : decode cX0_isAhead 14 = .ok (.goto 4, 3) := fx_ok0 eX0_isAhead_0.2.2.2.2.2.2.2.2.1
theorem dX0_isAhead_17 : decode cX0_isAhead 17 = .ok (.iconst 0, 1) := fx_ok0 eX0_isAhead_0.2.2.2.2.2.2.2.2.2.1
theorem dX0_isAhead_18 : decode cX0_isAhead 18 = .ok (.ireturn, 1) := fx_ok0 eX0_isAhead_0.2.2.2.2.2.2.2.2.2.2
theorem eX0_worthAt_0 : (fdecl cX0_worthAt.data.toList 0 = some (.iload_n 1, 1)) ∧ (fdecl cX0_worthAt.data.toList 1 = some (.ifCond .lt 9, 3)) ∧ (fdecl cX0_worthAt.data.toList 4 = some (.iload_n 1, 1)) ∧ (fdecl cX0_worthAt.data.toList 5 = some (.bipush 100, 2)) ∧ (fdecl cX0_worthAt.data.toList 7 = some (.if_icmp .lt 7, 3)) ∧ (fdecl cX0_worthAt.data.toList 10 = some (.iconst (-1), 1)) ∧ (fdecl cX0_worthAt.data.toList 11 = some (.goto 9, 3)) ∧ (fdecl cX0_worthAt.data.toList 14 = some (.aload_n 0, 1)) ∧ (fdecl cX0_worthAt.data.toList 15 = some (.getfield 15, 3)) ∧ (fdecl cX0_worthAt.data.toList 18 = some (.iload_n 1, 1)) ∧ (fdecl cX0_worthAt.data.toList 19 = some (.iaload, 1)) ∧ (fdecl cX0_worthAt.data.toList 20 = some (.ireturn, 1)) := by decide +kernel
theorem dX0_worthAt_0 : decode cX0_worthAt 0 = .ok (.iload_n 1, 1) := fx_ok0 eX0_worthAt_0.1
theorem dX0_worthAt_1 : decode cX0_worthAt 1 = .ok (.ifCond .lt 9, 3) := fx_ok0 eX0_worthAt_0.2.1
theorem dX0_worthAt_4 : decode cX0_worthAt 4 = .ok (.iload_n 1, 1) := fx_ok0 eX0_worthAt_0.2.2.1
theorem dX0_worthAt_5 : decode cX0_worthAt 5 = .ok (.bipush 100, 2) := fx_ok0 eX0_worthAt_0.2.2.2.1
theorem dX0_worthAt_7 : decode cX0_worthAt 7 = .ok (.if_icmp .lt 7, 3) := fx_ok0 eX0_worthAt_0.2.2.2.2.1
theorem dX0_worthAt_10 : decode cX0_worthAt 10 = .ok (.iconst (-1), 1) := fx_ok0 eX0_worthAt_0.2.2.2.2.2.1
theorem dX0_worthAt_11 : decode cX0_worthAt 11 = .ok (.goto 9, 3) := fx_ok0 eX0_worthAt_0.2.2.2.2.2.2.1
theorem dX0_worthAt_14 : decode cX0_worthAt 14 = .ok (.aload_n 0, 1) := fx_ok0 eX0_worthAt_0.2.2.2.2.2.2.2.1
theorem dX0_worthAt_15 : decode cX0_worthAt 15 = .ok (.getfield 15, 3) := fx_ok0 eX0_worthAt_0.2.2.2.2.2.2.2.2.1
theorem dX0_worthAt_18 : decode cX0_worthAt 18 = .ok (.iload_n 1, 1) := fx_ok0 eX0_worthAt_0.2.2.2.2.2.2.2.2.2.1
theorem dX0_worthAt_19 : decode cX0_worthAt 19 = .ok (.iaload, 1) := fx_ok0 eX0_worthAt_0.2.2.2.2.2.2.2.2.2.2.1
theorem dX0_worthAt_20 : decode cX0_worthAt 20 = .ok (.ireturn, 1) := fx_ok0 eX0_worthAt_0.2.2.2.2.2.2.2.2.2.2.2
theorem eX0_isThere_0 : (fdecl cX0_isThere.data.toList 0 = some (.iload_n 1, 1)) ∧ (fdecl cX0_isThere.data.toList 1 = some (.ifCond .lt 23, 3)) ∧ (fdecl cX0_isThere.data.toList 4 = some (.iload_n 1, 1)) ∧ (fdecl cX0_isThere.data.toList 5 = some (.bipush 100, 2)) ∧ (fdecl cX0_isThere.data.toList 7 = some (.if_icmp .ge 17, 3)) ∧ (fdecl cX0_isThere.data.toList 10 = some (.aload_n 0, 1)) ∧ (fdecl cX0_isThere.data.toList 11 = some (.getfield 15, 3)) ∧ (fdecl cX0_isThere.data.toList 14 = some (.iload_n 1, 1)) ∧ (fdecl cX0_isThere.data.toList 15 = some (.iaload, 1)) ∧ (fdecl cX0_isThere.data.toList 16 = some (.iconst (-1), 1)) ∧ (fdecl cX0_isThere.data.toList 17 = some (.if_icmp .eq 7, 3)) ∧ (fdecl cX0_isThere.data.toList 20 = some (.iconst 1, 1)) ∧ (fdecl cX0_isThere.data.toList 21 = some (.goto 4, 3)) ∧ (fdecl cX0_isThere.data.toList 24 = some (.iconst 0, 1)) ∧ (fdecl cX0_isThere.data.toList 25 = some (.ireturn, 1)) := by decide +kernel
theorem dX0_isThere_0 : decode cX0_isThere 0 = .ok (.iload_n 1, 1) := fx_ok0 eX0_isThere_0.1
theorem dX0_isThere_1 : decode cX0_isThere 1 = .ok (.ifCond .lt 23, 3) := fx_ok0 eX0_isThere_0.2.1
theorem dX0_isThere_4 : decode cX0_isThere 4 = .ok (.iload_n 1, 1) := fx_ok0 eX0_isThere_0.2.2.1
theorem dX0_isThere_5 : decode cX0_isThere 5 = .ok (.bipush 100, 2) := fx_ok0 eX0_isThere_0.2.2.2.1
theorem dX0_isThere_7 : decode cX0_isThere 7 = .ok (.if_icmp .ge 17, 3) := fx_ok0 eX0_isThere_0.2.2.2.2.1
theorem dX0_isThere_10 : decode cX0_isThere 10 = .ok (.aload_n 0, 1) := fx_ok0 eX0_isThere_0.2.2.2.2.2.1
theorem dX0_isThere_11 : decode cX0_isThere 11 = .ok (.getfield 15, 3) := fx_ok0 eX0_isThere_0.2.2.2.2.2.2.1
theorem dX0_isThere_14 : decode cX0_isThere 14 = .ok (.iload_n 1, 1) := fx_ok0 eX0_isThere_0.2.2.2.2.2.2.2.1
theorem dX0_isThere_15 : decode cX0_isThere 15 = .ok (.iaload, 1) := fx_ok0 eX0_isThere_0.2.2.2.2.2.2.2.2.1
theorem dX0_isThere_16 : decode cX0_isThere 16 = .ok (.iconst (-1), 1) := fx_ok0 eX0_isThere_0.2.2.2.2.2.2.2.2.2.1
theorem dX0_isThere_17 : decode cX0_isThere 17 = .ok (.if_icmp .eq 7, 3) := fx_ok0 eX0_isThere_0.2.2.2.2.2.2.2.2.2.2.1
theorem dX0_isThere_20 : decode cX0_isThere 20 = .ok (.iconst 1, 1) := fx_ok0 eX0_isThere_0.2.2.2.2.2.2.2.2.2.2.2.1
theorem dX0_isThere_21 : decode cX0_isThere 21 = .ok (.goto 4, 3) := fx_ok0 eX0_isThere_0.2.2.2.2.2.2.2.2.2.2.2.2.1
theorem dX0_isThere_24 : decode cX0_isThere 24 = .ok (.iconst 0, 1) := fx_ok0 eX0_isThere_0.2.2.2.2.2.2.2.2.2.2.2.2.2.1
theorem dX0_isThere_25 : decode cX0_isThere 25 = .ok (.ireturn, 1) := fx_ok0 eX0_isThere_0.2.2.2.2.2.2.2.2.2.2.2.2.2.2
theorem eX0_pairAt_0 : (fdecl cX0_pairAt.data.toList 0 = some (.aload_n 0, 1)) ∧ (fdecl cX0_pairAt.data.toList 1 = some (.iload_n 1, 1)) ∧ (fdecl cX0_pairAt.data.toList 2 = some (.invokevirtual 32, 3)) ∧ (fdecl cX0_pairAt.data.toList 5 = some (.ifCond .eq 20, 3)) ∧ (fdecl cX0_pairAt.data.toList 8 = some (.aload_n 0, 1)) ∧ (fdecl cX0_pairAt.data.toList 9 = some (.iload_n 1, 1)) ∧ (fdecl cX0_pairAt.data.toList 10 = some (.invokevirtual 36, 3)) ∧ (fdecl cX0_pairAt.data.toList 13 = some (.bipush 100, 2)) ∧ (fdecl cX0_pairAt.data.toList 15 = some (.imul, 1)) ∧ (fdecl cX0_pairAt.data.toList 16 = some (.aload_n 0, 1)) ∧ (fdecl cX0_pairAt.data.toList 17 = some (.iload_n 1, 1)) ∧ (fdecl cX0_pairAt.data.toList 18 = some (.invokevirtual 39, 3)) ∧ (fdecl cX0_pairAt.data.toList 21 = some (.iadd, 1)) ∧ (fdecl cX0_pairAt.data.toList 22 = some (.goto 4, 3)) ∧ (fdecl cX0_pairAt.data.toList 25 = some (.iconst (-1), 1)) ∧ (fdecl cX0_pairAt.data.toList 26 = some (.ireturn, 1)) := by decide +kernel
theorem dX0_pairAt_0 : decode cX0_pairAt 0 = .ok (.aload_n 0, 1) := fx_ok0 eX0_pairAt_0.1
theorem dX0_pairAt_1 : decode cX0_pairAt 1 = .ok (.iload_n 1, 1) := fx_ok0 eX0_pairAt_0.2.1
theorem dX0_pairAt_2 : decode cX0_pairAt 2 = .ok (.invokevirtual 32, 3) := fx_ok0 eX0_pairAt_0.2.2.1
theorem dX0_pairAt_5 : decode cX0_pairAt 5 = .ok (.ifCond .eq 20, 3) := fx_ok0 eX0_pairAt_0.2.2.2.1
theorem dX0_pairAt_8 : decode cX0_pairAt 8 = .ok (.aload_n 0, 1) := fx_ok0 eX0_pairAt_0.2.2.2.2.1
theorem dX0_pairAt_9 : decode cX0_pairAt 9 = .ok (.iload_n 1, 1) := fx_ok0 eX0_pairAt_0.2.2.2.2.2.1
theorem dX0_pairAt_10 : decode cX0_pairAt 10 = .ok (.invokevirtual 36, 3) := fx_ok0 eX0_pairAt_0.2.2.2.2.2.2.1
theorem dX0_pairAt_13 : decode cX0_pairAt 13 = .ok (.bipush 100, 2) := fx_ok0 eX0_pairAt_0.2.2.2.2.2.2.2.1
theorem dX0_pairAt_15 : decode cX0_pairAt 15 = .ok (.imul, 1) := fx_ok0 eX0_pairAt_0.2.2.2.2.2.2.2.2.1
theorem dX0_pairAt_16 : decode cX0_pairAt 16 = .ok (.aload_n 0, 1) := fx_ok0 eX0_pairAt_0.2.2.2.2.2.2.2.2.2.1
theorem dX0_pairAt_17 : decode cX0_pairAt 17 = .ok (.iload_n 1, 1) := fx_ok0 eX0_pairAt_0.2.2.2.2.2.2.2.2.2.2.1
theorem dX0_pairAt_18 : decode cX0_pairAt 18 = .ok (.invokevirtual 39, 3) := fx_ok0 eX0_pairAt_0.2.2.2.2.2.2.2.2.2.2.2.1
theorem dX0_pairAt_21 : decode cX0_pairAt 21 = .ok (.iadd, 1) := fx_ok0 eX0_pairAt_0.2.2.2.2.2.2.2.2.2.2.2.2.1
theorem dX0_pairAt_22 : decode cX0_pairAt 22 = .ok (.goto 4, 3) := fx_ok0 eX0_pairAt_0.2.2.2.2.2.2.2.2.2.2.2.2.2.1
theorem dX0_pairAt_25 : decode cX0_pairAt 25 = .ok (.iconst (-1), 1) := fx_ok0 eX0_pairAt_0.2.2.2.2.2.2.2.2.2.2.2.2.2.2.1
theorem dX0_pairAt_26 : decode cX0_pairAt 26 = .ok (.ireturn, 1) := fx_ok0 eX0_pairAt_0.2.2.2.2.2.2.2.2.2.2.2.2.2.2.2
theorem eX0_come_0 : (fdecl cX0_come.data.toList 0 = some (.iload_n 1, 1)) ∧ (fdecl cX0_come.data.toList 1 = some (.ifCond .lt 9, 3)) ∧ (fdecl cX0_come.data.toList 4 = some (.iload_n 1, 1)) ∧ (fdecl cX0_come.data.toList 5 = some (.bipush 100, 2)) ∧ (fdecl cX0_come.data.toList 7 = some (.if_icmp .lt 5, 3)) ∧ (fdecl cX0_come.data.toList 10 = some (.iconst (-1), 1)) ∧ (fdecl cX0_come.data.toList 11 = some (.ireturn, 1)) ∧ (fdecl cX0_come.data.toList 12 = some (.aload_n 0, 1)) ∧ (fdecl cX0_come.data.toList 13 = some (.getfield 15, 3)) ∧ (fdecl cX0_come.data.toList 16 = some (.iload_n 1, 1)) ∧ (fdecl cX0_come.data.toList 17 = some (.iaload, 1)) ∧ (fdecl cX0_come.data.toList 18 = some (.istore_n 3, 1)) ∧ (fdecl cX0_come.data.toList 19 = some (.aload_n 0, 1)) ∧ (fdecl cX0_come.data.toList 20 = some (.getfield 15, 3)) ∧ (fdecl cX0_come.data.toList 23 = some (.iload_n 1, 1)) ∧ (fdecl cX0_come.data.toList 24 = some (.iload_n 2, 1)) := by decide +kernel
theorem dX0_come_0 : decode cX0_come 0 = .ok (.iload_n 1, 1) := fx_ok0 eX0_come_0.1
theorem dX0_come_1 : decode cX0_come 1 = .ok (.ifCond .lt 9, 3) := fx_ok0 eX0_come_0.2.1
theorem dX0_come_4 : decode cX0_come 4 = .ok (.iload_n 1, 1) := fx_ok0 eX0_come_0.2.2.1
theorem dX0_come_5 : decode cX0_come 5 = .ok (.bipush 100, 2) := fx_ok0 eX0_come_0.2.2.2.1
theorem dX0_come_7 : decode cX0_come 7 = .ok (.if_icmp .lt 5, 3) := fx_ok0 eX0_come_0.2.2.2.2.1
theorem dX0_come_10 : decode cX0_come 10 = .ok (.iconst (-1), 1) := fx_ok0 eX0_come_0.2.2.2.2.2.1
theorem dX0_come_11 : decode cX0_come 11 = .ok (.ireturn, 1) := fx_ok0 eX0_come_0.2.2.2.2.2.2.1
theorem dX0_come_12 : decode cX0_come 12 = .ok (.aload_n 0, 1) := fx_ok0 eX0_come_0.2.2.2.2.2.2.2.1
theorem dX0_come_13 : decode cX0_come 13 = .ok (.getfield 15, 3) := fx_ok0 eX0_come_0.2.2.2.2.2.2.2.2.1
theorem dX0_come_16 : decode cX0_come 16 = .ok (.iload_n 1, 1) := fx_ok0 eX0_come_0.2.2.2.2.2.2.2.2.2.1
theorem dX0_come_17 : decode cX0_come 17 = .ok (.iaload, 1) := fx_ok0 eX0_come_0.2.2.2.2.2.2.2.2.2.2.1
theorem dX0_come_18 : decode cX0_come 18 = .ok (.istore_n 3, 1) := fx_ok0 eX0_come_0.2.2.2.2.2.2.2.2.2.2.2.1
theorem dX0_come_19 : decode cX0_come 19 = .ok (.aload_n 0, 1) := fx_ok0 eX0_come_0.2.2.2.2.2.2.2.2.2.2.2.2.1
theorem dX0_come_20 : decode cX0_come 20 = .ok (.getfield 15, 3) := fx_ok0 eX0_come_0.2.2.2.2.2.2.2.2.2.2.2.2.2.1
theorem dX0_come_23 : decode cX0_come 23 = .ok (.iload_n 1, 1) := fx_ok0 eX0_come_0.2.2.2.2.2.2.2.2.2.2.2.2.2.2.1
theorem dX0_come_24 : decode cX0_come 24 = .ok (.iload_n 2, 1) := fx_ok0 eX0_come_0.2.2.2.2.2.2.2.2.2.2.2.2.2.2.2
theorem eX0_come_25 : (fdecl cX0_come.data.toList 25 = some (.iastore, 1)) ∧ (fdecl cX0_come.data.toList 26 = some (.iload_n 3, 1)) ∧ (fdecl cX0_come.data.toList 27 = some (.iconst (-1), 1)) ∧ (fdecl cX0_come.data.toList 28 = some (.if_icmp .ne 23, 3)) ∧ (fdecl cX0_come.data.toList 31 = some (.aload_n 0, 1)) ∧ (fdecl cX0_come.data.toList 32 = some (.dup, 1)) ∧ (fdecl cX0_come.data.toList 33 = some (.getfield 42, 3)) ∧ (fdecl cX0_come.data.toList 36 = some (.iconst 1, 1)) ∧ (fdecl cX0_come.data.toList 37 = some (.iadd, 1)) ∧ (fdecl cX0_come.data.toList 38 = some (.putfield 42, 3)) ∧ (fdecl cX0_come.data.toList 41 = some (.aload_n 0, 1)) ∧ (fdecl cX0_come.data.toList 42 = some (.dup, 1)) ∧ (fdecl cX0_come.data.toList 43 = some (.getfield 45, 3)) ∧ (fdecl cX0_come.data.toList 46 = some (.iconst 1, 1)) ∧ (fdecl cX0_come.data.toList 47 = some (.iadd, 1)) ∧ (fdecl cX0_come.data.toList 48 = some (.putfield 45, 3)) := by decide +kernel
theorem dX0_come_25 : decode cX0_come 25 = .ok (.iastore, 1) := fx_ok0 eX0_come_25.1
theorem dX0_come_26 : decode cX0_come 26 = .ok (.iload_n 3, 1) := fx_ok0 eX0_come_25.2.1
theorem dX0_come_27 : decode cX0_come 27 = .ok (.iconst (-1), 1) := fx_ok0 eX0_come_25.2.2.1
theorem dX0_come_28 : decode cX0_come 28 = .ok (.if_icmp .ne 23, 3) := fx_ok0 eX0_come_25.2.2.2.1
theorem dX0_come_31 : decode cX0_come 31 = .ok (.aload_n 0, 1) := fx_ok0 eX0_come_25.2.2.2.2.1
theorem dX0_come_32 : decode cX0_come 32 = .ok (.dup, 1) := fx_ok0 eX0_come_25.2.2.2.2.2.1
theorem dX0_come_33 : decode cX0_come 33 = .ok (.getfield 42, 3) := fx_ok0 eX0_come_25.2.2.2.2.2.2.1
theorem dX0_come_36 : decode cX0_come 36 = .ok (.iconst 1, 1) := fx_ok0 eX0_come_25.2.2.2.2.2.2.2.1
theorem dX0_come_37 : decode cX0_come 37 = .ok (.iadd, 1) := fx_ok0 eX0_come_25.2.2.2.2.2.2.2.2.1
theorem dX0_come_38 : decode cX0_come 38 = .ok (.putfield 42, 3) := fx_ok0 eX0_come_25.2.2.2.2.2.2.2.2.2.1
theorem dX0_come_41 : decode cX0_come 41 = .ok (.aload_n 0, 1) := fx_ok0 eX0_come_25.2.2.2.2.2.2.2.2.2.2.1
theorem dX0_come_42 : decode cX0_come 42 = .ok (.dup, 1) := fx_ok0 eX0_come_25.2.2.2.2.2.2.2.2.2.2.2.1
theorem dX0_come_43 : decode cX0_come 43 = .ok (.getfield 45, 3) := fx_ok0 eX0_come_25.2.2.2.2.2.2.2.2.2.2.2.2.1
theorem dX0_come_46 : decode cX0_come 46 = .ok (.iconst 1, 1) := fx_ok0 eX0_come_25.2.2.2.2.2.2.2.2.2.2.2.2.2.1
theorem dX0_come_47 : decode cX0_come 47 = .ok (.iadd, 1) := fx_ok0 eX0_come_25.2.2.2.2.2.2.2.2.2.2.2.2.2.2.1
theorem dX0_come_48 : decode cX0_come 48 = .ok (.putfield 45, 3) := fx_ok0 eX0_come_25.2.2.2.2.2.2.2.2.2.2.2.2.2.2.2
theorem eX0_come_51 : (fdecl cX0_come.data.toList 51 = some (.iload_n 3, 1)) ∧ (fdecl cX0_come.data.toList 52 = some (.ireturn, 1)) := by decide +kernel
theorem dX0_come_51 : decode cX0_come 51 = .ok (.iload_n 3, 1) := fx_ok0 eX0_come_51.1
theorem dX0_come_52 : decode cX0_come 52 = .ok (.ireturn, 1) := fx_ok0 eX0_come_51.2
theorem eX0_go_0 : (fdecl cX0_go.data.toList 0 = some (.iload_n 1, 1)) ∧ (fdecl cX0_go.data.toList 1 = some (.ifCond .lt 9, 3)) ∧ (fdecl cX0_go.data.toList 4 = some (.iload_n 1, 1)) ∧ (fdecl cX0_go.data.toList 5 = some (.bipush 100, 2)) ∧ (fdecl cX0_go.data.toList 7 = some (.if_icmp .lt 5, 3)) ∧ (fdecl cX0_go.data.toList 10 = some (.iconst (-1), 1)) ∧ (fdecl cX0_go.data.toList 11 = some (.ireturn, 1)) ∧ (fdecl cX0_go.data.toList 12 = some (.aload_n 0, 1)) ∧ (fdecl cX0_go.data.toList 13 = some (.getfield 15, 3)) ∧ (fdecl cX0_go.data.toList 16 = some (.iload_n 1, 1)) ∧ (fdecl cX0_go.data.toList 17 = some (.iaload, 1)) ∧ (fdecl cX0_go.data.toList 18 = some (.istore_n 2, 1)) ∧ (fdecl cX0_go.data.toList 19 = some (.aload_n 0, 1)) ∧ (fdecl cX0_go.data.toList 20 = some (.getfield 15, 3)) ∧ (fdecl cX0_go.data.toList 23 = some (.iload_n 1, 1)) ∧ (fdecl cX0_go.data.toList 24 = some (.iconst (-1), 1)) := by decide +kernel
theorem dX0_go_0 : decode cX0_go 0 = .ok (.iload_n 1, 1) := fx_ok0 eX0_go_0.1
theorem dX0_go_1 : decode cX0_go 1 = .ok (.ifCond .lt 9, 3) := fx_ok0 eX0_go_0.2.1
theorem dX0_go_4 : decode cX0_go 4 = .ok (.iload_n 1, 1) := fx_ok0 eX0_go_0.2.2.1
theorem dX0_go_5 : decode cX0_go 5 = .ok (.bipush 100, 2) := fx_ok0 eX0_go_0.2.2.2.1
theorem dX0_go_7 : decode cX0_go 7 = .ok (.if_icmp .lt 5, 3) := fx_ok0 eX0_go_0.2.2.2.2.1
theorem dX0_go_10 : decode cX0_go 10 = .ok (.iconst (-1), 1) := fx_ok0 eX0_go_0.2.2.2.2.2.1
theorem dX0_go_11 : decode cX0_go 11 = .ok (.ireturn, 1) := fx_ok0 eX0_go_0.2.2.2.2.2.2.1
theorem dX0_go_12 : decode cX0_go 12 = .ok (.aload_n 0, 1) := fx_ok0 eX0_go_0.2.2.2.2.2.2.2.1
theorem dX0_go_13 : decode cX0_go 13 = .ok (.getfield 15, 3) := fx_ok0 eX0_go_0.2.2.2.2.2.2.2.2.1
theorem dX0_go_16 : decode cX0_go 16 = .ok (.iload_n 1, 1) := fx_ok0 eX0_go_0.2.2.2.2.2.2.2.2.2.1
theorem dX0_go_17 : decode cX0_go 17 = .ok (.iaload, 1) := fx_ok0 eX0_go_0.2.2.2.2.2.2.2.2.2.2.1
theorem dX0_go_18 : decode cX0_go 18 = .ok (.istore_n 2, 1) := fx_ok0 eX0_go_0.2.2.2.2.2.2.2.2.2.2.2.1
theorem dX0_go_19 : decode cX0_go 19 = .ok (.aload_n 0, 1) := fx_ok0 eX0_go_0.2.2.2.2.2.2.2.2.2.2.2.2.1
theorem dX0_go_20 : decode cX0_go 20 = .ok (.getfield 15, 3) := fx_ok0 eX0_go_0.2.2.2.2.2.2.2.2.2.2.2.2.2.1
theorem dX0_go_23 : decode cX0_go 23 = .ok (.iload_n 1, 1) := fx_ok0 eX0_go_0.2.2.2.2.2.2.2.2.2.2.2.2.2.2.1
theorem dX0_go_24 : decode cX0_go 24 = .ok (.iconst (-1), 1) := fx_ok0 eX0_go_0.2.2.2.2.2.2.2.2.2.2.2.2.2.2.2
theorem eX0_go_25 : (fdecl cX0_go.data.toList 25 = some (.iastore, 1)) ∧ (fdecl cX0_go.data.toList 26 = some (.iload_n 2, 1)) ∧ (fdecl cX0_go.data.toList 27 = some (.iconst (-1), 1)) ∧ (fdecl cX0_go.data.toList 28 = some (.if_icmp .eq 23, 3)) ∧ (fdecl cX0_go.data.toList 31 = some (.aload_n 0, 1)) ∧ (fdecl cX0_go.data.toList 32 = some (.dup, 1)) ∧ (fdecl cX0_go.data.toList 33 = some (.getfield 42, 3)) ∧ (fdecl cX0_go.data.toList 36 = some (.iconst 1, 1)) ∧ (fdecl cX0_go.data.toList 37 = some (.isub, 1)) ∧ (fdecl cX0_go.data.toList 38 = some (.putfield 42, 3)) ∧ (fdecl cX0_go.data.toList 41 = some (.aload_n 0, 1)) ∧ (fdecl cX0_go.data.toList 42 = some (.dup, 1)) ∧ (fdecl cX0_go.data.toList 43 = some (.getfield 45, 3)) ∧ (fdecl cX0_go.data.toList 46 = some (.iconst 1, 1)) ∧ (fdecl cX0_go.data.toList 47 = some (.iadd, 1)) ∧ (fdecl cX0_go.data.toList 48 = some (.putfield 45, 3)) := by decide +kernel
theorem dX0_go_25 : decode cX0_go 25 = .ok (.iastore, 1) := fx_ok0 eX0_go_25.1
theorem dX0_go_26 : decode cX0_go 26 = .ok (.iload_n 2, 1) := fx_ok0 eX0_go_25.2.1
theorem dX0_go_27 : decode cX0_go 27 = .ok (.iconst (-1), 1) := fx_ok0 eX0_go_25.2.2.1
theorem dX0_go_28 : decode cX0_go 28 = .ok (.if_icmp .eq 23, 3) := fx_ok0 eX0_go_25.2.2.2.1
theorem dX0_go_31 : decode cX0_go 31 = .ok (.aload_n 0, 1) := fx_ok0 eX0_go_25.2.2.2.2.1
theorem dX0_go_32 : decode cX0_go 32 = .ok (.dup, 1) := fx_ok0 eX0_go_25.2.2.2.2.2.1
theorem dX0_go_33 : decode cX0_go 33 = .ok (.getfield 42, 3) := fx_ok0 eX0_go_25.2.2.2.2.2.2.1
theorem dX0_go_36 : decode cX0_go 36 = .ok (.iconst 1, 1) := fx_ok0 eX0_go_25.2.2.2.2.2.2.2.1
theorem dX0_go_37 : decode cX0_go 37 = .ok (.isub, 1) := fx_ok0 eX0_go_25.2.2.2.2.2.2.2.2.1
theorem dX0_go_38 : decode cX0_go 38 = .ok (.putfield 42, 3) := fx_ok0 eX0_go_25.2.2.2.2.2.2.2.2.2.1
theorem dX0_go_41 : decode cX0_go 41 = .ok (.aload_n 0, 1) := fx_ok0 eX0_go_25.2.2.2.2.2.2.2.2.2.2.1
theorem dX0_go_42 : decode cX0_go 42 = .ok (.dup, 1) := fx_ok0 eX0_go_25.2.2.2.2.2.2.2.2.2.2.2.1
theorem dX0_go_43 : decode cX0_go 43 = .ok (.getfield 45, 3) := fx_ok0 eX0_go_25.2.2.2.2.2.2.2.2.2.2.2.2.1
theorem dX0_go_46 : decode cX0_go 46 = .ok (.iconst 1, 1) := fx_ok0 eX0_go_25.2.2.2.2.2.2.2.2.2.2.2.2.2.1
theorem dX0_go_47 : decode cX0_go 47 = .ok (.iadd, 1) := fx_ok0 eX0_go_25.2.2.2.2.2.2.2.2.2.2.2.2.2.2.1
theorem dX0_go_48 : decode cX0_go 48 = .ok (.putfield 45, 3) := fx_ok0 eX0_go_25.2.2.2.2.2.2.2.2.2.2.2.2.2.2.2
theorem eX0_go_51 : (fdecl cX0_go.data.toList 51 = some (.iload_n 2, 1)) ∧ (fdecl cX0_go.data.toList 52 = some (.ireturn, 1)) := by decide +kernel
theorem dX0_go_51 : decode cX0_go 51 = .ok (.iload_n 2, 1) := fx_ok0 eX0_go_51.1
theorem dX0_go_52 : decode cX0_go 52 = .ok (.ireturn, 1) := fx_ok0 eX0_go_51.2
theorem eX0_firstInPart_0 : (fdecl cX0_firstInPart.data.toList 0 = some (.iload_n 1, 1)) ∧ (fdecl cX0_firstInPart.data.toList 1 = some (.istore_n 3, 1)) ∧ (fdecl cX0_firstInPart.data.toList 2 = some (.iload_n 3, 1)) ∧ (fdecl cX0_firstInPart.data.toList 3 = some (.iload_n 2, 1)) ∧ (fdecl cX0_firstInPart.data.toList 4 = some (.if_icmp .gt 19, 3)) ∧ (fdecl cX0_firstInPart.data.toList 7 = some (.aload_n 0, 1)) ∧ (fdecl cX0_firstInPart.data.toList 8 = some (.iload_n 3, 1)) ∧ (fdecl cX0_firstInPart.data.toList 9 = some (.invokevirtual 32, 3)) ∧ (fdecl cX0_firstInPart.data.toList 12 = some (.ifCond .eq 5, 3)) ∧ (fdecl cX0_firstInPart.data.toList 15 = some (.iload_n 3, 1)) ∧ (fdecl cX0_firstInPart.data.toList 16 = some (.ireturn, 1)) ∧ (fdecl cX0_firstInPart.data.toList 20 = some (.goto (-18), 3)) ∧ (fdecl cX0_firstInPart.data.toList 23 = some (.iconst (-1), 1)) ∧ (fdecl cX0_firstInPart.data.toList 24 = some (.ireturn, 1)) := by decide +kernel
theorem dX0_firstInPart_0 : decode cX0_firstInPart 0 = .ok (.iload_n 1, 1) := fx_ok0 eX0_firstInPart_0.1
theorem dX0_firstInPart_1 : decode cX0_firstInPart 1 = .ok (.istore_n 3, 1) := fx_ok0 eX0_firstInPart_0.2.1
theorem dX0_firstInPart_2 : decode cX0_firstInPart 2 = .ok (.iload_n 3, 1) := fx_ok0 eX0_firstInPart_0.2.2.1
theorem dX0_firstInPart_3 : decode cX0_firstInPart 3 = .ok (.iload_n 2, 1) := fx_ok0 eX0_firstInPart_0.2.2.2.1
theorem dX0_firstInPart_4 : decode cX0_firstInPart 4 = .ok (.if_icmp .gt 19, 3) := fx_ok0 eX0_firstInPart_0.2.2.2.2.1
theorem dX0_firstInPart_7 : decode cX0_firstInPart 7 = .ok (.aload_n 0, 1) := fx_ok0 eX0_firstInPart_0.2.2.2.2.2.1
theorem dX0_firstInPart_8 : decode cX0_firstInPart 8 = .ok (.iload_n 3, 1) := fx_ok0 eX0_firstInPart_0.2.2.2.2.2.2.1
theorem dX0_firstInPart_9 : decode cX0_firstInPart 9 = .ok (.invokevirtual 32, 3) := fx_ok0 eX0_firstInPart_0.2.2.2.2.2.2.2.1
theorem dX0_firstInPart_12 : decode cX0_firstInPart 12 = .ok (.ifCond .eq 5, 3) := fx_ok0 eX0_firstInPart_0.2.2.2.2.2.2.2.2.1
theorem dX0_firstInPart_15 : decode cX0_firstInPart 15 = .ok (.iload_n 3, 1) := fx_ok0 eX0_firstInPart_0.2.2.2.2.2.2.2.2.2.1
theorem dX0_firstInPart_16 : decode cX0_firstInPart 16 = .ok (.ireturn, 1) := fx_ok0 eX0_firstInPart_0.2.2.2.2.2.2.2.2.2.2.1
theorem dX0_firstInPart_20 : decode cX0_firstInPart 20 = .ok (.goto (-18), 3) := fx_ok0 eX0_firstInPart_0.2.2.2.2.2.2.2.2.2.2.2.1
theorem dX0_firstInPart_23 : decode cX0_firstInPart 23 = .ok (.iconst (-1), 1) := fx_ok0 eX0_firstInPart_0.2.2.2.2.2.2.2.2.2.2.2.2.1
theorem dX0_firstInPart_24 : decode cX0_firstInPart 24 = .ok (.ireturn, 1) := fx_ok0 eX0_firstInPart_0.2.2.2.2.2.2.2.2.2.2.2.2.2
theorem dX0_firstInPart_17 : decode cX0_firstInPart 17 = .ok (.iinc 3 1, 3) := by decide +kernel
theorem eX0_lastInPart_0 : (fdecl cX0_lastInPart.data.toList 0 = some (.iload_n 2, 1)) ∧ (fdecl cX0_lastInPart.data.toList 1 = some (.istore_n 3, 1)) ∧ (fdecl cX0_lastInPart.data.toList 2 = some (.iload_n 3, 1)) ∧ (fdecl cX0_lastInPart.data.toList 3 = some (.iload_n 1, 1)) ∧ (fdecl cX0_lastInPart.data.toList 4 = some (.if_icmp .lt 19, 3)) ∧ (fdecl cX0_lastInPart.data.toList 7 = some (.aload_n 0, 1)) ∧ (fdecl cX0_lastInPart.data.toList 8 = some (.iload_n 3, 1)) ∧ (fdecl cX0_lastInPart.data.toList 9 = some (.invokevirtual 32, 3)) ∧ (fdecl cX0_lastInPart.data.toList 12 = some (.ifCond .eq 5, 3)) ∧ (fdecl cX0_lastInPart.data.toList 15 = some (.iload_n 3, 1)) ∧ (fdecl cX0_lastInPart.data.toList 16 = some (.ireturn, 1)) ∧ (fdecl cX0_lastInPart.data.toList 20 = some (.goto (-18), 3)) ∧ (fdecl cX0_lastInPart.data.toList 23 = some (.iconst (-1), 1)) ∧ (fdecl cX0_lastInPart.data.toList 24 = some (.ireturn, 1)) := by decide +kernel
theorem dX0_lastInPart_0 : decode cX0_lastInPart 0 = .ok (.iload_n 2, 1) := fx_ok0 eX0_lastInPart_0.1
theorem dX0_lastInPart_1 : decode cX0_lastInPart 1 = .ok (.istore_n 3, 1) := fx_ok0 eX0_lastInPart_0.2.1
theorem dX0_lastInPart_2 : decode cX0_lastInPart 2 = .ok (.iload_n 3, 1) := fx_ok0 eX0_lastInPart_0.2.2.1
theorem dX0_lastInPart_3 : decode cX0_lastInPart 3 = .ok (.iload_n 1, 1) := fx_ok0 eX0_lastInPart_0.2.2.2.1
theorem dX0_lastInPart_4 : decode cX0_lastInPart 4 = .ok (.if_icmp .lt 19, 3) := fx_ok0 eX0_lastInPart_0.2.2.2.2.1
theorem dX0_lastInPart_7 : decode cX0_lastInPart 7 = .ok (.aload_n 0, 1) := fx_ok0 eX0_lastInPart_0.2.2.2.2.2.1
theorem dX0_lastInPart_8 : decode cX0_lastInPart 8 = .ok (.iload_n 3, 1) := fx_ok0 eX0_lastInPart_0.2.2.2.2.2.2.1
theorem dX0_lastInPart_9 : decode cX0_lastInPart 9 = .ok (.invokevirtual 32, 3) := fx_ok0 eX0_lastInPart_0.2.2.2.2.2.2.2.1
theorem dX0_lastInPart_12 : decode cX0_lastInPart 12 = .ok (.ifCond .eq 5, 3) := fx_ok0 eX0_lastInPart_0.2.2.2.2.2.2.2.2.1
theorem dX0_lastInPart_15 : decode cX0_lastInPart 15 = .ok (.iload_n 3, 1) := fx_ok0 eX0_lastInPart_0.2.2.2.2.2.2.2.2.2.1
theorem dX0_lastInPart_16 : decode cX0_lastInPart 16 = .ok (.ireturn, 1) := fx_ok0 eX0_lastInPart_0.2.2.2.2.2.2.2.2.2.2.1
theorem dX0_lastInPart_20 : decode cX0_lastInPart 20 = .ok (.goto (-18), 3) := fx_ok0 eX0_lastInPart_0.2.2.2.2.2.2.2.2.2.2.2.1
theorem dX0_lastInPart_23 : decode cX0_lastInPart 23 = .ok (.iconst (-1), 1) := fx_ok0 eX0_lastInPart_0.2.2.2.2.2.2.2.2.2.2.2.2.1
theorem dX0_lastInPart_24 : decode cX0_lastInPart 24 = .ok (.ireturn, 1) := fx_ok0 eX0_lastInPart_0.2.2.2.2.2.2.2.2.2.2.2.2.2
theorem dX0_lastInPart_17 : decode cX0_lastInPart 17 = .ok (.iinc 3 (-1), 3) := by decide +kernel
theorem eX0_endOfPart_0 : (fdecl cX0_endOfPart.data.toList 0 = some (.iload_n 3, 1)) ∧ (fdecl cX0_endOfPart.data.toList 1 = some (.ifCond .eq 12, 3)) ∧ (fdecl cX0_endOfPart.data.toList 4 = some (.aload_n 0, 1)) ∧ (fdecl cX0_endOfPart.data.toList 5 = some (.iload_n 1, 1)) ∧ (fdecl cX0_endOfPart.data.toList 6 = some (.iload_n 2, 1)) ∧ (fdecl cX0_endOfPart.data.toList 7 = some (.invokevirtual 48, 3)) ∧ (fdecl cX0_endOfPart.data.toList 10 = some (.goto 9, 3)) ∧ (fdecl cX0_endOfPart.data.toList 13 = some (.aload_n 0, 1)) ∧ (fdecl cX0_endOfPart.data.toList 14 = some (.iload_n 1, 1)) ∧ (fdecl cX0_endOfPart.data.toList 15 = some (.iload_n 2, 1)) ∧ (fdecl cX0_endOfPart.data.toList 16 = some (.invokevirtual 52, 3)) ∧ (fdecl cX0_endOfPart.data.toList 19 = some (.ireturn, 1)) := by decide +kernel
theorem dX0_endOfPart_0 : decode cX0_endOfPart 0 = .ok (.iload_n 3, 1) := fx_ok0 eX0_endOfPart_0.1
theorem dX0_endOfPart_1 : decode cX0_endOfPart 1 = .ok (.ifCond .eq 12, 3) := fx_ok0 eX0_endOfPart_0.2.1
theorem dX0_endOfPart_4 : decode cX0_endOfPart 4 = .ok (.aload_n 0, 1) := fx_ok0 eX0_endOfPart_0.2.2.1
theorem dX0_endOfPart_5 : decode cX0_endOfPart 5 = .ok (.iload_n 1, 1) := fx_ok0 eX0_endOfPart_0.2.2.2.1
theorem dX0_endOfPart_6 : decode cX0_endOfPart 6 = .ok (.iload_n 2, 1) := fx_ok0 eX0_endOfPart_0.2.2.2.2.1
theorem dX0_endOfPart_7 : decode cX0_endOfPart 7 = .ok (.invokevirtual 48, 3) := fx_ok0 eX0_endOfPart_0.2.2.2.2.2.1
theorem dX0_endOfPart_10 : decode cX0_endOfPart 10 = .ok (.goto 9, 3) := fx_ok0 eX0_endOfPart_0.2.2.2.2.2.2.1
theorem dX0_endOfPart_13 : decode cX0_endOfPart 13 = .ok (.aload_n 0, 1) := fx_ok0 eX0_endOfPart_0.2.2.2.2.2.2.2.1
theorem dX0_endOfPart_14 : decode cX0_endOfPart 14 = .ok (.iload_n 1, 1) := fx_ok0 eX0_endOfPart_0.2.2.2.2.2.2.2.2.1
theorem dX0_endOfPart_15 : decode cX0_endOfPart 15 = .ok (.iload_n 2, 1) := fx_ok0 eX0_endOfPart_0.2.2.2.2.2.2.2.2.2.1
theorem dX0_endOfPart_16 : decode cX0_endOfPart 16 = .ok (.invokevirtual 52, 3) := fx_ok0 eX0_endOfPart_0.2.2.2.2.2.2.2.2.2.2.1
theorem dX0_endOfPart_19 : decode cX0_endOfPart 19 = .ok (.ireturn, 1) := fx_ok0 eX0_endOfPart_0.2.2.2.2.2.2.2.2.2.2.2
def fAX0_nearInPart_0 : List UInt8 := [42, 29, 182, 0, 29, 54, 5, 21, 4, 170, 0, 0, 0, 0, 0, 83, 0, 0, 0, 0, 0, 0, 0, 3, 0, 0, 0, 31, 0, 0, 0, 43, 0, 0, 0, 55, 0, 0, 0, 69, 42, 27, 21, 5, 28, 184, 0, 55, 182, 0, 48, 172, 42, 21, 5, 27, 184, 0, 60, 28, 182, 0, 52, 172]
def fAX0_nearInPart_1 : List UInt8 := [42, 27, 21, 5, 4, 100, 28, 184, 0, 55, 182, 0, 48, 172, 42, 21, 5, 4, 96, 27, 184, 0, 60, 28, 182, 0, 52, 172, 42, 21, 5, 27, 184, 0, 60, 21, 5, 28, 184, 0, 55, 182, 0, 52, 172]
def fTX0_nearInPart_1 : List UInt8 := fAX0_nearInPart_1
def fTX0_nearInPart_0 : List UInt8 := fAX0_nearInPart_0 ++ fTX0_nearInPart_1
theorem fDX0_nearInPart_0 : cX0_nearInPart.data.toList.drop 0 = fTX0_nearInPart_0 := eq_of_beq (by decide +kernel)
theorem fDX0_nearInPart_1 : cX0_nearInPart.data.toList.drop 64 = fTX0_nearInPart_1 := fx_nx (d := 0) (n := 64) (a := fAX0_nearInPart_0) fDX0_nearInPart_0 rfl
theorem eX0_nearInPart_0 : (fdecl fTX0_nearInPart_0 0 = some (.aload_n 0, 1)) ∧ (fdecl fTX0_nearInPart_0 1 = some (.iload_n 3, 1)) ∧ (fdecl fTX0_nearInPart_0 2 = some (.invokevirtual 29, 3)) ∧ (fdecl fTX0_nearInPart_0 5 = some (.istore 5, 2)) ∧ (fdecl fTX0_nearInPart_0 7 = some (.iload 4, 2)) ∧ (fdecl fTX0_nearInPart_0 40 = some (.aload_n 0, 1)) ∧ (fdecl fTX0_nearInPart_0 41 = some (.iload_n 1, 1)) ∧ (fdecl fTX0_nearInPart_0 42 = some (.iload 5, 2)) ∧ (fdecl fTX0_nearInPart_0 44 = some (.iload_n 2, 1)) ∧ (fdecl fTX0_nearInPart_0 45 = some (.invokestatic 55, 3)) ∧ (fdecl fTX0_nearInPart_0 48 = some (.invokevirtual 48, 3)) ∧ (fdecl fTX0_nearInPart_0 51 = some (.ireturn, 1)) ∧ (fdecl fTX0_nearInPart_0 52 = some (.aload_n 0, 1)) ∧ (fdecl fTX0_nearInPart_0 53 = some (.iload 5, 2)) ∧ (fdecl fTX0_nearInPart_0 55 = some (.iload_n 1, 1)) ∧ (fdecl fTX0_nearInPart_0 56 = some (.invokestatic 60, 3)) := by decide +kernel
theorem dX0_nearInPart_0 : decode cX0_nearInPart 0 = .ok (.aload_n 0, 1) := fx_ok (d := 0) (i := 0) fDX0_nearInPart_0 eX0_nearInPart_0.1
theorem dX0_nearInPart_1 : decode cX0_nearInPart 1 = .ok (.iload_n 3, 1) := fx_ok (d := 0) (i := 1) fDX0_nearInPart_0 eX0_nearInPart_0.2.1
theorem dX0_nearInPart_2 : decode cX0_nearInPart 2 = .ok (.invokevirtual 29, 3) := fx_ok (d := 0) (i := 2) fDX0_nearInPart_0 eX0_nearInPart_0.2.2.1
theorem dX0_nearInPart_5 : decode cX0_nearInPart 5 = .ok (.istore 5, 2) := fx_ok (d := 0) (i := 5) fDX0_nearInPart_0 eX0_nearInPart_0.2.2.2.1
theorem dX0_nearInPart_7 : decode cX0_nearInPart 7 = .ok (.iload 4, 2) := fx_ok (d := 0) (i := 7) fDX0_nearInPart_0 eX0_nearInPart_0.2.2.2.2.1
theorem dX0_nearInPart_40 : decode cX0_nearInPart 40 = .ok (.aload_n 0, 1) := fx_ok (d := 0) (i := 40) fDX0_nearInPart_0 eX0_nearInPart_0.2.2.2.2.2.1
theorem dX0_nearInPart_41 : decode cX0_nearInPart 41 = .ok (.iload_n 1, 1) := fx_ok (d := 0) (i := 41) fDX0_nearInPart_0 eX0_nearInPart_0.2.2.2.2.2.2.1
theorem dX0_nearInPart_42 : decode cX0_nearInPart 42 = .ok (.iload 5, 2) := fx_ok (d := 0) (i := 42) fDX0_nearInPart_0 eX0_nearInPart_0.2.2.2.2.2.2.2.1
theorem dX0_nearInPart_44 : decode cX0_nearInPart 44 = .ok (.iload_n 2, 1) := fx_ok (d := 0) (i := 44) fDX0_nearInPart_0 eX0_nearInPart_0.2.2.2.2.2.2.2.2.1
theorem dX0_nearInPart_45 : decode cX0_nearInPart 45 = .ok (.invokestatic 55, 3) := fx_ok (d := 0) (i := 45) fDX0_nearInPart_0 eX0_nearInPart_0.2.2.2.2.2.2.2.2.2.1
theorem dX0_nearInPart_48 : decode cX0_nearInPart 48 = .ok (.invokevirtual 48, 3) := fx_ok (d := 0) (i := 48) fDX0_nearInPart_0 eX0_nearInPart_0.2.2.2.2.2.2.2.2.2.2.1
theorem dX0_nearInPart_51 : decode cX0_nearInPart 51 = .ok (.ireturn, 1) := fx_ok (d := 0) (i := 51) fDX0_nearInPart_0 eX0_nearInPart_0.2.2.2.2.2.2.2.2.2.2.2.1
theorem dX0_nearInPart_52 : decode cX0_nearInPart 52 = .ok (.aload_n 0, 1) := fx_ok (d := 0) (i := 52) fDX0_nearInPart_0 eX0_nearInPart_0.2.2.2.2.2.2.2.2.2.2.2.2.1
theorem dX0_nearInPart_53 : decode cX0_nearInPart 53 = .ok (.iload 5, 2) := fx_ok (d := 0) (i := 53) fDX0_nearInPart_0 eX0_nearInPart_0.2.2.2.2.2.2.2.2.2.2.2.2.2.1
theorem dX0_nearInPart_55 : decode cX0_nearInPart 55 = .ok (.iload_n 1, 1) := fx_ok (d := 0) (i := 55) fDX0_nearInPart_0 eX0_nearInPart_0.2.2.2.2.2.2.2.2.2.2.2.2.2.2.1
theorem dX0_nearInPart_56 : decode cX0_nearInPart 56 = .ok (.invokestatic 60, 3) := fx_ok (d := 0) (i := 56) fDX0_nearInPart_0 eX0_nearInPart_0.2.2.2.2.2.2.2.2.2.2.2.2.2.2.2
theorem eX0_nearInPart_59 : (fdecl fTX0_nearInPart_0 59 = some (.iload_n 2, 1)) ∧ (fdecl fTX0_nearInPart_0 60 = some (.invokevirtual 52, 3)) ∧ (fdecl fTX0_nearInPart_0 63 = some (.ireturn, 1)) ∧ (fdecl fTX0_nearInPart_1 0 = some (.aload_n 0, 1)) ∧ (fdecl fTX0_nearInPart_1 1 = some (.iload_n 1, 1)) ∧ (fdecl fTX0_nearInPart_1 2 = some (.iload 5, 2)) ∧ (fdecl fTX0_nearInPart_1 4 = some (.iconst 1, 1)) ∧ (fdecl fTX0_nearInPart_1 5 = some (.isub, 1)) ∧ (fdecl fTX0_nearInPart_1 6 = some (.iload_n 2, 1)) ∧ (fdecl fTX0_nearInPart_1 7 = some (.invokestatic 55, 3)) ∧ (fdecl fTX0_nearInPart_1 10 = some (.invokevirtual 48, 3)) ∧ (fdecl fTX0_nearInPart_1 13 = some (.ireturn, 1)) ∧ (fdecl fTX0_nearInPart_1 14 = some (.aload_n 0, 1)) ∧ (fdecl fTX0_nearInPart_1 15 = some (.iload 5, 2)) ∧ (fdecl fTX0_nearInPart_1 17 = some (.iconst 1, 1)) ∧ (fdecl fTX0_nearInPart_1 18 = some (.iadd, 1)) := by decide +kernel
theorem dX0_nearInPart_59 : decode cX0_nearInPart 59 = .ok (.iload_n 2, 1) := fx_ok (d := 0) (i := 59) fDX0_nearInPart_0 eX0_nearInPart_59.1
theorem dX0_nearInPart_60 : decode cX0_nearInPart 60 = .ok (.invokevirtual 52, 3) := fx_ok (d := 0) (i := 60) fDX0_nearInPart_0 eX0_nearInPart_59.2.1
theorem dX0_nearInPart_63 : decode cX0_nearInPart 63 = .ok (.ireturn, 1) := fx_ok (d := 0) (i := 63) fDX0_nearInPart_0 eX0_nearInPart_59.2.2.1
theorem dX0_nearInPart_64 : decode cX0_nearInPart 64 = .ok (.aload_n 0, 1) := fx_ok (d := 64) (i := 0) fDX0_nearInPart_1 eX0_nearInPart_59.2.2.2.1
theorem dX0_nearInPart_65 : decode cX0_nearInPart 65 = .ok (.iload_n 1, 1) := fx_ok (d := 64) (i := 1) fDX0_nearInPart_1 eX0_nearInPart_59.2.2.2.2.1
theorem dX0_nearInPart_66 : decode cX0_nearInPart 66 = .ok (.iload 5, 2) := fx_ok (d := 64) (i := 2) fDX0_nearInPart_1 eX0_nearInPart_59.2.2.2.2.2.1
theorem dX0_nearInPart_68 : decode cX0_nearInPart 68 = .ok (.iconst 1, 1) := fx_ok (d := 64) (i := 4) fDX0_nearInPart_1 eX0_nearInPart_59.2.2.2.2.2.2.1
theorem dX0_nearInPart_69 : decode cX0_nearInPart 69 = .ok (.isub, 1) := fx_ok (d := 64) (i := 5) fDX0_nearInPart_1 eX0_nearInPart_59.2.2.2.2.2.2.2.1
theorem dX0_nearInPart_70 : decode cX0_nearInPart 70 = .ok (.iload_n 2, 1) := fx_ok (d := 64) (i := 6) fDX0_nearInPart_1 eX0_nearInPart_59.2.2.2.2.2.2.2.2.1
theorem dX0_nearInPart_71 : decode cX0_nearInPart 71 = .ok (.invokestatic 55, 3) := fx_ok (d := 64) (i := 7) fDX0_nearInPart_1 eX0_nearInPart_59.2.2.2.2.2.2.2.2.2.1
theorem dX0_nearInPart_74 : decode cX0_nearInPart 74 = .ok (.invokevirtual 48, 3) := fx_ok (d := 64) (i := 10) fDX0_nearInPart_1 eX0_nearInPart_59.2.2.2.2.2.2.2.2.2.2.1
theorem dX0_nearInPart_77 : decode cX0_nearInPart 77 = .ok (.ireturn, 1) := fx_ok (d := 64) (i := 13) fDX0_nearInPart_1 eX0_nearInPart_59.2.2.2.2.2.2.2.2.2.2.2.1
theorem dX0_nearInPart_78 : decode cX0_nearInPart 78 = .ok (.aload_n 0, 1) := fx_ok (d := 64) (i := 14) fDX0_nearInPart_1 eX0_nearInPart_59.2.2.2.2.2.2.2.2.2.2.2.2.1
theorem dX0_nearInPart_79 : decode cX0_nearInPart 79 = .ok (.iload 5, 2) := fx_ok (d := 64) (i := 15) fDX0_nearInPart_1 eX0_nearInPart_59.2.2.2.2.2.2.2.2.2.2.2.2.2.1
theorem dX0_nearInPart_81 : decode cX0_nearInPart 81 = .ok (.iconst 1, 1) := fx_ok (d := 64) (i := 17) fDX0_nearInPart_1 eX0_nearInPart_59.2.2.2.2.2.2.2.2.2.2.2.2.2.2.1
theorem dX0_nearInPart_82 : decode cX0_nearInPart 82 = .ok (.iadd, 1) := fx_ok (d := 64) (i := 18) fDX0_nearInPart_1 eX0_nearInPart_59.2.2.2.2.2.2.2.2.2.2.2.2.2.2.2
theorem eX0_nearInPart_83 : (fdecl fTX0_nearInPart_1 19 = some (.iload_n 1, 1)) ∧ (fdecl fTX0_nearInPart_1 20 = some (.invokestatic 60, 3)) ∧ (fdecl fTX0_nearInPart_1 23 = some (.iload_n 2, 1)) ∧ (fdecl fTX0_nearInPart_1 24 = some (.invokevirtual 52, 3)) ∧ (fdecl fTX0_nearInPart_1 27 = some (.ireturn, 1)) ∧ (fdecl fTX0_nearInPart_1 28 = some (.aload_n 0, 1)) ∧ (fdecl fTX0_nearInPart_1 29 = some (.iload 5, 2)) ∧ (fdecl fTX0_nearInPart_1 31 = some (.iload_n 1, 1)) ∧ (fdecl fTX0_nearInPart_1 32 = some (.invokestatic 60, 3)) ∧ (fdecl fTX0_nearInPart_1 35 = some (.iload 5, 2)) ∧ (fdecl fTX0_nearInPart_1 37 = some (.iload_n 2, 1)) ∧ (fdecl fTX0_nearInPart_1 38 = some (.invokestatic 55, 3)) ∧ (fdecl fTX0_nearInPart_1 41 = some (.invokevirtual 52, 3)) ∧ (fdecl fTX0_nearInPart_1 44 = some (.ireturn, 1)) := by decide +kernel
theorem dX0_nearInPart_83 : decode cX0_nearInPart 83 = .ok (.iload_n 1, 1) := fx_ok (d := 64) (i := 19) fDX0_nearInPart_1 eX0_nearInPart_83.1
theorem dX0_nearInPart_84 : decode cX0_nearInPart 84 = .ok (.invokestatic 60, 3) := fx_ok (d := 64) (i := 20) fDX0_nearInPart_1 eX0_nearInPart_83.2.1
theorem dX0_nearInPart_87 : decode cX0_nearInPart 87 = .ok (.iload_n 2, 1) := fx_ok (d := 64) (i := 23) fDX0_nearInPart_1 eX0_nearInPart_83.2.2.1
theorem dX0_nearInPart_88 : decode cX0_nearInPart 88 = .ok (.invokevirtual 52, 3) := fx_ok (d := 64) (i := 24) fDX0_nearInPart_1 eX0_nearInPart_83.2.2.2.1
theorem dX0_nearInPart_91 : decode cX0_nearInPart 91 = .ok (.ireturn, 1) := fx_ok (d := 64) (i := 27) fDX0_nearInPart_1 eX0_nearInPart_83.2.2.2.2.1
theorem dX0_nearInPart_92 : decode cX0_nearInPart 92 = .ok (.aload_n 0, 1) := fx_ok (d := 64) (i := 28) fDX0_nearInPart_1 eX0_nearInPart_83.2.2.2.2.2.1
theorem dX0_nearInPart_93 : decode cX0_nearInPart 93 = .ok (.iload 5, 2) := fx_ok (d := 64) (i := 29) fDX0_nearInPart_1 eX0_nearInPart_83.2.2.2.2.2.2.1
theorem dX0_nearInPart_95 : decode cX0_nearInPart 95 = .ok (.iload_n 1, 1) := fx_ok (d := 64) (i := 31) fDX0_nearInPart_1 eX0_nearInPart_83.2.2.2.2.2.2.2.1
theorem dX0_nearInPart_96 : decode cX0_nearInPart 96 = .ok (.invokestatic 60, 3) := fx_ok (d := 64) (i := 32) fDX0_nearInPart_1 eX0_nearInPart_83.2.2.2.2.2.2.2.2.1
theorem dX0_nearInPart_99 : decode cX0_nearInPart 99 = .ok (.iload 5, 2) := fx_ok (d := 64) (i := 35) fDX0_nearInPart_1 eX0_nearInPart_83.2.2.2.2.2.2.2.2.2.1
theorem dX0_nearInPart_101 : decode cX0_nearInPart 101 = .ok (.iload_n 2, 1) := fx_ok (d := 64) (i := 37) fDX0_nearInPart_1 eX0_nearInPart_83.2.2.2.2.2.2.2.2.2.2.1
theorem dX0_nearInPart_102 : decode cX0_nearInPart 102 = .ok (.invokestatic 55, 3) := fx_ok (d := 64) (i := 38) fDX0_nearInPart_1 eX0_nearInPart_83.2.2.2.2.2.2.2.2.2.2.2.1
theorem dX0_nearInPart_105 : decode cX0_nearInPart 105 = .ok (.invokevirtual 52, 3) := fx_ok (d := 64) (i := 41) fDX0_nearInPart_1 eX0_nearInPart_83.2.2.2.2.2.2.2.2.2.2.2.2.1
theorem dX0_nearInPart_108 : decode cX0_nearInPart 108 = .ok (.ireturn, 1) := fx_ok (d := 64) (i := 44) fDX0_nearInPart_1 eX0_nearInPart_83.2.2.2.2.2.2.2.2.2.2.2.2.2
theorem dX0_nearInPart_9 : decode cX0_nearInPart 9 = .ok (.tableswitch 83 0 3 #[31, 43, 55, 69], 31) := by decide +kernel
theorem eX0_rankBehind_0 : (fdecl cX0_rankBehind.data.toList 0 = some (.iconst 0, 1)) ∧ (fdecl cX0_rankBehind.data.toList 1 = some (.istore_n 2, 1)) ∧ (fdecl cX0_rankBehind.data.toList 2 = some (.iconst 0, 1)) ∧ (fdecl cX0_rankBehind.data.toList 3 = some (.istore_n 3, 1)) ∧ (fdecl cX0_rankBehind.data.toList 4 = some (.iload_n 3, 1)) ∧ (fdecl cX0_rankBehind.data.toList 5 = some (.bipush 100, 2)) ∧ (fdecl cX0_rankBehind.data.toList 7 = some (.if_icmp .ge 27, 3)) ∧ (fdecl cX0_rankBehind.data.toList 10 = some (.aload_n 0, 1)) ∧ (fdecl cX0_rankBehind.data.toList 11 = some (.iload_n 3, 1)) ∧ (fdecl cX0_rankBehind.data.toList 12 = some (.invokevirtual 32, 3)) ∧ (fdecl cX0_rankBehind.data.toList 15 = some (.ifCond .eq 13, 3)) ∧ (fdecl cX0_rankBehind.data.toList 18 = some (.iload_n 2, 1)) ∧ (fdecl cX0_rankBehind.data.toList 19 = some (.iload_n 1, 1)) ∧ (fdecl cX0_rankBehind.data.toList 20 = some (.if_icmp .ne 5, 3)) ∧ (fdecl cX0_rankBehind.data.toList 23 = some (.iload_n 3, 1)) ∧ (fdecl cX0_rankBehind.data.toList 24 = some (.ireturn, 1)) := by decide +kernel
theorem dX0_rankBehind_0 : decode cX0_rankBehind 0 = .ok (.iconst 0, 1) := fx_ok0 eX0_rankBehind_0.1
theorem dX0_rankBehind_1 : decode cX0_rankBehind 1 = .ok (.istore_n 2, 1) := fx_ok0 eX0_rankBehind_0.2.1
theorem dX0_rankBehind_2 : decode cX0_rankBehind 2 = .ok (.iconst 0, 1) := fx_ok0 eX0_rankBehind_0.2.2.1
theorem dX0_rankBehind_3 : decode cX0_rankBehind 3 = .ok (.istore_n 3, 1) := fx_ok0 eX0_rankBehind_0.2.2.2.1
theorem dX0_rankBehind_4 : decode cX0_rankBehind 4 = .ok (.iload_n 3, 1) := fx_ok0 eX0_rankBehind_0.2.2.2.2.1
theorem dX0_rankBehind_5 : decode cX0_rankBehind 5 = .ok (.bipush 100, 2) := fx_ok0 eX0_rankBehind_0.2.2.2.2.2.1
theorem dX0_rankBehind_7 : decode cX0_rankBehind 7 = .ok (.if_icmp .ge 27, 3) := fx_ok0 eX0_rankBehind_0.2.2.2.2.2.2.1
theorem dX0_rankBehind_10 : decode cX0_rankBehind 10 = .ok (.aload_n 0, 1) := fx_ok0 eX0_rankBehind_0.2.2.2.2.2.2.2.1
theorem dX0_rankBehind_11 : decode cX0_rankBehind 11 = .ok (.iload_n 3, 1) := fx_ok0 eX0_rankBehind_0.2.2.2.2.2.2.2.2.1
theorem dX0_rankBehind_12 : decode cX0_rankBehind 12 = .ok (.invokevirtual 32, 3) := fx_ok0 eX0_rankBehind_0.2.2.2.2.2.2.2.2.2.1
theorem dX0_rankBehind_15 : decode cX0_rankBehind 15 = .ok (.ifCond .eq 13, 3) := fx_ok0 eX0_rankBehind_0.2.2.2.2.2.2.2.2.2.2.1
theorem dX0_rankBehind_18 : decode cX0_rankBehind 18 = .ok (.iload_n 2, 1) := fx_ok0 eX0_rankBehind_0.2.2.2.2.2.2.2.2.2.2.2.1
theorem dX0_rankBehind_19 : decode cX0_rankBehind 19 = .ok (.iload_n 1, 1) := fx_ok0 eX0_rankBehind_0.2.2.2.2.2.2.2.2.2.2.2.2.1
theorem dX0_rankBehind_20 : decode cX0_rankBehind 20 = .ok (.if_icmp .ne 5, 3) := fx_ok0 eX0_rankBehind_0.2.2.2.2.2.2.2.2.2.2.2.2.2.1
theorem dX0_rankBehind_23 : decode cX0_rankBehind 23 = .ok (.iload_n 3, 1) := fx_ok0 eX0_rankBehind_0.2.2.2.2.2.2.2.2.2.2.2.2.2.2.1
theorem dX0_rankBehind_24 : decode cX0_rankBehind 24 = .ok (.ireturn, 1) := fx_ok0 eX0_rankBehind_0.2.2.2.2.2.2.2.2.2.2.2.2.2.2.2
theorem eX0_rankBehind_31 : (fdecl cX0_rankBehind.data.toList 31 = some (.goto (-27), 3)) ∧ (fdecl cX0_rankBehind.data.toList 34 = some (.iconst (-1), 1)) ∧ (fdecl cX0_rankBehind.data.toList 35 = some (.ireturn, 1)) := by decide +kernel
theorem dX0_rankBehind_31 : decode cX0_rankBehind 31 = .ok (.goto (-27), 3) := fx_ok0 eX0_rankBehind_31.1
theorem dX0_rankBehind_34 : decode cX0_rankBehind 34 = .ok (.iconst (-1), 1) := fx_ok0 eX0_rankBehind_31.2.1
theorem dX0_rankBehind_35 : decode cX0_rankBehind 35 = .ok (.ireturn, 1) := fx_ok0 eX0_rankBehind_31.2.2
theorem dX0_rankBehind_25 : decode cX0_rankBehind 25 = .ok (.iinc 2 1, 3) := by decide +kernel
theorem dX0_rankBehind_28 : decode cX0_rankBehind 28 = .ok (.iinc 3 1, 3) := by decide +kernel
theorem eX0_countOfPart_0 : (fdecl cX0_countOfPart.data.toList 0 = some (.iconst 0, 1)) ∧ (fdecl cX0_countOfPart.data.toList 1 = some (.istore_n 3, 1)) ∧ (fdecl cX0_countOfPart.data.toList 2 = some (.iload_n 1, 1)) ∧ (fdecl cX0_countOfPart.data.toList 3 = some (.istore 4, 2)) ∧ (fdecl cX0_countOfPart.data.toList 5 = some (.iload 4, 2)) ∧ (fdecl cX0_countOfPart.data.toList 7 = some (.iload_n 2, 1)) ∧ (fdecl cX0_countOfPart.data.toList 8 = some (.if_icmp .gt 21, 3)) ∧ (fdecl cX0_countOfPart.data.toList 11 = some (.aload_n 0, 1)) ∧ (fdecl cX0_countOfPart.data.toList 12 = some (.iload 4, 2)) ∧ (fdecl cX0_countOfPart.data.toList 14 = some (.invokevirtual 32, 3)) ∧ (fdecl cX0_countOfPart.data.toList 17 = some (.ifCond .eq 6, 3)) ∧ (fdecl cX0_countOfPart.data.toList 26 = some (.goto (-21), 3)) ∧ (fdecl cX0_countOfPart.data.toList 29 = some (.iload_n 3, 1)) ∧ (fdecl cX0_countOfPart.data.toList 30 = some (.ireturn, 1)) := by decide +kernel
theorem dX0_countOfPart_0 : decode cX0_countOfPart 0 = .ok (.iconst 0, 1) := fx_ok0 eX0_countOfPart_0.1
theorem dX0_countOfPart_1 : decode cX0_countOfPart 1 = .ok (.istore_n 3, 1) := fx_ok0 eX0_countOfPart_0.2.1
theorem dX0_countOfPart_2 : decode cX0_countOfPart 2 = .ok (.iload_n 1, 1) := fx_ok0 eX0_countOfPart_0.2.2.1
theorem dX0_countOfPart_3 : decode cX0_countOfPart 3 = .ok (.istore 4, 2) := fx_ok0 eX0_countOfPart_0.2.2.2.1
theorem dX0_countOfPart_5 : decode cX0_countOfPart 5 = .ok (.iload 4, 2) := fx_ok0 eX0_countOfPart_0.2.2.2.2.1
theorem dX0_countOfPart_7 : decode cX0_countOfPart 7 = .ok (.iload_n 2, 1) := fx_ok0 eX0_countOfPart_0.2.2.2.2.2.1
theorem dX0_countOfPart_8 : decode cX0_countOfPart 8 = .ok (.if_icmp .gt 21, 3) := fx_ok0 eX0_countOfPart_0.2.2.2.2.2.2.1
theorem dX0_countOfPart_11 : decode cX0_countOfPart 11 = .ok (.aload_n 0, 1) := fx_ok0 eX0_countOfPart_0.2.2.2.2.2.2.2.1
theorem dX0_countOfPart_12 : decode cX0_countOfPart 12 = .ok (.iload 4, 2) := fx_ok0 eX0_countOfPart_0.2.2.2.2.2.2.2.2.1
theorem dX0_countOfPart_14 : decode cX0_countOfPart 14 = .ok (.invokevirtual 32, 3) := fx_ok0 eX0_countOfPart_0.2.2.2.2.2.2.2.2.2.1
theorem dX0_countOfPart_17 : decode cX0_countOfPart 17 = .ok (.ifCond .eq 6, 3) := fx_ok0 eX0_countOfPart_0.2.2.2.2.2.2.2.2.2.2.1
theorem dX0_countOfPart_26 : decode cX0_countOfPart 26 = .ok (.goto (-21), 3) := fx_ok0 eX0_countOfPart_0.2.2.2.2.2.2.2.2.2.2.2.1
theorem dX0_countOfPart_29 : decode cX0_countOfPart 29 = .ok (.iload_n 3, 1) := fx_ok0 eX0_countOfPart_0.2.2.2.2.2.2.2.2.2.2.2.2.1
theorem dX0_countOfPart_30 : decode cX0_countOfPart 30 = .ok (.ireturn, 1) := fx_ok0 eX0_countOfPart_0.2.2.2.2.2.2.2.2.2.2.2.2.2
theorem dX0_countOfPart_20 : decode cX0_countOfPart 20 = .ok (.iinc 3 1, 3) := by decide +kernel
theorem dX0_countOfPart_23 : decode cX0_countOfPart 23 = .ok (.iinc 4 1, 3) := by decide +kernel
theorem eX0_worthsOfPart_0 : (fdecl cX0_worthsOfPart.data.toList 0 = some (.iconst 0, 1)) ∧ (fdecl cX0_worthsOfPart.data.toList 1 = some (.istore_n 3, 1)) ∧ (fdecl cX0_worthsOfPart.data.toList 2 = some (.iload_n 1, 1)) ∧ (fdecl cX0_worthsOfPart.data.toList 3 = some (.istore 4, 2)) ∧ (fdecl cX0_worthsOfPart.data.toList 5 = some (.iload 4, 2)) ∧ (fdecl cX0_worthsOfPart.data.toList 7 = some (.iload_n 2, 1)) ∧ (fdecl cX0_worthsOfPart.data.toList 8 = some (.if_icmp .gt 27, 3)) ∧ (fdecl cX0_worthsOfPart.data.toList 11 = some (.aload_n 0, 1)) ∧ (fdecl cX0_worthsOfPart.data.toList 12 = some (.iload 4, 2)) ∧ (fdecl cX0_worthsOfPart.data.toList 14 = some (.invokevirtual 32, 3)) ∧ (fdecl cX0_worthsOfPart.data.toList 17 = some (.ifCond .eq 12, 3)) ∧ (fdecl cX0_worthsOfPart.data.toList 20 = some (.iload_n 3, 1)) ∧ (fdecl cX0_worthsOfPart.data.toList 21 = some (.aload_n 0, 1)) ∧ (fdecl cX0_worthsOfPart.data.toList 22 = some (.iload 4, 2)) ∧ (fdecl cX0_worthsOfPart.data.toList 24 = some (.invokevirtual 39, 3)) ∧ (fdecl cX0_worthsOfPart.data.toList 27 = some (.iadd, 1)) := by decide +kernel
theorem dX0_worthsOfPart_0 : decode cX0_worthsOfPart 0 = .ok (.iconst 0, 1) := fx_ok0 eX0_worthsOfPart_0.1
theorem dX0_worthsOfPart_1 : decode cX0_worthsOfPart 1 = .ok (.istore_n 3, 1) := fx_ok0 eX0_worthsOfPart_0.2.1
theorem dX0_worthsOfPart_2 : decode cX0_worthsOfPart 2 = .ok (.iload_n 1, 1) := fx_ok0 eX0_worthsOfPart_0.2.2.1
theorem dX0_worthsOfPart_3 : decode cX0_worthsOfPart 3 = .ok (.istore 4, 2) := fx_ok0 eX0_worthsOfPart_0.2.2.2.1
theorem dX0_worthsOfPart_5 : decode cX0_worthsOfPart 5 = .ok (.iload 4, 2) := fx_ok0 eX0_worthsOfPart_0.2.2.2.2.1
theorem dX0_worthsOfPart_7 : decode cX0_worthsOfPart 7 = .ok (.iload_n 2, 1) := fx_ok0 eX0_worthsOfPart_0.2.2.2.2.2.1
theorem dX0_worthsOfPart_8 : decode cX0_worthsOfPart 8 = .ok (.if_icmp .gt 27, 3) := fx_ok0 eX0_worthsOfPart_0.2.2.2.2.2.2.1
theorem dX0_worthsOfPart_11 : decode cX0_worthsOfPart 11 = .ok (.aload_n 0, 1) := fx_ok0 eX0_worthsOfPart_0.2.2.2.2.2.2.2.1
theorem dX0_worthsOfPart_12 : decode cX0_worthsOfPart 12 = .ok (.iload 4, 2) := fx_ok0 eX0_worthsOfPart_0.2.2.2.2.2.2.2.2.1
theorem dX0_worthsOfPart_14 : decode cX0_worthsOfPart 14 = .ok (.invokevirtual 32, 3) := fx_ok0 eX0_worthsOfPart_0.2.2.2.2.2.2.2.2.2.1
theorem dX0_worthsOfPart_17 : decode cX0_worthsOfPart 17 = .ok (.ifCond .eq 12, 3) := fx_ok0 eX0_worthsOfPart_0.2.2.2.2.2.2.2.2.2.2.1
theorem dX0_worthsOfPart_20 : decode cX0_worthsOfPart 20 = .ok (.iload_n 3, 1) := fx_ok0 eX0_worthsOfPart_0.2.2.2.2.2.2.2.2.2.2.2.1
theorem dX0_worthsOfPart_21 : decode cX0_worthsOfPart 21 = .ok (.aload_n 0, 1) := fx_ok0 eX0_worthsOfPart_0.2.2.2.2.2.2.2.2.2.2.2.2.1
theorem dX0_worthsOfPart_22 : decode cX0_worthsOfPart 22 = .ok (.iload 4, 2) := fx_ok0 eX0_worthsOfPart_0.2.2.2.2.2.2.2.2.2.2.2.2.2.1
theorem dX0_worthsOfPart_24 : decode cX0_worthsOfPart 24 = .ok (.invokevirtual 39, 3) := fx_ok0 eX0_worthsOfPart_0.2.2.2.2.2.2.2.2.2.2.2.2.2.2.1
theorem dX0_worthsOfPart_27 : decode cX0_worthsOfPart 27 = .ok (.iadd, 1) := fx_ok0 eX0_worthsOfPart_0.2.2.2.2.2.2.2.2.2.2.2.2.2.2.2
theorem eX0_worthsOfPart_28 : (fdecl cX0_worthsOfPart.data.toList 28 = some (.istore_n 3, 1)) ∧ (fdecl cX0_worthsOfPart.data.toList 32 = some (.goto (-27), 3)) ∧ (fdecl cX0_worthsOfPart.data.toList 35 = some (.iload_n 3, 1)) ∧ (fdecl cX0_worthsOfPart.data.toList 36 = some (.ireturn, 1)) := by decide +kernel
theorem dX0_worthsOfPart_28 : decode cX0_worthsOfPart 28 = .ok (.istore_n 3, 1) := fx_ok0 eX0_worthsOfPart_28.1
theorem dX0_worthsOfPart_32 : decode cX0_worthsOfPart 32 = .ok (.goto (-27), 3) := fx_ok0 eX0_worthsOfPart_28.2.1
theorem dX0_worthsOfPart_35 : decode cX0_worthsOfPart 35 = .ok (.iload_n 3, 1) := fx_ok0 eX0_worthsOfPart_28.2.2.1
theorem dX0_worthsOfPart_36 : decode cX0_worthsOfPart 36 = .ok (.ireturn, 1) := fx_ok0 eX0_worthsOfPart_28.2.2.2
theorem dX0_worthsOfPart_29 : decode cX0_worthsOfPart 29 = .ok (.iinc 4 1, 3) := by decide +kernel
theorem eX0_sumOfKeys_0 : (fdecl cX0_sumOfKeys.data.toList 0 = some (.iconst 0, 1)) ∧ (fdecl cX0_sumOfKeys.data.toList 1 = some (.istore_n 1, 1)) ∧ (fdecl cX0_sumOfKeys.data.toList 2 = some (.iconst 0, 1)) ∧ (fdecl cX0_sumOfKeys.data.toList 3 = some (.istore_n 2, 1)) ∧ (fdecl cX0_sumOfKeys.data.toList 4 = some (.iload_n 2, 1)) ∧ (fdecl cX0_sumOfKeys.data.toList 5 = some (.bipush 100, 2)) ∧ (fdecl cX0_sumOfKeys.data.toList 7 = some (.if_icmp .ge 25, 3)) ∧ (fdecl cX0_sumOfKeys.data.toList 10 = some (.aload_n 0, 1)) ∧ (fdecl cX0_sumOfKeys.data.toList 11 = some (.iload_n 2, 1)) ∧ (fdecl cX0_sumOfKeys.data.toList 12 = some (.invokevirtual 32, 3)) ∧ (fdecl cX0_sumOfKeys.data.toList 15 = some (.ifCond .eq 11, 3)) ∧ (fdecl cX0_sumOfKeys.data.toList 18 = some (.iload_n 1, 1)) ∧ (fdecl cX0_sumOfKeys.data.toList 19 = some (.aload_n 0, 1)) ∧ (fdecl cX0_sumOfKeys.data.toList 20 = some (.iload_n 2, 1)) ∧ (fdecl cX0_sumOfKeys.data.toList 21 = some (.invokevirtual 36, 3)) ∧ (fdecl cX0_sumOfKeys.data.toList 24 = some (.iadd, 1)) := by decide +kernel
theorem dX0_sumOfKeys_0 : decode cX0_sumOfKeys 0 = .ok (.iconst 0, 1) := fx_ok0 eX0_sumOfKeys_0.1
theorem dX0_sumOfKeys_1 : decode cX0_sumOfKeys 1 = .ok (.istore_n 1, 1) := fx_ok0 eX0_sumOfKeys_0.2.1
theorem dX0_sumOfKeys_2 : decode cX0_sumOfKeys 2 = .ok (.iconst 0, 1) := fx_ok0 eX0_sumOfKeys_0.2.2.1
theorem dX0_sumOfKeys_3 : decode cX0_sumOfKeys 3 = .ok (.istore_n 2, 1) := fx_ok0 eX0_sumOfKeys_0.2.2.2.1
theorem dX0_sumOfKeys_4 : decode cX0_sumOfKeys 4 = .ok (.iload_n 2, 1) := fx_ok0 eX0_sumOfKeys_0.2.2.2.2.1
theorem dX0_sumOfKeys_5 : decode cX0_sumOfKeys 5 = .ok (.bipush 100, 2) := fx_ok0 eX0_sumOfKeys_0.2.2.2.2.2.1
theorem dX0_sumOfKeys_7 : decode cX0_sumOfKeys 7 = .ok (.if_icmp .ge 25, 3) := fx_ok0 eX0_sumOfKeys_0.2.2.2.2.2.2.1
theorem dX0_sumOfKeys_10 : decode cX0_sumOfKeys 10 = .ok (.aload_n 0, 1) := fx_ok0 eX0_sumOfKeys_0.2.2.2.2.2.2.2.1
theorem dX0_sumOfKeys_11 : decode cX0_sumOfKeys 11 = .ok (.iload_n 2, 1) := fx_ok0 eX0_sumOfKeys_0.2.2.2.2.2.2.2.2.1
theorem dX0_sumOfKeys_12 : decode cX0_sumOfKeys 12 = .ok (.invokevirtual 32, 3) := fx_ok0 eX0_sumOfKeys_0.2.2.2.2.2.2.2.2.2.1
theorem dX0_sumOfKeys_15 : decode cX0_sumOfKeys 15 = .ok (.ifCond .eq 11, 3) := fx_ok0 eX0_sumOfKeys_0.2.2.2.2.2.2.2.2.2.2.1
theorem dX0_sumOfKeys_18 : decode cX0_sumOfKeys 18 = .ok (.iload_n 1, 1) := fx_ok0 eX0_sumOfKeys_0.2.2.2.2.2.2.2.2.2.2.2.1
theorem dX0_sumOfKeys_19 : decode cX0_sumOfKeys 19 = .ok (.aload_n 0, 1) := fx_ok0 eX0_sumOfKeys_0.2.2.2.2.2.2.2.2.2.2.2.2.1
theorem dX0_sumOfKeys_20 : decode cX0_sumOfKeys 20 = .ok (.iload_n 2, 1) := fx_ok0 eX0_sumOfKeys_0.2.2.2.2.2.2.2.2.2.2.2.2.2.1
theorem dX0_sumOfKeys_21 : decode cX0_sumOfKeys 21 = .ok (.invokevirtual 36, 3) := fx_ok0 eX0_sumOfKeys_0.2.2.2.2.2.2.2.2.2.2.2.2.2.2.1
theorem dX0_sumOfKeys_24 : decode cX0_sumOfKeys 24 = .ok (.iadd, 1) := fx_ok0 eX0_sumOfKeys_0.2.2.2.2.2.2.2.2.2.2.2.2.2.2.2
theorem eX0_sumOfKeys_25 : (fdecl cX0_sumOfKeys.data.toList 25 = some (.istore_n 1, 1)) ∧ (fdecl cX0_sumOfKeys.data.toList 29 = some (.goto (-25), 3)) ∧ (fdecl cX0_sumOfKeys.data.toList 32 = some (.iload_n 1, 1)) ∧ (fdecl cX0_sumOfKeys.data.toList 33 = some (.ireturn, 1)) := by decide +kernel
theorem dX0_sumOfKeys_25 : decode cX0_sumOfKeys 25 = .ok (.istore_n 1, 1) := fx_ok0 eX0_sumOfKeys_25.1
theorem dX0_sumOfKeys_29 : decode cX0_sumOfKeys 29 = .ok (.goto (-25), 3) := fx_ok0 eX0_sumOfKeys_25.2.1
theorem dX0_sumOfKeys_32 : decode cX0_sumOfKeys 32 = .ok (.iload_n 1, 1) := fx_ok0 eX0_sumOfKeys_25.2.2.1
theorem dX0_sumOfKeys_33 : decode cX0_sumOfKeys 33 = .ok (.ireturn, 1) := fx_ok0 eX0_sumOfKeys_25.2.2.2
theorem dX0_sumOfKeys_26 : decode cX0_sumOfKeys 26 = .ok (.iinc 2 1, 3) := by decide +kernel
theorem eX0_hash_0 : (fdecl cX0_hash.data.toList 0 = some (.iconst 0, 1)) ∧ (fdecl cX0_hash.data.toList 1 = some (.istore_n 1, 1)) ∧ (fdecl cX0_hash.data.toList 2 = some (.iconst 0, 1)) ∧ (fdecl cX0_hash.data.toList 3 = some (.istore_n 2, 1)) ∧ (fdecl cX0_hash.data.toList 4 = some (.iload_n 2, 1)) ∧ (fdecl cX0_hash.data.toList 5 = some (.bipush 100, 2)) ∧ (fdecl cX0_hash.data.toList 7 = some (.if_icmp .ge 31, 3)) ∧ (fdecl cX0_hash.data.toList 10 = some (.aload_n 0, 1)) ∧ (fdecl cX0_hash.data.toList 11 = some (.iload_n 2, 1)) ∧ (fdecl cX0_hash.data.toList 12 = some (.invokevirtual 32, 3)) ∧ (fdecl cX0_hash.data.toList 15 = some (.ifCond .eq 17, 3)) ∧ (fdecl cX0_hash.data.toList 18 = some (.iload_n 1, 1)) ∧ (fdecl cX0_hash.data.toList 19 = some (.aload_n 0, 1)) ∧ (fdecl cX0_hash.data.toList 20 = some (.iload_n 2, 1)) ∧ (fdecl cX0_hash.data.toList 21 = some (.invokevirtual 36, 3)) ∧ (fdecl cX0_hash.data.toList 24 = some (.aload_n 0, 1)) := by decide +kernel
theorem dX0_hash_0 : decode cX0_hash 0 = .ok (.iconst 0, 1) := fx_ok0 eX0_hash_0.1
theorem dX0_hash_1 : decode cX0_hash 1 = .ok (.istore_n 1, 1) := fx_ok0 eX0_hash_0.2.1
theorem dX0_hash_2 : decode cX0_hash 2 = .ok (.iconst 0, 1) := fx_ok0 eX0_hash_0.2.2.1
theorem dX0_hash_3 : decode cX0_hash 3 = .ok (.istore_n 2, 1) := fx_ok0 eX0_hash_0.2.2.2.1
theorem dX0_hash_4 : decode cX0_hash 4 = .ok (.iload_n 2, 1) := fx_ok0 eX0_hash_0.2.2.2.2.1
theorem dX0_hash_5 : decode cX0_hash 5 = .ok (.bipush 100, 2) := fx_ok0 eX0_hash_0.2.2.2.2.2.1
theorem dX0_hash_7 : decode cX0_hash 7 = .ok (.if_icmp .ge 31, 3) := fx_ok0 eX0_hash_0.2.2.2.2.2.2.1
theorem dX0_hash_10 : decode cX0_hash 10 = .ok (.aload_n 0, 1) := fx_ok0 eX0_hash_0.2.2.2.2.2.2.2.1
theorem dX0_hash_11 : decode cX0_hash 11 = .ok (.iload_n 2, 1) := fx_ok0 eX0_hash_0.2.2.2.2.2.2.2.2.1
theorem dX0_hash_12 : decode cX0_hash 12 = .ok (.invokevirtual 32, 3) := fx_ok0 eX0_hash_0.2.2.2.2.2.2.2.2.2.1
theorem dX0_hash_15 : decode cX0_hash 15 = .ok (.ifCond .eq 17, 3) := fx_ok0 eX0_hash_0.2.2.2.2.2.2.2.2.2.2.1
theorem dX0_hash_18 : decode cX0_hash 18 = .ok (.iload_n 1, 1) := fx_ok0 eX0_hash_0.2.2.2.2.2.2.2.2.2.2.2.1
theorem dX0_hash_19 : decode cX0_hash 19 = .ok (.aload_n 0, 1) := fx_ok0 eX0_hash_0.2.2.2.2.2.2.2.2.2.2.2.2.1
theorem dX0_hash_20 : decode cX0_hash 20 = .ok (.iload_n 2, 1) := fx_ok0 eX0_hash_0.2.2.2.2.2.2.2.2.2.2.2.2.2.1
theorem dX0_hash_21 : decode cX0_hash 21 = .ok (.invokevirtual 36, 3) := fx_ok0 eX0_hash_0.2.2.2.2.2.2.2.2.2.2.2.2.2.2.1
theorem dX0_hash_24 : decode cX0_hash 24 = .ok (.aload_n 0, 1) := fx_ok0 eX0_hash_0.2.2.2.2.2.2.2.2.2.2.2.2.2.2.2
theorem eX0_hash_25 : (fdecl cX0_hash.data.toList 25 = some (.iload_n 2, 1)) ∧ (fdecl cX0_hash.data.toList 26 = some (.invokevirtual 39, 3)) ∧ (fdecl cX0_hash.data.toList 29 = some (.ixor, 1)) ∧ (fdecl cX0_hash.data.toList 30 = some (.iadd, 1)) ∧ (fdecl cX0_hash.data.toList 31 = some (.istore_n 1, 1)) ∧ (fdecl cX0_hash.data.toList 35 = some (.goto (-31), 3)) ∧ (fdecl cX0_hash.data.toList 38 = some (.iload_n 1, 1)) ∧ (fdecl cX0_hash.data.toList 39 = some (.ireturn, 1)) := by decide +kernel
theorem dX0_hash_25 : decode cX0_hash 25 = .ok (.iload_n 2, 1) := fx_ok0 eX0_hash_25.1
theorem dX0_hash_26 : decode cX0_hash 26 = .ok (.invokevirtual 39, 3) := fx_ok0 eX0_hash_25.2.1
theorem dX0_hash_29 : decode cX0_hash 29 = .ok (.ixor, 1) := fx_ok0 eX0_hash_25.2.2.1
theorem dX0_hash_30 : decode cX0_hash 30 = .ok (.iadd, 1) := fx_ok0 eX0_hash_25.2.2.2.1
theorem dX0_hash_31 : decode cX0_hash 31 = .ok (.istore_n 1, 1) := fx_ok0 eX0_hash_25.2.2.2.2.1
theorem dX0_hash_35 : decode cX0_hash 35 = .ok (.goto (-31), 3) := fx_ok0 eX0_hash_25.2.2.2.2.2.1
theorem dX0_hash_38 : decode cX0_hash 38 = .ok (.iload_n 1, 1) := fx_ok0 eX0_hash_25.2.2.2.2.2.2.1
theorem dX0_hash_39 : decode cX0_hash 39 = .ok (.ireturn, 1) := fx_ok0 eX0_hash_25.2.2.2.2.2.2.2
theorem dX0_hash_32 : decode cX0_hash 32 = .ok (.iinc 2 1, 3) := by decide +kernel
theorem eX0_hasWorth_0 : (fdecl cX0_hasWorth.data.toList 0 = some (.iconst 0, 1)) ∧ (fdecl cX0_hasWorth.data.toList 1 = some (.istore_n 2, 1)) ∧ (fdecl cX0_hasWorth.data.toList 2 = some (.iload_n 2, 1)) ∧ (fdecl cX0_hasWorth.data.toList 3 = some (.bipush 100, 2)) ∧ (fdecl cX0_hasWorth.data.toList 5 = some (.if_icmp .ge 20, 3)) ∧ (fdecl cX0_hasWorth.data.toList 8 = some (.aload_n 0, 1)) ∧ (fdecl cX0_hasWorth.data.toList 9 = some (.iload_n 2, 1)) ∧ (fdecl cX0_hasWorth.data.toList 10 = some (.invokevirtual 39, 3)) ∧ (fdecl cX0_hasWorth.data.toList 13 = some (.iload_n 1, 1)) ∧ (fdecl cX0_hasWorth.data.toList 14 = some (.if_icmp .ne 5, 3)) ∧ (fdecl cX0_hasWorth.data.toList 17 = some (.iconst 1, 1)) ∧ (fdecl cX0_hasWorth.data.toList 18 = some (.ireturn, 1)) ∧ (fdecl cX0_hasWorth.data.toList 22 = some (.goto (-20), 3)) ∧ (fdecl cX0_hasWorth.data.toList 25 = some (.iconst 0, 1)) ∧ (fdecl cX0_hasWorth.data.toList 26 = some (.ireturn, 1)) := by decide +kernel
theorem dX0_hasWorth_0 : decode cX0_hasWorth 0 = .ok (.iconst 0, 1) := fx_ok0 eX0_hasWorth_0.1
theorem dX0_hasWorth_1 : decode cX0_hasWorth 1 = .ok (.istore_n 2, 1) := fx_ok0 eX0_hasWorth_0.2.1
theorem dX0_hasWorth_2 : decode cX0_hasWorth 2 = .ok (.iload_n 2, 1) := fx_ok0 eX0_hasWorth_0.2.2.1
theorem dX0_hasWorth_3 : decode cX0_hasWorth 3 = .ok (.bipush 100, 2) := fx_ok0 eX0_hasWorth_0.2.2.2.1
theorem dX0_hasWorth_5 : decode cX0_hasWorth 5 = .ok (.if_icmp .ge 20, 3) := fx_ok0 eX0_hasWorth_0.2.2.2.2.1
theorem dX0_hasWorth_8 : decode cX0_hasWorth 8 = .ok (.aload_n 0, 1) := fx_ok0 eX0_hasWorth_0.2.2.2.2.2.1
theorem dX0_hasWorth_9 : decode cX0_hasWorth 9 = .ok (.iload_n 2, 1) := fx_ok0 eX0_hasWorth_0.2.2.2.2.2.2.1
theorem dX0_hasWorth_10 : decode cX0_hasWorth 10 = .ok (.invokevirtual 39, 3) := fx_ok0 eX0_hasWorth_0.2.2.2.2.2.2.2.1
theorem dX0_hasWorth_13 : decode cX0_hasWorth 13 = .ok (.iload_n 1, 1) := fx_ok0 eX0_hasWorth_0.2.2.2.2.2.2.2.2.1
theorem dX0_hasWorth_14 : decode cX0_hasWorth 14 = .ok (.if_icmp .ne 5, 3) := fx_ok0 eX0_hasWorth_0.2.2.2.2.2.2.2.2.2.1
theorem dX0_hasWorth_17 : decode cX0_hasWorth 17 = .ok (.iconst 1, 1) := fx_ok0 eX0_hasWorth_0.2.2.2.2.2.2.2.2.2.2.1
theorem dX0_hasWorth_18 : decode cX0_hasWorth 18 = .ok (.ireturn, 1) := fx_ok0 eX0_hasWorth_0.2.2.2.2.2.2.2.2.2.2.2.1
theorem dX0_hasWorth_22 : decode cX0_hasWorth 22 = .ok (.goto (-20), 3) := fx_ok0 eX0_hasWorth_0.2.2.2.2.2.2.2.2.2.2.2.2.1
theorem dX0_hasWorth_25 : decode cX0_hasWorth 25 = .ok (.iconst 0, 1) := fx_ok0 eX0_hasWorth_0.2.2.2.2.2.2.2.2.2.2.2.2.2.1
theorem dX0_hasWorth_26 : decode cX0_hasWorth 26 = .ok (.ireturn, 1) := fx_ok0 eX0_hasWorth_0.2.2.2.2.2.2.2.2.2.2.2.2.2.2
theorem dX0_hasWorth_19 : decode cX0_hasWorth 19 = .ok (.iinc 2 1, 3) := by decide +kernel
theorem eX0_hasKeysOf_0 : (fdecl cX0_hasKeysOf.data.toList 0 = some (.iconst 0, 1)) ∧ (fdecl cX0_hasKeysOf.data.toList 1 = some (.istore_n 2, 1)) ∧ (fdecl cX0_hasKeysOf.data.toList 2 = some (.iload_n 2, 1)) ∧ (fdecl cX0_hasKeysOf.data.toList 3 = some (.bipush 100, 2)) ∧ (fdecl cX0_hasKeysOf.data.toList 5 = some (.if_icmp .ge 35, 3)) ∧ (fdecl cX0_hasKeysOf.data.toList 8 = some (.aload_n 1, 1)) ∧ (fdecl cX0_hasKeysOf.data.toList 9 = some (.iload_n 2, 1)) ∧ (fdecl cX0_hasKeysOf.data.toList 10 = some (.invokevirtual 32, 3)) ∧ (fdecl cX0_hasKeysOf.data.toList 13 = some (.ifCond .eq 21, 3)) ∧ (fdecl cX0_hasKeysOf.data.toList 16 = some (.aload_n 0, 1)) ∧ (fdecl cX0_hasKeysOf.data.toList 17 = some (.aload_n 0, 1)) ∧ (fdecl cX0_hasKeysOf.data.toList 18 = some (.aload_n 1, 1)) ∧ (fdecl cX0_hasKeysOf.data.toList 19 = some (.iload_n 2, 1)) ∧ (fdecl cX0_hasKeysOf.data.toList 20 = some (.invokevirtual 36, 3)) ∧ (fdecl cX0_hasKeysOf.data.toList 23 = some (.invokevirtual 29, 3)) ∧ (fdecl cX0_hasKeysOf.data.toList 26 = some (.invokevirtual 32, 3)) := by decide +kernel
theorem dX0_hasKeysOf_0 : decode cX0_hasKeysOf 0 = .ok (.iconst 0, 1) := fx_ok0 eX0_hasKeysOf_0.1
theorem dX0_hasKeysOf_1 : decode cX0_hasKeysOf 1 = .ok (.istore_n 2, 1) := fx_ok0 eX0_hasKeysOf_0.2.1
theorem dX0_hasKeysOf_2 : decode cX0_hasKeysOf 2 = .ok (.iload_n 2, 1) := fx_ok0 eX0_hasKeysOf_0.2.2.1
theorem dX0_hasKeysOf_3 : decode cX0_hasKeysOf 3 = .ok (.bipush 100, 2) := fx_ok0 eX0_hasKeysOf_0.2.2.2.1
theorem dX0_hasKeysOf_5 : decode cX0_hasKeysOf 5 = .ok (.if_icmp .ge 35, 3) := fx_ok0 eX0_hasKeysOf_0.2.2.2.2.1
theorem dX0_hasKeysOf_8 : decode cX0_hasKeysOf 8 = .ok (.aload_n 1, 1) := fx_ok0 eX0_hasKeysOf_0.2.2.2.2.2.1
theorem dX0_hasKeysOf_9 : decode cX0_hasKeysOf 9 = .ok (.iload_n 2, 1) := fx_ok0 eX0_hasKeysOf_0.2.2.2.2.2.2.1
theorem dX0_hasKeysOf_10 : decode cX0_hasKeysOf 10 = .ok (.invokevirtual 32, 3) := fx_ok0 eX0_hasKeysOf_0.2.2.2.2.2.2.2.1
theorem dX0_hasKeysOf_13 : decode cX0_hasKeysOf 13 = .ok (.ifCond .eq 21, 3) := fx_ok0 eX0_hasKeysOf_0.2.2.2.2.2.2.2.2.1
theorem dX0_hasKeysOf_16 : decode cX0_hasKeysOf 16 = .ok (.aload_n 0, 1) := fx_ok0 eX0_hasKeysOf_0.2.2.2.2.2.2.2.2.2.1
theorem dX0_hasKeysOf_17 : decode cX0_hasKeysOf 17 = .ok (.aload_n 0, 1) := fx_ok0 eX0_hasKeysOf_0.2.2.2.2.2.2.2.2.2.2.1
theorem dX0_hasKeysOf_18 : decode cX0_hasKeysOf 18 = .ok (.aload_n 1, 1) := fx_ok0 eX0_hasKeysOf_0.2.2.2.2.2.2.2.2.2.2.2.1
theorem dX0_hasKeysOf_19 : decode cX0_hasKeysOf 19 = .ok (.iload_n 2, 1) := fx_ok0 eX0_hasKeysOf_0.2.2.2.2.2.2.2.2.2.2.2.2.1
theorem dX0_hasKeysOf_20 : decode cX0_hasKeysOf 20 = .ok (.invokevirtual 36, 3) := fx_ok0 eX0_hasKeysOf_0.2.2.2.2.2.2.2.2.2.2.2.2.2.1
theorem dX0_hasKeysOf_23 : decode cX0_hasKeysOf 23 = .ok (.invokevirtual 29, 3) := fx_ok0 eX0_hasKeysOf_0.2.2.2.2.2.2.2.2.2.2.2.2.2.2.1
theorem dX0_hasKeysOf_26 : decode cX0_hasKeysOf 26 = .ok (.invokevirtual 32, 3) := fx_ok0 eX0_hasKeysOf_0.2.2.2.2.2.2.2.2.2.2.2.2.2.2.2
theorem eX0_hasKeysOf_29 : (fdecl cX0_hasKeysOf.data.toList 29 = some (.ifCond .ne 5, 3)) ∧ (fdecl cX0_hasKeysOf.data.toList 32 = some (.iconst 0, 1)) ∧ (fdecl cX0_hasKeysOf.data.toList 33 = some (.ireturn, 1)) ∧ (fdecl cX0_hasKeysOf.data.toList 37 = some (.goto (-35), 3)) ∧ (fdecl cX0_hasKeysOf.data.toList 40 = some (.iconst 1, 1)) ∧ (fdecl cX0_hasKeysOf.data.toList 41 = some (.ireturn, 1)) := by decide +kernel
theorem dX0_hasKeysOf_29 : decode cX0_hasKeysOf 29 = .ok (.ifCond .ne 5, 3) := fx_ok0 eX0_hasKeysOf_29.1
theorem dX0_hasKeysOf_32 : decode cX0_hasKeysOf 32 = .ok (.iconst 0, 1) := fx_ok0 eX0_hasKeysOf_29.2.1
theorem dX0_hasKeysOf_33 : decode cX0_hasKeysOf 33 = .ok (.ireturn, 1) := fx_ok0 eX0_hasKeysOf_29.2.2.1
theorem dX0_hasKeysOf_37 : decode cX0_hasKeysOf 37 = .ok (.goto (-35), 3) := fx_ok0 eX0_hasKeysOf_29.2.2.2.1
theorem dX0_hasKeysOf_40 : decode cX0_hasKeysOf 40 = .ok (.iconst 1, 1) := fx_ok0 eX0_hasKeysOf_29.2.2.2.2.1
theorem dX0_hasKeysOf_41 : decode cX0_hasKeysOf 41 = .ok (.ireturn, 1) := fx_ok0 eX0_hasKeysOf_29.2.2.2.2.2
theorem dX0_hasKeysOf_34 : decode cX0_hasKeysOf 34 = .ok (.iinc 2 1, 3) := by decide +kernel
theorem eX0_isSameAs_0 : (fdecl cX0_isSameAs.data.toList 0 = some (.iconst 0, 1)) ∧ (fdecl cX0_isSameAs.data.toList 1 = some (.istore_n 2, 1)) ∧ (fdecl cX0_isSameAs.data.toList 2 = some (.iload_n 2, 1)) ∧ (fdecl cX0_isSameAs.data.toList 3 = some (.bipush 100, 2)) ∧ (fdecl cX0_isSameAs.data.toList 5 = some (.if_icmp .ge 32, 3)) ∧ (fdecl cX0_isSameAs.data.toList 8 = some (.aload_n 0, 1)) ∧ (fdecl cX0_isSameAs.data.toList 9 = some (.aload_n 0, 1)) ∧ (fdecl cX0_isSameAs.data.toList 10 = some (.iload_n 2, 1)) ∧ (fdecl cX0_isSameAs.data.toList 11 = some (.invokevirtual 29, 3)) ∧ (fdecl cX0_isSameAs.data.toList 14 = some (.invokevirtual 39, 3)) ∧ (fdecl cX0_isSameAs.data.toList 17 = some (.aload_n 1, 1)) ∧ (fdecl cX0_isSameAs.data.toList 18 = some (.aload_n 1, 1)) ∧ (fdecl cX0_isSameAs.data.toList 19 = some (.iload_n 2, 1)) ∧ (fdecl cX0_isSameAs.data.toList 20 = some (.invokevirtual 29, 3)) ∧ (fdecl cX0_isSameAs.data.toList 23 = some (.invokevirtual 39, 3)) ∧ (fdecl cX0_isSameAs.data.toList 26 = some (.if_icmp .eq 5, 3)) := by decide +kernel
theorem dX0_isSameAs_0 : decode cX0_isSameAs 0 = .ok (.iconst 0, 1) := fx_ok0 eX0_isSameAs_0.1
theorem dX0_isSameAs_1 : decode cX0_isSameAs 1 = .ok (.istore_n 2, 1) := fx_ok0 eX0_isSameAs_0.2.1
theorem dX0_isSameAs_2 : decode cX0_isSameAs 2 = .ok (.iload_n 2, 1) := fx_ok0 eX0_isSameAs_0.2.2.1
theorem dX0_isSameAs_3 : decode cX0_isSameAs 3 = .ok (.bipush 100, 2) := fx_ok0 eX0_isSameAs_0.2.2.2.1
theorem dX0_isSameAs_5 : decode cX0_isSameAs 5 = .ok (.if_icmp .ge 32, 3) := fx_ok0 eX0_isSameAs_0.2.2.2.2.1
theorem dX0_isSameAs_8 : decode cX0_isSameAs 8 = .ok (.aload_n 0, 1) := fx_ok0 eX0_isSameAs_0.2.2.2.2.2.1
theorem dX0_isSameAs_9 : decode cX0_isSameAs 9 = .ok (.aload_n 0, 1) := fx_ok0 eX0_isSameAs_0.2.2.2.2.2.2.1
theorem dX0_isSameAs_10 : decode cX0_isSameAs 10 = .ok (.iload_n 2, 1) := fx_ok0 eX0_isSameAs_0.2.2.2.2.2.2.2.1
theorem dX0_isSameAs_11 : decode cX0_isSameAs 11 = .ok (.invokevirtual 29, 3) := fx_ok0 eX0_isSameAs_0.2.2.2.2.2.2.2.2.1
theorem dX0_isSameAs_14 : decode cX0_isSameAs 14 = .ok (.invokevirtual 39, 3) := fx_ok0 eX0_isSameAs_0.2.2.2.2.2.2.2.2.2.1
theorem dX0_isSameAs_17 : decode cX0_isSameAs 17 = .ok (.aload_n 1, 1) := fx_ok0 eX0_isSameAs_0.2.2.2.2.2.2.2.2.2.2.1
theorem dX0_isSameAs_18 : decode cX0_isSameAs 18 = .ok (.aload_n 1, 1) := fx_ok0 eX0_isSameAs_0.2.2.2.2.2.2.2.2.2.2.2.1
theorem dX0_isSameAs_19 : decode cX0_isSameAs 19 = .ok (.iload_n 2, 1) := fx_ok0 eX0_isSameAs_0.2.2.2.2.2.2.2.2.2.2.2.2.1
theorem dX0_isSameAs_20 : decode cX0_isSameAs 20 = .ok (.invokevirtual 29, 3) := fx_ok0 eX0_isSameAs_0.2.2.2.2.2.2.2.2.2.2.2.2.2.1
theorem dX0_isSameAs_23 : decode cX0_isSameAs 23 = .ok (.invokevirtual 39, 3) := fx_ok0 eX0_isSameAs_0.2.2.2.2.2.2.2.2.2.2.2.2.2.2.1
theorem dX0_isSameAs_26 : decode cX0_isSameAs 26 = .ok (.if_icmp .eq 5, 3) := fx_ok0 eX0_isSameAs_0.2.2.2.2.2.2.2.2.2.2.2.2.2.2.2
theorem eX0_isSameAs_29 : (fdecl cX0_isSameAs.data.toList 29 = some (.iconst 0, 1)) ∧ (fdecl cX0_isSameAs.data.toList 30 = some (.ireturn, 1)) ∧ (fdecl cX0_isSameAs.data.toList 34 = some (.goto (-32), 3)) ∧ (fdecl cX0_isSameAs.data.toList 37 = some (.iconst 1, 1)) ∧ (fdecl cX0_isSameAs.data.toList 38 = some (.ireturn, 1)) := by decide +kernel
theorem dX0_isSameAs_29 : decode cX0_isSameAs 29 = .ok (.iconst 0, 1) := fx_ok0 eX0_isSameAs_29.1
theorem dX0_isSameAs_30 : decode cX0_isSameAs 30 = .ok (.ireturn, 1) := fx_ok0 eX0_isSameAs_29.2.1
theorem dX0_isSameAs_34 : decode cX0_isSameAs 34 = .ok (.goto (-32), 3) := fx_ok0 eX0_isSameAs_29.2.2.1
theorem dX0_isSameAs_37 : decode cX0_isSameAs 37 = .ok (.iconst 1, 1) := fx_ok0 eX0_isSameAs_29.2.2.2.1
theorem dX0_isSameAs_38 : decode cX0_isSameAs 38 = .ok (.ireturn, 1) := fx_ok0 eX0_isSameAs_29.2.2.2.2
theorem dX0_isSameAs_31 : decode cX0_isSameAs 31 = .ok (.iinc 2 1, 3) := by decide +kernel
theorem eX0_copyOfPart_0 : (fdecl cX0_copyOfPart.data.toList 0 = some (.new 10, 3)) ∧ (fdecl cX0_copyOfPart.data.toList 3 = some (.dup, 1)) ∧ (fdecl cX0_copyOfPart.data.toList 4 = some (.iload_n 3, 1)) ∧ (fdecl cX0_copyOfPart.data.toList 5 = some (.invokespecial 63, 3)) ∧ (fdecl cX0_copyOfPart.data.toList 8 = some (.astore 4, 2)) ∧ (fdecl cX0_copyOfPart.data.toList 10 = some (.aload 4, 2)) ∧ (fdecl cX0_copyOfPart.data.toList 12 = some (.aload_n 0, 1)) ∧ (fdecl cX0_copyOfPart.data.toList 13 = some (.iload_n 1, 1)) ∧ (fdecl cX0_copyOfPart.data.toList 14 = some (.iload_n 2, 1)) ∧ (fdecl cX0_copyOfPart.data.toList 15 = some (.invokevirtual 66, 3)) ∧ (fdecl cX0_copyOfPart.data.toList 18 = some (.pop, 1)) ∧ (fdecl cX0_copyOfPart.data.toList 19 = some (.aload 4, 2)) ∧ (fdecl cX0_copyOfPart.data.toList 21 = some (.areturn, 1)) := by decide +kernel
theorem dX0_copyOfPart_0 : decode cX0_copyOfPart 0 = .ok (.new 10, 3) := fx_ok0 eX0_copyOfPart_0.1
theorem dX0_copyOfPart_3 : decode cX0_copyOfPart 3 = .ok (.dup, 1) := fx_ok0 eX0_copyOfPart_0.2.1
theorem dX0_copyOfPart_4 : decode cX0_copyOfPart 4 = .ok (.iload_n 3, 1) := fx_ok0 eX0_copyOfPart_0.2.2.1
theorem dX0_copyOfPart_5 : decode cX0_copyOfPart 5 = .ok (.invokespecial 63, 3) := fx_ok0 eX0_copyOfPart_0.2.2.2.1
theorem dX0_copyOfPart_8 : decode cX0_copyOfPart 8 = .ok (.astore 4, 2) := fx_ok0 eX0_copyOfPart_0.2.2.2.2.1
theorem dX0_copyOfPart_10 : decode cX0_copyOfPart 10 = .ok (.aload 4, 2) := fx_ok0 eX0_copyOfPart_0.2.2.2.2.2.1
theorem dX0_copyOfPart_12 : decode cX0_copyOfPart 12 = .ok (.aload_n 0, 1) := fx_ok0 eX0_copyOfPart_0.2.2.2.2.2.2.1
theorem dX0_copyOfPart_13 : decode cX0_copyOfPart 13 = .ok (.iload_n 1, 1) := fx_ok0 eX0_copyOfPart_0.2.2.2.2.2.2.2.1
theorem dX0_copyOfPart_14 : decode cX0_copyOfPart 14 = .ok (.iload_n 2, 1) := fx_ok0 eX0_copyOfPart_0.2.2.2.2.2.2.2.2.1
theorem dX0_copyOfPart_15 : decode cX0_copyOfPart 15 = .ok (.invokevirtual 66, 3) := fx_ok0 eX0_copyOfPart_0.2.2.2.2.2.2.2.2.2.1
theorem dX0_copyOfPart_18 : decode cX0_copyOfPart 18 = .ok (.pop, 1) := fx_ok0 eX0_copyOfPart_0.2.2.2.2.2.2.2.2.2.2.1
theorem dX0_copyOfPart_19 : decode cX0_copyOfPart 19 = .ok (.aload 4, 2) := fx_ok0 eX0_copyOfPart_0.2.2.2.2.2.2.2.2.2.2.2.1
theorem dX0_copyOfPart_21 : decode cX0_copyOfPart 21 = .ok (.areturn, 1) := fx_ok0 eX0_copyOfPart_0.2.2.2.2.2.2.2.2.2.2.2.2
theorem eX0_copyOfKeys_0 : (fdecl cX0_copyOfKeys.data.toList 0 = some (.new 10, 3)) ∧ (fdecl cX0_copyOfKeys.data.toList 3 = some (.dup, 1)) ∧ (fdecl cX0_copyOfKeys.data.toList 4 = some (.iconst 0, 1)) ∧ (fdecl cX0_copyOfKeys.data.toList 5 = some (.invokespecial 63, 3)) ∧ (fdecl cX0_copyOfKeys.data.toList 8 = some (.astore_n 1, 1)) ∧ (fdecl cX0_copyOfKeys.data.toList 9 = some (.iconst 0, 1)) ∧ (fdecl cX0_copyOfKeys.data.toList 10 = some (.istore_n 2, 1)) ∧ (fdecl cX0_copyOfKeys.data.toList 11 = some (.iload_n 2, 1)) ∧ (fdecl cX0_copyOfKeys.data.toList 12 = some (.bipush 100, 2)) ∧ (fdecl cX0_copyOfKeys.data.toList 14 = some (.if_icmp .ge 32, 3)) ∧ (fdecl cX0_copyOfKeys.data.toList 17 = some (.aload_n 0, 1)) ∧ (fdecl cX0_copyOfKeys.data.toList 18 = some (.iload_n 2, 1)) ∧ (fdecl cX0_copyOfKeys.data.toList 19 = some (.invokevirtual 32, 3)) ∧ (fdecl cX0_copyOfKeys.data.toList 22 = some (.ifCond .eq 18, 3)) ∧ (fdecl cX0_copyOfKeys.data.toList 25 = some (.aload_n 1, 1)) ∧ (fdecl cX0_copyOfKeys.data.toList 26 = some (.aload_n 1, 1)) := by decide +kernel
theorem dX0_copyOfKeys_0 : decode cX0_copyOfKeys 0 = .ok (.new 10, 3) := fx_ok0 eX0_copyOfKeys_0.1
theorem dX0_copyOfKeys_3 : decode cX0_copyOfKeys 3 = .ok (.dup, 1) := fx_ok0 eX0_copyOfKeys_0.2.1
theorem dX0_copyOfKeys_4 : decode cX0_copyOfKeys 4 = .ok (.iconst 0, 1) := fx_ok0 eX0_copyOfKeys_0.2.2.1
theorem dX0_copyOfKeys_5 : decode cX0_copyOfKeys 5 = .ok (.invokespecial 63, 3) := fx_ok0 eX0_copyOfKeys_0.2.2.2.1
theorem dX0_copyOfKeys_8 : decode cX0_copyOfKeys 8 = .ok (.astore_n 1, 1) := fx_ok0 eX0_copyOfKeys_0.2.2.2.2.1
theorem dX0_copyOfKeys_9 : decode cX0_copyOfKeys 9 = .ok (.iconst 0, 1) := fx_ok0 eX0_copyOfKeys_0.2.2.2.2.2.1
theorem dX0_copyOfKeys_10 : decode cX0_copyOfKeys 10 = .ok (.istore_n 2, 1) := fx_ok0 eX0_copyOfKeys_0.2.2.2.2.2.2.1
theorem dX0_copyOfKeys_11 : decode cX0_copyOfKeys 11 = .ok (.iload_n 2, 1) := fx_ok0 eX0_copyOfKeys_0.2.2.2.2.2.2.2.1
theorem dX0_copyOfKeys_12 : decode cX0_copyOfKeys 12 = .ok (.bipush 100, 2) := fx_ok0 eX0_copyOfKeys_0.2.2.2.2.2.2.2.2.1
theorem dX0_copyOfKeys_14 : decode cX0_copyOfKeys 14 = .ok (.if_icmp .ge 32, 3) := fx_ok0 eX0_copyOfKeys_0.2.2.2.2.2.2.2.2.2.1
theorem dX0_copyOfKeys_17 : decode cX0_copyOfKeys 17 = .ok (.aload_n 0, 1) := fx_ok0 eX0_copyOfKeys_0.2.2.2.2.2.2.2.2.2.2.1
theorem dX0_copyOfKeys_18 : decode cX0_copyOfKeys 18 = .ok (.iload_n 2, 1) := fx_ok0 eX0_copyOfKeys_0.2.2.2.2.2.2.2.2.2.2.2.1
theorem dX0_copyOfKeys_19 : decode cX0_copyOfKeys 19 = .ok (.invokevirtual 32, 3) := fx_ok0 eX0_copyOfKeys_0.2.2.2.2.2.2.2.2.2.2.2.2.1
theorem dX0_copyOfKeys_22 : decode cX0_copyOfKeys 22 = .ok (.ifCond .eq 18, 3) := fx_ok0 eX0_copyOfKeys_0.2.2.2.2.2.2.2.2.2.2.2.2.2.1
theorem dX0_copyOfKeys_25 : decode cX0_copyOfKeys 25 = .ok (.aload_n 1, 1) := fx_ok0 eX0_copyOfKeys_0.2.2.2.2.2.2.2.2.2.2.2.2.2.2.1
theorem dX0_copyOfKeys_26 : decode cX0_copyOfKeys 26 = .ok (.aload_n 1, 1) := fx_ok0 eX0_copyOfKeys_0.2.2.2.2.2.2.2.2.2.2.2.2.2.2.2
theorem eX0_copyOfKeys_27 : (fdecl cX0_copyOfKeys.data.toList 27 = some (.aload_n 0, 1)) ∧ (fdecl cX0_copyOfKeys.data.toList 28 = some (.iload_n 2, 1)) ∧ (fdecl cX0_copyOfKeys.data.toList 29 = some (.invokevirtual 36, 3)) ∧ (fdecl cX0_copyOfKeys.data.toList 32 = some (.invokevirtual 29, 3)) ∧ (fdecl cX0_copyOfKeys.data.toList 35 = some (.iconst 0, 1)) ∧ (fdecl cX0_copyOfKeys.data.toList 36 = some (.invokevirtual 70, 3)) ∧ (fdecl cX0_copyOfKeys.data.toList 39 = some (.pop, 1)) ∧ (fdecl cX0_copyOfKeys.data.toList 43 = some (.goto (-32), 3)) ∧ (fdecl cX0_copyOfKeys.data.toList 46 = some (.aload_n 1, 1)) ∧ (fdecl cX0_copyOfKeys.data.toList 47 = some (.areturn, 1)) := by decide +kernel
theorem dX0_copyOfKeys_27 : decode cX0_copyOfKeys 27 = .ok (.aload_n 0, 1) := fx_ok0 eX0_copyOfKeys_27.1
theorem dX0_copyOfKeys_28 : decode cX0_copyOfKeys 28 = .ok (.iload_n 2, 1) := fx_ok0 eX0_copyOfKeys_27.2.1
theorem dX0_copyOfKeys_29 : decode cX0_copyOfKeys 29 = .ok (.invokevirtual 36, 3) := fx_ok0 eX0_copyOfKeys_27.2.2.1
theorem dX0_copyOfKeys_32 : decode cX0_copyOfKeys 32 = .ok (.invokevirtual 29, 3) := fx_ok0 eX0_copyOfKeys_27.2.2.2.1
theorem dX0_copyOfKeys_35 : decode cX0_copyOfKeys 35 = .ok (.iconst 0, 1) := fx_ok0 eX0_copyOfKeys_27.2.2.2.2.1
theorem dX0_copyOfKeys_36 : decode cX0_copyOfKeys 36 = .ok (.invokevirtual 70, 3) := fx_ok0 eX0_copyOfKeys_27.2.2.2.2.2.1
theorem dX0_copyOfKeys_39 : decode cX0_copyOfKeys 39 = .ok (.pop, 1) := fx_ok0 eX0_copyOfKeys_27.2.2.2.2.2.2.1
theorem dX0_copyOfKeys_43 : decode cX0_copyOfKeys 43 = .ok (.goto (-32), 3) := fx_ok0 eX0_copyOfKeys_27.2.2.2.2.2.2.2.1
theorem dX0_copyOfKeys_46 : decode cX0_copyOfKeys 46 = .ok (.aload_n 1, 1) := fx_ok0 eX0_copyOfKeys_27.2.2.2.2.2.2.2.2.1
theorem dX0_copyOfKeys_47 : decode cX0_copyOfKeys 47 = .ok (.areturn, 1) := fx_ok0 eX0_copyOfKeys_27.2.2.2.2.2.2.2.2.2
theorem dX0_copyOfKeys_40 : decode cX0_copyOfKeys 40 = .ok (.iinc 2 1, 3) := by decide +kernel
theorem eX0_addPart_0 : (fdecl cX0_addPart.data.toList 0 = some (.aload_n 0, 1)) ∧ (fdecl cX0_addPart.data.toList 1 = some (.getfield 42, 3)) ∧ (fdecl cX0_addPart.data.toList 4 = some (.istore 4, 2)) ∧ (fdecl cX0_addPart.data.toList 6 = some (.iload_n 2, 1)) ∧ (fdecl cX0_addPart.data.toList 7 = some (.istore 5, 2)) ∧ (fdecl cX0_addPart.data.toList 9 = some (.iload 5, 2)) ∧ (fdecl cX0_addPart.data.toList 11 = some (.iload_n 3, 1)) ∧ (fdecl cX0_addPart.data.toList 12 = some (.if_icmp .gt 39, 3)) ∧ (fdecl cX0_addPart.data.toList 15 = some (.aload_n 1, 1)) ∧ (fdecl cX0_addPart.data.toList 16 = some (.iload 5, 2)) ∧ (fdecl cX0_addPart.data.toList 18 = some (.invokevirtual 32, 3)) ∧ (fdecl cX0_addPart.data.toList 21 = some (.ifCond .eq 24, 3)) ∧ (fdecl cX0_addPart.data.toList 24 = some (.aload_n 0, 1)) ∧ (fdecl cX0_addPart.data.toList 25 = some (.aload_n 0, 1)) ∧ (fdecl cX0_addPart.data.toList 26 = some (.aload_n 1, 1)) ∧ (fdecl cX0_addPart.data.toList 27 = some (.iload 5, 2)) := by decide +kernel
theorem dX0_addPart_0 : decode cX0_addPart 0 = .ok (.aload_n 0, 1) := fx_ok0 eX0_addPart_0.1
theorem dX0_addPart_1 : decode cX0_addPart 1 = .ok (.getfield 42, 3) := fx_ok0 eX0_addPart_0.2.1
theorem dX0_addPart_4 : decode cX0_addPart 4 = .ok (.istore 4, 2) := fx_ok0 eX0_addPart_0.2.2.1
theorem dX0_addPart_6 : decode cX0_addPart 6 = .ok (.iload_n 2, 1) := fx_ok0 eX0_addPart_0.2.2.2.1
theorem dX0_addPart_7 : decode cX0_addPart 7 = .ok (.istore 5, 2) := fx_ok0 eX0_addPart_0.2.2.2.2.1
theorem dX0_addPart_9 : decode cX0_addPart 9 = .ok (.iload 5, 2) := fx_ok0 eX0_addPart_0.2.2.2.2.2.1
theorem dX0_addPart_11 : decode cX0_addPart 11 = .ok (.iload_n 3, 1) := fx_ok0 eX0_addPart_0.2.2.2.2.2.2.1
theorem dX0_addPart_12 : decode cX0_addPart 12 = .ok (.if_icmp .gt 39, 3) := fx_ok0 eX0_addPart_0.2.2.2.2.2.2.2.1
theorem dX0_addPart_15 : decode cX0_addPart 15 = .ok (.aload_n 1, 1) := fx_ok0 eX0_addPart_0.2.2.2.2.2.2.2.2.1
theorem dX0_addPart_16 : decode cX0_addPart 16 = .ok (.iload 5, 2) := fx_ok0 eX0_addPart_0.2.2.2.2.2.2.2.2.2.1
theorem dX0_addPart_18 : decode cX0_addPart 18 = .ok (.invokevirtual 32, 3) := fx_ok0 eX0_addPart_0.2.2.2.2.2.2.2.2.2.2.1
theorem dX0_addPart_21 : decode cX0_addPart 21 = .ok (.ifCond .eq 24, 3) := fx_ok0 eX0_addPart_0.2.2.2.2.2.2.2.2.2.2.2.1
theorem dX0_addPart_24 : decode cX0_addPart 24 = .ok (.aload_n 0, 1) := fx_ok0 eX0_addPart_0.2.2.2.2.2.2.2.2.2.2.2.2.1
theorem dX0_addPart_25 : decode cX0_addPart 25 = .ok (.aload_n 0, 1) := fx_ok0 eX0_addPart_0.2.2.2.2.2.2.2.2.2.2.2.2.2.1
theorem dX0_addPart_26 : decode cX0_addPart 26 = .ok (.aload_n 1, 1) := fx_ok0 eX0_addPart_0.2.2.2.2.2.2.2.2.2.2.2.2.2.2.1
theorem dX0_addPart_27 : decode cX0_addPart 27 = .ok (.iload 5, 2) := fx_ok0 eX0_addPart_0.2.2.2.2.2.2.2.2.2.2.2.2.2.2.2
theorem eX0_addPart_29 : (fdecl cX0_addPart.data.toList 29 = some (.invokevirtual 36, 3)) ∧ (fdecl cX0_addPart.data.toList 32 = some (.invokevirtual 29, 3)) ∧ (fdecl cX0_addPart.data.toList 35 = some (.aload_n 1, 1)) ∧ (fdecl cX0_addPart.data.toList 36 = some (.iload 5, 2)) ∧ (fdecl cX0_addPart.data.toList 38 = some (.invokevirtual 39, 3)) ∧ (fdecl cX0_addPart.data.toList 41 = some (.invokevirtual 70, 3)) ∧ (fdecl cX0_addPart.data.toList 44 = some (.pop, 1)) ∧ (fdecl cX0_addPart.data.toList 48 = some (.goto (-39), 3)) ∧ (fdecl cX0_addPart.data.toList 51 = some (.aload_n 0, 1)) ∧ (fdecl cX0_addPart.data.toList 52 = some (.getfield 42, 3)) ∧ (fdecl cX0_addPart.data.toList 55 = some (.iload 4, 2)) ∧ (fdecl cX0_addPart.data.toList 57 = some (.isub, 1)) ∧ (fdecl cX0_addPart.data.toList 58 = some (.ireturn, 1)) := by decide +kernel
theorem dX0_addPart_29 : decode cX0_addPart 29 = .ok (.invokevirtual 36, 3) := fx_ok0 eX0_addPart_29.1
theorem dX0_addPart_32 : decode cX0_addPart 32 = .ok (.invokevirtual 29, 3) := fx_ok0 eX0_addPart_29.2.1
theorem dX0_addPart_35 : decode cX0_addPart 35 = .ok (.aload_n 1, 1) := fx_ok0 eX0_addPart_29.2.2.1
theorem dX0_addPart_36 : decode cX0_addPart 36 = .ok (.iload 5, 2) := fx_ok0 eX0_addPart_29.2.2.2.1
theorem dX0_addPart_38 : decode cX0_addPart 38 = .ok (.invokevirtual 39, 3) := fx_ok0 eX0_addPart_29.2.2.2.2.1
theorem dX0_addPart_41 : decode cX0_addPart 41 = .ok (.invokevirtual 70, 3) := fx_ok0 eX0_addPart_29.2.2.2.2.2.1
theorem dX0_addPart_44 : decode cX0_addPart 44 = .ok (.pop, 1) := fx_ok0 eX0_addPart_29.2.2.2.2.2.2.1
theorem dX0_addPart_48 : decode cX0_addPart 48 = .ok (.goto (-39), 3) := fx_ok0 eX0_addPart_29.2.2.2.2.2.2.2.1
theorem dX0_addPart_51 : decode cX0_addPart 51 = .ok (.aload_n 0, 1) := fx_ok0 eX0_addPart_29.2.2.2.2.2.2.2.2.1
theorem dX0_addPart_52 : decode cX0_addPart 52 = .ok (.getfield 42, 3) := fx_ok0 eX0_addPart_29.2.2.2.2.2.2.2.2.2.1
theorem dX0_addPart_55 : decode cX0_addPart 55 = .ok (.iload 4, 2) := fx_ok0 eX0_addPart_29.2.2.2.2.2.2.2.2.2.2.1
theorem dX0_addPart_57 : decode cX0_addPart 57 = .ok (.isub, 1) := fx_ok0 eX0_addPart_29.2.2.2.2.2.2.2.2.2.2.2.1
theorem dX0_addPart_58 : decode cX0_addPart 58 = .ok (.ireturn, 1) := fx_ok0 eX0_addPart_29.2.2.2.2.2.2.2.2.2.2.2.2
theorem dX0_addPart_45 : decode cX0_addPart 45 = .ok (.iinc 5 1, 3) := by decide +kernel
theorem eX0_addSteps_0 : (fdecl cX0_addSteps.data.toList 0 = some (.aload_n 0, 1)) ∧ (fdecl cX0_addSteps.data.toList 1 = some (.getfield 42, 3)) ∧ (fdecl cX0_addSteps.data.toList 4 = some (.istore 5, 2)) ∧ (fdecl cX0_addSteps.data.toList 6 = some (.iconst 0, 1)) ∧ (fdecl cX0_addSteps.data.toList 7 = some (.istore 6, 2)) ∧ (fdecl cX0_addSteps.data.toList 9 = some (.iload 6, 2)) ∧ (fdecl cX0_addSteps.data.toList 11 = some (.iload_n 3, 1)) ∧ (fdecl cX0_addSteps.data.toList 12 = some (.if_icmp .ge 35, 3)) ∧ (fdecl cX0_addSteps.data.toList 15 = some (.aload_n 0, 1)) ∧ (fdecl cX0_addSteps.data.toList 16 = some (.aload_n 0, 1)) ∧ (fdecl cX0_addSteps.data.toList 17 = some (.iload_n 1, 1)) ∧ (fdecl cX0_addSteps.data.toList 18 = some (.iload 6, 2)) ∧ (fdecl cX0_addSteps.data.toList 20 = some (.iload_n 2, 1)) ∧ (fdecl cX0_addSteps.data.toList 21 = some (.imul, 1)) ∧ (fdecl cX0_addSteps.data.toList 22 = some (.iadd, 1)) ∧ (fdecl cX0_addSteps.data.toList 23 = some (.bipush 100, 2)) := by decide +kernel
theorem dX0_addSteps_0 : decode cX0_addSteps 0 = .ok (.aload_n 0, 1) := fx_ok0 eX0_addSteps_0.1
theorem dX0_addSteps_1 : decode cX0_addSteps 1 = .ok (.getfield 42, 3) := fx_ok0 eX0_addSteps_0.2.1
theorem dX0_addSteps_4 : decode cX0_addSteps 4 = .ok (.istore 5, 2) := fx_ok0 eX0_addSteps_0.2.2.1
theorem dX0_addSteps_6 : decode cX0_addSteps 6 = .ok (.iconst 0, 1) := fx_ok0 eX0_addSteps_0.2.2.2.1
theorem dX0_addSteps_7 : decode cX0_addSteps 7 = .ok (.istore 6, 2) := fx_ok0 eX0_addSteps_0.2.2.2.2.1
theorem dX0_addSteps_9 : decode cX0_addSteps 9 = .ok (.iload 6, 2) := fx_ok0 eX0_addSteps_0.2.2.2.2.2.1
theorem dX0_addSteps_11 : decode cX0_addSteps 11 = .ok (.iload_n 3, 1) := fx_ok0 eX0_addSteps_0.2.2.2.2.2.2.1
theorem dX0_addSteps_12 : decode cX0_addSteps 12 = .ok (.if_icmp .ge 35, 3) := fx_ok0 eX0_addSteps_0.2.2.2.2.2.2.2.1
theorem dX0_addSteps_15 : decode cX0_addSteps 15 = .ok (.aload_n 0, 1) := fx_ok0 eX0_addSteps_0.2.2.2.2.2.2.2.2.1
theorem dX0_addSteps_16 : decode cX0_addSteps 16 = .ok (.aload_n 0, 1) := fx_ok0 eX0_addSteps_0.2.2.2.2.2.2.2.2.2.1
theorem dX0_addSteps_17 : decode cX0_addSteps 17 = .ok (.iload_n 1, 1) := fx_ok0 eX0_addSteps_0.2.2.2.2.2.2.2.2.2.2.1
theorem dX0_addSteps_18 : decode cX0_addSteps 18 = .ok (.iload 6, 2) := fx_ok0 eX0_addSteps_0.2.2.2.2.2.2.2.2.2.2.2.1
theorem dX0_addSteps_20 : decode cX0_addSteps 20 = .ok (.iload_n 2, 1) := fx_ok0 eX0_addSteps_0.2.2.2.2.2.2.2.2.2.2.2.2.1
theorem dX0_addSteps_21 : decode cX0_addSteps 21 = .ok (.imul, 1) := fx_ok0 eX0_addSteps_0.2.2.2.2.2.2.2.2.2.2.2.2.2.1
theorem dX0_addSteps_22 : decode cX0_addSteps 22 = .ok (.iadd, 1) := fx_ok0 eX0_addSteps_0.2.2.2.2.2.2.2.2.2.2.2.2.2.2.1
theorem dX0_addSteps_23 : decode cX0_addSteps 23 = .ok (.bipush 100, 2) := fx_ok0 eX0_addSteps_0.2.2.2.2.2.2.2.2.2.2.2.2.2.2.2
theorem eX0_addSteps_25 : (fdecl cX0_addSteps.data.toList 25 = some (.irem, 1)) ∧ (fdecl cX0_addSteps.data.toList 26 = some (.invokevirtual 29, 3)) ∧ (fdecl cX0_addSteps.data.toList 29 = some (.iload 4, 2)) ∧ (fdecl cX0_addSteps.data.toList 31 = some (.iload 6, 2)) ∧ (fdecl cX0_addSteps.data.toList 33 = some (.iadd, 1)) ∧ (fdecl cX0_addSteps.data.toList 34 = some (.bipush 100, 2)) ∧ (fdecl cX0_addSteps.data.toList 36 = some (.irem, 1)) ∧ (fdecl cX0_addSteps.data.toList 37 = some (.invokevirtual 70, 3)) ∧ (fdecl cX0_addSteps.data.toList 40 = some (.pop, 1)) ∧ (fdecl cX0_addSteps.data.toList 44 = some (.goto (-35), 3)) ∧ (fdecl cX0_addSteps.data.toList 47 = some (.aload_n 0, 1)) ∧ (fdecl cX0_addSteps.data.toList 48 = some (.getfield 42, 3)) ∧ (fdecl cX0_addSteps.data.toList 51 = some (.iload 5, 2)) ∧ (fdecl cX0_addSteps.data.toList 53 = some (.isub, 1)) ∧ (fdecl cX0_addSteps.data.toList 54 = some (.ireturn, 1)) := by decide +kernel
theorem dX0_addSteps_25 : decode cX0_addSteps 25 = .ok (.irem, 1) := fx_ok0 eX0_addSteps_25.1
theorem dX0_addSteps_26 : decode cX0_addSteps 26 = .ok (.invokevirtual 29, 3) := fx_ok0 eX0_addSteps_25.2.1
theorem dX0_addSteps_29 : decode cX0_addSteps 29 = .ok (.iload 4, 2) := fx_ok0 eX0_addSteps_25.2.2.1
theorem dX0_addSteps_31 : decode cX0_addSteps 31 = .ok (.iload 6, 2) := fx_ok0 eX0_addSteps_25.2.2.2.1
theorem dX0_addSteps_33 : decode cX0_addSteps 33 = .ok (.iadd, 1) := fx_ok0 eX0_addSteps_25.2.2.2.2.1
theorem dX0_addSteps_34 : decode cX0_addSteps 34 = .ok (.bipush 100, 2) := fx_ok0 eX0_addSteps_25.2.2.2.2.2.1
theorem dX0_addSteps_36 : decode cX0_addSteps 36 = .ok (.irem, 1) := fx_ok0 eX0_addSteps_25.2.2.2.2.2.2.1
theorem dX0_addSteps_37 : decode cX0_addSteps 37 = .ok (.invokevirtual 70, 3) := fx_ok0 eX0_addSteps_25.2.2.2.2.2.2.2.1
theorem dX0_addSteps_40 : decode cX0_addSteps 40 = .ok (.pop, 1) := fx_ok0 eX0_addSteps_25.2.2.2.2.2.2.2.2.1
theorem dX0_addSteps_44 : decode cX0_addSteps 44 = .ok (.goto (-35), 3) := fx_ok0 eX0_addSteps_25.2.2.2.2.2.2.2.2.2.1
theorem dX0_addSteps_47 : decode cX0_addSteps 47 = .ok (.aload_n 0, 1) := fx_ok0 eX0_addSteps_25.2.2.2.2.2.2.2.2.2.2.1
theorem dX0_addSteps_48 : decode cX0_addSteps 48 = .ok (.getfield 42, 3) := fx_ok0 eX0_addSteps_25.2.2.2.2.2.2.2.2.2.2.2.1
theorem dX0_addSteps_51 : decode cX0_addSteps 51 = .ok (.iload 5, 2) := fx_ok0 eX0_addSteps_25.2.2.2.2.2.2.2.2.2.2.2.2.1
theorem dX0_addSteps_53 : decode cX0_addSteps 53 = .ok (.isub, 1) := fx_ok0 eX0_addSteps_25.2.2.2.2.2.2.2.2.2.2.2.2.2.1
theorem dX0_addSteps_54 : decode cX0_addSteps 54 = .ok (.ireturn, 1) := fx_ok0 eX0_addSteps_25.2.2.2.2.2.2.2.2.2.2.2.2.2.2
theorem dX0_addSteps_41 : decode cX0_addSteps 41 = .ok (.iinc 6 1, 3) := by decide +kernel
theorem eX0_addKeySteps_0 : (fdecl cX0_addKeySteps.data.toList 0 = some (.aload_n 0, 1)) ∧ (fdecl cX0_addKeySteps.data.toList 1 = some (.getfield 42, 3)) ∧ (fdecl cX0_addKeySteps.data.toList 4 = some (.istore 4, 2)) ∧ (fdecl cX0_addKeySteps.data.toList 6 = some (.iconst 0, 1)) ∧ (fdecl cX0_addKeySteps.data.toList 7 = some (.istore 5, 2)) ∧ (fdecl cX0_addKeySteps.data.toList 9 = some (.iload 5, 2)) ∧ (fdecl cX0_addKeySteps.data.toList 11 = some (.iload_n 3, 1)) ∧ (fdecl cX0_addKeySteps.data.toList 12 = some (.if_icmp .ge 28, 3)) ∧ (fdecl cX0_addKeySteps.data.toList 15 = some (.aload_n 0, 1)) ∧ (fdecl cX0_addKeySteps.data.toList 16 = some (.aload_n 0, 1)) ∧ (fdecl cX0_addKeySteps.data.toList 17 = some (.iload_n 1, 1)) ∧ (fdecl cX0_addKeySteps.data.toList 18 = some (.iload 5, 2)) ∧ (fdecl cX0_addKeySteps.data.toList 20 = some (.iload_n 2, 1)) ∧ (fdecl cX0_addKeySteps.data.toList 21 = some (.imul, 1)) ∧ (fdecl cX0_addKeySteps.data.toList 22 = some (.iadd, 1)) ∧ (fdecl cX0_addKeySteps.data.toList 23 = some (.bipush 100, 2)) := by decide +kernel
theorem dX0_addKeySteps_0 : decode cX0_addKeySteps 0 = .ok (.aload_n 0, 1) := fx_ok0 eX0_addKeySteps_0.1
theorem dX0_addKeySteps_1 : decode cX0_addKeySteps 1 = .ok (.getfield 42, 3) := fx_ok0 eX0_addKeySteps_0.2.1
theorem dX0_addKeySteps_4 : decode cX0_addKeySteps 4 = .ok (.istore 4, 2) := fx_ok0 eX0_addKeySteps_0.2.2.1
theorem dX0_addKeySteps_6 : decode cX0_addKeySteps 6 = .ok (.iconst 0, 1) := fx_ok0 eX0_addKeySteps_0.2.2.2.1
theorem dX0_addKeySteps_7 : decode cX0_addKeySteps 7 = .ok (.istore 5, 2) := fx_ok0 eX0_addKeySteps_0.2.2.2.2.1
theorem dX0_addKeySteps_9 : decode cX0_addKeySteps 9 = .ok (.iload 5, 2) := fx_ok0 eX0_addKeySteps_0.2.2.2.2.2.1
theorem dX0_addKeySteps_11 : decode cX0_addKeySteps 11 = .ok (.iload_n 3, 1) := fx_ok0 eX0_addKeySteps_0.2.2.2.2.2.2.1
theorem dX0_addKeySteps_12 : decode cX0_addKeySteps 12 = .ok (.if_icmp .ge 28, 3) := fx_ok0 eX0_addKeySteps_0.2.2.2.2.2.2.2.1
theorem dX0_addKeySteps_15 : decode cX0_addKeySteps 15 = .ok (.aload_n 0, 1) := fx_ok0 eX0_addKeySteps_0.2.2.2.2.2.2.2.2.1
theorem dX0_addKeySteps_16 : decode cX0_addKeySteps 16 = .ok (.aload_n 0, 1) := fx_ok0 eX0_addKeySteps_0.2.2.2.2.2.2.2.2.2.1
theorem dX0_addKeySteps_17 : decode cX0_addKeySteps 17 = .ok (.iload_n 1, 1) := fx_ok0 eX0_addKeySteps_0.2.2.2.2.2.2.2.2.2.2.1
theorem dX0_addKeySteps_18 : decode cX0_addKeySteps 18 = .ok (.iload 5, 2) := fx_ok0 eX0_addKeySteps_0.2.2.2.2.2.2.2.2.2.2.2.1
theorem dX0_addKeySteps_20 : decode cX0_addKeySteps 20 = .ok (.iload_n 2, 1) := fx_ok0 eX0_addKeySteps_0.2.2.2.2.2.2.2.2.2.2.2.2.1
theorem dX0_addKeySteps_21 : decode cX0_addKeySteps 21 = .ok (.imul, 1) := fx_ok0 eX0_addKeySteps_0.2.2.2.2.2.2.2.2.2.2.2.2.2.1
theorem dX0_addKeySteps_22 : decode cX0_addKeySteps 22 = .ok (.iadd, 1) := fx_ok0 eX0_addKeySteps_0.2.2.2.2.2.2.2.2.2.2.2.2.2.2.1
theorem dX0_addKeySteps_23 : decode cX0_addKeySteps 23 = .ok (.bipush 100, 2) := fx_ok0 eX0_addKeySteps_0.2.2.2.2.2.2.2.2.2.2.2.2.2.2.2
theorem eX0_addKeySteps_25 : (fdecl cX0_addKeySteps.data.toList 25 = some (.irem, 1)) ∧ (fdecl cX0_addKeySteps.data.toList 26 = some (.invokevirtual 29, 3)) ∧ (fdecl cX0_addKeySteps.data.toList 29 = some (.iconst 0, 1)) ∧ (fdecl cX0_addKeySteps.data.toList 30 = some (.invokevirtual 70, 3)) ∧ (fdecl cX0_addKeySteps.data.toList 33 = some (.pop, 1)) ∧ (fdecl cX0_addKeySteps.data.toList 37 = some (.goto (-28), 3)) ∧ (fdecl cX0_addKeySteps.data.toList 40 = some (.aload_n 0, 1)) ∧ (fdecl cX0_addKeySteps.data.toList 41 = some (.getfield 42, 3)) ∧ (fdecl cX0_addKeySteps.data.toList 44 = some (.iload 4, 2)) ∧ (fdecl cX0_addKeySteps.data.toList 46 = some (.isub, 1)) ∧ (fdecl cX0_addKeySteps.data.toList 47 = some (.ireturn, 1)) := by decide +kernel
theorem dX0_addKeySteps_25 : decode cX0_addKeySteps 25 = .ok (.irem, 1) := fx_ok0 eX0_addKeySteps_25.1
theorem dX0_addKeySteps_26 : decode cX0_addKeySteps 26 = .ok (.invokevirtual 29, 3) := fx_ok0 eX0_addKeySteps_25.2.1
theorem dX0_addKeySteps_29 : decode cX0_addKeySteps 29 = .ok (.iconst 0, 1) := fx_ok0 eX0_addKeySteps_25.2.2.1
theorem dX0_addKeySteps_30 : decode cX0_addKeySteps 30 = .ok (.invokevirtual 70, 3) := fx_ok0 eX0_addKeySteps_25.2.2.2.1
theorem dX0_addKeySteps_33 : decode cX0_addKeySteps 33 = .ok (.pop, 1) := fx_ok0 eX0_addKeySteps_25.2.2.2.2.1
theorem dX0_addKeySteps_37 : decode cX0_addKeySteps 37 = .ok (.goto (-28), 3) := fx_ok0 eX0_addKeySteps_25.2.2.2.2.2.1
theorem dX0_addKeySteps_40 : decode cX0_addKeySteps 40 = .ok (.aload_n 0, 1) := fx_ok0 eX0_addKeySteps_25.2.2.2.2.2.2.1
theorem dX0_addKeySteps_41 : decode cX0_addKeySteps 41 = .ok (.getfield 42, 3) := fx_ok0 eX0_addKeySteps_25.2.2.2.2.2.2.2.1
theorem dX0_addKeySteps_44 : decode cX0_addKeySteps 44 = .ok (.iload 4, 2) := fx_ok0 eX0_addKeySteps_25.2.2.2.2.2.2.2.2.1
theorem dX0_addKeySteps_46 : decode cX0_addKeySteps 46 = .ok (.isub, 1) := fx_ok0 eX0_addKeySteps_25.2.2.2.2.2.2.2.2.2.1
theorem dX0_addKeySteps_47 : decode cX0_addKeySteps 47 = .ok (.ireturn, 1) := fx_ok0 eX0_addKeySteps_25.2.2.2.2.2.2.2.2.2.2
theorem dX0_addKeySteps_34 : decode cX0_addKeySteps 34 = .ok (.iinc 5 1, 3) := by decide +kernel
theorem eX0_removeSteps_0 : (fdecl cX0_removeSteps.data.toList 0 = some (.aload_n 0, 1)) ∧ (fdecl cX0_removeSteps.data.toList 1 = some (.getfield 42, 3)) ∧ (fdecl cX0_removeSteps.data.toList 4 = some (.istore 4, 2)) ∧ (fdecl cX0_removeSteps.data.toList 6 = some (.iconst 0, 1)) ∧ (fdecl cX0_removeSteps.data.toList 7 = some (.istore 5, 2)) ∧ (fdecl cX0_removeSteps.data.toList 9 = some (.iload 5, 2)) ∧ (fdecl cX0_removeSteps.data.toList 11 = some (.iload_n 3, 1)) ∧ (fdecl cX0_removeSteps.data.toList 12 = some (.if_icmp .ge 27, 3)) ∧ (fdecl cX0_removeSteps.data.toList 15 = some (.aload_n 0, 1)) ∧ (fdecl cX0_removeSteps.data.toList 16 = some (.aload_n 0, 1)) ∧ (fdecl cX0_removeSteps.data.toList 17 = some (.iload_n 1, 1)) ∧ (fdecl cX0_removeSteps.data.toList 18 = some (.iload 5, 2)) ∧ (fdecl cX0_removeSteps.data.toList 20 = some (.iload_n 2, 1)) ∧ (fdecl cX0_removeSteps.data.toList 21 = some (.imul, 1)) ∧ (fdecl cX0_removeSteps.data.toList 22 = some (.iadd, 1)) ∧ (fdecl cX0_removeSteps.data.toList 23 = some (.bipush 100, 2)) := by decide +kernel
theorem dX0_removeSteps_0 : decode cX0_removeSteps 0 = .ok (.aload_n 0, 1) := fx_ok0 eX0_removeSteps_0.1
theorem dX0_removeSteps_1 : decode cX0_removeSteps 1 = .ok (.getfield 42, 3) := fx_ok0 eX0_removeSteps_0.2.1
theorem dX0_removeSteps_4 : decode cX0_removeSteps 4 = .ok (.istore 4, 2) := fx_ok0 eX0_removeSteps_0.2.2.1
theorem dX0_removeSteps_6 : decode cX0_removeSteps 6 = .ok (.iconst 0, 1) := fx_ok0 eX0_removeSteps_0.2.2.2.1
theorem dX0_removeSteps_7 : decode cX0_removeSteps 7 = .ok (.istore 5, 2) := fx_ok0 eX0_removeSteps_0.2.2.2.2.1
theorem dX0_removeSteps_9 : decode cX0_removeSteps 9 = .ok (.iload 5, 2) := fx_ok0 eX0_removeSteps_0.2.2.2.2.2.1
theorem dX0_removeSteps_11 : decode cX0_removeSteps 11 = .ok (.iload_n 3, 1) := fx_ok0 eX0_removeSteps_0.2.2.2.2.2.2.1
theorem dX0_removeSteps_12 : decode cX0_removeSteps 12 = .ok (.if_icmp .ge 27, 3) := fx_ok0 eX0_removeSteps_0.2.2.2.2.2.2.2.1
theorem dX0_removeSteps_15 : decode cX0_removeSteps 15 = .ok (.aload_n 0, 1) := fx_ok0 eX0_removeSteps_0.2.2.2.2.2.2.2.2.1
theorem dX0_removeSteps_16 : decode cX0_removeSteps 16 = .ok (.aload_n 0, 1) := fx_ok0 eX0_removeSteps_0.2.2.2.2.2.2.2.2.2.1
theorem dX0_removeSteps_17 : decode cX0_removeSteps 17 = .ok (.iload_n 1, 1) := fx_ok0 eX0_removeSteps_0.2.2.2.2.2.2.2.2.2.2.1
theorem dX0_removeSteps_18 : decode cX0_removeSteps 18 = .ok (.iload 5, 2) := fx_ok0 eX0_removeSteps_0.2.2.2.2.2.2.2.2.2.2.2.1
theorem dX0_removeSteps_20 : decode cX0_removeSteps 20 = .ok (.iload_n 2, 1) := fx_ok0 eX0_removeSteps_0.2.2.2.2.2.2.2.2.2.2.2.2.1
theorem dX0_removeSteps_21 : decode cX0_removeSteps 21 = .ok (.imul, 1) := fx_ok0 eX0_removeSteps_0.2.2.2.2.2.2.2.2.2.2.2.2.2.1
theorem dX0_removeSteps_22 : decode cX0_removeSteps 22 = .ok (.iadd, 1) := fx_ok0 eX0_removeSteps_0.2.2.2.2.2.2.2.2.2.2.2.2.2.2.1
theorem dX0_removeSteps_23 : decode cX0_removeSteps 23 = .ok (.bipush 100, 2) := fx_ok0 eX0_removeSteps_0.2.2.2.2.2.2.2.2.2.2.2.2.2.2.2
theorem eX0_removeSteps_25 : (fdecl cX0_removeSteps.data.toList 25 = some (.irem, 1)) ∧ (fdecl cX0_removeSteps.data.toList 26 = some (.invokevirtual 29, 3)) ∧ (fdecl cX0_removeSteps.data.toList 29 = some (.invokevirtual 73, 3)) ∧ (fdecl cX0_removeSteps.data.toList 32 = some (.pop, 1)) ∧ (fdecl cX0_removeSteps.data.toList 36 = some (.goto (-27), 3)) ∧ (fdecl cX0_removeSteps.data.toList 39 = some (.iload 4, 2)) ∧ (fdecl cX0_removeSteps.data.toList 41 = some (.aload_n 0, 1)) ∧ (fdecl cX0_removeSteps.data.toList 42 = some (.getfield 42, 3)) ∧ (fdecl cX0_removeSteps.data.toList 45 = some (.isub, 1)) ∧ (fdecl cX0_removeSteps.data.toList 46 = some (.ireturn, 1)) := by decide +kernel
theorem dX0_removeSteps_25 : decode cX0_removeSteps 25 = .ok (.irem, 1) := fx_ok0 eX0_removeSteps_25.1
theorem dX0_removeSteps_26 : decode cX0_removeSteps 26 = .ok (.invokevirtual 29, 3) := fx_ok0 eX0_removeSteps_25.2.1
theorem dX0_removeSteps_29 : decode cX0_removeSteps 29 = .ok (.invokevirtual 73, 3) := fx_ok0 eX0_removeSteps_25.2.2.1
theorem dX0_removeSteps_32 : decode cX0_removeSteps 32 = .ok (.pop, 1) := fx_ok0 eX0_removeSteps_25.2.2.2.1
theorem dX0_removeSteps_36 : decode cX0_removeSteps 36 = .ok (.goto (-27), 3) := fx_ok0 eX0_removeSteps_25.2.2.2.2.1
theorem dX0_removeSteps_39 : decode cX0_removeSteps 39 = .ok (.iload 4, 2) := fx_ok0 eX0_removeSteps_25.2.2.2.2.2.1
theorem dX0_removeSteps_41 : decode cX0_removeSteps 41 = .ok (.aload_n 0, 1) := fx_ok0 eX0_removeSteps_25.2.2.2.2.2.2.1
theorem dX0_removeSteps_42 : decode cX0_removeSteps 42 = .ok (.getfield 42, 3) := fx_ok0 eX0_removeSteps_25.2.2.2.2.2.2.2.1
theorem dX0_removeSteps_45 : decode cX0_removeSteps 45 = .ok (.isub, 1) := fx_ok0 eX0_removeSteps_25.2.2.2.2.2.2.2.2.1
theorem dX0_removeSteps_46 : decode cX0_removeSteps 46 = .ok (.ireturn, 1) := fx_ok0 eX0_removeSteps_25.2.2.2.2.2.2.2.2.2
theorem dX0_removeSteps_33 : decode cX0_removeSteps 33 = .ok (.iinc 5 1, 3) := by decide +kernel
theorem eX0_retain_0 : (fdecl cX0_retain.data.toList 0 = some (.aload_n 0, 1)) ∧ (fdecl cX0_retain.data.toList 1 = some (.getfield 42, 3)) ∧ (fdecl cX0_retain.data.toList 4 = some (.istore_n 3, 1)) ∧ (fdecl cX0_retain.data.toList 5 = some (.iconst 0, 1)) ∧ (fdecl cX0_retain.data.toList 6 = some (.istore 4, 2)) ∧ (fdecl cX0_retain.data.toList 8 = some (.iload 4, 2)) ∧ (fdecl cX0_retain.data.toList 10 = some (.bipush 100, 2)) ∧ (fdecl cX0_retain.data.toList 12 = some (.if_icmp .ge 34, 3)) ∧ (fdecl cX0_retain.data.toList 15 = some (.aload_n 1, 1)) ∧ (fdecl cX0_retain.data.toList 16 = some (.aload_n 1, 1)) ∧ (fdecl cX0_retain.data.toList 17 = some (.aload_n 0, 1)) ∧ (fdecl cX0_retain.data.toList 18 = some (.iload 4, 2)) ∧ (fdecl cX0_retain.data.toList 20 = some (.invokevirtual 36, 3)) ∧ (fdecl cX0_retain.data.toList 23 = some (.invokevirtual 29, 3)) ∧ (fdecl cX0_retain.data.toList 26 = some (.invokevirtual 32, 3)) ∧ (fdecl cX0_retain.data.toList 29 = some (.iload_n 2, 1)) := by decide +kernel
theorem dX0_retain_0 : decode cX0_retain 0 = .ok (.aload_n 0, 1) := fx_ok0 eX0_retain_0.1
theorem dX0_retain_1 : decode cX0_retain 1 = .ok (.getfield 42, 3) := fx_ok0 eX0_retain_0.2.1
theorem dX0_retain_4 : decode cX0_retain 4 = .ok (.istore_n 3, 1) := fx_ok0 eX0_retain_0.2.2.1
theorem dX0_retain_5 : decode cX0_retain 5 = .ok (.iconst 0, 1) := fx_ok0 eX0_retain_0.2.2.2.1
theorem dX0_retain_6 : decode cX0_retain 6 = .ok (.istore 4, 2) := fx_ok0 eX0_retain_0.2.2.2.2.1
theorem dX0_retain_8 : decode cX0_retain 8 = .ok (.iload 4, 2) := fx_ok0 eX0_retain_0.2.2.2.2.2.1
theorem dX0_retain_10 : decode cX0_retain 10 = .ok (.bipush 100, 2) := fx_ok0 eX0_retain_0.2.2.2.2.2.2.1
theorem dX0_retain_12 : decode cX0_retain 12 = .ok (.if_icmp .ge 34, 3) := fx_ok0 eX0_retain_0.2.2.2.2.2.2.2.1
theorem dX0_retain_15 : decode cX0_retain 15 = .ok (.aload_n 1, 1) := fx_ok0 eX0_retain_0.2.2.2.2.2.2.2.2.1
theorem dX0_retain_16 : decode cX0_retain 16 = .ok (.aload_n 1, 1) := fx_ok0 eX0_retain_0.2.2.2.2.2.2.2.2.2.1
theorem dX0_retain_17 : decode cX0_retain 17 = .ok (.aload_n 0, 1) := fx_ok0 eX0_retain_0.2.2.2.2.2.2.2.2.2.2.1
theorem dX0_retain_18 : decode cX0_retain 18 = .ok (.iload 4, 2) := fx_ok0 eX0_retain_0.2.2.2.2.2.2.2.2.2.2.2.1
theorem dX0_retain_20 : decode cX0_retain 20 = .ok (.invokevirtual 36, 3) := fx_ok0 eX0_retain_0.2.2.2.2.2.2.2.2.2.2.2.2.1
theorem dX0_retain_23 : decode cX0_retain 23 = .ok (.invokevirtual 29, 3) := fx_ok0 eX0_retain_0.2.2.2.2.2.2.2.2.2.2.2.2.2.1
theorem dX0_retain_26 : decode cX0_retain 26 = .ok (.invokevirtual 32, 3) := fx_ok0 eX0_retain_0.2.2.2.2.2.2.2.2.2.2.2.2.2.2.1
theorem dX0_retain_29 : decode cX0_retain 29 = .ok (.iload_n 2, 1) := fx_ok0 eX0_retain_0.2.2.2.2.2.2.2.2.2.2.2.2.2.2.2
theorem eX0_retain_30 : (fdecl cX0_retain.data.toList 30 = some (.if_icmp .eq 10, 3)) ∧ (fdecl cX0_retain.data.toList 33 = some (.aload_n 0, 1)) ∧ (fdecl cX0_retain.data.toList 34 = some (.iload 4, 2)) ∧ (fdecl cX0_retain.data.toList 36 = some (.invokevirtual 73, 3)) ∧ (fdecl cX0_retain.data.toList 39 = some (.pop, 1)) ∧ (fdecl cX0_retain.data.toList 43 = some (.goto (-35), 3)) ∧ (fdecl cX0_retain.data.toList 46 = some (.iload_n 3, 1)) ∧ (fdecl cX0_retain.data.toList 47 = some (.aload_n 0, 1)) ∧ (fdecl cX0_retain.data.toList 48 = some (.getfield 42, 3)) ∧ (fdecl cX0_retain.data.toList 51 = some (.isub, 1)) ∧ (fdecl cX0_retain.data.toList 52 = some (.ireturn, 1)) := by decide +kernel
theorem dX0_retain_30 : decode cX0_retain 30 = .ok (.if_icmp .eq 10, 3) := fx_ok0 eX0_retain_30.1
theorem dX0_retain_33 : decode cX0_retain 33 = .ok (.aload_n 0, 1) := fx_ok0 eX0_retain_30.2.1
theorem dX0_retain_34 : decode cX0_retain 34 = .ok (.iload 4, 2) := fx_ok0 eX0_retain_30.2.2.1
theorem dX0_retain_36 : decode cX0_retain 36 = .ok (.invokevirtual 73, 3) := fx_ok0 eX0_retain_30.2.2.2.1
theorem dX0_retain_39 : decode cX0_retain 39 = .ok (.pop, 1) := fx_ok0 eX0_retain_30.2.2.2.2.1
theorem dX0_retain_43 : decode cX0_retain 43 = .ok (.goto (-35), 3) := fx_ok0 eX0_retain_30.2.2.2.2.2.1
theorem dX0_retain_46 : decode cX0_retain 46 = .ok (.iload_n 3, 1) := fx_ok0 eX0_retain_30.2.2.2.2.2.2.1
theorem dX0_retain_47 : decode cX0_retain 47 = .ok (.aload_n 0, 1) := fx_ok0 eX0_retain_30.2.2.2.2.2.2.2.1
theorem dX0_retain_48 : decode cX0_retain 48 = .ok (.getfield 42, 3) := fx_ok0 eX0_retain_30.2.2.2.2.2.2.2.2.1
theorem dX0_retain_51 : decode cX0_retain 51 = .ok (.isub, 1) := fx_ok0 eX0_retain_30.2.2.2.2.2.2.2.2.2.1
theorem dX0_retain_52 : decode cX0_retain 52 = .ok (.ireturn, 1) := fx_ok0 eX0_retain_30.2.2.2.2.2.2.2.2.2.2
theorem dX0_retain_40 : decode cX0_retain 40 = .ok (.iinc 4 1, 3) := by decide +kernel
theorem eX0_clearPart_0 : (fdecl cX0_clearPart.data.toList 0 = some (.aload_n 0, 1)) ∧ (fdecl cX0_clearPart.data.toList 1 = some (.getfield 42, 3)) ∧ (fdecl cX0_clearPart.data.toList 4 = some (.istore_n 3, 1)) ∧ (fdecl cX0_clearPart.data.toList 5 = some (.iload_n 1, 1)) ∧ (fdecl cX0_clearPart.data.toList 6 = some (.istore 4, 2)) ∧ (fdecl cX0_clearPart.data.toList 8 = some (.iload 4, 2)) ∧ (fdecl cX0_clearPart.data.toList 10 = some (.iload_n 2, 1)) ∧ (fdecl cX0_clearPart.data.toList 11 = some (.if_icmp .gt 16, 3)) ∧ (fdecl cX0_clearPart.data.toList 14 = some (.aload_n 0, 1)) ∧ (fdecl cX0_clearPart.data.toList 15 = some (.iload 4, 2)) ∧ (fdecl cX0_clearPart.data.toList 17 = some (.invokevirtual 73, 3)) ∧ (fdecl cX0_clearPart.data.toList 20 = some (.pop, 1)) ∧ (fdecl cX0_clearPart.data.toList 24 = some (.goto (-16), 3)) ∧ (fdecl cX0_clearPart.data.toList 27 = some (.iload_n 3, 1)) ∧ (fdecl cX0_clearPart.data.toList 28 = some (.aload_n 0, 1)) ∧ (fdecl cX0_clearPart.data.toList 29 = some (.getfield 42, 3)) := by decide +kernel
theorem dX0_clearPart_0 : decode cX0_clearPart 0 = .ok (.aload_n 0, 1) := fx_ok0 eX0_clearPart_0.1
theorem dX0_clearPart_1 : decode cX0_clearPart 1 = .ok (.getfield 42, 3) := fx_ok0 eX0_clearPart_0.2.1
theorem dX0_clearPart_4 : decode cX0_clearPart 4 = .ok (.istore_n 3, 1) := fx_ok0 eX0_clearPart_0.2.2.1
theorem dX0_clearPart_5 : decode cX0_clearPart 5 = .ok (.iload_n 1, 1) := fx_ok0 eX0_clearPart_0.2.2.2.1
theorem dX0_clearPart_6 : decode cX0_clearPart 6 = .ok (.istore 4, 2) := fx_ok0 eX0_clearPart_0.2.2.2.2.1
theorem dX0_clearPart_8 : decode cX0_clearPart 8 = .ok (.iload 4, 2) := fx_ok0 eX0_clearPart_0.2.2.2.2.2.1
theorem dX0_clearPart_10 : decode cX0_clearPart 10 = .ok (.iload_n 2, 1) := fx_ok0 eX0_clearPart_0.2.2.2.2.2.2.1
theorem dX0_clearPart_11 : decode cX0_clearPart 11 = .ok (.if_icmp .gt 16, 3) := fx_ok0 eX0_clearPart_0.2.2.2.2.2.2.2.1
theorem dX0_clearPart_14 : decode cX0_clearPart 14 = .ok (.aload_n 0, 1) := fx_ok0 eX0_clearPart_0.2.2.2.2.2.2.2.2.1
theorem dX0_clearPart_15 : decode cX0_clearPart 15 = .ok (.iload 4, 2) := fx_ok0 eX0_clearPart_0.2.2.2.2.2.2.2.2.2.1
theorem dX0_clearPart_17 : decode cX0_clearPart 17 = .ok (.invokevirtual 73, 3) := fx_ok0 eX0_clearPart_0.2.2.2.2.2.2.2.2.2.2.1
theorem dX0_clearPart_20 : decode cX0_clearPart 20 = .ok (.pop, 1) := fx_ok0 eX0_clearPart_0.2.2.2.2.2.2.2.2.2.2.2.1
theorem dX0_clearPart_24 : decode cX0_clearPart 24 = .ok (.goto (-16), 3) := fx_ok0 eX0_clearPart_0.2.2.2.2.2.2.2.2.2.2.2.2.1
theorem dX0_clearPart_27 : decode cX0_clearPart 27 = .ok (.iload_n 3, 1) := fx_ok0 eX0_clearPart_0.2.2.2.2.2.2.2.2.2.2.2.2.2.1
theorem dX0_clearPart_28 : decode cX0_clearPart 28 = .ok (.aload_n 0, 1) := fx_ok0 eX0_clearPart_0.2.2.2.2.2.2.2.2.2.2.2.2.2.2.1
theorem dX0_clearPart_29 : decode cX0_clearPart 29 = .ok (.getfield 42, 3) := fx_ok0 eX0_clearPart_0.2.2.2.2.2.2.2.2.2.2.2.2.2.2.2
theorem eX0_clearPart_32 : (fdecl cX0_clearPart.data.toList 32 = some (.isub, 1)) ∧ (fdecl cX0_clearPart.data.toList 33 = some (.ireturn, 1)) := by decide +kernel
theorem dX0_clearPart_32 : decode cX0_clearPart 32 = .ok (.isub, 1) := fx_ok0 eX0_clearPart_32.1
theorem dX0_clearPart_33 : decode cX0_clearPart 33 = .ok (.ireturn, 1) := fx_ok0 eX0_clearPart_32.2
theorem dX0_clearPart_21 : decode cX0_clearPart 21 = .ok (.iinc 4 1, 3) := by decide +kernel
theorem eX0_dropOfPart_0 : (fdecl cX0_dropOfPart.data.toList 0 = some (.iload_n 3, 1)) ∧ (fdecl cX0_dropOfPart.data.toList 1 = some (.iconst 2, 1)) ∧ (fdecl cX0_dropOfPart.data.toList 2 = some (.if_icmp .ne 10, 3)) ∧ (fdecl cX0_dropOfPart.data.toList 5 = some (.aload_n 0, 1)) ∧ (fdecl cX0_dropOfPart.data.toList 6 = some (.iload_n 1, 1)) ∧ (fdecl cX0_dropOfPart.data.toList 7 = some (.iload_n 2, 1)) ∧ (fdecl cX0_dropOfPart.data.toList 8 = some (.invokevirtual 76, 3)) ∧ (fdecl cX0_dropOfPart.data.toList 11 = some (.ireturn, 1)) ∧ (fdecl cX0_dropOfPart.data.toList 12 = some (.aload_n 0, 1)) ∧ (fdecl cX0_dropOfPart.data.toList 13 = some (.iload_n 1, 1)) ∧ (fdecl cX0_dropOfPart.data.toList 14 = some (.iload_n 2, 1)) ∧ (fdecl cX0_dropOfPart.data.toList 15 = some (.iload_n 3, 1)) ∧ (fdecl cX0_dropOfPart.data.toList 16 = some (.iconst 1, 1)) ∧ (fdecl cX0_dropOfPart.data.toList 17 = some (.if_icmp .ne 7, 3)) ∧ (fdecl cX0_dropOfPart.data.toList 20 = some (.iconst 1, 1)) ∧ (fdecl cX0_dropOfPart.data.toList 21 = some (.goto 4, 3)) := by decide +kernel
theorem dX0_dropOfPart_0 : decode cX0_dropOfPart 0 = .ok (.iload_n 3, 1) := fx_ok0 eX0_dropOfPart_0.1
theorem dX0_dropOfPart_1 : decode cX0_dropOfPart 1 = .ok (.iconst 2, 1) := fx_ok0 eX0_dropOfPart_0.2.1
theorem dX0_dropOfPart_2 : decode cX0_dropOfPart 2 = .ok (.if_icmp .ne 10, 3) := fx_ok0 eX0_dropOfPart_0.2.2.1
theorem dX0_dropOfPart_5 : decode cX0_dropOfPart 5 = .ok (.aload_n 0, 1) := fx_ok0 eX0_dropOfPart_0.2.2.2.1
theorem dX0_dropOfPart_6 : decode cX0_dropOfPart 6 = .ok (.iload_n 1, 1) := fx_ok0 eX0_dropOfPart_0.2.2.2.2.1
theorem dX0_dropOfPart_7 : decode cX0_dropOfPart 7 = .ok (.iload_n 2, 1) := fx_ok0 eX0_dropOfPart_0.2.2.2.2.2.1
theorem dX0_dropOfPart_8 : decode cX0_dropOfPart 8 = .ok (.invokevirtual 76, 3) := fx_ok0 eX0_dropOfPart_0.2.2.2.2.2.2.1
theorem dX0_dropOfPart_11 : decode cX0_dropOfPart 11 = .ok (.ireturn, 1) := fx_ok0 eX0_dropOfPart_0.2.2.2.2.2.2.2.1
theorem dX0_dropOfPart_12 : decode cX0_dropOfPart 12 = .ok (.aload_n 0, 1) := fx_ok0 eX0_dropOfPart_0.2.2.2.2.2.2.2.2.1
theorem dX0_dropOfPart_13 : decode cX0_dropOfPart 13 = .ok (.iload_n 1, 1) := fx_ok0 eX0_dropOfPart_0.2.2.2.2.2.2.2.2.2.1
theorem dX0_dropOfPart_14 : decode cX0_dropOfPart 14 = .ok (.iload_n 2, 1) := fx_ok0 eX0_dropOfPart_0.2.2.2.2.2.2.2.2.2.2.1
theorem dX0_dropOfPart_15 : decode cX0_dropOfPart 15 = .ok (.iload_n 3, 1) := fx_ok0 eX0_dropOfPart_0.2.2.2.2.2.2.2.2.2.2.2.1
theorem dX0_dropOfPart_16 : decode cX0_dropOfPart 16 = .ok (.iconst 1, 1) := fx_ok0 eX0_dropOfPart_0.2.2.2.2.2.2.2.2.2.2.2.2.1
theorem dX0_dropOfPart_17 : decode cX0_dropOfPart 17 = .ok (.if_icmp .ne 7, 3) := fx_ok0 eX0_dropOfPart_0.2.2.2.2.2.2.2.2.2.2.2.2.2.1
theorem dX0_dropOfPart_20 : decode cX0_dropOfPart 20 = .ok (.iconst 1, 1) := fx_ok0 eX0_dropOfPart_0.2.2.2.2.2.2.2.2.2.2.2.2.2.2.1
theorem dX0_dropOfPart_21 : decode cX0_dropOfPart 21 = .ok (.goto 4, 3) := fx_ok0 eX0_dropOfPart_0.2.2.2.2.2.2.2.2.2.2.2.2.2.2.2
theorem eX0_dropOfPart_24 : (fdecl cX0_dropOfPart.data.toList 24 = some (.iconst 0, 1)) ∧ (fdecl cX0_dropOfPart.data.toList 25 = some (.invokevirtual 79, 3)) ∧ (fdecl cX0_dropOfPart.data.toList 28 = some (.istore 4, 2)) ∧ (fdecl cX0_dropOfPart.data.toList 30 = some (.aload_n 0, 1)) ∧ (fdecl cX0_dropOfPart.data.toList 31 = some (.iload 4, 2)) ∧ (fdecl cX0_dropOfPart.data.toList 33 = some (.invokevirtual 83, 3)) ∧ (fdecl cX0_dropOfPart.data.toList 36 = some (.istore 5, 2)) ∧ (fdecl cX0_dropOfPart.data.toList 38 = some (.aload_n 0, 1)) ∧ (fdecl cX0_dropOfPart.data.toList 39 = some (.iload 4, 2)) ∧ (fdecl cX0_dropOfPart.data.toList 41 = some (.invokevirtual 73, 3)) ∧ (fdecl cX0_dropOfPart.data.toList 44 = some (.pop, 1)) ∧ (fdecl cX0_dropOfPart.data.toList 45 = some (.iload 5, 2)) ∧ (fdecl cX0_dropOfPart.data.toList 47 = some (.ireturn, 1)) := by decide +kernel
theorem dX0_dropOfPart_24 : decode cX0_dropOfPart 24 = .ok (.iconst 0, 1) := fx_ok0 eX0_dropOfPart_24.1
theorem dX0_dropOfPart_25 : decode cX0_dropOfPart 25 = .ok (.invokevirtual 79, 3) := fx_ok0 eX0_dropOfPart_24.2.1
theorem dX0_dropOfPart_28 : decode cX0_dropOfPart 28 = .ok (.istore 4, 2) := fx_ok0 eX0_dropOfPart_24.2.2.1
theorem dX0_dropOfPart_30 : decode cX0_dropOfPart 30 = .ok (.aload_n 0, 1) := fx_ok0 eX0_dropOfPart_24.2.2.2.1
theorem dX0_dropOfPart_31 : decode cX0_dropOfPart 31 = .ok (.iload 4, 2) := fx_ok0 eX0_dropOfPart_24.2.2.2.2.1
theorem dX0_dropOfPart_33 : decode cX0_dropOfPart 33 = .ok (.invokevirtual 83, 3) := fx_ok0 eX0_dropOfPart_24.2.2.2.2.2.1
theorem dX0_dropOfPart_36 : decode cX0_dropOfPart 36 = .ok (.istore 5, 2) := fx_ok0 eX0_dropOfPart_24.2.2.2.2.2.2.1
theorem dX0_dropOfPart_38 : decode cX0_dropOfPart 38 = .ok (.aload_n 0, 1) := fx_ok0 eX0_dropOfPart_24.2.2.2.2.2.2.2.1
theorem dX0_dropOfPart_39 : decode cX0_dropOfPart 39 = .ok (.iload 4, 2) := fx_ok0 eX0_dropOfPart_24.2.2.2.2.2.2.2.2.1
theorem dX0_dropOfPart_41 : decode cX0_dropOfPart 41 = .ok (.invokevirtual 73, 3) := fx_ok0 eX0_dropOfPart_24.2.2.2.2.2.2.2.2.2.1
theorem dX0_dropOfPart_44 : decode cX0_dropOfPart 44 = .ok (.pop, 1) := fx_ok0 eX0_dropOfPart_24.2.2.2.2.2.2.2.2.2.2.1
theorem dX0_dropOfPart_45 : decode cX0_dropOfPart 45 = .ok (.iload 5, 2) := fx_ok0 eX0_dropOfPart_24.2.2.2.2.2.2.2.2.2.2.2.1
theorem dX0_dropOfPart_47 : decode cX0_dropOfPart 47 = .ok (.ireturn, 1) := fx_ok0 eX0_dropOfPart_24.2.2.2.2.2.2.2.2.2.2.2.2
theorem eX0_dropKeyOfPart_0 : (fdecl cX0_dropKeyOfPart.data.toList 0 = some (.aload_n 0, 1)) ∧ (fdecl cX0_dropKeyOfPart.data.toList 1 = some (.iload_n 1, 1)) ∧ (fdecl cX0_dropKeyOfPart.data.toList 2 = some (.iload_n 2, 1)) ∧ (fdecl cX0_dropKeyOfPart.data.toList 3 = some (.iload_n 3, 1)) ∧ (fdecl cX0_dropKeyOfPart.data.toList 4 = some (.invokevirtual 79, 3)) ∧ (fdecl cX0_dropKeyOfPart.data.toList 7 = some (.istore 4, 2)) ∧ (fdecl cX0_dropKeyOfPart.data.toList 9 = some (.aload_n 0, 1)) ∧ (fdecl cX0_dropKeyOfPart.data.toList 10 = some (.iload 4, 2)) ∧ (fdecl cX0_dropKeyOfPart.data.toList 12 = some (.invokevirtual 73, 3)) ∧ (fdecl cX0_dropKeyOfPart.data.toList 15 = some (.pop, 1)) ∧ (fdecl cX0_dropKeyOfPart.data.toList 16 = some (.aload_n 0, 1)) ∧ (fdecl cX0_dropKeyOfPart.data.toList 17 = some (.iload 4, 2)) ∧ (fdecl cX0_dropKeyOfPart.data.toList 19 = some (.invokevirtual 36, 3)) ∧ (fdecl cX0_dropKeyOfPart.data.toList 22 = some (.ireturn, 1)) := by decide +kernel
theorem dX0_dropKeyOfPart_0 : decode cX0_dropKeyOfPart 0 = .ok (.aload_n 0, 1) := fx_ok0 eX0_dropKeyOfPart_0.1
theorem dX0_dropKeyOfPart_1 : decode cX0_dropKeyOfPart 1 = .ok (.iload_n 1, 1) := fx_ok0 eX0_dropKeyOfPart_0.2.1
theorem dX0_dropKeyOfPart_2 : decode cX0_dropKeyOfPart 2 = .ok (.iload_n 2, 1) := fx_ok0 eX0_dropKeyOfPart_0.2.2.1
theorem dX0_dropKeyOfPart_3 : decode cX0_dropKeyOfPart 3 = .ok (.iload_n 3, 1) := fx_ok0 eX0_dropKeyOfPart_0.2.2.2.1
theorem dX0_dropKeyOfPart_4 : decode cX0_dropKeyOfPart 4 = .ok (.invokevirtual 79, 3) := fx_ok0 eX0_dropKeyOfPart_0.2.2.2.2.1
theorem dX0_dropKeyOfPart_7 : decode cX0_dropKeyOfPart 7 = .ok (.istore 4, 2) := fx_ok0 eX0_dropKeyOfPart_0.2.2.2.2.2.1
theorem dX0_dropKeyOfPart_9 : decode cX0_dropKeyOfPart 9 = .ok (.aload_n 0, 1) := fx_ok0 eX0_dropKeyOfPart_0.2.2.2.2.2.2.1
theorem dX0_dropKeyOfPart_10 : decode cX0_dropKeyOfPart 10 = .ok (.iload 4, 2) := fx_ok0 eX0_dropKeyOfPart_0.2.2.2.2.2.2.2.1
theorem dX0_dropKeyOfPart_12 : decode cX0_dropKeyOfPart 12 = .ok (.invokevirtual 73, 3) := fx_ok0 eX0_dropKeyOfPart_0.2.2.2.2.2.2.2.2.1
theorem dX0_dropKeyOfPart_15 : decode cX0_dropKeyOfPart 15 = .ok (.pop, 1) := fx_ok0 eX0_dropKeyOfPart_0.2.2.2.2.2.2.2.2.2.1
theorem dX0_dropKeyOfPart_16 : decode cX0_dropKeyOfPart 16 = .ok (.aload_n 0, 1) := fx_ok0 eX0_dropKeyOfPart_0.2.2.2.2.2.2.2.2.2.2.1
theorem dX0_dropKeyOfPart_17 : decode cX0_dropKeyOfPart 17 = .ok (.iload 4, 2) := fx_ok0 eX0_dropKeyOfPart_0.2.2.2.2.2.2.2.2.2.2.2.1
theorem dX0_dropKeyOfPart_19 : decode cX0_dropKeyOfPart 19 = .ok (.invokevirtual 36, 3) := fx_ok0 eX0_dropKeyOfPart_0.2.2.2.2.2.2.2.2.2.2.2.2.1
theorem dX0_dropKeyOfPart_22 : decode cX0_dropKeyOfPart 22 = .ok (.ireturn, 1) := fx_ok0 eX0_dropKeyOfPart_0.2.2.2.2.2.2.2.2.2.2.2.2.2
theorem eX1_init_0 : (fdecl cX1_init.data.toList 0 = some (.aload_n 0, 1)) ∧ (fdecl cX1_init.data.toList 1 = some (.invokespecial 3, 3)) ∧ (fdecl cX1_init.data.toList 4 = some (.aload_n 0, 1)) ∧ (fdecl cX1_init.data.toList 5 = some (.aload_n 1, 1)) ∧ (fdecl cX1_init.data.toList 6 = some (.putfield 9, 3)) ∧ (fdecl cX1_init.data.toList 9 = some (.aload_n 0, 1)) ∧ (fdecl cX1_init.data.toList 10 = some (.bipush 99, 2)) ∧ (fdecl cX1_init.data.toList 12 = some (.putfield 15, 3)) ∧ (fdecl cX1_init.data.toList 15 = some (.return_, 1)) := by decide +kernel
theorem dX1_init_0 : decode cX1_init 0 = .ok (.aload_n 0, 1) := fx_ok0 eX1_init_0.1
theorem dX1_init_1 : decode cX1_init 1 = .ok (.invokespecial 3, 3) := fx_ok0 eX1_init_0.2.1
theorem dX1_init_4 : decode cX1_init 4 = .ok (.aload_n 0, 1) := fx_ok0 eX1_init_0.2.2.1
theorem dX1_init_5 : decode cX1_init 5 = .ok (.aload_n 1, 1) := fx_ok0 eX1_init_0.2.2.2.1
theorem dX1_init_6 : decode cX1_init 6 = .ok (.putfield 9, 3) := fx_ok0 eX1_init_0.2.2.2.2.1
theorem dX1_init_9 : decode cX1_init 9 = .ok (.aload_n 0, 1) := fx_ok0 eX1_init_0.2.2.2.2.2.1
theorem dX1_init_10 : decode cX1_init 10 = .ok (.bipush 99, 2) := fx_ok0 eX1_init_0.2.2.2.2.2.2.1
theorem dX1_init_12 : decode cX1_init 12 = .ok (.putfield 15, 3) := fx_ok0 eX1_init_0.2.2.2.2.2.2.2.1
theorem dX1_init_15 : decode cX1_init 15 = .ok (.return_, 1) := fx_ok0 eX1_init_0.2.2.2.2.2.2.2.2
theorem eX1_isWithin_0 : (fdecl cX1_isWithin.data.toList 0 = some (.aload_n 0, 1)) ∧ (fdecl cX1_isWithin.data.toList 1 = some (.getfield 19, 3)) ∧ (fdecl cX1_isWithin.data.toList 4 = some (.iload_n 1, 1)) ∧ (fdecl cX1_isWithin.data.toList 5 = some (.if_icmp .gt 15, 3)) ∧ (fdecl cX1_isWithin.data.toList 8 = some (.iload_n 1, 1)) ∧ (fdecl cX1_isWithin.data.toList 9 = some (.aload_n 0, 1)) ∧ (fdecl cX1_isWithin.data.toList 10 = some (.getfield 15, 3)) ∧ (fdecl cX1_isWithin.data.toList 13 = some (.if_icmp .gt 7, 3)) ∧ (fdecl cX1_isWithin.data.toList 16 = some (.iconst 1, 1)) ∧ (fdecl cX1_isWithin.data.toList 17 = some (.goto 4, 3)) ∧ (fdecl cX1_isWithin.data.toList 20 = some (.iconst 0, 1)) ∧ (fdecl cX1_isWithin.data.toList 21 = some (.ireturn, 1)) := by decide +kernel
theorem dX1_isWithin_0 : decode cX1_isWithin 0 = .ok (.aload_n 0, 1) := fx_ok0 eX1_isWithin_0.1
theorem dX1_isWithin_1 : decode cX1_isWithin 1 = .ok (.getfield 19, 3) := fx_ok0 eX1_isWithin_0.2.1
theorem dX1_isWithin_4 : decode cX1_isWithin 4 = .ok (.iload_n 1, 1) := fx_ok0 eX1_isWithin_0.2.2.1
theorem dX1_isWithin_5 : decode cX1_isWithin 5 = .ok (.if_icmp .gt 15, 3) := fx_ok0 eX1_isWithin_0.2.2.2.1
theorem dX1_isWithin_8 : decode cX1_isWithin 8 = .ok (.iload_n 1, 1) := fx_ok0 eX1_isWithin_0.2.2.2.2.1
theorem dX1_isWithin_9 : decode cX1_isWithin 9 = .ok (.aload_n 0, 1) := fx_ok0 eX1_isWithin_0.2.2.2.2.2.1
theorem dX1_isWithin_10 : decode cX1_isWithin 10 = .ok (.getfield 15, 3) := fx_ok0 eX1_isWithin_0.2.2.2.2.2.2.1
theorem dX1_isWithin_13 : decode cX1_isWithin 13 = .ok (.if_icmp .gt 7, 3) := fx_ok0 eX1_isWithin_0.2.2.2.2.2.2.2.1
theorem dX1_isWithin_16 : decode cX1_isWithin 16 = .ok (.iconst 1, 1) := fx_ok0 eX1_isWithin_0.2.2.2.2.2.2.2.2.1
theorem dX1_isWithin_17 : decode cX1_isWithin 17 = .ok (.goto 4, 3) := fx_ok0 eX1_isWithin_0.2.2.2.2.2.2.2.2.2.1
theorem dX1_isWithin_20 : decode cX1_isWithin 20 = .ok (.iconst 0, 1) := fx_ok0 eX1_isWithin_0.2.2.2.2.2.2.2.2.2.2.1
theorem dX1_isWithin_21 : decode cX1_isWithin 21 = .ok (.ireturn, 1) := fx_ok0 eX1_isWithin_0.2.2.2.2.2.2.2.2.2.2.2
theorem eX2_init_0 : (fdecl cX2_init.data.toList 0 = some (.aload_n 0, 1)) ∧ (fdecl cX2_init.data.toList 1 = some (.invokespecial 3, 3)) ∧ (fdecl cX2_init.data.toList 4 = some (.return_, 1)) := by decide +kernel
theorem dX2_init_0 : decode cX2_init 0 = .ok (.aload_n 0, 1) := fx_ok0 eX2_init_0.1
theorem dX2_init_1 : decode cX2_init 1 = .ok (.invokespecial 3, 3) := fx_ok0 eX2_init_0.2.1
theorem dX2_init_4 : decode cX2_init 4 = .ok (.return_, 1) := fx_ok0 eX2_init_0.2.2
theorem eX2_begin_0 : (fdecl cX2_begin.data.toList 0 = some (.aload_n 0, 1)) ∧ (fdecl cX2_begin.data.toList 1 = some (.aload_n 1, 1)) ∧ (fdecl cX2_begin.data.toList 2 = some (.putfield 9, 3)) ∧ (fdecl cX2_begin.data.toList 5 = some (.aload_n 0, 1)) ∧ (fdecl cX2_begin.data.toList 6 = some (.aload_n 1, 1)) ∧ (fdecl cX2_begin.data.toList 7 = some (.getfield 15, 3)) ∧ (fdecl cX2_begin.data.toList 10 = some (.putfield 21, 3)) ∧ (fdecl cX2_begin.data.toList 13 = some (.aload_n 0, 1)) ∧ (fdecl cX2_begin.data.toList 14 = some (.iconst (-1), 1)) ∧ (fdecl cX2_begin.data.toList 15 = some (.putfield 24, 3)) ∧ (fdecl cX2_begin.data.toList 18 = some (.aload_n 0, 1)) ∧ (fdecl cX2_begin.data.toList 19 = some (.iconst 0, 1)) ∧ (fdecl cX2_begin.data.toList 20 = some (.putfield 27, 3)) ∧ (fdecl cX2_begin.data.toList 23 = some (.return_, 1)) := by decide +kernel
theorem dX2_begin_0 : decode cX2_begin 0 = .ok (.aload_n 0, 1) := fx_ok0 eX2_begin_0.1
theorem dX2_begin_1 : decode cX2_begin 1 = .ok (.aload_n 1, 1) := fx_ok0 eX2_begin_0.2.1
theorem dX2_begin_2 : decode cX2_begin 2 = .ok (.putfield 9, 3) := fx_ok0 eX2_begin_0.2.2.1
theorem dX2_begin_5 : decode cX2_begin 5 = .ok (.aload_n 0, 1) := fx_ok0 eX2_begin_0.2.2.2.1
theorem dX2_begin_6 : decode cX2_begin 6 = .ok (.aload_n 1, 1) := fx_ok0 eX2_begin_0.2.2.2.2.1
theorem dX2_begin_7 : decode cX2_begin 7 = .ok (.getfield 15, 3) := fx_ok0 eX2_begin_0.2.2.2.2.2.1
theorem dX2_begin_10 : decode cX2_begin 10 = .ok (.putfield 21, 3) := fx_ok0 eX2_begin_0.2.2.2.2.2.2.1
theorem dX2_begin_13 : decode cX2_begin 13 = .ok (.aload_n 0, 1) := fx_ok0 eX2_begin_0.2.2.2.2.2.2.2.1
theorem dX2_begin_14 : decode cX2_begin 14 = .ok (.iconst (-1), 1) := fx_ok0 eX2_begin_0.2.2.2.2.2.2.2.2.1
theorem dX2_begin_15 : decode cX2_begin 15 = .ok (.putfield 24, 3) := fx_ok0 eX2_begin_0.2.2.2.2.2.2.2.2.2.1
theorem dX2_begin_18 : decode cX2_begin 18 = .ok (.aload_n 0, 1) := fx_ok0 eX2_begin_0.2.2.2.2.2.2.2.2.2.2.1
theorem dX2_begin_19 : decode cX2_begin 19 = .ok (.iconst 0, 1) := fx_ok0 eX2_begin_0.2.2.2.2.2.2.2.2.2.2.2.1
theorem dX2_begin_20 : decode cX2_begin 20 = .ok (.putfield 27, 3) := fx_ok0 eX2_begin_0.2.2.2.2.2.2.2.2.2.2.2.2.1
theorem dX2_begin_23 : decode cX2_begin 23 = .ok (.return_, 1) := fx_ok0 eX2_begin_0.2.2.2.2.2.2.2.2.2.2.2.2.2
theorem eX2_isGoing_0 : (fdecl cX2_isGoing.data.toList 0 = some (.aload_n 0, 1)) ∧ (fdecl cX2_isGoing.data.toList 1 = some (.getfield 9, 3)) ∧ (fdecl cX2_isGoing.data.toList 4 = some (.ifnull 21, 3)) ∧ (fdecl cX2_isGoing.data.toList 7 = some (.aload_n 0, 1)) ∧ (fdecl cX2_isGoing.data.toList 8 = some (.getfield 9, 3)) ∧ (fdecl cX2_isGoing.data.toList 11 = some (.getfield 15, 3)) ∧ (fdecl cX2_isGoing.data.toList 14 = some (.aload_n 0, 1)) ∧ (fdecl cX2_isGoing.data.toList 15 = some (.getfield 21, 3)) ∧ (fdecl cX2_isGoing.data.toList 18 = some (.if_icmp .ne 7, 3)) ∧ (fdecl cX2_isGoing.data.toList 21 = some (.iconst 1, 1)) ∧ (fdecl cX2_isGoing.data.toList 22 = some (.goto 4, 3)) ∧ (fdecl cX2_isGoing.data.toList 25 = some (.iconst 0, 1)) ∧ (fdecl cX2_isGoing.data.toList 26 = some (.ireturn, 1)) := by decide +kernel
theorem dX2_isGoing_0 : decode cX2_isGoing 0 = .ok (.aload_n 0, 1) := fx_ok0 eX2_isGoing_0.1
theorem dX2_isGoing_1 : decode cX2_isGoing 1 = .ok (.getfield 9, 3) := fx_ok0 eX2_isGoing_0.2.1
theorem dX2_isGoing_4 : decode cX2_isGoing 4 = .ok (.ifnull 21, 3) := fx_ok0 eX2_isGoing_0.2.2.1
theorem dX2_isGoing_7 : decode cX2_isGoing 7 = .ok (.aload_n 0, 1) := fx_ok0 eX2_isGoing_0.2.2.2.1
theorem dX2_isGoing_8 : decode cX2_isGoing 8 = .ok (.getfield 9, 3) := fx_ok0 eX2_isGoing_0.2.2.2.2.1
theorem dX2_isGoing_11 : decode cX2_isGoing 11 = .ok (.getfield 15, 3) := fx_ok0 eX2_isGoing_0.2.2.2.2.2.1
theorem dX2_isGoing_14 : decode cX2_isGoing 14 = .ok (.aload_n 0, 1) := fx_ok0 eX2_isGoing_0.2.2.2.2.2.2.1
theorem dX2_isGoing_15 : decode cX2_isGoing 15 = .ok (.getfield 21, 3) := fx_ok0 eX2_isGoing_0.2.2.2.2.2.2.2.1
theorem dX2_isGoing_18 : decode cX2_isGoing 18 = .ok (.if_icmp .ne 7, 3) := fx_ok0 eX2_isGoing_0.2.2.2.2.2.2.2.2.1
theorem dX2_isGoing_21 : decode cX2_isGoing 21 = .ok (.iconst 1, 1) := fx_ok0 eX2_isGoing_0.2.2.2.2.2.2.2.2.2.1
theorem dX2_isGoing_22 : decode cX2_isGoing 22 = .ok (.goto 4, 3) := fx_ok0 eX2_isGoing_0.2.2.2.2.2.2.2.2.2.2.1
theorem dX2_isGoing_25 : decode cX2_isGoing 25 = .ok (.iconst 0, 1) := fx_ok0 eX2_isGoing_0.2.2.2.2.2.2.2.2.2.2.2.1
theorem dX2_isGoing_26 : decode cX2_isGoing 26 = .ok (.ireturn, 1) := fx_ok0 eX2_isGoing_0.2.2.2.2.2.2.2.2.2.2.2.2
theorem eX2_isTelling_0 : (fdecl cX2_isTelling.data.toList 0 = some (.aload_n 0, 1)) ∧ (fdecl cX2_isTelling.data.toList 1 = some (.getfield 9, 3)) ∧ (fdecl cX2_isTelling.data.toList 4 = some (.ifnull 14, 3)) ∧ (fdecl cX2_isTelling.data.toList 7 = some (.aload_n 0, 1)) ∧ (fdecl cX2_isTelling.data.toList 8 = some (.getfield 27, 3)) ∧ (fdecl cX2_isTelling.data.toList 11 = some (.ifCond .eq 7, 3)) ∧ (fdecl cX2_isTelling.data.toList 14 = some (.iconst 1, 1)) ∧ (fdecl cX2_isTelling.data.toList 15 = some (.goto 4, 3)) ∧ (fdecl cX2_isTelling.data.toList 18 = some (.iconst 0, 1)) ∧ (fdecl cX2_isTelling.data.toList 19 = some (.ireturn, 1)) := by decide +kernel
theorem dX2_isTelling_0 : decode cX2_isTelling 0 = .ok (.aload_n 0, 1) := fx_ok0 eX2_isTelling_0.1
theorem dX2_isTelling_1 : decode cX2_isTelling 1 = .ok (.getfield 9, 3) := fx_ok0 eX2_isTelling_0.2.1
theorem dX2_isTelling_4 : decode cX2_isTelling 4 = .ok (.ifnull 14, 3) := fx_ok0 eX2_isTelling_0.2.2.1
theorem dX2_isTelling_7 : decode cX2_isTelling 7 = .ok (.aload_n 0, 1) := fx_ok0 eX2_isTelling_0.2.2.2.1
theorem dX2_isTelling_8 : decode cX2_isTelling 8 = .ok (.getfield 27, 3) := fx_ok0 eX2_isTelling_0.2.2.2.2.1
theorem dX2_isTelling_11 : decode cX2_isTelling 11 = .ok (.ifCond .eq 7, 3) := fx_ok0 eX2_isTelling_0.2.2.2.2.2.1
theorem dX2_isTelling_14 : decode cX2_isTelling 14 = .ok (.iconst 1, 1) := fx_ok0 eX2_isTelling_0.2.2.2.2.2.2.1
theorem dX2_isTelling_15 : decode cX2_isTelling 15 = .ok (.goto 4, 3) := fx_ok0 eX2_isTelling_0.2.2.2.2.2.2.2.1
theorem dX2_isTelling_18 : decode cX2_isTelling 18 = .ok (.iconst 0, 1) := fx_ok0 eX2_isTelling_0.2.2.2.2.2.2.2.2.1
theorem dX2_isTelling_19 : decode cX2_isTelling 19 = .ok (.ireturn, 1) := fx_ok0 eX2_isTelling_0.2.2.2.2.2.2.2.2.2
theorem eX2_forgetIfOn_0 : (fdecl cX2_forgetIfOn.data.toList 0 = some (.aload_n 0, 1)) ∧ (fdecl cX2_forgetIfOn.data.toList 1 = some (.getfield 9, 3)) ∧ (fdecl cX2_forgetIfOn.data.toList 4 = some (.aload_n 1, 1)) ∧ (fdecl cX2_forgetIfOn.data.toList 5 = some (.if_acmp .ne 8, 3)) ∧ (fdecl cX2_forgetIfOn.data.toList 8 = some (.aload_n 0, 1)) ∧ (fdecl cX2_forgetIfOn.data.toList 9 = some (.iconst 0, 1)) ∧ (fdecl cX2_forgetIfOn.data.toList 10 = some (.putfield 27, 3)) ∧ (fdecl cX2_forgetIfOn.data.toList 13 = some (.return_, 1)) := by decide +kernel
theorem dX2_forgetIfOn_0 : decode cX2_forgetIfOn 0 = .ok (.aload_n 0, 1) := fx_ok0 eX2_forgetIfOn_0.1
theorem dX2_forgetIfOn_1 : decode cX2_forgetIfOn 1 = .ok (.getfield 9, 3) := fx_ok0 eX2_forgetIfOn_0.2.1
theorem dX2_forgetIfOn_4 : decode cX2_forgetIfOn 4 = .ok (.aload_n 1, 1) := fx_ok0 eX2_forgetIfOn_0.2.2.1
theorem dX2_forgetIfOn_5 : decode cX2_forgetIfOn 5 = .ok (.if_acmp .ne 8, 3) := fx_ok0 eX2_forgetIfOn_0.2.2.2.1
theorem dX2_forgetIfOn_8 : decode cX2_forgetIfOn 8 = .ok (.aload_n 0, 1) := fx_ok0 eX2_forgetIfOn_0.2.2.2.2.1
theorem dX2_forgetIfOn_9 : decode cX2_forgetIfOn 9 = .ok (.iconst 0, 1) := fx_ok0 eX2_forgetIfOn_0.2.2.2.2.2.1
theorem dX2_forgetIfOn_10 : decode cX2_forgetIfOn 10 = .ok (.putfield 27, 3) := fx_ok0 eX2_forgetIfOn_0.2.2.2.2.2.2.1
theorem dX2_forgetIfOn_13 : decode cX2_forgetIfOn 13 = .ok (.return_, 1) := fx_ok0 eX2_forgetIfOn_0.2.2.2.2.2.2.2
theorem eX2_tellNext_0 : (fdecl cX2_tellNext.data.toList 0 = some (.aload_n 0, 1)) ∧ (fdecl cX2_tellNext.data.toList 1 = some (.getfield 9, 3)) ∧ (fdecl cX2_tellNext.data.toList 4 = some (.ifnonnull 5, 3)) ∧ (fdecl cX2_tellNext.data.toList 7 = some (.iconst (-1), 1)) ∧ (fdecl cX2_tellNext.data.toList 8 = some (.ireturn, 1)) ∧ (fdecl cX2_tellNext.data.toList 9 = some (.aload_n 0, 1)) ∧ (fdecl cX2_tellNext.data.toList 10 = some (.getfield 9, 3)) ∧ (fdecl cX2_tellNext.data.toList 13 = some (.aload_n 0, 1)) ∧ (fdecl cX2_tellNext.data.toList 14 = some (.getfield 24, 3)) ∧ (fdecl cX2_tellNext.data.toList 17 = some (.iconst 1, 1)) ∧ (fdecl cX2_tellNext.data.toList 18 = some (.iadd, 1)) ∧ (fdecl cX2_tellNext.data.toList 19 = some (.bipush 99, 2)) ∧ (fdecl cX2_tellNext.data.toList 21 = some (.invokevirtual 31, 3)) ∧ (fdecl cX2_tellNext.data.toList 24 = some (.istore_n 1, 1)) ∧ (fdecl cX2_tellNext.data.toList 25 = some (.iload_n 1, 1)) ∧ (fdecl cX2_tellNext.data.toList 26 = some (.iconst (-1), 1)) := by decide +kernel
theorem dX2_tellNext_0 : decode cX2_tellNext 0 = .ok (.aload_n 0, 1) := fx_ok0 eX2_tellNext_0.1
theorem dX2_tellNext_1 : decode cX2_tellNext 1 = .ok (.getfield 9, 3) := fx_ok0 eX2_tellNext_0.2.1
theorem dX2_tellNext_4 : decode cX2_tellNext 4 = .ok (.ifnonnull 5, 3) := fx_ok0 eX2_tellNext_0.2.2.1
theorem dX2_tellNext_7 : decode cX2_tellNext 7 = .ok (.iconst (-1), 1) := fx_ok0 eX2_tellNext_0.2.2.2.1
theorem dX2_tellNext_8 : decode cX2_tellNext 8 = .ok (.ireturn, 1) := fx_ok0 eX2_tellNext_0.2.2.2.2.1
theorem dX2_tellNext_9 : decode cX2_tellNext 9 = .ok (.aload_n 0, 1) := fx_ok0 eX2_tellNext_0.2.2.2.2.2.1
theorem dX2_tellNext_10 : decode cX2_tellNext 10 = .ok (.getfield 9, 3) := fx_ok0 eX2_tellNext_0.2.2.2.2.2.2.1
theorem dX2_tellNext_13 : decode cX2_tellNext 13 = .ok (.aload_n 0, 1) := fx_ok0 eX2_tellNext_0.2.2.2.2.2.2.2.1
theorem dX2_tellNext_14 : decode cX2_tellNext 14 = .ok (.getfield 24, 3) := fx_ok0 eX2_tellNext_0.2.2.2.2.2.2.2.2.1
theorem dX2_tellNext_17 : decode cX2_tellNext 17 = .ok (.iconst 1, 1) := fx_ok0 eX2_tellNext_0.2.2.2.2.2.2.2.2.2.1
theorem dX2_tellNext_18 : decode cX2_tellNext 18 = .ok (.iadd, 1) := fx_ok0 eX2_tellNext_0.2.2.2.2.2.2.2.2.2.2.1
theorem dX2_tellNext_19 : decode cX2_tellNext 19 = .ok (.bipush 99, 2) := fx_ok0 eX2_tellNext_0.2.2.2.2.2.2.2.2.2.2.2.1
theorem dX2_tellNext_21 : decode cX2_tellNext 21 = .ok (.invokevirtual 31, 3) := fx_ok0 eX2_tellNext_0.2.2.2.2.2.2.2.2.2.2.2.2.1
theorem dX2_tellNext_24 : decode cX2_tellNext 24 = .ok (.istore_n 1, 1) := fx_ok0 eX2_tellNext_0.2.2.2.2.2.2.2.2.2.2.2.2.2.1
theorem dX2_tellNext_25 : decode cX2_tellNext 25 = .ok (.iload_n 1, 1) := fx_ok0 eX2_tellNext_0.2.2.2.2.2.2.2.2.2.2.2.2.2.2.1
theorem dX2_tellNext_26 : decode cX2_tellNext 26 = .ok (.iconst (-1), 1) := fx_ok0 eX2_tellNext_0.2.2.2.2.2.2.2.2.2.2.2.2.2.2.2
theorem eX2_tellNext_27 : (fdecl cX2_tellNext.data.toList 27 = some (.if_icmp .ne 5, 3)) ∧ (fdecl cX2_tellNext.data.toList 30 = some (.iconst (-1), 1)) ∧ (fdecl cX2_tellNext.data.toList 31 = some (.ireturn, 1)) ∧ (fdecl cX2_tellNext.data.toList 32 = some (.aload_n 0, 1)) ∧ (fdecl cX2_tellNext.data.toList 33 = some (.iload_n 1, 1)) ∧ (fdecl cX2_tellNext.data.toList 34 = some (.putfield 24, 3)) ∧ (fdecl cX2_tellNext.data.toList 37 = some (.aload_n 0, 1)) ∧ (fdecl cX2_tellNext.data.toList 38 = some (.iconst 1, 1)) ∧ (fdecl cX2_tellNext.data.toList 39 = some (.putfield 27, 3)) ∧ (fdecl cX2_tellNext.data.toList 42 = some (.aload_n 0, 1)) ∧ (fdecl cX2_tellNext.data.toList 43 = some (.getfield 9, 3)) ∧ (fdecl cX2_tellNext.data.toList 46 = some (.iload_n 1, 1)) ∧ (fdecl cX2_tellNext.data.toList 47 = some (.invokevirtual 35, 3)) ∧ (fdecl cX2_tellNext.data.toList 50 = some (.ireturn, 1)) := by decide +kernel
theorem dX2_tellNext_27 : decode cX2_tellNext 27 = .ok (.if_icmp .ne 5, 3) := fx_ok0 eX2_tellNext_27.1
theorem dX2_tellNext_30 : decode cX2_tellNext 30 = .ok (.iconst (-1), 1) := fx_ok0 eX2_tellNext_27.2.1
theorem dX2_tellNext_31 : decode cX2_tellNext 31 = .ok (.ireturn, 1) := fx_ok0 eX2_tellNext_27.2.2.1
theorem dX2_tellNext_32 : decode cX2_tellNext 32 = .ok (.aload_n 0, 1) := fx_ok0 eX2_tellNext_27.2.2.2.1
theorem dX2_tellNext_33 : decode cX2_tellNext 33 = .ok (.iload_n 1, 1) := fx_ok0 eX2_tellNext_27.2.2.2.2.1
theorem dX2_tellNext_34 : decode cX2_tellNext 34 = .ok (.putfield 24, 3) := fx_ok0 eX2_tellNext_27.2.2.2.2.2.1
theorem dX2_tellNext_37 : decode cX2_tellNext 37 = .ok (.aload_n 0, 1) := fx_ok0 eX2_tellNext_27.2.2.2.2.2.2.1
theorem dX2_tellNext_38 : decode cX2_tellNext 38 = .ok (.iconst 1, 1) := fx_ok0 eX2_tellNext_27.2.2.2.2.2.2.2.1
theorem dX2_tellNext_39 : decode cX2_tellNext 39 = .ok (.putfield 27, 3) := fx_ok0 eX2_tellNext_27.2.2.2.2.2.2.2.2.1
theorem dX2_tellNext_42 : decode cX2_tellNext 42 = .ok (.aload_n 0, 1) := fx_ok0 eX2_tellNext_27.2.2.2.2.2.2.2.2.2.1
theorem dX2_tellNext_43 : decode cX2_tellNext 43 = .ok (.getfield 9, 3) := fx_ok0 eX2_tellNext_27.2.2.2.2.2.2.2.2.2.2.1
theorem dX2_tellNext_46 : decode cX2_tellNext 46 = .ok (.iload_n 1, 1) := fx_ok0 eX2_tellNext_27.2.2.2.2.2.2.2.2.2.2.2.1
theorem dX2_tellNext_47 : decode cX2_tellNext 47 = .ok (.invokevirtual 35, 3) := fx_ok0 eX2_tellNext_27.2.2.2.2.2.2.2.2.2.2.2.2.1
theorem dX2_tellNext_50 : decode cX2_tellNext 50 = .ok (.ireturn, 1) := fx_ok0 eX2_tellNext_27.2.2.2.2.2.2.2.2.2.2.2.2.2
theorem eX2_setTold_0 : (fdecl cX2_setTold.data.toList 0 = some (.aload_n 0, 1)) ∧ (fdecl cX2_setTold.data.toList 1 = some (.getfield 9, 3)) ∧ (fdecl cX2_setTold.data.toList 4 = some (.ifnonnull 7, 3)) ∧ (fdecl cX2_setTold.data.toList 7 = some (.iconst (-1), 1)) ∧ (fdecl cX2_setTold.data.toList 8 = some (.goto 15, 3)) ∧ (fdecl cX2_setTold.data.toList 11 = some (.aload_n 0, 1)) ∧ (fdecl cX2_setTold.data.toList 12 = some (.getfield 9, 3)) ∧ (fdecl cX2_setTold.data.toList 15 = some (.aload_n 0, 1)) ∧ (fdecl cX2_setTold.data.toList 16 = some (.getfield 24, 3)) ∧ (fdecl cX2_setTold.data.toList 19 = some (.iload_n 1, 1)) ∧ (fdecl cX2_setTold.data.toList 20 = some (.invokevirtual 39, 3)) ∧ (fdecl cX2_setTold.data.toList 23 = some (.ireturn, 1)) := by decide +kernel
theorem dX2_setTold_0 : decode cX2_setTold 0 = .ok (.aload_n 0, 1) := fx_ok0 eX2_setTold_0.1
theorem dX2_setTold_1 : decode cX2_setTold 1 = .ok (.getfield 9, 3) := fx_ok0 eX2_setTold_0.2.1
theorem dX2_setTold_4 : decode cX2_setTold 4 = .ok (.ifnonnull 7, 3) := fx_ok0 eX2_setTold_0.2.2.1
theorem dX2_setTold_7 : decode cX2_setTold 7 = .ok (.iconst (-1), 1) := fx_ok0 eX2_setTold_0.2.2.2.1
theorem dX2_setTold_8 : decode cX2_setTold 8 = .ok (.goto 15, 3) := fx_ok0 eX2_setTold_0.2.2.2.2.1
theorem dX2_setTold_11 : decode cX2_setTold 11 = .ok (.aload_n 0, 1) := fx_ok0 eX2_setTold_0.2.2.2.2.2.1
theorem dX2_setTold_12 : decode cX2_setTold 12 = .ok (.getfield 9, 3) := fx_ok0 eX2_setTold_0.2.2.2.2.2.2.1
theorem dX2_setTold_15 : decode cX2_setTold 15 = .ok (.aload_n 0, 1) := fx_ok0 eX2_setTold_0.2.2.2.2.2.2.2.1
theorem dX2_setTold_16 : decode cX2_setTold 16 = .ok (.getfield 24, 3) := fx_ok0 eX2_setTold_0.2.2.2.2.2.2.2.2.1
theorem dX2_setTold_19 : decode cX2_setTold 19 = .ok (.iload_n 1, 1) := fx_ok0 eX2_setTold_0.2.2.2.2.2.2.2.2.2.1
theorem dX2_setTold_20 : decode cX2_setTold 20 = .ok (.invokevirtual 39, 3) := fx_ok0 eX2_setTold_0.2.2.2.2.2.2.2.2.2.2.1
theorem dX2_setTold_23 : decode cX2_setTold 23 = .ok (.ireturn, 1) := fx_ok0 eX2_setTold_0.2.2.2.2.2.2.2.2.2.2.2
theorem eX2_removeTold_0 : (fdecl cX2_removeTold.data.toList 0 = some (.aload_n 0, 1)) ∧ (fdecl cX2_removeTold.data.toList 1 = some (.getfield 9, 3)) ∧ (fdecl cX2_removeTold.data.toList 4 = some (.ifnonnull 5, 3)) ∧ (fdecl cX2_removeTold.data.toList 7 = some (.iconst (-1), 1)) ∧ (fdecl cX2_removeTold.data.toList 8 = some (.ireturn, 1)) ∧ (fdecl cX2_removeTold.data.toList 9 = some (.aload_n 0, 1)) ∧ (fdecl cX2_removeTold.data.toList 10 = some (.getfield 9, 3)) ∧ (fdecl cX2_removeTold.data.toList 13 = some (.aload_n 0, 1)) ∧ (fdecl cX2_removeTold.data.toList 14 = some (.getfield 24, 3)) ∧ (fdecl cX2_removeTold.data.toList 17 = some (.invokevirtual 35, 3)) ∧ (fdecl cX2_removeTold.data.toList 20 = some (.istore_n 1, 1)) ∧ (fdecl cX2_removeTold.data.toList 21 = some (.aload_n 0, 1)) ∧ (fdecl cX2_removeTold.data.toList 22 = some (.getfield 9, 3)) ∧ (fdecl cX2_removeTold.data.toList 25 = some (.aload_n 0, 1)) ∧ (fdecl cX2_removeTold.data.toList 26 = some (.getfield 24, 3)) ∧ (fdecl cX2_removeTold.data.toList 29 = some (.invokevirtual 42, 3)) := by decide +kernel
theorem dX2_removeTold_0 : decode cX2_removeTold 0 = .ok (.aload_n 0, 1) := fx_ok0 eX2_removeTold_0.1
theorem dX2_removeTold_1 : decode cX2_removeTold 1 = .ok (.getfield 9, 3) := fx_ok0 eX2_removeTold_0.2.1
theorem dX2_removeTold_4 : decode cX2_removeTold 4 = .ok (.ifnonnull 5, 3) := fx_ok0 eX2_removeTold_0.2.2.1
theorem dX2_removeTold_7 : decode cX2_removeTold 7 = .ok (.iconst (-1), 1) := fx_ok0 eX2_removeTold_0.2.2.2.1
theorem dX2_removeTold_8 : decode cX2_removeTold 8 = .ok (.ireturn, 1) := fx_ok0 eX2_removeTold_0.2.2.2.2.1
theorem dX2_removeTold_9 : decode cX2_removeTold 9 = .ok (.aload_n 0, 1) := fx_ok0 eX2_removeTold_0.2.2.2.2.2.1
theorem dX2_removeTold_10 : decode cX2_removeTold 10 = .ok (.getfield 9, 3) := fx_ok0 eX2_removeTold_0.2.2.2.2.2.2.1
theorem dX2_removeTold_13 : decode cX2_removeTold 13 = .ok (.aload_n 0, 1) := fx_ok0 eX2_removeTold_0.2.2.2.2.2.2.2.1
theorem dX2_removeTold_14 : decode cX2_removeTold 14 = .ok (.getfield 24, 3) := fx_ok0 eX2_removeTold_0.2.2.2.2.2.2.2.2.1
theorem dX2_removeTold_17 : decode cX2_removeTold 17 = .ok (.invokevirtual 35, 3) := fx_ok0 eX2_removeTold_0.2.2.2.2.2.2.2.2.2.1
theorem dX2_removeTold_20 : decode cX2_removeTold 20 = .ok (.istore_n 1, 1) := fx_ok0 eX2_removeTold_0.2.2.2.2.2.2.2.2.2.2.1
theorem dX2_removeTold_21 : decode cX2_removeTold 21 = .ok (.aload_n 0, 1) := fx_ok0 eX2_removeTold_0.2.2.2.2.2.2.2.2.2.2.2.1
theorem dX2_removeTold_22 : decode cX2_removeTold 22 = .ok (.getfield 9, 3) := fx_ok0 eX2_removeTold_0.2.2.2.2.2.2.2.2.2.2.2.2.1
theorem dX2_removeTold_25 : decode cX2_removeTold 25 = .ok (.aload_n 0, 1) := fx_ok0 eX2_removeTold_0.2.2.2.2.2.2.2.2.2.2.2.2.2.1
theorem dX2_removeTold_26 : decode cX2_removeTold 26 = .ok (.getfield 24, 3) := fx_ok0 eX2_removeTold_0.2.2.2.2.2.2.2.2.2.2.2.2.2.2.1
theorem dX2_removeTold_29 : decode cX2_removeTold 29 = .ok (.invokevirtual 42, 3) := fx_ok0 eX2_removeTold_0.2.2.2.2.2.2.2.2.2.2.2.2.2.2.2
theorem eX2_removeTold_32 : (fdecl cX2_removeTold.data.toList 32 = some (.pop, 1)) ∧ (fdecl cX2_removeTold.data.toList 33 = some (.aload_n 0, 1)) ∧ (fdecl cX2_removeTold.data.toList 34 = some (.aload_n 0, 1)) ∧ (fdecl cX2_removeTold.data.toList 35 = some (.getfield 9, 3)) ∧ (fdecl cX2_removeTold.data.toList 38 = some (.getfield 15, 3)) ∧ (fdecl cX2_removeTold.data.toList 41 = some (.putfield 21, 3)) ∧ (fdecl cX2_removeTold.data.toList 44 = some (.aload_n 0, 1)) ∧ (fdecl cX2_removeTold.data.toList 45 = some (.iconst 0, 1)) ∧ (fdecl cX2_removeTold.data.toList 46 = some (.putfield 27, 3)) ∧ (fdecl cX2_removeTold.data.toList 49 = some (.iload_n 1, 1)) ∧ (fdecl cX2_removeTold.data.toList 50 = some (.ireturn, 1)) := by decide +kernel
theorem dX2_removeTold_32 : decode cX2_removeTold 32 = .ok (.pop, 1) := fx_ok0 eX2_removeTold_32.1
theorem dX2_removeTold_33 : decode cX2_removeTold 33 = .ok (.aload_n 0, 1) := fx_ok0 eX2_removeTold_32.2.1
theorem dX2_removeTold_34 : decode cX2_removeTold 34 = .ok (.aload_n 0, 1) := fx_ok0 eX2_removeTold_32.2.2.1
theorem dX2_removeTold_35 : decode cX2_removeTold 35 = .ok (.getfield 9, 3) := fx_ok0 eX2_removeTold_32.2.2.2.1
theorem dX2_removeTold_38 : decode cX2_removeTold 38 = .ok (.getfield 15, 3) := fx_ok0 eX2_removeTold_32.2.2.2.2.1
theorem dX2_removeTold_41 : decode cX2_removeTold 41 = .ok (.putfield 21, 3) := fx_ok0 eX2_removeTold_32.2.2.2.2.2.1
theorem dX2_removeTold_44 : decode cX2_removeTold 44 = .ok (.aload_n 0, 1) := fx_ok0 eX2_removeTold_32.2.2.2.2.2.2.1
theorem dX2_removeTold_45 : decode cX2_removeTold 45 = .ok (.iconst 0, 1) := fx_ok0 eX2_removeTold_32.2.2.2.2.2.2.2.1
theorem dX2_removeTold_46 : decode cX2_removeTold 46 = .ok (.putfield 27, 3) := fx_ok0 eX2_removeTold_32.2.2.2.2.2.2.2.2.1
theorem dX2_removeTold_49 : decode cX2_removeTold 49 = .ok (.iload_n 1, 1) := fx_ok0 eX2_removeTold_32.2.2.2.2.2.2.2.2.2.1
theorem dX2_removeTold_50 : decode cX2_removeTold 50 = .ok (.ireturn, 1) := fx_ok0 eX2_removeTold_32.2.2.2.2.2.2.2.2.2.2
theorem eX2_toldKey_0 : (fdecl cX2_toldKey.data.toList 0 = some (.aload_n 0, 1)) ∧ (fdecl cX2_toldKey.data.toList 1 = some (.getfield 9, 3)) ∧ (fdecl cX2_toldKey.data.toList 4 = some (.ifnull 24, 3)) ∧ (fdecl cX2_toldKey.data.toList 7 = some (.aload_n 0, 1)) ∧ (fdecl cX2_toldKey.data.toList 8 = some (.getfield 27, 3)) ∧ (fdecl cX2_toldKey.data.toList 11 = some (.ifCond .eq 17, 3)) ∧ (fdecl cX2_toldKey.data.toList 14 = some (.aload_n 0, 1)) ∧ (fdecl cX2_toldKey.data.toList 15 = some (.getfield 9, 3)) ∧ (fdecl cX2_toldKey.data.toList 18 = some (.aload_n 0, 1)) ∧ (fdecl cX2_toldKey.data.toList 19 = some (.getfield 24, 3)) ∧ (fdecl cX2_toldKey.data.toList 22 = some (.invokevirtual 45, 3)) ∧ (fdecl cX2_toldKey.data.toList 25 = some (.goto 4, 3)) ∧ (fdecl cX2_toldKey.data.toList 28 = some (.iconst (-1), 1)) ∧ (fdecl cX2_toldKey.data.toList 29 = some (.ireturn, 1)) := by decide +kernel
theorem dX2_toldKey_0 : decode cX2_toldKey 0 = .ok (.aload_n 0, 1) := fx_ok0 eX2_toldKey_0.1
theorem dX2_toldKey_1 : decode cX2_toldKey 1 = .ok (.getfield 9, 3) := fx_ok0 eX2_toldKey_0.2.1
theorem dX2_toldKey_4 : decode cX2_toldKey 4 = .ok (.ifnull 24, 3) := fx_ok0 eX2_toldKey_0.2.2.1
theorem dX2_toldKey_7 : decode cX2_toldKey 7 = .ok (.aload_n 0, 1) := fx_ok0 eX2_toldKey_0.2.2.2.1
theorem dX2_toldKey_8 : decode cX2_toldKey 8 = .ok (.getfield 27, 3) := fx_ok0 eX2_toldKey_0.2.2.2.2.1
theorem dX2_toldKey_11 : decode cX2_toldKey 11 = .ok (.ifCond .eq 17, 3) := fx_ok0 eX2_toldKey_0.2.2.2.2.2.1
theorem dX2_toldKey_14 : decode cX2_toldKey 14 = .ok (.aload_n 0, 1) := fx_ok0 eX2_toldKey_0.2.2.2.2.2.2.1
theorem dX2_toldKey_15 : decode cX2_toldKey 15 = .ok (.getfield 9, 3) := fx_ok0 eX2_toldKey_0.2.2.2.2.2.2.2.1
theorem dX2_toldKey_18 : decode cX2_toldKey 18 = .ok (.aload_n 0, 1) := fx_ok0 eX2_toldKey_0.2.2.2.2.2.2.2.2.1
theorem dX2_toldKey_19 : decode cX2_toldKey 19 = .ok (.getfield 24, 3) := fx_ok0 eX2_toldKey_0.2.2.2.2.2.2.2.2.2.1
theorem dX2_toldKey_22 : decode cX2_toldKey 22 = .ok (.invokevirtual 45, 3) := fx_ok0 eX2_toldKey_0.2.2.2.2.2.2.2.2.2.2.1
theorem dX2_toldKey_25 : decode cX2_toldKey 25 = .ok (.goto 4, 3) := fx_ok0 eX2_toldKey_0.2.2.2.2.2.2.2.2.2.2.2.1
theorem dX2_toldKey_28 : decode cX2_toldKey 28 = .ok (.iconst (-1), 1) := fx_ok0 eX2_toldKey_0.2.2.2.2.2.2.2.2.2.2.2.2.1
theorem dX2_toldKey_29 : decode cX2_toldKey 29 = .ok (.ireturn, 1) := fx_ok0 eX2_toldKey_0.2.2.2.2.2.2.2.2.2.2.2.2.2
def fAX3_init_0 : List UInt8 := [42, 183, 0, 1, 42, 7, 189, 0, 9, 181, 0, 11, 3, 60, 27, 7, 162, 0, 23, 42, 180, 0, 11, 27, 187, 0, 9, 89, 3, 183, 0, 15, 83, 132, 1, 1, 167, 255, 234, 42, 6, 189, 0, 9, 181, 0, 18, 3, 60, 27, 6, 162, 0, 23, 42, 180, 0, 18, 27, 187, 0, 9, 89, 3]
def fAX3_init_1 : List UInt8 := [183, 0, 15, 83, 132, 1, 1, 167, 255, 234, 42, 5, 189, 0, 21, 181, 0, 23, 3, 60, 27, 5, 162, 0, 28, 42, 180, 0, 23, 27, 187, 0, 21, 89, 42, 180, 0, 11, 27, 50, 183, 0, 27, 83, 132, 1, 1, 167, 255, 229, 42, 187, 0, 30, 89, 183, 0, 32, 181, 0, 33, 177]
def fTX3_init_1 : List UInt8 := fAX3_init_1
def fTX3_init_0 : List UInt8 := fAX3_init_0 ++ fTX3_init_1
theorem fDX3_init_0 : cX3_init.data.toList.drop 0 = fTX3_init_0 := eq_of_beq (by decide +kernel)
theorem fDX3_init_1 : cX3_init.data.toList.drop 64 = fTX3_init_1 := fx_nx (d := 0) (n := 64) (a := fAX3_init_0) fDX3_init_0 rfl
theorem eX3_init_0 : (fdecl fTX3_init_0 0 = some (.aload_n 0, 1)) ∧ (fdecl fTX3_init_0 1 = some (.invokespecial 1, 3)) ∧ (fdecl fTX3_init_0 4 = some (.aload_n 0, 1)) ∧ (fdecl fTX3_init_0 5 = some (.iconst 4, 1)) ∧ (fdecl fTX3_init_0 6 = some (.anewarray 9, 3)) ∧ (fdecl fTX3_init_0 9 = some (.putfield 11, 3)) ∧ (fdecl fTX3_init_0 12 = some (.iconst 0, 1)) ∧ (fdecl fTX3_init_0 13 = some (.istore_n 1, 1)) ∧ (fdecl fTX3_init_0 14 = some (.iload_n 1, 1)) ∧ (fdecl fTX3_init_0 15 = some (.iconst 4, 1)) ∧ (fdecl fTX3_init_0 16 = some (.if_icmp .ge 23, 3)) ∧ (fdecl fTX3_init_0 19 = some (.aload_n 0, 1)) ∧ (fdecl fTX3_init_0 20 = some (.getfield 11, 3)) ∧ (fdecl fTX3_init_0 23 = some (.iload_n 1, 1)) ∧ (fdecl fTX3_init_0 24 = some (.new 9, 3)) ∧ (fdecl fTX3_init_0 27 = some (.dup, 1)) := by decide +kernel
theorem dX3_init_0 : decode cX3_init 0 = .ok (.aload_n 0, 1) := fx_ok (d := 0) (i := 0) fDX3_init_0 eX3_init_0.1
theorem dX3_init_1 : decode cX3_init 1 = .ok (.invokespecial 1, 3) := fx_ok (d := 0) (i := 1) fDX3_init_0 eX3_init_0.2.1
theorem dX3_init_4 : decode cX3_init 4 = .ok (.aload_n 0, 1) := fx_ok (d := 0) (i := 4) fDX3_init_0 eX3_init_0.2.2.1
theorem dX3_init_5 : decode cX3_init 5 = .ok (.iconst 4, 1) := fx_ok (d := 0) (i := 5) fDX3_init_0 eX3_init_0.2.2.2.1
theorem dX3_init_6 : decode cX3_init 6 = .ok (.anewarray 9, 3) := fx_ok (d := 0) (i := 6) fDX3_init_0 eX3_init_0.2.2.2.2.1
theorem dX3_init_9 : decode cX3_init 9 = .ok (.putfield 11, 3) := fx_ok (d := 0) (i := 9) fDX3_init_0 eX3_init_0.2.2.2.2.2.1
theorem dX3_init_12 : decode cX3_init 12 = .ok (.iconst 0, 1) := fx_ok (d := 0) (i := 12) fDX3_init_0 eX3_init_0.2.2.2.2.2.2.1
theorem dX3_init_13 : decode cX3_init 13 = .ok (.istore_n 1, 1) := fx_ok (d := 0) (i := 13) fDX3_init_0 eX3_init_0.2.2.2.2.2.2.2.1
theorem dX3_init_14 : decode cX3_init 14 = .ok (.iload_n 1, 1) := fx_ok (d := 0) (i := 14) fDX3_init_0 eX3_init_0.2.2.2.2.2.2.2.2.1
theorem dX3_init_15 : decode cX3_init 15 = .ok (.iconst 4, 1) := fx_ok (d := 0) (i := 15) fDX3_init_0 eX3_init_0.2.2.2.2.2.2.2.2.2.1
theorem dX3_init_16 : decode cX3_init 16 = .ok (.if_icmp .ge 23, 3) := fx_ok (d := 0) (i := 16) fDX3_init_0 eX3_init_0.2.2.2.2.2.2.2.2.2.2.1
theorem dX3_init_19 : decode cX3_init 19 = .ok (.aload_n 0, 1) := fx_ok (d := 0) (i := 19) fDX3_init_0 eX3_init_0.2.2.2.2.2.2.2.2.2.2.2.1
theorem dX3_init_20 : decode cX3_init 20 = .ok (.getfield 11, 3) := fx_ok (d := 0) (i := 20) fDX3_init_0 eX3_init_0.2.2.2.2.2.2.2.2.2.2.2.2.1
theorem dX3_init_23 : decode cX3_init 23 = .ok (.iload_n 1, 1) := fx_ok (d := 0) (i := 23) fDX3_init_0 eX3_init_0.2.2.2.2.2.2.2.2.2.2.2.2.2.1
theorem dX3_init_24 : decode cX3_init 24 = .ok (.new 9, 3) := fx_ok (d := 0) (i := 24) fDX3_init_0 eX3_init_0.2.2.2.2.2.2.2.2.2.2.2.2.2.2.1
theorem dX3_init_27 : decode cX3_init 27 = .ok (.dup, 1) := fx_ok (d := 0) (i := 27) fDX3_init_0 eX3_init_0.2.2.2.2.2.2.2.2.2.2.2.2.2.2.2
theorem eX3_init_28 : (fdecl fTX3_init_0 28 = some (.iconst 0, 1)) ∧ (fdecl fTX3_init_0 29 = some (.invokespecial 15, 3)) ∧ (fdecl fTX3_init_0 32 = some (.aastore, 1)) ∧ (fdecl fTX3_init_0 36 = some (.goto (-22), 3)) ∧ (fdecl fTX3_init_0 39 = some (.aload_n 0, 1)) ∧ (fdecl fTX3_init_0 40 = some (.iconst 3, 1)) ∧ (fdecl fTX3_init_0 41 = some (.anewarray 9, 3)) ∧ (fdecl fTX3_init_0 44 = some (.putfield 18, 3)) ∧ (fdecl fTX3_init_0 47 = some (.iconst 0, 1)) ∧ (fdecl fTX3_init_0 48 = some (.istore_n 1, 1)) ∧ (fdecl fTX3_init_0 49 = some (.iload_n 1, 1)) ∧ (fdecl fTX3_init_0 50 = some (.iconst 3, 1)) ∧ (fdecl fTX3_init_0 51 = some (.if_icmp .ge 23, 3)) ∧ (fdecl fTX3_init_0 54 = some (.aload_n 0, 1)) ∧ (fdecl fTX3_init_0 55 = some (.getfield 18, 3)) ∧ (fdecl fTX3_init_0 58 = some (.iload_n 1, 1)) := by decide +kernel
theorem dX3_init_28 : decode cX3_init 28 = .ok (.iconst 0, 1) := fx_ok (d := 0) (i := 28) fDX3_init_0 eX3_init_28.1
theorem dX3_init_29 : decode cX3_init 29 = .ok (.invokespecial 15, 3) := fx_ok (d := 0) (i := 29) fDX3_init_0 eX3_init_28.2.1
theorem dX3_init_32 : decode cX3_init 32 = .ok (.aastore, 1) := fx_ok (d := 0) (i := 32) fDX3_init_0 eX3_init_28.2.2.1
theorem dX3_init_36 : decode cX3_init 36 = .ok (.goto (-22), 3) := fx_ok (d := 0) (i := 36) fDX3_init_0 eX3_init_28.2.2.2.1
theorem dX3_init_39 : decode cX3_init 39 = .ok (.aload_n 0, 1) := fx_ok (d := 0) (i := 39) fDX3_init_0 eX3_init_28.2.2.2.2.1
theorem dX3_init_40 : decode cX3_init 40 = .ok (.iconst 3, 1) := fx_ok (d := 0) (i := 40) fDX3_init_0 eX3_init_28.2.2.2.2.2.1
theorem dX3_init_41 : decode cX3_init 41 = .ok (.anewarray 9, 3) := fx_ok (d := 0) (i := 41) fDX3_init_0 eX3_init_28.2.2.2.2.2.2.1
theorem dX3_init_44 : decode cX3_init 44 = .ok (.putfield 18, 3) := fx_ok (d := 0) (i := 44) fDX3_init_0 eX3_init_28.2.2.2.2.2.2.2.1
theorem dX3_init_47 : decode cX3_init 47 = .ok (.iconst 0, 1) := fx_ok (d := 0) (i := 47) fDX3_init_0 eX3_init_28.2.2.2.2.2.2.2.2.1
theorem dX3_init_48 : decode cX3_init 48 = .ok (.istore_n 1, 1) := fx_ok (d := 0) (i := 48) fDX3_init_0 eX3_init_28.2.2.2.2.2.2.2.2.2.1
theorem dX3_init_49 : decode cX3_init 49 = .ok (.iload_n 1, 1) := fx_ok (d := 0) (i := 49) fDX3_init_0 eX3_init_28.2.2.2.2.2.2.2.2.2.2.1
theorem dX3_init_50 : decode cX3_init 50 = .ok (.iconst 3, 1) := fx_ok (d := 0) (i := 50) fDX3_init_0 eX3_init_28.2.2.2.2.2.2.2.2.2.2.2.1
theorem dX3_init_51 : decode cX3_init 51 = .ok (.if_icmp .ge 23, 3) := fx_ok (d := 0) (i := 51) fDX3_init_0 eX3_init_28.2.2.2.2.2.2.2.2.2.2.2.2.1
theorem dX3_init_54 : decode cX3_init 54 = .ok (.aload_n 0, 1) := fx_ok (d := 0) (i := 54) fDX3_init_0 eX3_init_28.2.2.2.2.2.2.2.2.2.2.2.2.2.1
theorem dX3_init_55 : decode cX3_init 55 = .ok (.getfield 18, 3) := fx_ok (d := 0) (i := 55) fDX3_init_0 eX3_init_28.2.2.2.2.2.2.2.2.2.2.2.2.2.2.1
theorem dX3_init_58 : decode cX3_init 58 = .ok (.iload_n 1, 1) := fx_ok (d := 0) (i := 58) fDX3_init_0 eX3_init_28.2.2.2.2.2.2.2.2.2.2.2.2.2.2.2
theorem eX3_init_59 : (fdecl fTX3_init_0 59 = some (.new 9, 3)) ∧ (fdecl fTX3_init_0 62 = some (.dup, 1)) ∧ (fdecl fTX3_init_0 63 = some (.iconst 0, 1)) ∧ (fdecl fTX3_init_1 0 = some (.invokespecial 15, 3)) ∧ (fdecl fTX3_init_1 3 = some (.aastore, 1)) ∧ (fdecl fTX3_init_1 7 = some (.goto (-22), 3)) ∧ (fdecl fTX3_init_1 10 = some (.aload_n 0, 1)) ∧ (fdecl fTX3_init_1 11 = some (.iconst 2, 1)) ∧ (fdecl fTX3_init_1 12 = some (.anewarray 21, 3)) ∧ (fdecl fTX3_init_1 15 = some (.putfield 23, 3)) ∧ (fdecl fTX3_init_1 18 = some (.iconst 0, 1)) ∧ (fdecl fTX3_init_1 19 = some (.istore_n 1, 1)) ∧ (fdecl fTX3_init_1 20 = some (.iload_n 1, 1)) ∧ (fdecl fTX3_init_1 21 = some (.iconst 2, 1)) ∧ (fdecl fTX3_init_1 22 = some (.if_icmp .ge 28, 3)) ∧ (fdecl fTX3_init_1 25 = some (.aload_n 0, 1)) := by decide +kernel
theorem dX3_init_59 : decode cX3_init 59 = .ok (.new 9, 3) := fx_ok (d := 0) (i := 59) fDX3_init_0 eX3_init_59.1
theorem dX3_init_62 : decode cX3_init 62 = .ok (.dup, 1) := fx_ok (d := 0) (i := 62) fDX3_init_0 eX3_init_59.2.1
theorem dX3_init_63 : decode cX3_init 63 = .ok (.iconst 0, 1) := fx_ok (d := 0) (i := 63) fDX3_init_0 eX3_init_59.2.2.1
theorem dX3_init_64 : decode cX3_init 64 = .ok (.invokespecial 15, 3) := fx_ok (d := 64) (i := 0) fDX3_init_1 eX3_init_59.2.2.2.1
theorem dX3_init_67 : decode cX3_init 67 = .ok (.aastore, 1) := fx_ok (d := 64) (i := 3) fDX3_init_1 eX3_init_59.2.2.2.2.1
theorem dX3_init_71 : decode cX3_init 71 = .ok (.goto (-22), 3) := fx_ok (d := 64) (i := 7) fDX3_init_1 eX3_init_59.2.2.2.2.2.1
theorem dX3_init_74 : decode cX3_init 74 = .ok (.aload_n 0, 1) := fx_ok (d := 64) (i := 10) fDX3_init_1 eX3_init_59.2.2.2.2.2.2.1
theorem dX3_init_75 : decode cX3_init 75 = .ok (.iconst 2, 1) := fx_ok (d := 64) (i := 11) fDX3_init_1 eX3_init_59.2.2.2.2.2.2.2.1
theorem dX3_init_76 : decode cX3_init 76 = .ok (.anewarray 21, 3) := fx_ok (d := 64) (i := 12) fDX3_init_1 eX3_init_59.2.2.2.2.2.2.2.2.1
theorem dX3_init_79 : decode cX3_init 79 = .ok (.putfield 23, 3) := fx_ok (d := 64) (i := 15) fDX3_init_1 eX3_init_59.2.2.2.2.2.2.2.2.2.1
theorem dX3_init_82 : decode cX3_init 82 = .ok (.iconst 0, 1) := fx_ok (d := 64) (i := 18) fDX3_init_1 eX3_init_59.2.2.2.2.2.2.2.2.2.2.1
theorem dX3_init_83 : decode cX3_init 83 = .ok (.istore_n 1, 1) := fx_ok (d := 64) (i := 19) fDX3_init_1 eX3_init_59.2.2.2.2.2.2.2.2.2.2.2.1
theorem dX3_init_84 : decode cX3_init 84 = .ok (.iload_n 1, 1) := fx_ok (d := 64) (i := 20) fDX3_init_1 eX3_init_59.2.2.2.2.2.2.2.2.2.2.2.2.1
theorem dX3_init_85 : decode cX3_init 85 = .ok (.iconst 2, 1) := fx_ok (d := 64) (i := 21) fDX3_init_1 eX3_init_59.2.2.2.2.2.2.2.2.2.2.2.2.2.1
theorem dX3_init_86 : decode cX3_init 86 = .ok (.if_icmp .ge 28, 3) := fx_ok (d := 64) (i := 22) fDX3_init_1 eX3_init_59.2.2.2.2.2.2.2.2.2.2.2.2.2.2.1
theorem dX3_init_89 : decode cX3_init 89 = .ok (.aload_n 0, 1) := fx_ok (d := 64) (i := 25) fDX3_init_1 eX3_init_59.2.2.2.2.2.2.2.2.2.2.2.2.2.2.2
theorem eX3_init_90 : (fdecl fTX3_init_1 26 = some (.getfield 23, 3)) ∧ (fdecl fTX3_init_1 29 = some (.iload_n 1, 1)) ∧ (fdecl fTX3_init_1 30 = some (.new 21, 3)) ∧ (fdecl fTX3_init_1 33 = some (.dup, 1)) ∧ (fdecl fTX3_init_1 34 = some (.aload_n 0, 1)) ∧ (fdecl fTX3_init_1 35 = some (.getfield 11, 3)) ∧ (fdecl fTX3_init_1 38 = some (.iload_n 1, 1)) ∧ (fdecl fTX3_init_1 39 = some (.aaload, 1)) ∧ (fdecl fTX3_init_1 40 = some (.invokespecial 27, 3)) ∧ (fdecl fTX3_init_1 43 = some (.aastore, 1)) ∧ (fdecl fTX3_init_1 47 = some (.goto (-27), 3)) ∧ (fdecl fTX3_init_1 50 = some (.aload_n 0, 1)) ∧ (fdecl fTX3_init_1 51 = some (.new 30, 3)) ∧ (fdecl fTX3_init_1 54 = some (.dup, 1)) ∧ (fdecl fTX3_init_1 55 = some (.invokespecial 32, 3)) ∧ (fdecl fTX3_init_1 58 = some (.putfield 33, 3)) := by decide +kernel
theorem dX3_init_90 : decode cX3_init 90 = .ok (.getfield 23, 3) := fx_ok (d := 64) (i := 26) fDX3_init_1 eX3_init_90.1
theorem dX3_init_93 : decode cX3_init 93 = .ok (.iload_n 1, 1) := fx_ok (d := 64) (i := 29) fDX3_init_1 eX3_init_90.2.1
theorem dX3_init_94 : decode cX3_init 94 = .ok (.new 21, 3) := fx_ok (d := 64) (i := 30) fDX3_init_1 eX3_init_90.2.2.1
theorem dX3_init_97 : decode cX3_init 97 = .ok (.dup, 1) := fx_ok (d := 64) (i := 33) fDX3_init_1 eX3_init_90.2.2.2.1
theorem dX3_init_98 : decode cX3_init 98 = .ok (.aload_n 0, 1) := fx_ok (d := 64) (i := 34) fDX3_init_1 eX3_init_90.2.2.2.2.1
theorem dX3_init_99 : decode cX3_init 99 = .ok (.getfield 11, 3) := fx_ok (d := 64) (i := 35) fDX3_init_1 eX3_init_90.2.2.2.2.2.1
theorem dX3_init_102 : decode cX3_init 102 = .ok (.iload_n 1, 1) := fx_ok (d := 64) (i := 38) fDX3_init_1 eX3_init_90.2.2.2.2.2.2.1
theorem dX3_init_103 : decode cX3_init 103 = .ok (.aaload, 1) := fx_ok (d := 64) (i := 39) fDX3_init_1 eX3_init_90.2.2.2.2.2.2.2.1
theorem dX3_init_104 : decode cX3_init 104 = .ok (.invokespecial 27, 3) := fx_ok (d := 64) (i := 40) fDX3_init_1 eX3_init_90.2.2.2.2.2.2.2.2.1
theorem dX3_init_107 : decode cX3_init 107 = .ok (.aastore, 1) := fx_ok (d := 64) (i := 43) fDX3_init_1 eX3_init_90.2.2.2.2.2.2.2.2.2.1
theorem dX3_init_111 : decode cX3_init 111 = .ok (.goto (-27), 3) := fx_ok (d := 64) (i := 47) fDX3_init_1 eX3_init_90.2.2.2.2.2.2.2.2.2.2.1
theorem dX3_init_114 : decode cX3_init 114 = .ok (.aload_n 0, 1) := fx_ok (d := 64) (i := 50) fDX3_init_1 eX3_init_90.2.2.2.2.2.2.2.2.2.2.2.1
theorem dX3_init_115 : decode cX3_init 115 = .ok (.new 30, 3) := fx_ok (d := 64) (i := 51) fDX3_init_1 eX3_init_90.2.2.2.2.2.2.2.2.2.2.2.2.1
theorem dX3_init_118 : decode cX3_init 118 = .ok (.dup, 1) := fx_ok (d := 64) (i := 54) fDX3_init_1 eX3_init_90.2.2.2.2.2.2.2.2.2.2.2.2.2.1
theorem dX3_init_119 : decode cX3_init 119 = .ok (.invokespecial 32, 3) := fx_ok (d := 64) (i := 55) fDX3_init_1 eX3_init_90.2.2.2.2.2.2.2.2.2.2.2.2.2.2.1
theorem dX3_init_122 : decode cX3_init 122 = .ok (.putfield 33, 3) := fx_ok (d := 64) (i := 58) fDX3_init_1 eX3_init_90.2.2.2.2.2.2.2.2.2.2.2.2.2.2.2
theorem eX3_init_125 : (fdecl fTX3_init_1 61 = some (.return_, 1)) := by decide +kernel
theorem dX3_init_125 : decode cX3_init 125 = .ok (.return_, 1) := fx_ok (d := 64) (i := 61) fDX3_init_1 eX3_init_125
theorem dX3_init_33 : decode cX3_init 33 = .ok (.iinc 1 1, 3) := by decide +kernel
theorem dX3_init_68 : decode cX3_init 68 = .ok (.iinc 1 1, 3) := by decide +kernel
theorem dX3_init_108 : decode cX3_init 108 = .ok (.iinc 1 1, 3) := by decide +kernel
theorem eX3_freshBook_0 : (fdecl cX3_freshBook.data.toList 0 = some (.aload_n 0, 1)) ∧ (fdecl cX3_freshBook.data.toList 1 = some (.iload_n 1, 1)) ∧ (fdecl cX3_freshBook.data.toList 2 = some (.invokevirtual 37, 3)) ∧ (fdecl cX3_freshBook.data.toList 5 = some (.astore_n 3, 1)) ∧ (fdecl cX3_freshBook.data.toList 6 = some (.iload_n 2, 1)) ∧ (fdecl cX3_freshBook.data.toList 7 = some (.iconst 2, 1)) ∧ (fdecl cX3_freshBook.data.toList 8 = some (.invokestatic 41, 3)) ∧ (fdecl cX3_freshBook.data.toList 11 = some (.aload_n 0, 1)) ∧ (fdecl cX3_freshBook.data.toList 12 = some (.dup, 1)) ∧ (fdecl cX3_freshBook.data.toList 13 = some (.getfield 45, 3)) ∧ (fdecl cX3_freshBook.data.toList 16 = some (.iconst 1, 1)) ∧ (fdecl cX3_freshBook.data.toList 17 = some (.iadd, 1)) ∧ (fdecl cX3_freshBook.data.toList 18 = some (.putfield 45, 3)) ∧ (fdecl cX3_freshBook.data.toList 21 = some (.aload_n 0, 1)) ∧ (fdecl cX3_freshBook.data.toList 22 = some (.getfield 11, 3)) ∧ (fdecl cX3_freshBook.data.toList 25 = some (.iload_n 1, 1)) := by decide +kernel
theorem dX3_freshBook_0 : decode cX3_freshBook 0 = .ok (.aload_n 0, 1) := fx_ok0 eX3_freshBook_0.1
theorem dX3_freshBook_1 : decode cX3_freshBook 1 = .ok (.iload_n 1, 1) := fx_ok0 eX3_freshBook_0.2.1
theorem dX3_freshBook_2 : decode cX3_freshBook 2 = .ok (.invokevirtual 37, 3) := fx_ok0 eX3_freshBook_0.2.2.1
theorem dX3_freshBook_5 : decode cX3_freshBook 5 = .ok (.astore_n 3, 1) := fx_ok0 eX3_freshBook_0.2.2.2.1
theorem dX3_freshBook_6 : decode cX3_freshBook 6 = .ok (.iload_n 2, 1) := fx_ok0 eX3_freshBook_0.2.2.2.2.1
theorem dX3_freshBook_7 : decode cX3_freshBook 7 = .ok (.iconst 2, 1) := fx_ok0 eX3_freshBook_0.2.2.2.2.2.1
theorem dX3_freshBook_8 : decode cX3_freshBook 8 = .ok (.invokestatic 41, 3) := fx_ok0 eX3_freshBook_0.2.2.2.2.2.2.1
theorem dX3_freshBook_11 : decode cX3_freshBook 11 = .ok (.aload_n 0, 1) := fx_ok0 eX3_freshBook_0.2.2.2.2.2.2.2.1
theorem dX3_freshBook_12 : decode cX3_freshBook 12 = .ok (.dup, 1) := fx_ok0 eX3_freshBook_0.2.2.2.2.2.2.2.2.1
theorem dX3_freshBook_13 : decode cX3_freshBook 13 = .ok (.getfield 45, 3) := fx_ok0 eX3_freshBook_0.2.2.2.2.2.2.2.2.2.1
theorem dX3_freshBook_16 : decode cX3_freshBook 16 = .ok (.iconst 1, 1) := fx_ok0 eX3_freshBook_0.2.2.2.2.2.2.2.2.2.2.1
theorem dX3_freshBook_17 : decode cX3_freshBook 17 = .ok (.iadd, 1) := fx_ok0 eX3_freshBook_0.2.2.2.2.2.2.2.2.2.2.2.1
theorem dX3_freshBook_18 : decode cX3_freshBook 18 = .ok (.putfield 45, 3) := fx_ok0 eX3_freshBook_0.2.2.2.2.2.2.2.2.2.2.2.2.1
theorem dX3_freshBook_21 : decode cX3_freshBook 21 = .ok (.aload_n 0, 1) := fx_ok0 eX3_freshBook_0.2.2.2.2.2.2.2.2.2.2.2.2.2.1
theorem dX3_freshBook_22 : decode cX3_freshBook 22 = .ok (.getfield 11, 3) := fx_ok0 eX3_freshBook_0.2.2.2.2.2.2.2.2.2.2.2.2.2.2.1
theorem dX3_freshBook_25 : decode cX3_freshBook 25 = .ok (.iload_n 1, 1) := fx_ok0 eX3_freshBook_0.2.2.2.2.2.2.2.2.2.2.2.2.2.2.2
theorem eX3_freshBook_26 : (fdecl cX3_freshBook.data.toList 26 = some (.new 9, 3)) ∧ (fdecl cX3_freshBook.data.toList 29 = some (.dup, 1)) ∧ (fdecl cX3_freshBook.data.toList 30 = some (.iload_n 2, 1)) ∧ (fdecl cX3_freshBook.data.toList 31 = some (.invokespecial 15, 3)) ∧ (fdecl cX3_freshBook.data.toList 34 = some (.aastore, 1)) ∧ (fdecl cX3_freshBook.data.toList 35 = some (.aload_n 3, 1)) ∧ (fdecl cX3_freshBook.data.toList 36 = some (.getfield 49, 3)) ∧ (fdecl cX3_freshBook.data.toList 39 = some (.ireturn, 1)) := by decide +kernel
theorem dX3_freshBook_26 : decode cX3_freshBook 26 = .ok (.new 9, 3) := fx_ok0 eX3_freshBook_26.1
theorem dX3_freshBook_29 : decode cX3_freshBook 29 = .ok (.dup, 1) := fx_ok0 eX3_freshBook_26.2.1
theorem dX3_freshBook_30 : decode cX3_freshBook 30 = .ok (.iload_n 2, 1) := fx_ok0 eX3_freshBook_26.2.2.1
theorem dX3_freshBook_31 : decode cX3_freshBook 31 = .ok (.invokespecial 15, 3) := fx_ok0 eX3_freshBook_26.2.2.2.1
theorem dX3_freshBook_34 : decode cX3_freshBook 34 = .ok (.aastore, 1) := fx_ok0 eX3_freshBook_26.2.2.2.2.1
theorem dX3_freshBook_35 : decode cX3_freshBook 35 = .ok (.aload_n 3, 1) := fx_ok0 eX3_freshBook_26.2.2.2.2.2.1
theorem dX3_freshBook_36 : decode cX3_freshBook 36 = .ok (.getfield 49, 3) := fx_ok0 eX3_freshBook_26.2.2.2.2.2.2.1
theorem dX3_freshBook_39 : decode cX3_freshBook 39 = .ok (.ireturn, 1) := fx_ok0 eX3_freshBook_26.2.2.2.2.2.2.2
theorem eX3_buildBook_0 : (fdecl cX3_buildBook.data.toList 0 = some (.aload_n 0, 1)) ∧ (fdecl cX3_buildBook.data.toList 1 = some (.iload_n 1, 1)) ∧ (fdecl cX3_buildBook.data.toList 2 = some (.invokevirtual 37, 3)) ∧ (fdecl cX3_buildBook.data.toList 5 = some (.pop, 1)) ∧ (fdecl cX3_buildBook.data.toList 6 = some (.aload_n 0, 1)) ∧ (fdecl cX3_buildBook.data.toList 7 = some (.iload_n 2, 1)) ∧ (fdecl cX3_buildBook.data.toList 8 = some (.invokevirtual 37, 3)) ∧ (fdecl cX3_buildBook.data.toList 11 = some (.astore 4, 2)) ∧ (fdecl cX3_buildBook.data.toList 13 = some (.iload_n 3, 1)) ∧ (fdecl cX3_buildBook.data.toList 14 = some (.bipush 6, 2)) ∧ (fdecl cX3_buildBook.data.toList 16 = some (.invokestatic 41, 3)) ∧ (fdecl cX3_buildBook.data.toList 19 = some (.aload_n 0, 1)) ∧ (fdecl cX3_buildBook.data.toList 20 = some (.dup, 1)) ∧ (fdecl cX3_buildBook.data.toList 21 = some (.getfield 45, 3)) ∧ (fdecl cX3_buildBook.data.toList 24 = some (.iconst 1, 1)) ∧ (fdecl cX3_buildBook.data.toList 25 = some (.iadd, 1)) := by decide +kernel
theorem dX3_buildBook_0 : decode cX3_buildBook 0 = .ok (.aload_n 0, 1) := fx_ok0 eX3_buildBook_0.1
theorem dX3_buildBook_1 : decode cX3_buildBook 1 = .ok (.iload_n 1, 1) := fx_ok0 eX3_buildBook_0.2.1
theorem dX3_buildBook_2 : decode cX3_buildBook 2 = .ok (.invokevirtual 37, 3) := fx_ok0 eX3_buildBook_0.2.2.1
theorem dX3_buildBook_5 : decode cX3_buildBook 5 = .ok (.pop, 1) := fx_ok0 eX3_buildBook_0.2.2.2.1
theorem dX3_buildBook_6 : decode cX3_buildBook 6 = .ok (.aload_n 0, 1) := fx_ok0 eX3_buildBook_0.2.2.2.2.1
theorem dX3_buildBook_7 : decode cX3_buildBook 7 = .ok (.iload_n 2, 1) := fx_ok0 eX3_buildBook_0.2.2.2.2.2.1
theorem dX3_buildBook_8 : decode cX3_buildBook 8 = .ok (.invokevirtual 37, 3) := fx_ok0 eX3_buildBook_0.2.2.2.2.2.2.1
theorem dX3_buildBook_11 : decode cX3_buildBook 11 = .ok (.astore 4, 2) := fx_ok0 eX3_buildBook_0.2.2.2.2.2.2.2.1
theorem dX3_buildBook_13 : decode cX3_buildBook 13 = .ok (.iload_n 3, 1) := fx_ok0 eX3_buildBook_0.2.2.2.2.2.2.2.2.1
theorem dX3_buildBook_14 : decode cX3_buildBook 14 = .ok (.bipush 6, 2) := fx_ok0 eX3_buildBook_0.2.2.2.2.2.2.2.2.2.1
theorem dX3_buildBook_16 : decode cX3_buildBook 16 = .ok (.invokestatic 41, 3) := fx_ok0 eX3_buildBook_0.2.2.2.2.2.2.2.2.2.2.1
theorem dX3_buildBook_19 : decode cX3_buildBook 19 = .ok (.aload_n 0, 1) := fx_ok0 eX3_buildBook_0.2.2.2.2.2.2.2.2.2.2.2.1
theorem dX3_buildBook_20 : decode cX3_buildBook 20 = .ok (.dup, 1) := fx_ok0 eX3_buildBook_0.2.2.2.2.2.2.2.2.2.2.2.2.1
theorem dX3_buildBook_21 : decode cX3_buildBook 21 = .ok (.getfield 45, 3) := fx_ok0 eX3_buildBook_0.2.2.2.2.2.2.2.2.2.2.2.2.2.1
theorem dX3_buildBook_24 : decode cX3_buildBook 24 = .ok (.iconst 1, 1) := fx_ok0 eX3_buildBook_0.2.2.2.2.2.2.2.2.2.2.2.2.2.2.1
theorem dX3_buildBook_25 : decode cX3_buildBook 25 = .ok (.iadd, 1) := fx_ok0 eX3_buildBook_0.2.2.2.2.2.2.2.2.2.2.2.2.2.2.2
theorem eX3_buildBook_26 : (fdecl cX3_buildBook.data.toList 26 = some (.putfield 45, 3)) ∧ (fdecl cX3_buildBook.data.toList 29 = some (.aload_n 0, 1)) ∧ (fdecl cX3_buildBook.data.toList 30 = some (.getfield 11, 3)) ∧ (fdecl cX3_buildBook.data.toList 33 = some (.iload_n 1, 1)) ∧ (fdecl cX3_buildBook.data.toList 34 = some (.aload 4, 2)) ∧ (fdecl cX3_buildBook.data.toList 36 = some (.iconst 0, 1)) ∧ (fdecl cX3_buildBook.data.toList 37 = some (.bipush 99, 2)) ∧ (fdecl cX3_buildBook.data.toList 39 = some (.aload 4, 2)) ∧ (fdecl cX3_buildBook.data.toList 41 = some (.iload_n 3, 1)) ∧ (fdecl cX3_buildBook.data.toList 42 = some (.invokestatic 52, 3)) ∧ (fdecl cX3_buildBook.data.toList 45 = some (.invokevirtual 56, 3)) ∧ (fdecl cX3_buildBook.data.toList 48 = some (.aastore, 1)) ∧ (fdecl cX3_buildBook.data.toList 49 = some (.aload_n 0, 1)) ∧ (fdecl cX3_buildBook.data.toList 50 = some (.getfield 11, 3)) ∧ (fdecl cX3_buildBook.data.toList 53 = some (.iload_n 1, 1)) ∧ (fdecl cX3_buildBook.data.toList 54 = some (.aaload, 1)) := by decide +kernel
theorem dX3_buildBook_26 : decode cX3_buildBook 26 = .ok (.putfield 45, 3) := fx_ok0 eX3_buildBook_26.1
theorem dX3_buildBook_29 : decode cX3_buildBook 29 = .ok (.aload_n 0, 1) := fx_ok0 eX3_buildBook_26.2.1
theorem dX3_buildBook_30 : decode cX3_buildBook 30 = .ok (.getfield 11, 3) := fx_ok0 eX3_buildBook_26.2.2.1
theorem dX3_buildBook_33 : decode cX3_buildBook 33 = .ok (.iload_n 1, 1) := fx_ok0 eX3_buildBook_26.2.2.2.1
theorem dX3_buildBook_34 : decode cX3_buildBook 34 = .ok (.aload 4, 2) := fx_ok0 eX3_buildBook_26.2.2.2.2.1
theorem dX3_buildBook_36 : decode cX3_buildBook 36 = .ok (.iconst 0, 1) := fx_ok0 eX3_buildBook_26.2.2.2.2.2.1
theorem dX3_buildBook_37 : decode cX3_buildBook 37 = .ok (.bipush 99, 2) := fx_ok0 eX3_buildBook_26.2.2.2.2.2.2.1
theorem dX3_buildBook_39 : decode cX3_buildBook 39 = .ok (.aload 4, 2) := fx_ok0 eX3_buildBook_26.2.2.2.2.2.2.2.1
theorem dX3_buildBook_41 : decode cX3_buildBook 41 = .ok (.iload_n 3, 1) := fx_ok0 eX3_buildBook_26.2.2.2.2.2.2.2.2.1
theorem dX3_buildBook_42 : decode cX3_buildBook 42 = .ok (.invokestatic 52, 3) := fx_ok0 eX3_buildBook_26.2.2.2.2.2.2.2.2.2.1
theorem dX3_buildBook_45 : decode cX3_buildBook 45 = .ok (.invokevirtual 56, 3) := fx_ok0 eX3_buildBook_26.2.2.2.2.2.2.2.2.2.2.1
theorem dX3_buildBook_48 : decode cX3_buildBook 48 = .ok (.aastore, 1) := fx_ok0 eX3_buildBook_26.2.2.2.2.2.2.2.2.2.2.2.1
theorem dX3_buildBook_49 : decode cX3_buildBook 49 = .ok (.aload_n 0, 1) := fx_ok0 eX3_buildBook_26.2.2.2.2.2.2.2.2.2.2.2.2.1
theorem dX3_buildBook_50 : decode cX3_buildBook 50 = .ok (.getfield 11, 3) := fx_ok0 eX3_buildBook_26.2.2.2.2.2.2.2.2.2.2.2.2.2.1
theorem dX3_buildBook_53 : decode cX3_buildBook 53 = .ok (.iload_n 1, 1) := fx_ok0 eX3_buildBook_26.2.2.2.2.2.2.2.2.2.2.2.2.2.2.1
theorem dX3_buildBook_54 : decode cX3_buildBook 54 = .ok (.aaload, 1) := fx_ok0 eX3_buildBook_26.2.2.2.2.2.2.2.2.2.2.2.2.2.2.2
theorem eX3_buildBook_55 : (fdecl cX3_buildBook.data.toList 55 = some (.getfield 49, 3)) ∧ (fdecl cX3_buildBook.data.toList 58 = some (.ireturn, 1)) := by decide +kernel
theorem dX3_buildBook_55 : decode cX3_buildBook 55 = .ok (.getfield 49, 3) := fx_ok0 eX3_buildBook_55.1
theorem dX3_buildBook_58 : decode cX3_buildBook 58 = .ok (.ireturn, 1) := fx_ok0 eX3_buildBook_55.2
theorem eX3_splitBook_0 : (fdecl cX3_splitBook.data.toList 0 = some (.aload_n 0, 1)) ∧ (fdecl cX3_splitBook.data.toList 1 = some (.iload_n 1, 1)) ∧ (fdecl cX3_splitBook.data.toList 2 = some (.invokevirtual 37, 3)) ∧ (fdecl cX3_splitBook.data.toList 5 = some (.astore 4, 2)) ∧ (fdecl cX3_splitBook.data.toList 7 = some (.aload_n 0, 1)) ∧ (fdecl cX3_splitBook.data.toList 8 = some (.iload_n 3, 1)) ∧ (fdecl cX3_splitBook.data.toList 9 = some (.invokevirtual 37, 3)) ∧ (fdecl cX3_splitBook.data.toList 12 = some (.pop, 1)) ∧ (fdecl cX3_splitBook.data.toList 13 = some (.iload_n 2, 1)) ∧ (fdecl cX3_splitBook.data.toList 14 = some (.invokestatic 60, 3)) ∧ (fdecl cX3_splitBook.data.toList 17 = some (.iload_n 1, 1)) ∧ (fdecl cX3_splitBook.data.toList 18 = some (.iload_n 3, 1)) ∧ (fdecl cX3_splitBook.data.toList 19 = some (.if_icmp .ne 8, 3)) ∧ (fdecl cX3_splitBook.data.toList 22 = some (.aload_n 0, 1)) ∧ (fdecl cX3_splitBook.data.toList 23 = some (.invokevirtual 63, 3)) ∧ (fdecl cX3_splitBook.data.toList 26 = some (.ireturn, 1)) := by decide +kernel
theorem dX3_splitBook_0 : decode cX3_splitBook 0 = .ok (.aload_n 0, 1) := fx_ok0 eX3_splitBook_0.1
theorem dX3_splitBook_1 : decode cX3_splitBook 1 = .ok (.iload_n 1, 1) := fx_ok0 eX3_splitBook_0.2.1
theorem dX3_splitBook_2 : decode cX3_splitBook 2 = .ok (.invokevirtual 37, 3) := fx_ok0 eX3_splitBook_0.2.2.1
theorem dX3_splitBook_5 : decode cX3_splitBook 5 = .ok (.astore 4, 2) := fx_ok0 eX3_splitBook_0.2.2.2.1
theorem dX3_splitBook_7 : decode cX3_splitBook 7 = .ok (.aload_n 0, 1) := fx_ok0 eX3_splitBook_0.2.2.2.2.1
theorem dX3_splitBook_8 : decode cX3_splitBook 8 = .ok (.iload_n 3, 1) := fx_ok0 eX3_splitBook_0.2.2.2.2.2.1
theorem dX3_splitBook_9 : decode cX3_splitBook 9 = .ok (.invokevirtual 37, 3) := fx_ok0 eX3_splitBook_0.2.2.2.2.2.2.1
theorem dX3_splitBook_12 : decode cX3_splitBook 12 = .ok (.pop, 1) := fx_ok0 eX3_splitBook_0.2.2.2.2.2.2.2.1
theorem dX3_splitBook_13 : decode cX3_splitBook 13 = .ok (.iload_n 2, 1) := fx_ok0 eX3_splitBook_0.2.2.2.2.2.2.2.2.1
theorem dX3_splitBook_14 : decode cX3_splitBook 14 = .ok (.invokestatic 60, 3) := fx_ok0 eX3_splitBook_0.2.2.2.2.2.2.2.2.2.1
theorem dX3_splitBook_17 : decode cX3_splitBook 17 = .ok (.iload_n 1, 1) := fx_ok0 eX3_splitBook_0.2.2.2.2.2.2.2.2.2.2.1
theorem dX3_splitBook_18 : decode cX3_splitBook 18 = .ok (.iload_n 3, 1) := fx_ok0 eX3_splitBook_0.2.2.2.2.2.2.2.2.2.2.2.1
theorem dX3_splitBook_19 : decode cX3_splitBook 19 = .ok (.if_icmp .ne 8, 3) := fx_ok0 eX3_splitBook_0.2.2.2.2.2.2.2.2.2.2.2.2.1
theorem dX3_splitBook_22 : decode cX3_splitBook 22 = .ok (.aload_n 0, 1) := fx_ok0 eX3_splitBook_0.2.2.2.2.2.2.2.2.2.2.2.2.2.1
theorem dX3_splitBook_23 : decode cX3_splitBook 23 = .ok (.invokevirtual 63, 3) := fx_ok0 eX3_splitBook_0.2.2.2.2.2.2.2.2.2.2.2.2.2.2.1
theorem dX3_splitBook_26 : decode cX3_splitBook 26 = .ok (.ireturn, 1) := fx_ok0 eX3_splitBook_0.2.2.2.2.2.2.2.2.2.2.2.2.2.2.2
theorem eX3_splitBook_27 : (fdecl cX3_splitBook.data.toList 27 = some (.aload_n 0, 1)) ∧ (fdecl cX3_splitBook.data.toList 28 = some (.aload 4, 2)) ∧ (fdecl cX3_splitBook.data.toList 30 = some (.invokevirtual 67, 3)) ∧ (fdecl cX3_splitBook.data.toList 33 = some (.aload 4, 2)) ∧ (fdecl cX3_splitBook.data.toList 35 = some (.iload_n 2, 1)) ∧ (fdecl cX3_splitBook.data.toList 36 = some (.invokevirtual 70, 3)) ∧ (fdecl cX3_splitBook.data.toList 39 = some (.istore 5, 2)) ∧ (fdecl cX3_splitBook.data.toList 41 = some (.aload_n 0, 1)) ∧ (fdecl cX3_splitBook.data.toList 42 = some (.getfield 11, 3)) ∧ (fdecl cX3_splitBook.data.toList 45 = some (.iload_n 3, 1)) ∧ (fdecl cX3_splitBook.data.toList 46 = some (.aload 4, 2)) ∧ (fdecl cX3_splitBook.data.toList 48 = some (.iload 5, 2)) ∧ (fdecl cX3_splitBook.data.toList 50 = some (.bipush 99, 2)) ∧ (fdecl cX3_splitBook.data.toList 52 = some (.aload 4, 2)) ∧ (fdecl cX3_splitBook.data.toList 54 = some (.getfield 74, 3)) ∧ (fdecl cX3_splitBook.data.toList 57 = some (.invokevirtual 56, 3)) := by decide +kernel
theorem dX3_splitBook_27 : decode cX3_splitBook 27 = .ok (.aload_n 0, 1) := fx_ok0 eX3_splitBook_27.1
theorem dX3_splitBook_28 : decode cX3_splitBook 28 = .ok (.aload 4, 2) := fx_ok0 eX3_splitBook_27.2.1
theorem dX3_splitBook_30 : decode cX3_splitBook 30 = .ok (.invokevirtual 67, 3) := fx_ok0 eX3_splitBook_27.2.2.1
theorem dX3_splitBook_33 : decode cX3_splitBook 33 = .ok (.aload 4, 2) := fx_ok0 eX3_splitBook_27.2.2.2.1
theorem dX3_splitBook_35 : decode cX3_splitBook 35 = .ok (.iload_n 2, 1) := fx_ok0 eX3_splitBook_27.2.2.2.2.1
theorem dX3_splitBook_36 : decode cX3_splitBook 36 = .ok (.invokevirtual 70, 3) := fx_ok0 eX3_splitBook_27.2.2.2.2.2.1
theorem dX3_splitBook_39 : decode cX3_splitBook 39 = .ok (.istore 5, 2) := fx_ok0 eX3_splitBook_27.2.2.2.2.2.2.1
theorem dX3_splitBook_41 : decode cX3_splitBook 41 = .ok (.aload_n 0, 1) := fx_ok0 eX3_splitBook_27.2.2.2.2.2.2.2.1
theorem dX3_splitBook_42 : decode cX3_splitBook 42 = .ok (.getfield 11, 3) := fx_ok0 eX3_splitBook_27.2.2.2.2.2.2.2.2.1
theorem dX3_splitBook_45 : decode cX3_splitBook 45 = .ok (.iload_n 3, 1) := fx_ok0 eX3_splitBook_27.2.2.2.2.2.2.2.2.2.1
theorem dX3_splitBook_46 : decode cX3_splitBook 46 = .ok (.aload 4, 2) := fx_ok0 eX3_splitBook_27.2.2.2.2.2.2.2.2.2.2.1
theorem dX3_splitBook_48 : decode cX3_splitBook 48 = .ok (.iload 5, 2) := fx_ok0 eX3_splitBook_27.2.2.2.2.2.2.2.2.2.2.2.1
theorem dX3_splitBook_50 : decode cX3_splitBook 50 = .ok (.bipush 99, 2) := fx_ok0 eX3_splitBook_27.2.2.2.2.2.2.2.2.2.2.2.2.1
theorem dX3_splitBook_52 : decode cX3_splitBook 52 = .ok (.aload 4, 2) := fx_ok0 eX3_splitBook_27.2.2.2.2.2.2.2.2.2.2.2.2.2.1
theorem dX3_splitBook_54 : decode cX3_splitBook 54 = .ok (.getfield 74, 3) := fx_ok0 eX3_splitBook_27.2.2.2.2.2.2.2.2.2.2.2.2.2.2.1
theorem dX3_splitBook_57 : decode cX3_splitBook 57 = .ok (.invokevirtual 56, 3) := fx_ok0 eX3_splitBook_27.2.2.2.2.2.2.2.2.2.2.2.2.2.2.2
theorem eX3_splitBook_60 : (fdecl cX3_splitBook.data.toList 60 = some (.aastore, 1)) ∧ (fdecl cX3_splitBook.data.toList 61 = some (.aload 4, 2)) ∧ (fdecl cX3_splitBook.data.toList 63 = some (.iload 5, 2)) ∧ (fdecl cX3_splitBook.data.toList 65 = some (.bipush 99, 2)) ∧ (fdecl cX3_splitBook.data.toList 67 = some (.invokevirtual 77, 3)) ∧ (fdecl cX3_splitBook.data.toList 70 = some (.ireturn, 1)) := by decide +kernel
theorem dX3_splitBook_60 : decode cX3_splitBook 60 = .ok (.aastore, 1) := fx_ok0 eX3_splitBook_60.1
theorem dX3_splitBook_61 : decode cX3_splitBook 61 = .ok (.aload 4, 2) := fx_ok0 eX3_splitBook_60.2.1
theorem dX3_splitBook_63 : decode cX3_splitBook 63 = .ok (.iload 5, 2) := fx_ok0 eX3_splitBook_60.2.2.1
theorem dX3_splitBook_65 : decode cX3_splitBook 65 = .ok (.bipush 99, 2) := fx_ok0 eX3_splitBook_60.2.2.2.1
theorem dX3_splitBook_67 : decode cX3_splitBook 67 = .ok (.invokevirtual 77, 3) := fx_ok0 eX3_splitBook_60.2.2.2.2.1
theorem dX3_splitBook_70 : decode cX3_splitBook 70 = .ok (.ireturn, 1) := fx_ok0 eX3_splitBook_60.2.2.2.2.2
theorem eX3_fill_0 : (fdecl cX3_fill.data.toList 0 = some (.aload_n 0, 1)) ∧ (fdecl cX3_fill.data.toList 1 = some (.iload_n 1, 1)) ∧ (fdecl cX3_fill.data.toList 2 = some (.invokevirtual 37, 3)) ∧ (fdecl cX3_fill.data.toList 5 = some (.astore 6, 2)) ∧ (fdecl cX3_fill.data.toList 7 = some (.iload_n 2, 1)) ∧ (fdecl cX3_fill.data.toList 8 = some (.iload_n 3, 1)) ∧ (fdecl cX3_fill.data.toList 9 = some (.iload 4, 2)) ∧ (fdecl cX3_fill.data.toList 11 = some (.invokestatic 81, 3)) ∧ (fdecl cX3_fill.data.toList 14 = some (.iload 5, 2)) ∧ (fdecl cX3_fill.data.toList 16 = some (.invokestatic 85, 3)) ∧ (fdecl cX3_fill.data.toList 19 = some (.aload_n 0, 1)) ∧ (fdecl cX3_fill.data.toList 20 = some (.aload 6, 2)) ∧ (fdecl cX3_fill.data.toList 22 = some (.invokevirtual 67, 3)) ∧ (fdecl cX3_fill.data.toList 25 = some (.iload 5, 2)) ∧ (fdecl cX3_fill.data.toList 27 = some (.iconst (-1), 1)) ∧ (fdecl cX3_fill.data.toList 28 = some (.if_icmp .ne 15, 3)) := by decide +kernel
theorem dX3_fill_0 : decode cX3_fill 0 = .ok (.aload_n 0, 1) := fx_ok0 eX3_fill_0.1
theorem dX3_fill_1 : decode cX3_fill 1 = .ok (.iload_n 1, 1) := fx_ok0 eX3_fill_0.2.1
theorem dX3_fill_2 : decode cX3_fill 2 = .ok (.invokevirtual 37, 3) := fx_ok0 eX3_fill_0.2.2.1
theorem dX3_fill_5 : decode cX3_fill 5 = .ok (.astore 6, 2) := fx_ok0 eX3_fill_0.2.2.2.1
theorem dX3_fill_7 : decode cX3_fill 7 = .ok (.iload_n 2, 1) := fx_ok0 eX3_fill_0.2.2.2.2.1
theorem dX3_fill_8 : decode cX3_fill 8 = .ok (.iload_n 3, 1) := fx_ok0 eX3_fill_0.2.2.2.2.2.1
theorem dX3_fill_9 : decode cX3_fill 9 = .ok (.iload 4, 2) := fx_ok0 eX3_fill_0.2.2.2.2.2.2.1
theorem dX3_fill_11 : decode cX3_fill 11 = .ok (.invokestatic 81, 3) := fx_ok0 eX3_fill_0.2.2.2.2.2.2.2.1
theorem dX3_fill_14 : decode cX3_fill 14 = .ok (.iload 5, 2) := fx_ok0 eX3_fill_0.2.2.2.2.2.2.2.2.1
theorem dX3_fill_16 : decode cX3_fill 16 = .ok (.invokestatic 85, 3) := fx_ok0 eX3_fill_0.2.2.2.2.2.2.2.2.2.1
theorem dX3_fill_19 : decode cX3_fill 19 = .ok (.aload_n 0, 1) := fx_ok0 eX3_fill_0.2.2.2.2.2.2.2.2.2.2.1
theorem dX3_fill_20 : decode cX3_fill 20 = .ok (.aload 6, 2) := fx_ok0 eX3_fill_0.2.2.2.2.2.2.2.2.2.2.2.1
theorem dX3_fill_22 : decode cX3_fill 22 = .ok (.invokevirtual 67, 3) := fx_ok0 eX3_fill_0.2.2.2.2.2.2.2.2.2.2.2.2.1
theorem dX3_fill_25 : decode cX3_fill 25 = .ok (.iload 5, 2) := fx_ok0 eX3_fill_0.2.2.2.2.2.2.2.2.2.2.2.2.2.1
theorem dX3_fill_27 : decode cX3_fill 27 = .ok (.iconst (-1), 1) := fx_ok0 eX3_fill_0.2.2.2.2.2.2.2.2.2.2.2.2.2.2.1
theorem dX3_fill_28 : decode cX3_fill 28 = .ok (.if_icmp .ne 15, 3) := fx_ok0 eX3_fill_0.2.2.2.2.2.2.2.2.2.2.2.2.2.2.2
theorem eX3_fill_31 : (fdecl cX3_fill.data.toList 31 = some (.aload 6, 2)) ∧ (fdecl cX3_fill.data.toList 33 = some (.iload_n 2, 1)) ∧ (fdecl cX3_fill.data.toList 34 = some (.iload_n 3, 1)) ∧ (fdecl cX3_fill.data.toList 35 = some (.iload 4, 2)) ∧ (fdecl cX3_fill.data.toList 37 = some (.invokevirtual 88, 3)) ∧ (fdecl cX3_fill.data.toList 40 = some (.goto 14, 3)) ∧ (fdecl cX3_fill.data.toList 43 = some (.aload 6, 2)) ∧ (fdecl cX3_fill.data.toList 45 = some (.iload_n 2, 1)) ∧ (fdecl cX3_fill.data.toList 46 = some (.iload_n 3, 1)) ∧ (fdecl cX3_fill.data.toList 47 = some (.iload 4, 2)) ∧ (fdecl cX3_fill.data.toList 49 = some (.iload 5, 2)) ∧ (fdecl cX3_fill.data.toList 51 = some (.invokevirtual 92, 3)) ∧ (fdecl cX3_fill.data.toList 54 = some (.ireturn, 1)) := by decide +kernel
theorem dX3_fill_31 : decode cX3_fill 31 = .ok (.aload 6, 2) := fx_ok0 eX3_fill_31.1
theorem dX3_fill_33 : decode cX3_fill 33 = .ok (.iload_n 2, 1) := fx_ok0 eX3_fill_31.2.1
theorem dX3_fill_34 : decode cX3_fill 34 = .ok (.iload_n 3, 1) := fx_ok0 eX3_fill_31.2.2.1
theorem dX3_fill_35 : decode cX3_fill 35 = .ok (.iload 4, 2) := fx_ok0 eX3_fill_31.2.2.2.1
theorem dX3_fill_37 : decode cX3_fill 37 = .ok (.invokevirtual 88, 3) := fx_ok0 eX3_fill_31.2.2.2.2.1
theorem dX3_fill_40 : decode cX3_fill 40 = .ok (.goto 14, 3) := fx_ok0 eX3_fill_31.2.2.2.2.2.1
theorem dX3_fill_43 : decode cX3_fill 43 = .ok (.aload 6, 2) := fx_ok0 eX3_fill_31.2.2.2.2.2.2.1
theorem dX3_fill_45 : decode cX3_fill 45 = .ok (.iload_n 2, 1) := fx_ok0 eX3_fill_31.2.2.2.2.2.2.2.1
theorem dX3_fill_46 : decode cX3_fill 46 = .ok (.iload_n 3, 1) := fx_ok0 eX3_fill_31.2.2.2.2.2.2.2.2.1
theorem dX3_fill_47 : decode cX3_fill 47 = .ok (.iload 4, 2) := fx_ok0 eX3_fill_31.2.2.2.2.2.2.2.2.2.1
theorem dX3_fill_49 : decode cX3_fill 49 = .ok (.iload 5, 2) := fx_ok0 eX3_fill_31.2.2.2.2.2.2.2.2.2.2.1
theorem dX3_fill_51 : decode cX3_fill 51 = .ok (.invokevirtual 92, 3) := fx_ok0 eX3_fill_31.2.2.2.2.2.2.2.2.2.2.2.1
theorem dX3_fill_54 : decode cX3_fill 54 = .ok (.ireturn, 1) := fx_ok0 eX3_fill_31.2.2.2.2.2.2.2.2.2.2.2.2
theorem eX3_pour_0 : (fdecl cX3_pour.data.toList 0 = some (.aload_n 0, 1)) ∧ (fdecl cX3_pour.data.toList 1 = some (.iload_n 1, 1)) ∧ (fdecl cX3_pour.data.toList 2 = some (.invokevirtual 37, 3)) ∧ (fdecl cX3_pour.data.toList 5 = some (.astore_n 3, 1)) ∧ (fdecl cX3_pour.data.toList 6 = some (.aload_n 0, 1)) ∧ (fdecl cX3_pour.data.toList 7 = some (.iload_n 2, 1)) ∧ (fdecl cX3_pour.data.toList 8 = some (.invokevirtual 37, 3)) ∧ (fdecl cX3_pour.data.toList 11 = some (.astore 4, 2)) ∧ (fdecl cX3_pour.data.toList 13 = some (.iload_n 1, 1)) ∧ (fdecl cX3_pour.data.toList 14 = some (.iload_n 2, 1)) ∧ (fdecl cX3_pour.data.toList 15 = some (.if_icmp .ne 8, 3)) ∧ (fdecl cX3_pour.data.toList 18 = some (.aload_n 0, 1)) ∧ (fdecl cX3_pour.data.toList 19 = some (.invokevirtual 63, 3)) ∧ (fdecl cX3_pour.data.toList 22 = some (.ireturn, 1)) ∧ (fdecl cX3_pour.data.toList 23 = some (.aload_n 0, 1)) ∧ (fdecl cX3_pour.data.toList 24 = some (.aload_n 3, 1)) := by decide +kernel
theorem dX3_pour_0 : decode cX3_pour 0 = .ok (.aload_n 0, 1) := fx_ok0 eX3_pour_0.1
theorem dX3_pour_1 : decode cX3_pour 1 = .ok (.iload_n 1, 1) := fx_ok0 eX3_pour_0.2.1
theorem dX3_pour_2 : decode cX3_pour 2 = .ok (.invokevirtual 37, 3) := fx_ok0 eX3_pour_0.2.2.1
theorem dX3_pour_5 : decode cX3_pour 5 = .ok (.astore_n 3, 1) := fx_ok0 eX3_pour_0.2.2.2.1
theorem dX3_pour_6 : decode cX3_pour 6 = .ok (.aload_n 0, 1) := fx_ok0 eX3_pour_0.2.2.2.2.1
theorem dX3_pour_7 : decode cX3_pour 7 = .ok (.iload_n 2, 1) := fx_ok0 eX3_pour_0.2.2.2.2.2.1
theorem dX3_pour_8 : decode cX3_pour 8 = .ok (.invokevirtual 37, 3) := fx_ok0 eX3_pour_0.2.2.2.2.2.2.1
theorem dX3_pour_11 : decode cX3_pour 11 = .ok (.astore 4, 2) := fx_ok0 eX3_pour_0.2.2.2.2.2.2.2.1
theorem dX3_pour_13 : decode cX3_pour 13 = .ok (.iload_n 1, 1) := fx_ok0 eX3_pour_0.2.2.2.2.2.2.2.2.1
theorem dX3_pour_14 : decode cX3_pour 14 = .ok (.iload_n 2, 1) := fx_ok0 eX3_pour_0.2.2.2.2.2.2.2.2.2.1
theorem dX3_pour_15 : decode cX3_pour 15 = .ok (.if_icmp .ne 8, 3) := fx_ok0 eX3_pour_0.2.2.2.2.2.2.2.2.2.2.1
theorem dX3_pour_18 : decode cX3_pour 18 = .ok (.aload_n 0, 1) := fx_ok0 eX3_pour_0.2.2.2.2.2.2.2.2.2.2.2.1
theorem dX3_pour_19 : decode cX3_pour 19 = .ok (.invokevirtual 63, 3) := fx_ok0 eX3_pour_0.2.2.2.2.2.2.2.2.2.2.2.2.1
theorem dX3_pour_22 : decode cX3_pour 22 = .ok (.ireturn, 1) := fx_ok0 eX3_pour_0.2.2.2.2.2.2.2.2.2.2.2.2.2.1
theorem dX3_pour_23 : decode cX3_pour 23 = .ok (.aload_n 0, 1) := fx_ok0 eX3_pour_0.2.2.2.2.2.2.2.2.2.2.2.2.2.2.1
theorem dX3_pour_24 : decode cX3_pour 24 = .ok (.aload_n 3, 1) := fx_ok0 eX3_pour_0.2.2.2.2.2.2.2.2.2.2.2.2.2.2.2
theorem eX3_pour_25 : (fdecl cX3_pour.data.toList 25 = some (.invokevirtual 67, 3)) ∧ (fdecl cX3_pour.data.toList 28 = some (.aload_n 3, 1)) ∧ (fdecl cX3_pour.data.toList 29 = some (.aload 4, 2)) ∧ (fdecl cX3_pour.data.toList 31 = some (.iconst 0, 1)) ∧ (fdecl cX3_pour.data.toList 32 = some (.bipush 99, 2)) ∧ (fdecl cX3_pour.data.toList 34 = some (.invokevirtual 96, 3)) ∧ (fdecl cX3_pour.data.toList 37 = some (.ireturn, 1)) := by decide +kernel
theorem dX3_pour_25 : decode cX3_pour 25 = .ok (.invokevirtual 67, 3) := fx_ok0 eX3_pour_25.1
theorem dX3_pour_28 : decode cX3_pour 28 = .ok (.aload_n 3, 1) := fx_ok0 eX3_pour_25.2.1
theorem dX3_pour_29 : decode cX3_pour 29 = .ok (.aload 4, 2) := fx_ok0 eX3_pour_25.2.2.1
theorem dX3_pour_31 : decode cX3_pour 31 = .ok (.iconst 0, 1) := fx_ok0 eX3_pour_25.2.2.2.1
theorem dX3_pour_32 : decode cX3_pour 32 = .ok (.bipush 99, 2) := fx_ok0 eX3_pour_25.2.2.2.2.1
theorem dX3_pour_34 : decode cX3_pour 34 = .ok (.invokevirtual 96, 3) := fx_ok0 eX3_pour_25.2.2.2.2.2.1
theorem dX3_pour_37 : decode cX3_pour 37 = .ok (.ireturn, 1) := fx_ok0 eX3_pour_25.2.2.2.2.2.2
theorem eX3_keep_0 : (fdecl cX3_keep.data.toList 0 = some (.aload_n 0, 1)) ∧ (fdecl cX3_keep.data.toList 1 = some (.iload_n 1, 1)) ∧ (fdecl cX3_keep.data.toList 2 = some (.invokevirtual 37, 3)) ∧ (fdecl cX3_keep.data.toList 5 = some (.astore 4, 2)) ∧ (fdecl cX3_keep.data.toList 7 = some (.aload_n 0, 1)) ∧ (fdecl cX3_keep.data.toList 8 = some (.iload_n 2, 1)) ∧ (fdecl cX3_keep.data.toList 9 = some (.invokevirtual 37, 3)) ∧ (fdecl cX3_keep.data.toList 12 = some (.astore 5, 2)) ∧ (fdecl cX3_keep.data.toList 14 = some (.iload_n 1, 1)) ∧ (fdecl cX3_keep.data.toList 15 = some (.iload_n 2, 1)) ∧ (fdecl cX3_keep.data.toList 16 = some (.if_icmp .ne 8, 3)) ∧ (fdecl cX3_keep.data.toList 19 = some (.aload_n 0, 1)) ∧ (fdecl cX3_keep.data.toList 20 = some (.invokevirtual 63, 3)) ∧ (fdecl cX3_keep.data.toList 23 = some (.ireturn, 1)) ∧ (fdecl cX3_keep.data.toList 24 = some (.aload_n 0, 1)) ∧ (fdecl cX3_keep.data.toList 25 = some (.aload 4, 2)) := by decide +kernel
theorem dX3_keep_0 : decode cX3_keep 0 = .ok (.aload_n 0, 1) := fx_ok0 eX3_keep_0.1
theorem dX3_keep_1 : decode cX3_keep 1 = .ok (.iload_n 1, 1) := fx_ok0 eX3_keep_0.2.1
theorem dX3_keep_2 : decode cX3_keep 2 = .ok (.invokevirtual 37, 3) := fx_ok0 eX3_keep_0.2.2.1
theorem dX3_keep_5 : decode cX3_keep 5 = .ok (.astore 4, 2) := fx_ok0 eX3_keep_0.2.2.2.1
theorem dX3_keep_7 : decode cX3_keep 7 = .ok (.aload_n 0, 1) := fx_ok0 eX3_keep_0.2.2.2.2.1
theorem dX3_keep_8 : decode cX3_keep 8 = .ok (.iload_n 2, 1) := fx_ok0 eX3_keep_0.2.2.2.2.2.1
theorem dX3_keep_9 : decode cX3_keep 9 = .ok (.invokevirtual 37, 3) := fx_ok0 eX3_keep_0.2.2.2.2.2.2.1
theorem dX3_keep_12 : decode cX3_keep 12 = .ok (.astore 5, 2) := fx_ok0 eX3_keep_0.2.2.2.2.2.2.2.1
theorem dX3_keep_14 : decode cX3_keep 14 = .ok (.iload_n 1, 1) := fx_ok0 eX3_keep_0.2.2.2.2.2.2.2.2.1
theorem dX3_keep_15 : decode cX3_keep 15 = .ok (.iload_n 2, 1) := fx_ok0 eX3_keep_0.2.2.2.2.2.2.2.2.2.1
theorem dX3_keep_16 : decode cX3_keep 16 = .ok (.if_icmp .ne 8, 3) := fx_ok0 eX3_keep_0.2.2.2.2.2.2.2.2.2.2.1
theorem dX3_keep_19 : decode cX3_keep 19 = .ok (.aload_n 0, 1) := fx_ok0 eX3_keep_0.2.2.2.2.2.2.2.2.2.2.2.1
theorem dX3_keep_20 : decode cX3_keep 20 = .ok (.invokevirtual 63, 3) := fx_ok0 eX3_keep_0.2.2.2.2.2.2.2.2.2.2.2.2.1
theorem dX3_keep_23 : decode cX3_keep 23 = .ok (.ireturn, 1) := fx_ok0 eX3_keep_0.2.2.2.2.2.2.2.2.2.2.2.2.2.1
theorem dX3_keep_24 : decode cX3_keep 24 = .ok (.aload_n 0, 1) := fx_ok0 eX3_keep_0.2.2.2.2.2.2.2.2.2.2.2.2.2.2.1
theorem dX3_keep_25 : decode cX3_keep 25 = .ok (.aload 4, 2) := fx_ok0 eX3_keep_0.2.2.2.2.2.2.2.2.2.2.2.2.2.2.2
theorem eX3_keep_27 : (fdecl cX3_keep.data.toList 27 = some (.invokevirtual 67, 3)) ∧ (fdecl cX3_keep.data.toList 30 = some (.aload 4, 2)) ∧ (fdecl cX3_keep.data.toList 32 = some (.aload 5, 2)) ∧ (fdecl cX3_keep.data.toList 34 = some (.iload_n 3, 1)) ∧ (fdecl cX3_keep.data.toList 35 = some (.invokevirtual 100, 3)) ∧ (fdecl cX3_keep.data.toList 38 = some (.ireturn, 1)) := by decide +kernel
theorem dX3_keep_27 : decode cX3_keep 27 = .ok (.invokevirtual 67, 3) := fx_ok0 eX3_keep_27.1
theorem dX3_keep_30 : decode cX3_keep 30 = .ok (.aload 4, 2) := fx_ok0 eX3_keep_27.2.1
theorem dX3_keep_32 : decode cX3_keep 32 = .ok (.aload 5, 2) := fx_ok0 eX3_keep_27.2.2.1
theorem dX3_keep_34 : decode cX3_keep 34 = .ok (.iload_n 3, 1) := fx_ok0 eX3_keep_27.2.2.2.1
theorem dX3_keep_35 : decode cX3_keep 35 = .ok (.invokevirtual 100, 3) := fx_ok0 eX3_keep_27.2.2.2.2.1
theorem dX3_keep_38 : decode cX3_keep 38 = .ok (.ireturn, 1) := fx_ok0 eX3_keep_27.2.2.2.2.2
theorem eX3_put_0 : (fdecl cX3_put.data.toList 0 = some (.aload_n 0, 1)) ∧ (fdecl cX3_put.data.toList 1 = some (.iload_n 1, 1)) ∧ (fdecl cX3_put.data.toList 2 = some (.invokevirtual 37, 3)) ∧ (fdecl cX3_put.data.toList 5 = some (.astore 5, 2)) ∧ (fdecl cX3_put.data.toList 7 = some (.iload_n 2, 1)) ∧ (fdecl cX3_put.data.toList 8 = some (.invokestatic 60, 3)) ∧ (fdecl cX3_put.data.toList 11 = some (.iload_n 3, 1)) ∧ (fdecl cX3_put.data.toList 12 = some (.invokestatic 104, 3)) ∧ (fdecl cX3_put.data.toList 15 = some (.iload 4, 2)) ∧ (fdecl cX3_put.data.toList 17 = some (.iconst 2, 1)) ∧ (fdecl cX3_put.data.toList 18 = some (.invokestatic 41, 3)) ∧ (fdecl cX3_put.data.toList 21 = some (.aload_n 0, 1)) ∧ (fdecl cX3_put.data.toList 22 = some (.aload 5, 2)) ∧ (fdecl cX3_put.data.toList 24 = some (.invokevirtual 67, 3)) ∧ (fdecl cX3_put.data.toList 27 = some (.aload 5, 2)) ∧ (fdecl cX3_put.data.toList 29 = some (.iload_n 2, 1)) := by decide +kernel
theorem dX3_put_0 : decode cX3_put 0 = .ok (.aload_n 0, 1) := fx_ok0 eX3_put_0.1
theorem dX3_put_1 : decode cX3_put 1 = .ok (.iload_n 1, 1) := fx_ok0 eX3_put_0.2.1
theorem dX3_put_2 : decode cX3_put 2 = .ok (.invokevirtual 37, 3) := fx_ok0 eX3_put_0.2.2.1
theorem dX3_put_5 : decode cX3_put 5 = .ok (.astore 5, 2) := fx_ok0 eX3_put_0.2.2.2.1
theorem dX3_put_7 : decode cX3_put 7 = .ok (.iload_n 2, 1) := fx_ok0 eX3_put_0.2.2.2.2.1
theorem dX3_put_8 : decode cX3_put 8 = .ok (.invokestatic 60, 3) := fx_ok0 eX3_put_0.2.2.2.2.2.1
theorem dX3_put_11 : decode cX3_put 11 = .ok (.iload_n 3, 1) := fx_ok0 eX3_put_0.2.2.2.2.2.2.1
theorem dX3_put_12 : decode cX3_put 12 = .ok (.invokestatic 104, 3) := fx_ok0 eX3_put_0.2.2.2.2.2.2.2.1
theorem dX3_put_15 : decode cX3_put 15 = .ok (.iload 4, 2) := fx_ok0 eX3_put_0.2.2.2.2.2.2.2.2.1
theorem dX3_put_17 : decode cX3_put 17 = .ok (.iconst 2, 1) := fx_ok0 eX3_put_0.2.2.2.2.2.2.2.2.2.1
theorem dX3_put_18 : decode cX3_put 18 = .ok (.invokestatic 41, 3) := fx_ok0 eX3_put_0.2.2.2.2.2.2.2.2.2.2.1
theorem dX3_put_21 : decode cX3_put 21 = .ok (.aload_n 0, 1) := fx_ok0 eX3_put_0.2.2.2.2.2.2.2.2.2.2.2.1
theorem dX3_put_22 : decode cX3_put 22 = .ok (.aload 5, 2) := fx_ok0 eX3_put_0.2.2.2.2.2.2.2.2.2.2.2.2.1
theorem dX3_put_24 : decode cX3_put 24 = .ok (.invokevirtual 67, 3) := fx_ok0 eX3_put_0.2.2.2.2.2.2.2.2.2.2.2.2.2.1
theorem dX3_put_27 : decode cX3_put 27 = .ok (.aload 5, 2) := fx_ok0 eX3_put_0.2.2.2.2.2.2.2.2.2.2.2.2.2.2.1
theorem dX3_put_29 : decode cX3_put 29 = .ok (.iload_n 2, 1) := fx_ok0 eX3_put_0.2.2.2.2.2.2.2.2.2.2.2.2.2.2.2
theorem eX3_put_30 : (fdecl cX3_put.data.toList 30 = some (.invokevirtual 70, 3)) ∧ (fdecl cX3_put.data.toList 33 = some (.istore 6, 2)) ∧ (fdecl cX3_put.data.toList 35 = some (.aload 5, 2)) ∧ (fdecl cX3_put.data.toList 37 = some (.iload 6, 2)) ∧ (fdecl cX3_put.data.toList 39 = some (.invokevirtual 107, 3)) ∧ (fdecl cX3_put.data.toList 42 = some (.istore 7, 2)) ∧ (fdecl cX3_put.data.toList 44 = some (.iload 7, 2)) ∧ (fdecl cX3_put.data.toList 46 = some (.iconst (-1), 1)) ∧ (fdecl cX3_put.data.toList 47 = some (.if_icmp .eq 7, 3)) ∧ (fdecl cX3_put.data.toList 50 = some (.iconst 1, 1)) ∧ (fdecl cX3_put.data.toList 51 = some (.goto 4, 3)) ∧ (fdecl cX3_put.data.toList 54 = some (.iconst 0, 1)) ∧ (fdecl cX3_put.data.toList 55 = some (.istore 8, 2)) ∧ (fdecl cX3_put.data.toList 57 = some (.iload 4, 2)) ∧ (fdecl cX3_put.data.toList 59 = some (.ifCond .eq 25, 3)) ∧ (fdecl cX3_put.data.toList 62 = some (.iload 4, 2)) := by decide +kernel
theorem dX3_put_30 : decode cX3_put 30 = .ok (.invokevirtual 70, 3) := fx_ok0 eX3_put_30.1
theorem dX3_put_33 : decode cX3_put 33 = .ok (.istore 6, 2) := fx_ok0 eX3_put_30.2.1
theorem dX3_put_35 : decode cX3_put 35 = .ok (.aload 5, 2) := fx_ok0 eX3_put_30.2.2.1
theorem dX3_put_37 : decode cX3_put 37 = .ok (.iload 6, 2) := fx_ok0 eX3_put_30.2.2.2.1
theorem dX3_put_39 : decode cX3_put 39 = .ok (.invokevirtual 107, 3) := fx_ok0 eX3_put_30.2.2.2.2.1
theorem dX3_put_42 : decode cX3_put 42 = .ok (.istore 7, 2) := fx_ok0 eX3_put_30.2.2.2.2.2.1
theorem dX3_put_44 : decode cX3_put 44 = .ok (.iload 7, 2) := fx_ok0 eX3_put_30.2.2.2.2.2.2.1
theorem dX3_put_46 : decode cX3_put 46 = .ok (.iconst (-1), 1) := fx_ok0 eX3_put_30.2.2.2.2.2.2.2.1
theorem dX3_put_47 : decode cX3_put 47 = .ok (.if_icmp .eq 7, 3) := fx_ok0 eX3_put_30.2.2.2.2.2.2.2.2.1
theorem dX3_put_50 : decode cX3_put 50 = .ok (.iconst 1, 1) := fx_ok0 eX3_put_30.2.2.2.2.2.2.2.2.2.1
theorem dX3_put_51 : decode cX3_put 51 = .ok (.goto 4, 3) := fx_ok0 eX3_put_30.2.2.2.2.2.2.2.2.2.2.1
theorem dX3_put_54 : decode cX3_put 54 = .ok (.iconst 0, 1) := fx_ok0 eX3_put_30.2.2.2.2.2.2.2.2.2.2.2.1
theorem dX3_put_55 : decode cX3_put 55 = .ok (.istore 8, 2) := fx_ok0 eX3_put_30.2.2.2.2.2.2.2.2.2.2.2.2.1
theorem dX3_put_57 : decode cX3_put 57 = .ok (.iload 4, 2) := fx_ok0 eX3_put_30.2.2.2.2.2.2.2.2.2.2.2.2.2.1
theorem dX3_put_59 : decode cX3_put 59 = .ok (.ifCond .eq 25, 3) := fx_ok0 eX3_put_30.2.2.2.2.2.2.2.2.2.2.2.2.2.2.1
theorem dX3_put_62 : decode cX3_put 62 = .ok (.iload 4, 2) := fx_ok0 eX3_put_30.2.2.2.2.2.2.2.2.2.2.2.2.2.2.2
theorem eX3_put_64 : (fdecl cX3_put.data.toList 64 = some (.iconst 1, 1)) ∧ (fdecl cX3_put.data.toList 65 = some (.if_icmp .ne 8, 3)) ∧ (fdecl cX3_put.data.toList 68 = some (.iload 8, 2)) ∧ (fdecl cX3_put.data.toList 70 = some (.ifCond .eq 14, 3)) ∧ (fdecl cX3_put.data.toList 73 = some (.iload 4, 2)) ∧ (fdecl cX3_put.data.toList 75 = some (.iconst 2, 1)) ∧ (fdecl cX3_put.data.toList 76 = some (.if_icmp .ne 17, 3)) ∧ (fdecl cX3_put.data.toList 79 = some (.iload 8, 2)) ∧ (fdecl cX3_put.data.toList 81 = some (.ifCond .eq 12, 3)) ∧ (fdecl cX3_put.data.toList 84 = some (.aload 5, 2)) ∧ (fdecl cX3_put.data.toList 86 = some (.iload 6, 2)) ∧ (fdecl cX3_put.data.toList 88 = some (.iload_n 3, 1)) ∧ (fdecl cX3_put.data.toList 89 = some (.invokevirtual 110, 3)) ∧ (fdecl cX3_put.data.toList 92 = some (.pop, 1)) ∧ (fdecl cX3_put.data.toList 93 = some (.iload 7, 2)) ∧ (fdecl cX3_put.data.toList 95 = some (.ireturn, 1)) := by decide +kernel
theorem dX3_put_64 : decode cX3_put 64 = .ok (.iconst 1, 1) := fx_ok0 eX3_put_64.1
theorem dX3_put_65 : decode cX3_put 65 = .ok (.if_icmp .ne 8, 3) := fx_ok0 eX3_put_64.2.1
theorem dX3_put_68 : decode cX3_put 68 = .ok (.iload 8, 2) := fx_ok0 eX3_put_64.2.2.1
theorem dX3_put_70 : decode cX3_put 70 = .ok (.ifCond .eq 14, 3) := fx_ok0 eX3_put_64.2.2.2.1
theorem dX3_put_73 : decode cX3_put 73 = .ok (.iload 4, 2) := fx_ok0 eX3_put_64.2.2.2.2.1
theorem dX3_put_75 : decode cX3_put 75 = .ok (.iconst 2, 1) := fx_ok0 eX3_put_64.2.2.2.2.2.1
theorem dX3_put_76 : decode cX3_put 76 = .ok (.if_icmp .ne 17, 3) := fx_ok0 eX3_put_64.2.2.2.2.2.2.1
theorem dX3_put_79 : decode cX3_put 79 = .ok (.iload 8, 2) := fx_ok0 eX3_put_64.2.2.2.2.2.2.2.1
theorem dX3_put_81 : decode cX3_put 81 = .ok (.ifCond .eq 12, 3) := fx_ok0 eX3_put_64.2.2.2.2.2.2.2.2.1
theorem dX3_put_84 : decode cX3_put 84 = .ok (.aload 5, 2) := fx_ok0 eX3_put_64.2.2.2.2.2.2.2.2.2.1
theorem dX3_put_86 : decode cX3_put 86 = .ok (.iload 6, 2) := fx_ok0 eX3_put_64.2.2.2.2.2.2.2.2.2.2.1
theorem dX3_put_88 : decode cX3_put 88 = .ok (.iload_n 3, 1) := fx_ok0 eX3_put_64.2.2.2.2.2.2.2.2.2.2.2.1
theorem dX3_put_89 : decode cX3_put 89 = .ok (.invokevirtual 110, 3) := fx_ok0 eX3_put_64.2.2.2.2.2.2.2.2.2.2.2.2.1
theorem dX3_put_92 : decode cX3_put 92 = .ok (.pop, 1) := fx_ok0 eX3_put_64.2.2.2.2.2.2.2.2.2.2.2.2.2.1
theorem dX3_put_93 : decode cX3_put 93 = .ok (.iload 7, 2) := fx_ok0 eX3_put_64.2.2.2.2.2.2.2.2.2.2.2.2.2.2.1
theorem dX3_put_95 : decode cX3_put 95 = .ok (.ireturn, 1) := fx_ok0 eX3_put_64.2.2.2.2.2.2.2.2.2.2.2.2.2.2.2
theorem eX3_exchange_0 : (fdecl cX3_exchange.data.toList 0 = some (.aload_n 0, 1)) ∧ (fdecl cX3_exchange.data.toList 1 = some (.iload_n 1, 1)) ∧ (fdecl cX3_exchange.data.toList 2 = some (.invokevirtual 37, 3)) ∧ (fdecl cX3_exchange.data.toList 5 = some (.astore 5, 2)) ∧ (fdecl cX3_exchange.data.toList 7 = some (.iload_n 2, 1)) ∧ (fdecl cX3_exchange.data.toList 8 = some (.invokestatic 60, 3)) ∧ (fdecl cX3_exchange.data.toList 11 = some (.iload_n 3, 1)) ∧ (fdecl cX3_exchange.data.toList 12 = some (.invokestatic 104, 3)) ∧ (fdecl cX3_exchange.data.toList 15 = some (.iload 4, 2)) ∧ (fdecl cX3_exchange.data.toList 17 = some (.invokestatic 85, 3)) ∧ (fdecl cX3_exchange.data.toList 20 = some (.aload_n 0, 1)) ∧ (fdecl cX3_exchange.data.toList 21 = some (.aload 5, 2)) ∧ (fdecl cX3_exchange.data.toList 23 = some (.invokevirtual 67, 3)) ∧ (fdecl cX3_exchange.data.toList 26 = some (.aload 5, 2)) ∧ (fdecl cX3_exchange.data.toList 28 = some (.iload_n 2, 1)) ∧ (fdecl cX3_exchange.data.toList 29 = some (.invokevirtual 70, 3)) := by decide +kernel
theorem dX3_exchange_0 : decode cX3_exchange 0 = .ok (.aload_n 0, 1) := fx_ok0 eX3_exchange_0.1
theorem dX3_exchange_1 : decode cX3_exchange 1 = .ok (.iload_n 1, 1) := fx_ok0 eX3_exchange_0.2.1
theorem dX3_exchange_2 : decode cX3_exchange 2 = .ok (.invokevirtual 37, 3) := fx_ok0 eX3_exchange_0.2.2.1
theorem dX3_exchange_5 : decode cX3_exchange 5 = .ok (.astore 5, 2) := fx_ok0 eX3_exchange_0.2.2.2.1
theorem dX3_exchange_7 : decode cX3_exchange 7 = .ok (.iload_n 2, 1) := fx_ok0 eX3_exchange_0.2.2.2.2.1
theorem dX3_exchange_8 : decode cX3_exchange 8 = .ok (.invokestatic 60, 3) := fx_ok0 eX3_exchange_0.2.2.2.2.2.1
theorem dX3_exchange_11 : decode cX3_exchange 11 = .ok (.iload_n 3, 1) := fx_ok0 eX3_exchange_0.2.2.2.2.2.2.1
theorem dX3_exchange_12 : decode cX3_exchange 12 = .ok (.invokestatic 104, 3) := fx_ok0 eX3_exchange_0.2.2.2.2.2.2.2.1
theorem dX3_exchange_15 : decode cX3_exchange 15 = .ok (.iload 4, 2) := fx_ok0 eX3_exchange_0.2.2.2.2.2.2.2.2.1
theorem dX3_exchange_17 : decode cX3_exchange 17 = .ok (.invokestatic 85, 3) := fx_ok0 eX3_exchange_0.2.2.2.2.2.2.2.2.2.1
theorem dX3_exchange_20 : decode cX3_exchange 20 = .ok (.aload_n 0, 1) := fx_ok0 eX3_exchange_0.2.2.2.2.2.2.2.2.2.2.1
theorem dX3_exchange_21 : decode cX3_exchange 21 = .ok (.aload 5, 2) := fx_ok0 eX3_exchange_0.2.2.2.2.2.2.2.2.2.2.2.1
theorem dX3_exchange_23 : decode cX3_exchange 23 = .ok (.invokevirtual 67, 3) := fx_ok0 eX3_exchange_0.2.2.2.2.2.2.2.2.2.2.2.2.1
theorem dX3_exchange_26 : decode cX3_exchange 26 = .ok (.aload 5, 2) := fx_ok0 eX3_exchange_0.2.2.2.2.2.2.2.2.2.2.2.2.2.1
theorem dX3_exchange_28 : decode cX3_exchange 28 = .ok (.iload_n 2, 1) := fx_ok0 eX3_exchange_0.2.2.2.2.2.2.2.2.2.2.2.2.2.2.1
theorem dX3_exchange_29 : decode cX3_exchange 29 = .ok (.invokevirtual 70, 3) := fx_ok0 eX3_exchange_0.2.2.2.2.2.2.2.2.2.2.2.2.2.2.2
theorem eX3_exchange_32 : (fdecl cX3_exchange.data.toList 32 = some (.istore 6, 2)) ∧ (fdecl cX3_exchange.data.toList 34 = some (.aload 5, 2)) ∧ (fdecl cX3_exchange.data.toList 36 = some (.iload 6, 2)) ∧ (fdecl cX3_exchange.data.toList 38 = some (.invokevirtual 107, 3)) ∧ (fdecl cX3_exchange.data.toList 41 = some (.iload_n 3, 1)) ∧ (fdecl cX3_exchange.data.toList 42 = some (.if_icmp .eq 5, 3)) ∧ (fdecl cX3_exchange.data.toList 45 = some (.iconst 0, 1)) ∧ (fdecl cX3_exchange.data.toList 46 = some (.ireturn, 1)) ∧ (fdecl cX3_exchange.data.toList 47 = some (.iload 4, 2)) ∧ (fdecl cX3_exchange.data.toList 49 = some (.iconst (-1), 1)) ∧ (fdecl cX3_exchange.data.toList 50 = some (.if_icmp .ne 14, 3)) ∧ (fdecl cX3_exchange.data.toList 53 = some (.aload 5, 2)) ∧ (fdecl cX3_exchange.data.toList 55 = some (.iload 6, 2)) ∧ (fdecl cX3_exchange.data.toList 57 = some (.invokevirtual 113, 3)) ∧ (fdecl cX3_exchange.data.toList 60 = some (.pop, 1)) ∧ (fdecl cX3_exchange.data.toList 61 = some (.goto 13, 3)) := by decide +kernel
theorem dX3_exchange_32 : decode cX3_exchange 32 = .ok (.istore 6, 2) := fx_ok0 eX3_exchange_32.1
theorem dX3_exchange_34 : decode cX3_exchange 34 = .ok (.aload 5, 2) := fx_ok0 eX3_exchange_32.2.1
theorem dX3_exchange_36 : decode cX3_exchange 36 = .ok (.iload 6, 2) := fx_ok0 eX3_exchange_32.2.2.1
theorem dX3_exchange_38 : decode cX3_exchange 38 = .ok (.invokevirtual 107, 3) := fx_ok0 eX3_exchange_32.2.2.2.1
theorem dX3_exchange_41 : decode cX3_exchange 41 = .ok (.iload_n 3, 1) := fx_ok0 eX3_exchange_32.2.2.2.2.1
theorem dX3_exchange_42 : decode cX3_exchange 42 = .ok (.if_icmp .eq 5, 3) := fx_ok0 eX3_exchange_32.2.2.2.2.2.1
theorem dX3_exchange_45 : decode cX3_exchange 45 = .ok (.iconst 0, 1) := fx_ok0 eX3_exchange_32.2.2.2.2.2.2.1
theorem dX3_exchange_46 : decode cX3_exchange 46 = .ok (.ireturn, 1) := fx_ok0 eX3_exchange_32.2.2.2.2.2.2.2.1
theorem dX3_exchange_47 : decode cX3_exchange 47 = .ok (.iload 4, 2) := fx_ok0 eX3_exchange_32.2.2.2.2.2.2.2.2.1
theorem dX3_exchange_49 : decode cX3_exchange 49 = .ok (.iconst (-1), 1) := fx_ok0 eX3_exchange_32.2.2.2.2.2.2.2.2.2.1
theorem dX3_exchange_50 : decode cX3_exchange 50 = .ok (.if_icmp .ne 14, 3) := fx_ok0 eX3_exchange_32.2.2.2.2.2.2.2.2.2.2.1
theorem dX3_exchange_53 : decode cX3_exchange 53 = .ok (.aload 5, 2) := fx_ok0 eX3_exchange_32.2.2.2.2.2.2.2.2.2.2.2.1
theorem dX3_exchange_55 : decode cX3_exchange 55 = .ok (.iload 6, 2) := fx_ok0 eX3_exchange_32.2.2.2.2.2.2.2.2.2.2.2.2.1
theorem dX3_exchange_57 : decode cX3_exchange 57 = .ok (.invokevirtual 113, 3) := fx_ok0 eX3_exchange_32.2.2.2.2.2.2.2.2.2.2.2.2.2.1
theorem dX3_exchange_60 : decode cX3_exchange 60 = .ok (.pop, 1) := fx_ok0 eX3_exchange_32.2.2.2.2.2.2.2.2.2.2.2.2.2.2.1
theorem dX3_exchange_61 : decode cX3_exchange 61 = .ok (.goto 13, 3) := fx_ok0 eX3_exchange_32.2.2.2.2.2.2.2.2.2.2.2.2.2.2.2
theorem eX3_exchange_64 : (fdecl cX3_exchange.data.toList 64 = some (.aload 5, 2)) ∧ (fdecl cX3_exchange.data.toList 66 = some (.iload 6, 2)) ∧ (fdecl cX3_exchange.data.toList 68 = some (.iload 4, 2)) ∧ (fdecl cX3_exchange.data.toList 70 = some (.invokevirtual 110, 3)) ∧ (fdecl cX3_exchange.data.toList 73 = some (.pop, 1)) ∧ (fdecl cX3_exchange.data.toList 74 = some (.iconst 1, 1)) ∧ (fdecl cX3_exchange.data.toList 75 = some (.ireturn, 1)) := by decide +kernel
theorem dX3_exchange_64 : decode cX3_exchange 64 = .ok (.aload 5, 2) := fx_ok0 eX3_exchange_64.1
theorem dX3_exchange_66 : decode cX3_exchange 66 = .ok (.iload 6, 2) := fx_ok0 eX3_exchange_64.2.1
theorem dX3_exchange_68 : decode cX3_exchange 68 = .ok (.iload 4, 2) := fx_ok0 eX3_exchange_64.2.2.1
theorem dX3_exchange_70 : decode cX3_exchange 70 = .ok (.invokevirtual 110, 3) := fx_ok0 eX3_exchange_64.2.2.2.1
theorem dX3_exchange_73 : decode cX3_exchange 73 = .ok (.pop, 1) := fx_ok0 eX3_exchange_64.2.2.2.2.1
theorem dX3_exchange_74 : decode cX3_exchange 74 = .ok (.iconst 1, 1) := fx_ok0 eX3_exchange_64.2.2.2.2.2.1
theorem dX3_exchange_75 : decode cX3_exchange 75 = .ok (.ireturn, 1) := fx_ok0 eX3_exchange_64.2.2.2.2.2.2
theorem eX3_take_0 : (fdecl cX3_take.data.toList 0 = some (.aload_n 0, 1)) ∧ (fdecl cX3_take.data.toList 1 = some (.iload_n 1, 1)) ∧ (fdecl cX3_take.data.toList 2 = some (.invokevirtual 37, 3)) ∧ (fdecl cX3_take.data.toList 5 = some (.astore_n 3, 1)) ∧ (fdecl cX3_take.data.toList 6 = some (.iload_n 2, 1)) ∧ (fdecl cX3_take.data.toList 7 = some (.invokestatic 60, 3)) ∧ (fdecl cX3_take.data.toList 10 = some (.aload_n 0, 1)) ∧ (fdecl cX3_take.data.toList 11 = some (.aload_n 3, 1)) ∧ (fdecl cX3_take.data.toList 12 = some (.invokevirtual 67, 3)) ∧ (fdecl cX3_take.data.toList 15 = some (.aload_n 3, 1)) ∧ (fdecl cX3_take.data.toList 16 = some (.aload_n 3, 1)) ∧ (fdecl cX3_take.data.toList 17 = some (.iload_n 2, 1)) ∧ (fdecl cX3_take.data.toList 18 = some (.invokevirtual 70, 3)) ∧ (fdecl cX3_take.data.toList 21 = some (.invokevirtual 113, 3)) ∧ (fdecl cX3_take.data.toList 24 = some (.ireturn, 1)) := by decide +kernel
theorem dX3_take_0 : decode cX3_take 0 = .ok (.aload_n 0, 1) := fx_ok0 eX3_take_0.1
theorem dX3_take_1 : decode cX3_take 1 = .ok (.iload_n 1, 1) := fx_ok0 eX3_take_0.2.1
theorem dX3_take_2 : decode cX3_take 2 = .ok (.invokevirtual 37, 3) := fx_ok0 eX3_take_0.2.2.1
theorem dX3_take_5 : decode cX3_take 5 = .ok (.astore_n 3, 1) := fx_ok0 eX3_take_0.2.2.2.1
theorem dX3_take_6 : decode cX3_take 6 = .ok (.iload_n 2, 1) := fx_ok0 eX3_take_0.2.2.2.2.1
theorem dX3_take_7 : decode cX3_take 7 = .ok (.invokestatic 60, 3) := fx_ok0 eX3_take_0.2.2.2.2.2.1
theorem dX3_take_10 : decode cX3_take 10 = .ok (.aload_n 0, 1) := fx_ok0 eX3_take_0.2.2.2.2.2.2.1
theorem dX3_take_11 : decode cX3_take 11 = .ok (.aload_n 3, 1) := fx_ok0 eX3_take_0.2.2.2.2.2.2.2.1
theorem dX3_take_12 : decode cX3_take 12 = .ok (.invokevirtual 67, 3) := fx_ok0 eX3_take_0.2.2.2.2.2.2.2.2.1
theorem dX3_take_15 : decode cX3_take 15 = .ok (.aload_n 3, 1) := fx_ok0 eX3_take_0.2.2.2.2.2.2.2.2.2.1
theorem dX3_take_16 : decode cX3_take 16 = .ok (.aload_n 3, 1) := fx_ok0 eX3_take_0.2.2.2.2.2.2.2.2.2.2.1
theorem dX3_take_17 : decode cX3_take 17 = .ok (.iload_n 2, 1) := fx_ok0 eX3_take_0.2.2.2.2.2.2.2.2.2.2.2.1
theorem dX3_take_18 : decode cX3_take 18 = .ok (.invokevirtual 70, 3) := fx_ok0 eX3_take_0.2.2.2.2.2.2.2.2.2.2.2.2.1
theorem dX3_take_21 : decode cX3_take 21 = .ok (.invokevirtual 113, 3) := fx_ok0 eX3_take_0.2.2.2.2.2.2.2.2.2.2.2.2.2.1
theorem dX3_take_24 : decode cX3_take 24 = .ok (.ireturn, 1) := fx_ok0 eX3_take_0.2.2.2.2.2.2.2.2.2.2.2.2.2.2
theorem eX3_drop_0 : (fdecl cX3_drop.data.toList 0 = some (.aload_n 0, 1)) ∧ (fdecl cX3_drop.data.toList 1 = some (.iload_n 1, 1)) ∧ (fdecl cX3_drop.data.toList 2 = some (.invokevirtual 37, 3)) ∧ (fdecl cX3_drop.data.toList 5 = some (.astore_n 3, 1)) ∧ (fdecl cX3_drop.data.toList 6 = some (.iload_n 2, 1)) ∧ (fdecl cX3_drop.data.toList 7 = some (.iconst 2, 1)) ∧ (fdecl cX3_drop.data.toList 8 = some (.invokestatic 41, 3)) ∧ (fdecl cX3_drop.data.toList 11 = some (.aload_n 0, 1)) ∧ (fdecl cX3_drop.data.toList 12 = some (.aload_n 3, 1)) ∧ (fdecl cX3_drop.data.toList 13 = some (.invokevirtual 67, 3)) ∧ (fdecl cX3_drop.data.toList 16 = some (.aload_n 3, 1)) ∧ (fdecl cX3_drop.data.toList 17 = some (.iconst 0, 1)) ∧ (fdecl cX3_drop.data.toList 18 = some (.bipush 99, 2)) ∧ (fdecl cX3_drop.data.toList 20 = some (.iload_n 2, 1)) ∧ (fdecl cX3_drop.data.toList 21 = some (.invokevirtual 116, 3)) ∧ (fdecl cX3_drop.data.toList 24 = some (.ireturn, 1)) := by decide +kernel
theorem dX3_drop_0 : decode cX3_drop 0 = .ok (.aload_n 0, 1) := fx_ok0 eX3_drop_0.1
theorem dX3_drop_1 : decode cX3_drop 1 = .ok (.iload_n 1, 1) := fx_ok0 eX3_drop_0.2.1
theorem dX3_drop_2 : decode cX3_drop 2 = .ok (.invokevirtual 37, 3) := fx_ok0 eX3_drop_0.2.2.1
theorem dX3_drop_5 : decode cX3_drop 5 = .ok (.astore_n 3, 1) := fx_ok0 eX3_drop_0.2.2.2.1
theorem dX3_drop_6 : decode cX3_drop 6 = .ok (.iload_n 2, 1) := fx_ok0 eX3_drop_0.2.2.2.2.1
theorem dX3_drop_7 : decode cX3_drop 7 = .ok (.iconst 2, 1) := fx_ok0 eX3_drop_0.2.2.2.2.2.1
theorem dX3_drop_8 : decode cX3_drop 8 = .ok (.invokestatic 41, 3) := fx_ok0 eX3_drop_0.2.2.2.2.2.2.1
theorem dX3_drop_11 : decode cX3_drop 11 = .ok (.aload_n 0, 1) := fx_ok0 eX3_drop_0.2.2.2.2.2.2.2.1
theorem dX3_drop_12 : decode cX3_drop 12 = .ok (.aload_n 3, 1) := fx_ok0 eX3_drop_0.2.2.2.2.2.2.2.2.1
theorem dX3_drop_13 : decode cX3_drop 13 = .ok (.invokevirtual 67, 3) := fx_ok0 eX3_drop_0.2.2.2.2.2.2.2.2.2.1
theorem dX3_drop_16 : decode cX3_drop 16 = .ok (.aload_n 3, 1) := fx_ok0 eX3_drop_0.2.2.2.2.2.2.2.2.2.2.1
theorem dX3_drop_17 : decode cX3_drop 17 = .ok (.iconst 0, 1) := fx_ok0 eX3_drop_0.2.2.2.2.2.2.2.2.2.2.2.1
theorem dX3_drop_18 : decode cX3_drop 18 = .ok (.bipush 99, 2) := fx_ok0 eX3_drop_0.2.2.2.2.2.2.2.2.2.2.2.2.1
theorem dX3_drop_20 : decode cX3_drop 20 = .ok (.iload_n 2, 1) := fx_ok0 eX3_drop_0.2.2.2.2.2.2.2.2.2.2.2.2.2.1
theorem dX3_drop_21 : decode cX3_drop 21 = .ok (.invokevirtual 116, 3) := fx_ok0 eX3_drop_0.2.2.2.2.2.2.2.2.2.2.2.2.2.2.1
theorem dX3_drop_24 : decode cX3_drop 24 = .ok (.ireturn, 1) := fx_ok0 eX3_drop_0.2.2.2.2.2.2.2.2.2.2.2.2.2.2.2
theorem eX3_has_0 : (fdecl cX3_has.data.toList 0 = some (.aload_n 0, 1)) ∧ (fdecl cX3_has.data.toList 1 = some (.iload_n 1, 1)) ∧ (fdecl cX3_has.data.toList 2 = some (.invokevirtual 37, 3)) ∧ (fdecl cX3_has.data.toList 5 = some (.astore 4, 2)) ∧ (fdecl cX3_has.data.toList 7 = some (.iload_n 3, 1)) ∧ (fdecl cX3_has.data.toList 8 = some (.bipush 99, 2)) ∧ (fdecl cX3_has.data.toList 10 = some (.invokestatic 41, 3)) ∧ (fdecl cX3_has.data.toList 13 = some (.iload_n 2, 1)) ∧ (fdecl cX3_has.data.toList 14 = some (.ifCond .eq 17, 3)) ∧ (fdecl cX3_has.data.toList 17 = some (.aload 4, 2)) ∧ (fdecl cX3_has.data.toList 19 = some (.aload 4, 2)) ∧ (fdecl cX3_has.data.toList 21 = some (.iload_n 3, 1)) ∧ (fdecl cX3_has.data.toList 22 = some (.invokevirtual 70, 3)) ∧ (fdecl cX3_has.data.toList 25 = some (.invokevirtual 119, 3)) ∧ (fdecl cX3_has.data.toList 28 = some (.goto 9, 3)) ∧ (fdecl cX3_has.data.toList 31 = some (.aload 4, 2)) := by decide +kernel
theorem dX3_has_0 : decode cX3_has 0 = .ok (.aload_n 0, 1) := fx_ok0 eX3_has_0.1
theorem dX3_has_1 : decode cX3_has 1 = .ok (.iload_n 1, 1) := fx_ok0 eX3_has_0.2.1
theorem dX3_has_2 : decode cX3_has 2 = .ok (.invokevirtual 37, 3) := fx_ok0 eX3_has_0.2.2.1
theorem dX3_has_5 : decode cX3_has 5 = .ok (.astore 4, 2) := fx_ok0 eX3_has_0.2.2.2.1
theorem dX3_has_7 : decode cX3_has 7 = .ok (.iload_n 3, 1) := fx_ok0 eX3_has_0.2.2.2.2.1
theorem dX3_has_8 : decode cX3_has 8 = .ok (.bipush 99, 2) := fx_ok0 eX3_has_0.2.2.2.2.2.1
theorem dX3_has_10 : decode cX3_has 10 = .ok (.invokestatic 41, 3) := fx_ok0 eX3_has_0.2.2.2.2.2.2.1
theorem dX3_has_13 : decode cX3_has 13 = .ok (.iload_n 2, 1) := fx_ok0 eX3_has_0.2.2.2.2.2.2.2.1
theorem dX3_has_14 : decode cX3_has 14 = .ok (.ifCond .eq 17, 3) := fx_ok0 eX3_has_0.2.2.2.2.2.2.2.2.1
theorem dX3_has_17 : decode cX3_has 17 = .ok (.aload 4, 2) := fx_ok0 eX3_has_0.2.2.2.2.2.2.2.2.2.1
theorem dX3_has_19 : decode cX3_has 19 = .ok (.aload 4, 2) := fx_ok0 eX3_has_0.2.2.2.2.2.2.2.2.2.2.1
theorem dX3_has_21 : decode cX3_has 21 = .ok (.iload_n 3, 1) := fx_ok0 eX3_has_0.2.2.2.2.2.2.2.2.2.2.2.1
theorem dX3_has_22 : decode cX3_has 22 = .ok (.invokevirtual 70, 3) := fx_ok0 eX3_has_0.2.2.2.2.2.2.2.2.2.2.2.2.1
theorem dX3_has_25 : decode cX3_has 25 = .ok (.invokevirtual 119, 3) := fx_ok0 eX3_has_0.2.2.2.2.2.2.2.2.2.2.2.2.2.1
theorem dX3_has_28 : decode cX3_has 28 = .ok (.goto 9, 3) := fx_ok0 eX3_has_0.2.2.2.2.2.2.2.2.2.2.2.2.2.2.1
theorem dX3_has_31 : decode cX3_has 31 = .ok (.aload 4, 2) := fx_ok0 eX3_has_0.2.2.2.2.2.2.2.2.2.2.2.2.2.2.2
theorem eX3_has_33 : (fdecl cX3_has.data.toList 33 = some (.iload_n 3, 1)) ∧ (fdecl cX3_has.data.toList 34 = some (.invokevirtual 123, 3)) ∧ (fdecl cX3_has.data.toList 37 = some (.ireturn, 1)) := by decide +kernel
theorem dX3_has_33 : decode cX3_has 33 = .ok (.iload_n 3, 1) := fx_ok0 eX3_has_33.1
theorem dX3_has_34 : decode cX3_has 34 = .ok (.invokevirtual 123, 3) := fx_ok0 eX3_has_33.2.1
theorem dX3_has_37 : decode cX3_has 37 = .ok (.ireturn, 1) := fx_ok0 eX3_has_33.2.2
theorem eX3_near_0 : (fdecl cX3_near.data.toList 0 = some (.aload_n 0, 1)) ∧ (fdecl cX3_near.data.toList 1 = some (.iload_n 1, 1)) ∧ (fdecl cX3_near.data.toList 2 = some (.invokevirtual 37, 3)) ∧ (fdecl cX3_near.data.toList 5 = some (.astore 5, 2)) ∧ (fdecl cX3_near.data.toList 7 = some (.iload_n 2, 1)) ∧ (fdecl cX3_near.data.toList 8 = some (.invokestatic 60, 3)) ∧ (fdecl cX3_near.data.toList 11 = some (.iload_n 3, 1)) ∧ (fdecl cX3_near.data.toList 12 = some (.iconst 4, 1)) ∧ (fdecl cX3_near.data.toList 13 = some (.invokestatic 41, 3)) ∧ (fdecl cX3_near.data.toList 16 = some (.aload 5, 2)) ∧ (fdecl cX3_near.data.toList 18 = some (.iconst 0, 1)) ∧ (fdecl cX3_near.data.toList 19 = some (.bipush 99, 2)) ∧ (fdecl cX3_near.data.toList 21 = some (.iload_n 2, 1)) ∧ (fdecl cX3_near.data.toList 22 = some (.iload_n 3, 1)) ∧ (fdecl cX3_near.data.toList 23 = some (.invokevirtual 126, 3)) ∧ (fdecl cX3_near.data.toList 26 = some (.istore 6, 2)) := by decide +kernel
theorem dX3_near_0 : decode cX3_near 0 = .ok (.aload_n 0, 1) := fx_ok0 eX3_near_0.1
theorem dX3_near_1 : decode cX3_near 1 = .ok (.iload_n 1, 1) := fx_ok0 eX3_near_0.2.1
theorem dX3_near_2 : decode cX3_near 2 = .ok (.invokevirtual 37, 3) := fx_ok0 eX3_near_0.2.2.1
theorem dX3_near_5 : decode cX3_near 5 = .ok (.astore 5, 2) := fx_ok0 eX3_near_0.2.2.2.1
theorem dX3_near_7 : decode cX3_near 7 = .ok (.iload_n 2, 1) := fx_ok0 eX3_near_0.2.2.2.2.1
theorem dX3_near_8 : decode cX3_near 8 = .ok (.invokestatic 60, 3) := fx_ok0 eX3_near_0.2.2.2.2.2.1
theorem dX3_near_11 : decode cX3_near 11 = .ok (.iload_n 3, 1) := fx_ok0 eX3_near_0.2.2.2.2.2.2.1
theorem dX3_near_12 : decode cX3_near 12 = .ok (.iconst 4, 1) := fx_ok0 eX3_near_0.2.2.2.2.2.2.2.1
theorem dX3_near_13 : decode cX3_near 13 = .ok (.invokestatic 41, 3) := fx_ok0 eX3_near_0.2.2.2.2.2.2.2.2.1
theorem dX3_near_16 : decode cX3_near 16 = .ok (.aload 5, 2) := fx_ok0 eX3_near_0.2.2.2.2.2.2.2.2.2.1
theorem dX3_near_18 : decode cX3_near 18 = .ok (.iconst 0, 1) := fx_ok0 eX3_near_0.2.2.2.2.2.2.2.2.2.2.1
theorem dX3_near_19 : decode cX3_near 19 = .ok (.bipush 99, 2) := fx_ok0 eX3_near_0.2.2.2.2.2.2.2.2.2.2.2.1
theorem dX3_near_21 : decode cX3_near 21 = .ok (.iload_n 2, 1) := fx_ok0 eX3_near_0.2.2.2.2.2.2.2.2.2.2.2.2.1
theorem dX3_near_22 : decode cX3_near 22 = .ok (.iload_n 3, 1) := fx_ok0 eX3_near_0.2.2.2.2.2.2.2.2.2.2.2.2.2.1
theorem dX3_near_23 : decode cX3_near 23 = .ok (.invokevirtual 126, 3) := fx_ok0 eX3_near_0.2.2.2.2.2.2.2.2.2.2.2.2.2.2.1
theorem dX3_near_26 : decode cX3_near 26 = .ok (.istore 6, 2) := fx_ok0 eX3_near_0.2.2.2.2.2.2.2.2.2.2.2.2.2.2.2
theorem eX3_near_28 : (fdecl cX3_near.data.toList 28 = some (.iload 4, 2)) ∧ (fdecl cX3_near.data.toList 30 = some (.ifCond .eq 13, 3)) ∧ (fdecl cX3_near.data.toList 33 = some (.aload 5, 2)) ∧ (fdecl cX3_near.data.toList 35 = some (.iload 6, 2)) ∧ (fdecl cX3_near.data.toList 37 = some (.invokevirtual 129, 3)) ∧ (fdecl cX3_near.data.toList 40 = some (.goto 10, 3)) ∧ (fdecl cX3_near.data.toList 43 = some (.aload 5, 2)) ∧ (fdecl cX3_near.data.toList 45 = some (.iload 6, 2)) ∧ (fdecl cX3_near.data.toList 47 = some (.invokevirtual 132, 3)) ∧ (fdecl cX3_near.data.toList 50 = some (.ireturn, 1)) := by decide +kernel
theorem dX3_near_28 : decode cX3_near 28 = .ok (.iload 4, 2) := fx_ok0 eX3_near_28.1
theorem dX3_near_30 : decode cX3_near 30 = .ok (.ifCond .eq 13, 3) := fx_ok0 eX3_near_28.2.1
theorem dX3_near_33 : decode cX3_near 33 = .ok (.aload 5, 2) := fx_ok0 eX3_near_28.2.2.1
theorem dX3_near_35 : decode cX3_near 35 = .ok (.iload 6, 2) := fx_ok0 eX3_near_28.2.2.2.1
theorem dX3_near_37 : decode cX3_near 37 = .ok (.invokevirtual 129, 3) := fx_ok0 eX3_near_28.2.2.2.2.1
theorem dX3_near_40 : decode cX3_near 40 = .ok (.goto 10, 3) := fx_ok0 eX3_near_28.2.2.2.2.2.1
theorem dX3_near_43 : decode cX3_near 43 = .ok (.aload 5, 2) := fx_ok0 eX3_near_28.2.2.2.2.2.2.1
theorem dX3_near_45 : decode cX3_near 45 = .ok (.iload 6, 2) := fx_ok0 eX3_near_28.2.2.2.2.2.2.2.1
theorem dX3_near_47 : decode cX3_near 47 = .ok (.invokevirtual 132, 3) := fx_ok0 eX3_near_28.2.2.2.2.2.2.2.2.1
theorem dX3_near_50 : decode cX3_near 50 = .ok (.ireturn, 1) := fx_ok0 eX3_near_28.2.2.2.2.2.2.2.2.2
theorem eX3_end_0 : (fdecl cX3_end.data.toList 0 = some (.aload_n 0, 1)) ∧ (fdecl cX3_end.data.toList 1 = some (.iload_n 1, 1)) ∧ (fdecl cX3_end.data.toList 2 = some (.invokevirtual 37, 3)) ∧ (fdecl cX3_end.data.toList 5 = some (.astore 4, 2)) ∧ (fdecl cX3_end.data.toList 7 = some (.aload 4, 2)) ∧ (fdecl cX3_end.data.toList 9 = some (.iconst 0, 1)) ∧ (fdecl cX3_end.data.toList 10 = some (.bipush 99, 2)) ∧ (fdecl cX3_end.data.toList 12 = some (.iload_n 2, 1)) ∧ (fdecl cX3_end.data.toList 13 = some (.invokevirtual 135, 3)) ∧ (fdecl cX3_end.data.toList 16 = some (.istore 5, 2)) ∧ (fdecl cX3_end.data.toList 18 = some (.iload_n 3, 1)) ∧ (fdecl cX3_end.data.toList 19 = some (.ifCond .eq 11, 3)) ∧ (fdecl cX3_end.data.toList 22 = some (.aload 4, 2)) ∧ (fdecl cX3_end.data.toList 24 = some (.iload 5, 2)) ∧ (fdecl cX3_end.data.toList 26 = some (.invokevirtual 129, 3)) ∧ (fdecl cX3_end.data.toList 29 = some (.ireturn, 1)) := by decide +kernel
theorem dX3_end_0 : decode cX3_end 0 = .ok (.aload_n 0, 1) := fx_ok0 eX3_end_0.1
theorem dX3_end_1 : decode cX3_end 1 = .ok (.iload_n 1, 1) := fx_ok0 eX3_end_0.2.1
theorem dX3_end_2 : decode cX3_end 2 = .ok (.invokevirtual 37, 3) := fx_ok0 eX3_end_0.2.2.1
theorem dX3_end_5 : decode cX3_end 5 = .ok (.astore 4, 2) := fx_ok0 eX3_end_0.2.2.2.1
theorem dX3_end_7 : decode cX3_end 7 = .ok (.aload 4, 2) := fx_ok0 eX3_end_0.2.2.2.2.1
theorem dX3_end_9 : decode cX3_end 9 = .ok (.iconst 0, 1) := fx_ok0 eX3_end_0.2.2.2.2.2.1
theorem dX3_end_10 : decode cX3_end 10 = .ok (.bipush 99, 2) := fx_ok0 eX3_end_0.2.2.2.2.2.2.1
theorem dX3_end_12 : decode cX3_end 12 = .ok (.iload_n 2, 1) := fx_ok0 eX3_end_0.2.2.2.2.2.2.2.1
theorem dX3_end_13 : decode cX3_end 13 = .ok (.invokevirtual 135, 3) := fx_ok0 eX3_end_0.2.2.2.2.2.2.2.2.1
theorem dX3_end_16 : decode cX3_end 16 = .ok (.istore 5, 2) := fx_ok0 eX3_end_0.2.2.2.2.2.2.2.2.2.1
theorem dX3_end_18 : decode cX3_end 18 = .ok (.iload_n 3, 1) := fx_ok0 eX3_end_0.2.2.2.2.2.2.2.2.2.2.1
theorem dX3_end_19 : decode cX3_end 19 = .ok (.ifCond .eq 11, 3) := fx_ok0 eX3_end_0.2.2.2.2.2.2.2.2.2.2.2.1
theorem dX3_end_22 : decode cX3_end 22 = .ok (.aload 4, 2) := fx_ok0 eX3_end_0.2.2.2.2.2.2.2.2.2.2.2.2.1
theorem dX3_end_24 : decode cX3_end 24 = .ok (.iload 5, 2) := fx_ok0 eX3_end_0.2.2.2.2.2.2.2.2.2.2.2.2.2.1
theorem dX3_end_26 : decode cX3_end 26 = .ok (.invokevirtual 129, 3) := fx_ok0 eX3_end_0.2.2.2.2.2.2.2.2.2.2.2.2.2.2.1
theorem dX3_end_29 : decode cX3_end 29 = .ok (.ireturn, 1) := fx_ok0 eX3_end_0.2.2.2.2.2.2.2.2.2.2.2.2.2.2.2
theorem eX3_end_30 : (fdecl cX3_end.data.toList 30 = some (.aload_n 0, 1)) ∧ (fdecl cX3_end.data.toList 31 = some (.aload 4, 2)) ∧ (fdecl cX3_end.data.toList 33 = some (.iload 5, 2)) ∧ (fdecl cX3_end.data.toList 35 = some (.invokevirtual 139, 3)) ∧ (fdecl cX3_end.data.toList 38 = some (.ireturn, 1)) := by decide +kernel
theorem dX3_end_30 : decode cX3_end 30 = .ok (.aload_n 0, 1) := fx_ok0 eX3_end_30.1
theorem dX3_end_31 : decode cX3_end 31 = .ok (.aload 4, 2) := fx_ok0 eX3_end_30.2.1
theorem dX3_end_33 : decode cX3_end 33 = .ok (.iload 5, 2) := fx_ok0 eX3_end_30.2.2.1
theorem dX3_end_35 : decode cX3_end 35 = .ok (.invokevirtual 139, 3) := fx_ok0 eX3_end_30.2.2.2.1
theorem dX3_end_38 : decode cX3_end 38 = .ok (.ireturn, 1) := fx_ok0 eX3_end_30.2.2.2.2
theorem eX3_keyAt_0 : (fdecl cX3_keyAt.data.toList 0 = some (.aload_n 0, 1)) ∧ (fdecl cX3_keyAt.data.toList 1 = some (.iload_n 1, 1)) ∧ (fdecl cX3_keyAt.data.toList 2 = some (.invokevirtual 37, 3)) ∧ (fdecl cX3_keyAt.data.toList 5 = some (.astore 4, 2)) ∧ (fdecl cX3_keyAt.data.toList 7 = some (.iload_n 2, 1)) ∧ (fdecl cX3_keyAt.data.toList 8 = some (.bipush 99, 2)) ∧ (fdecl cX3_keyAt.data.toList 10 = some (.invokestatic 41, 3)) ∧ (fdecl cX3_keyAt.data.toList 13 = some (.iload_n 3, 1)) ∧ (fdecl cX3_keyAt.data.toList 14 = some (.ifCond .eq 15, 3)) ∧ (fdecl cX3_keyAt.data.toList 17 = some (.aload 4, 2)) ∧ (fdecl cX3_keyAt.data.toList 19 = some (.getfield 49, 3)) ∧ (fdecl cX3_keyAt.data.toList 22 = some (.iconst 1, 1)) ∧ (fdecl cX3_keyAt.data.toList 23 = some (.isub, 1)) ∧ (fdecl cX3_keyAt.data.toList 24 = some (.iload_n 2, 1)) ∧ (fdecl cX3_keyAt.data.toList 25 = some (.isub, 1)) ∧ (fdecl cX3_keyAt.data.toList 26 = some (.goto 4, 3)) := by decide +kernel
theorem dX3_keyAt_0 : decode cX3_keyAt 0 = .ok (.aload_n 0, 1) := fx_ok0 eX3_keyAt_0.1
theorem dX3_keyAt_1 : decode cX3_keyAt 1 = .ok (.iload_n 1, 1) := fx_ok0 eX3_keyAt_0.2.1
theorem dX3_keyAt_2 : decode cX3_keyAt 2 = .ok (.invokevirtual 37, 3) := fx_ok0 eX3_keyAt_0.2.2.1
theorem dX3_keyAt_5 : decode cX3_keyAt 5 = .ok (.astore 4, 2) := fx_ok0 eX3_keyAt_0.2.2.2.1
theorem dX3_keyAt_7 : decode cX3_keyAt 7 = .ok (.iload_n 2, 1) := fx_ok0 eX3_keyAt_0.2.2.2.2.1
theorem dX3_keyAt_8 : decode cX3_keyAt 8 = .ok (.bipush 99, 2) := fx_ok0 eX3_keyAt_0.2.2.2.2.2.1
theorem dX3_keyAt_10 : decode cX3_keyAt 10 = .ok (.invokestatic 41, 3) := fx_ok0 eX3_keyAt_0.2.2.2.2.2.2.1
theorem dX3_keyAt_13 : decode cX3_keyAt 13 = .ok (.iload_n 3, 1) := fx_ok0 eX3_keyAt_0.2.2.2.2.2.2.2.1
theorem dX3_keyAt_14 : decode cX3_keyAt 14 = .ok (.ifCond .eq 15, 3) := fx_ok0 eX3_keyAt_0.2.2.2.2.2.2.2.2.1
theorem dX3_keyAt_17 : decode cX3_keyAt 17 = .ok (.aload 4, 2) := fx_ok0 eX3_keyAt_0.2.2.2.2.2.2.2.2.2.1
theorem dX3_keyAt_19 : decode cX3_keyAt 19 = .ok (.getfield 49, 3) := fx_ok0 eX3_keyAt_0.2.2.2.2.2.2.2.2.2.2.1
theorem dX3_keyAt_22 : decode cX3_keyAt 22 = .ok (.iconst 1, 1) := fx_ok0 eX3_keyAt_0.2.2.2.2.2.2.2.2.2.2.2.1
theorem dX3_keyAt_23 : decode cX3_keyAt 23 = .ok (.isub, 1) := fx_ok0 eX3_keyAt_0.2.2.2.2.2.2.2.2.2.2.2.2.1
theorem dX3_keyAt_24 : decode cX3_keyAt 24 = .ok (.iload_n 2, 1) := fx_ok0 eX3_keyAt_0.2.2.2.2.2.2.2.2.2.2.2.2.2.1
theorem dX3_keyAt_25 : decode cX3_keyAt 25 = .ok (.isub, 1) := fx_ok0 eX3_keyAt_0.2.2.2.2.2.2.2.2.2.2.2.2.2.2.1
theorem dX3_keyAt_26 : decode cX3_keyAt 26 = .ok (.goto 4, 3) := fx_ok0 eX3_keyAt_0.2.2.2.2.2.2.2.2.2.2.2.2.2.2.2
theorem eX3_keyAt_29 : (fdecl cX3_keyAt.data.toList 29 = some (.iload_n 2, 1)) ∧ (fdecl cX3_keyAt.data.toList 30 = some (.istore 5, 2)) ∧ (fdecl cX3_keyAt.data.toList 32 = some (.aload 4, 2)) ∧ (fdecl cX3_keyAt.data.toList 34 = some (.aload 4, 2)) ∧ (fdecl cX3_keyAt.data.toList 36 = some (.iload 5, 2)) ∧ (fdecl cX3_keyAt.data.toList 38 = some (.invokevirtual 142, 3)) ∧ (fdecl cX3_keyAt.data.toList 41 = some (.invokevirtual 132, 3)) ∧ (fdecl cX3_keyAt.data.toList 44 = some (.ireturn, 1)) := by decide +kernel
theorem dX3_keyAt_29 : decode cX3_keyAt 29 = .ok (.iload_n 2, 1) := fx_ok0 eX3_keyAt_29.1
theorem dX3_keyAt_30 : decode cX3_keyAt 30 = .ok (.istore 5, 2) := fx_ok0 eX3_keyAt_29.2.1
theorem dX3_keyAt_32 : decode cX3_keyAt 32 = .ok (.aload 4, 2) := fx_ok0 eX3_keyAt_29.2.2.1
theorem dX3_keyAt_34 : decode cX3_keyAt 34 = .ok (.aload 4, 2) := fx_ok0 eX3_keyAt_29.2.2.2.1
theorem dX3_keyAt_36 : decode cX3_keyAt 36 = .ok (.iload 5, 2) := fx_ok0 eX3_keyAt_29.2.2.2.2.1
theorem dX3_keyAt_38 : decode cX3_keyAt 38 = .ok (.invokevirtual 142, 3) := fx_ok0 eX3_keyAt_29.2.2.2.2.2.1
theorem dX3_keyAt_41 : decode cX3_keyAt 41 = .ok (.invokevirtual 132, 3) := fx_ok0 eX3_keyAt_29.2.2.2.2.2.2.1
theorem dX3_keyAt_44 : decode cX3_keyAt 44 = .ok (.ireturn, 1) := fx_ok0 eX3_keyAt_29.2.2.2.2.2.2.2
theorem eX3_tellBook_0 : (fdecl cX3_tellBook.data.toList 0 = some (.aload_n 0, 1)) ∧ (fdecl cX3_tellBook.data.toList 1 = some (.iload_n 1, 1)) ∧ (fdecl cX3_tellBook.data.toList 2 = some (.invokevirtual 37, 3)) ∧ (fdecl cX3_tellBook.data.toList 5 = some (.astore_n 3, 1)) ∧ (fdecl cX3_tellBook.data.toList 6 = some (.iload_n 2, 1)) ∧ (fdecl cX3_tellBook.data.toList 7 = some (.iconst 3, 1)) ∧ (fdecl cX3_tellBook.data.toList 8 = some (.invokestatic 41, 3)) ∧ (fdecl cX3_tellBook.data.toList 11 = some (.aload_n 3, 1)) ∧ (fdecl cX3_tellBook.data.toList 12 = some (.iload_n 2, 1)) ∧ (fdecl cX3_tellBook.data.toList 13 = some (.invokestatic 145, 3)) ∧ (fdecl cX3_tellBook.data.toList 16 = some (.ireturn, 1)) := by decide +kernel
theorem dX3_tellBook_0 : decode cX3_tellBook 0 = .ok (.aload_n 0, 1) := fx_ok0 eX3_tellBook_0.1
theorem dX3_tellBook_1 : decode cX3_tellBook 1 = .ok (.iload_n 1, 1) := fx_ok0 eX3_tellBook_0.2.1
theorem dX3_tellBook_2 : decode cX3_tellBook 2 = .ok (.invokevirtual 37, 3) := fx_ok0 eX3_tellBook_0.2.2.1
theorem dX3_tellBook_5 : decode cX3_tellBook 5 = .ok (.astore_n 3, 1) := fx_ok0 eX3_tellBook_0.2.2.2.1
theorem dX3_tellBook_6 : decode cX3_tellBook 6 = .ok (.iload_n 2, 1) := fx_ok0 eX3_tellBook_0.2.2.2.2.1
theorem dX3_tellBook_7 : decode cX3_tellBook 7 = .ok (.iconst 3, 1) := fx_ok0 eX3_tellBook_0.2.2.2.2.2.1
theorem dX3_tellBook_8 : decode cX3_tellBook 8 = .ok (.invokestatic 41, 3) := fx_ok0 eX3_tellBook_0.2.2.2.2.2.2.1
theorem dX3_tellBook_11 : decode cX3_tellBook 11 = .ok (.aload_n 3, 1) := fx_ok0 eX3_tellBook_0.2.2.2.2.2.2.2.1
theorem dX3_tellBook_12 : decode cX3_tellBook 12 = .ok (.iload_n 2, 1) := fx_ok0 eX3_tellBook_0.2.2.2.2.2.2.2.2.1
theorem dX3_tellBook_13 : decode cX3_tellBook 13 = .ok (.invokestatic 145, 3) := fx_ok0 eX3_tellBook_0.2.2.2.2.2.2.2.2.2.1
theorem dX3_tellBook_16 : decode cX3_tellBook 16 = .ok (.ireturn, 1) := fx_ok0 eX3_tellBook_0.2.2.2.2.2.2.2.2.2.2
def fAX3_bookText_0 : List UInt8 := [42, 27, 182, 0, 37, 77, 187, 0, 148, 89, 183, 0, 150, 78, 45, 16, 123, 182, 0, 151, 87, 4, 54, 4, 3, 54, 5, 21, 5, 16, 100, 162, 0, 58, 44, 21, 5, 182, 0, 119, 153, 0, 43, 21, 4, 154, 0, 10, 45, 18, 155, 182, 0, 157, 87, 3, 54, 4, 45, 44, 21, 5, 182, 0]
def fAX3_bookText_1 : List UInt8 := [132, 182, 0, 160, 16, 61, 182, 0, 151, 44, 21, 5, 182, 0, 107, 182, 0, 160, 87, 132, 5, 1, 167, 255, 197, 45, 16, 125, 182, 0, 151, 87, 45, 182, 0, 163, 176]
def fTX3_bookText_1 : List UInt8 := fAX3_bookText_1
def fTX3_bookText_0 : List UInt8 := fAX3_bookText_0 ++ fTX3_bookText_1
theorem fDX3_bookText_0 : cX3_bookText.data.toList.drop 0 = fTX3_bookText_0 := eq_of_beq (by decide +kernel)
theorem fDX3_bookText_1 : cX3_bookText.data.toList.drop 64 = fTX3_bookText_1 := fx_nx (d := 0) (n := 64) (a := fAX3_bookText_0) fDX3_bookText_0 rfl
theorem eX3_bookText_0 : (fdecl fTX3_bookText_0 0 = some (.aload_n 0, 1)) ∧ (fdecl fTX3_bookText_0 1 = some (.iload_n 1, 1)) ∧ (fdecl fTX3_bookText_0 2 = some (.invokevirtual 37, 3)) ∧ (fdecl fTX3_bookText_0 5 = some (.astore_n 2, 1)) ∧ (fdecl fTX3_bookText_0 6 = some (.new 148, 3)) ∧ (fdecl fTX3_bookText_0 9 = some (.dup, 1)) ∧ (fdecl fTX3_bookText_0 10 = some (.invokespecial 150, 3)) ∧ (fdecl fTX3_bookText_0 13 = some (.astore_n 3, 1)) ∧ (fdecl fTX3_bookText_0 14 = some (.aload_n 3, 1)) ∧ (fdecl fTX3_bookText_0 15 = some (.bipush 123, 2)) ∧ (fdecl fTX3_bookText_0 17 = some (.invokevirtual 151, 3)) ∧ (fdecl fTX3_bookText_0 20 = some (.pop, 1)) ∧ (fdecl fTX3_bookText_0 21 = some (.iconst 1, 1)) ∧ (fdecl fTX3_bookText_0 22 = some (.istore 4, 2)) ∧ (fdecl fTX3_bookText_0 24 = some (.iconst 0, 1)) ∧ (fdecl fTX3_bookText_0 25 = some (.istore 5, 2)) := by decide +kernel
theorem dX3_bookText_0 : decode cX3_bookText 0 = .ok (.aload_n 0, 1) := fx_ok (d := 0) (i := 0) fDX3_bookText_0 eX3_bookText_0.1
theorem dX3_bookText_1 : decode cX3_bookText 1 = .ok (.iload_n 1, 1) := fx_ok (d := 0) (i := 1) fDX3_bookText_0 eX3_bookText_0.2.1
theorem dX3_bookText_2 : decode cX3_bookText 2 = .ok (.invokevirtual 37, 3) := fx_ok (d := 0) (i := 2) fDX3_bookText_0 eX3_bookText_0.2.2.1
theorem dX3_bookText_5 : decode cX3_bookText 5 = .ok (.astore_n 2, 1) := fx_ok (d := 0) (i := 5) fDX3_bookText_0 eX3_bookText_0.2.2.2.1
theorem dX3_bookText_6 : decode cX3_bookText 6 = .ok (.new 148, 3) := fx_ok (d := 0) (i := 6) fDX3_bookText_0 eX3_bookText_0.2.2.2.2.1
theorem dX3_bookText_9 : decode cX3_bookText 9 = .ok (.dup, 1) := fx_ok (d := 0) (i := 9) fDX3_bookText_0 eX3_bookText_0.2.2.2.2.2.1
theorem dX3_bookText_10 : decode cX3_bookText 10 = .ok (.invokespecial 150, 3) := fx_ok (d := 0) (i := 10) fDX3_bookText_0 eX3_bookText_0.2.2.2.2.2.2.1
theorem dX3_bookText_13 : decode cX3_bookText 13 = .ok (.astore_n 3, 1) := fx_ok (d := 0) (i := 13) fDX3_bookText_0 eX3_bookText_0.2.2.2.2.2.2.2.1
theorem dX3_bookText_14 : decode cX3_bookText 14 = .ok (.aload_n 3, 1) := fx_ok (d := 0) (i := 14) fDX3_bookText_0 eX3_bookText_0.2.2.2.2.2.2.2.2.1
theorem dX3_bookText_15 : decode cX3_bookText 15 = .ok (.bipush 123, 2) := fx_ok (d := 0) (i := 15) fDX3_bookText_0 eX3_bookText_0.2.2.2.2.2.2.2.2.2.1
theorem dX3_bookText_17 : decode cX3_bookText 17 = .ok (.invokevirtual 151, 3) := fx_ok (d := 0) (i := 17) fDX3_bookText_0 eX3_bookText_0.2.2.2.2.2.2.2.2.2.2.1
theorem dX3_bookText_20 : decode cX3_bookText 20 = .ok (.pop, 1) := fx_ok (d := 0) (i := 20) fDX3_bookText_0 eX3_bookText_0.2.2.2.2.2.2.2.2.2.2.2.1
theorem dX3_bookText_21 : decode cX3_bookText 21 = .ok (.iconst 1, 1) := fx_ok (d := 0) (i := 21) fDX3_bookText_0 eX3_bookText_0.2.2.2.2.2.2.2.2.2.2.2.2.1
theorem dX3_bookText_22 : decode cX3_bookText 22 = .ok (.istore 4, 2) := fx_ok (d := 0) (i := 22) fDX3_bookText_0 eX3_bookText_0.2.2.2.2.2.2.2.2.2.2.2.2.2.1
theorem dX3_bookText_24 : decode cX3_bookText 24 = .ok (.iconst 0, 1) := fx_ok (d := 0) (i := 24) fDX3_bookText_0 eX3_bookText_0.2.2.2.2.2.2.2.2.2.2.2.2.2.2.1
theorem dX3_bookText_25 : decode cX3_bookText 25 = .ok (.istore 5, 2) := fx_ok (d := 0) (i := 25) fDX3_bookText_0 eX3_bookText_0.2.2.2.2.2.2.2.2.2.2.2.2.2.2.2
theorem eX3_bookText_27 : (fdecl fTX3_bookText_0 27 = some (.iload 5, 2)) ∧ (fdecl fTX3_bookText_0 29 = some (.bipush 100, 2)) ∧ (fdecl fTX3_bookText_0 31 = some (.if_icmp .ge 58, 3)) ∧ (fdecl fTX3_bookText_0 34 = some (.aload_n 2, 1)) ∧ (fdecl fTX3_bookText_0 35 = some (.iload 5, 2)) ∧ (fdecl fTX3_bookText_0 37 = some (.invokevirtual 119, 3)) ∧ (fdecl fTX3_bookText_0 40 = some (.ifCond .eq 43, 3)) ∧ (fdecl fTX3_bookText_0 43 = some (.iload 4, 2)) ∧ (fdecl fTX3_bookText_0 45 = some (.ifCond .ne 10, 3)) ∧ (fdecl fTX3_bookText_0 48 = some (.aload_n 3, 1)) ∧ (fdecl fTX3_bookText_0 49 = some (.ldc 155, 2)) ∧ (fdecl fTX3_bookText_0 51 = some (.invokevirtual 157, 3)) ∧ (fdecl fTX3_bookText_0 54 = some (.pop, 1)) ∧ (fdecl fTX3_bookText_0 55 = some (.iconst 0, 1)) ∧ (fdecl fTX3_bookText_0 56 = some (.istore 4, 2)) ∧ (fdecl fTX3_bookText_0 58 = some (.aload_n 3, 1)) := by decide +kernel
theorem dX3_bookText_27 : decode cX3_bookText 27 = .ok (.iload 5, 2) := fx_ok (d := 0) (i := 27) fDX3_bookText_0 eX3_bookText_27.1
theorem dX3_bookText_29 : decode cX3_bookText 29 = .ok (.bipush 100, 2) := fx_ok (d := 0) (i := 29) fDX3_bookText_0 eX3_bookText_27.2.1
theorem dX3_bookText_31 : decode cX3_bookText 31 = .ok (.if_icmp .ge 58, 3) := fx_ok (d := 0) (i := 31) fDX3_bookText_0 eX3_bookText_27.2.2.1
theorem dX3_bookText_34 : decode cX3_bookText 34 = .ok (.aload_n 2, 1) := fx_ok (d := 0) (i := 34) fDX3_bookText_0 eX3_bookText_27.2.2.2.1
theorem dX3_bookText_35 : decode cX3_bookText 35 = .ok (.iload 5, 2) := fx_ok (d := 0) (i := 35) fDX3_bookText_0 eX3_bookText_27.2.2.2.2.1
theorem dX3_bookText_37 : decode cX3_bookText 37 = .ok (.invokevirtual 119, 3) := fx_ok (d := 0) (i := 37) fDX3_bookText_0 eX3_bookText_27.2.2.2.2.2.1
theorem dX3_bookText_40 : decode cX3_bookText 40 = .ok (.ifCond .eq 43, 3) := fx_ok (d := 0) (i := 40) fDX3_bookText_0 eX3_bookText_27.2.2.2.2.2.2.1
theorem dX3_bookText_43 : decode cX3_bookText 43 = .ok (.iload 4, 2) := fx_ok (d := 0) (i := 43) fDX3_bookText_0 eX3_bookText_27.2.2.2.2.2.2.2.1
theorem dX3_bookText_45 : decode cX3_bookText 45 = .ok (.ifCond .ne 10, 3) := fx_ok (d := 0) (i := 45) fDX3_bookText_0 eX3_bookText_27.2.2.2.2.2.2.2.2.1
theorem dX3_bookText_48 : decode cX3_bookText 48 = .ok (.aload_n 3, 1) := fx_ok (d := 0) (i := 48) fDX3_bookText_0 eX3_bookText_27.2.2.2.2.2.2.2.2.2.1
theorem dX3_bookText_49 : decode cX3_bookText 49 = .ok (.ldc 155, 2) := fx_ok (d := 0) (i := 49) fDX3_bookText_0 eX3_bookText_27.2.2.2.2.2.2.2.2.2.2.1
theorem dX3_bookText_51 : decode cX3_bookText 51 = .ok (.invokevirtual 157, 3) := fx_ok (d := 0) (i := 51) fDX3_bookText_0 eX3_bookText_27.2.2.2.2.2.2.2.2.2.2.2.1
theorem dX3_bookText_54 : decode cX3_bookText 54 = .ok (.pop, 1) := fx_ok (d := 0) (i := 54) fDX3_bookText_0 eX3_bookText_27.2.2.2.2.2.2.2.2.2.2.2.2.1
theorem dX3_bookText_55 : decode cX3_bookText 55 = .ok (.iconst 0, 1) := fx_ok (d := 0) (i := 55) fDX3_bookText_0 eX3_bookText_27.2.2.2.2.2.2.2.2.2.2.2.2.2.1
theorem dX3_bookText_56 : decode cX3_bookText 56 = .ok (.istore 4, 2) := fx_ok (d := 0) (i := 56) fDX3_bookText_0 eX3_bookText_27.2.2.2.2.2.2.2.2.2.2.2.2.2.2.1
theorem dX3_bookText_58 : decode cX3_bookText 58 = .ok (.aload_n 3, 1) := fx_ok (d := 0) (i := 58) fDX3_bookText_0 eX3_bookText_27.2.2.2.2.2.2.2.2.2.2.2.2.2.2.2
theorem eX3_bookText_59 : (fdecl fTX3_bookText_0 59 = some (.aload_n 2, 1)) ∧ (fdecl fTX3_bookText_0 60 = some (.iload 5, 2)) ∧ (fdecl fTX3_bookText_0 62 = some (.invokevirtual 132, 3)) ∧ (fdecl fTX3_bookText_1 1 = some (.invokevirtual 160, 3)) ∧ (fdecl fTX3_bookText_1 4 = some (.bipush 61, 2)) ∧ (fdecl fTX3_bookText_1 6 = some (.invokevirtual 151, 3)) ∧ (fdecl fTX3_bookText_1 9 = some (.aload_n 2, 1)) ∧ (fdecl fTX3_bookText_1 10 = some (.iload 5, 2)) ∧ (fdecl fTX3_bookText_1 12 = some (.invokevirtual 107, 3)) ∧ (fdecl fTX3_bookText_1 15 = some (.invokevirtual 160, 3)) ∧ (fdecl fTX3_bookText_1 18 = some (.pop, 1)) ∧ (fdecl fTX3_bookText_1 22 = some (.goto (-59), 3)) ∧ (fdecl fTX3_bookText_1 25 = some (.aload_n 3, 1)) ∧ (fdecl fTX3_bookText_1 26 = some (.bipush 125, 2)) ∧ (fdecl fTX3_bookText_1 28 = some (.invokevirtual 151, 3)) ∧ (fdecl fTX3_bookText_1 31 = some (.pop, 1)) := by decide +kernel
theorem dX3_bookText_59 : decode cX3_bookText 59 = .ok (.aload_n 2, 1) := fx_ok (d := 0) (i := 59) fDX3_bookText_0 eX3_bookText_59.1
theorem dX3_bookText_60 : decode cX3_bookText 60 = .ok (.iload 5, 2) := fx_ok (d := 0) (i := 60) fDX3_bookText_0 eX3_bookText_59.2.1
theorem dX3_bookText_62 : decode cX3_bookText 62 = .ok (.invokevirtual 132, 3) := fx_ok (d := 0) (i := 62) fDX3_bookText_0 eX3_bookText_59.2.2.1
theorem dX3_bookText_65 : decode cX3_bookText 65 = .ok (.invokevirtual 160, 3) := fx_ok (d := 64) (i := 1) fDX3_bookText_1 eX3_bookText_59.2.2.2.1
theorem dX3_bookText_68 : decode cX3_bookText 68 = .ok (.bipush 61, 2) := fx_ok (d := 64) (i := 4) fDX3_bookText_1 eX3_bookText_59.2.2.2.2.1
theorem dX3_bookText_70 : decode cX3_bookText 70 = .ok (.invokevirtual 151, 3) := fx_ok (d := 64) (i := 6) fDX3_bookText_1 eX3_bookText_59.2.2.2.2.2.1
theorem dX3_bookText_73 : decode cX3_bookText 73 = .ok (.aload_n 2, 1) := fx_ok (d := 64) (i := 9) fDX3_bookText_1 eX3_bookText_59.2.2.2.2.2.2.1
theorem dX3_bookText_74 : decode cX3_bookText 74 = .ok (.iload 5, 2) := fx_ok (d := 64) (i := 10) fDX3_bookText_1 eX3_bookText_59.2.2.2.2.2.2.2.1
theorem dX3_bookText_76 : decode cX3_bookText 76 = .ok (.invokevirtual 107, 3) := fx_ok (d := 64) (i := 12) fDX3_bookText_1 eX3_bookText_59.2.2.2.2.2.2.2.2.1
theorem dX3_bookText_79 : decode cX3_bookText 79 = .ok (.invokevirtual 160, 3) := fx_ok (d := 64) (i := 15) fDX3_bookText_1 eX3_bookText_59.2.2.2.2.2.2.2.2.2.1
theorem dX3_bookText_82 : decode cX3_bookText 82 = .ok (.pop, 1) := fx_ok (d := 64) (i := 18) fDX3_bookText_1 eX3_bookText_59.2.2.2.2.2.2.2.2.2.2.1
theorem dX3_bookText_86 : decode cX3_bookText 86 = .ok (.goto (-59), 3) := fx_ok (d := 64) (i := 22) fDX3_bookText_1 eX3_bookText_59.2.2.2.2.2.2.2.2.2.2.2.1
theorem dX3_bookText_89 : decode cX3_bookText 89 = .ok (.aload_n 3, 1) := fx_ok (d := 64) (i := 25) fDX3_bookText_1 eX3_bookText_59.2.2.2.2.2.2.2.2.2.2.2.2.1
theorem dX3_bookText_90 : decode cX3_bookText 90 = .ok (.bipush 125, 2) := fx_ok (d := 64) (i := 26) fDX3_bookText_1 eX3_bookText_59.2.2.2.2.2.2.2.2.2.2.2.2.2.1
theorem dX3_bookText_92 : decode cX3_bookText 92 = .ok (.invokevirtual 151, 3) := fx_ok (d := 64) (i := 28) fDX3_bookText_1 eX3_bookText_59.2.2.2.2.2.2.2.2.2.2.2.2.2.2.1
theorem dX3_bookText_95 : decode cX3_bookText 95 = .ok (.pop, 1) := fx_ok (d := 64) (i := 31) fDX3_bookText_1 eX3_bookText_59.2.2.2.2.2.2.2.2.2.2.2.2.2.2.2
theorem eX3_bookText_96 : (fdecl fTX3_bookText_1 32 = some (.aload_n 3, 1)) ∧ (fdecl fTX3_bookText_1 33 = some (.invokevirtual 163, 3)) ∧ (fdecl fTX3_bookText_1 36 = some (.areturn, 1)) := by decide +kernel
theorem dX3_bookText_96 : decode cX3_bookText 96 = .ok (.aload_n 3, 1) := fx_ok (d := 64) (i := 32) fDX3_bookText_1 eX3_bookText_96.1
theorem dX3_bookText_97 : decode cX3_bookText 97 = .ok (.invokevirtual 163, 3) := fx_ok (d := 64) (i := 33) fDX3_bookText_1 eX3_bookText_96.2.1
theorem dX3_bookText_100 : decode cX3_bookText 100 = .ok (.areturn, 1) := fx_ok (d := 64) (i := 36) fDX3_bookText_1 eX3_bookText_96.2.2
theorem dX3_bookText_83 : decode cX3_bookText 83 = .ok (.iinc 5 1, 3) := by decide +kernel
theorem eX3_sameBooks_0 : (fdecl cX3_sameBooks.data.toList 0 = some (.aload_n 0, 1)) ∧ (fdecl cX3_sameBooks.data.toList 1 = some (.iload_n 1, 1)) ∧ (fdecl cX3_sameBooks.data.toList 2 = some (.invokevirtual 37, 3)) ∧ (fdecl cX3_sameBooks.data.toList 5 = some (.astore_n 3, 1)) ∧ (fdecl cX3_sameBooks.data.toList 6 = some (.aload_n 3, 1)) ∧ (fdecl cX3_sameBooks.data.toList 7 = some (.aload_n 0, 1)) ∧ (fdecl cX3_sameBooks.data.toList 8 = some (.iload_n 2, 1)) ∧ (fdecl cX3_sameBooks.data.toList 9 = some (.invokevirtual 37, 3)) ∧ (fdecl cX3_sameBooks.data.toList 12 = some (.invokevirtual 167, 3)) ∧ (fdecl cX3_sameBooks.data.toList 15 = some (.ireturn, 1)) := by decide +kernel
theorem dX3_sameBooks_0 : decode cX3_sameBooks 0 = .ok (.aload_n 0, 1) := fx_ok0 eX3_sameBooks_0.1
theorem dX3_sameBooks_1 : decode cX3_sameBooks 1 = .ok (.iload_n 1, 1) := fx_ok0 eX3_sameBooks_0.2.1
theorem dX3_sameBooks_2 : decode cX3_sameBooks 2 = .ok (.invokevirtual 37, 3) := fx_ok0 eX3_sameBooks_0.2.2.1
theorem dX3_sameBooks_5 : decode cX3_sameBooks 5 = .ok (.astore_n 3, 1) := fx_ok0 eX3_sameBooks_0.2.2.2.1
theorem dX3_sameBooks_6 : decode cX3_sameBooks 6 = .ok (.aload_n 3, 1) := fx_ok0 eX3_sameBooks_0.2.2.2.2.1
theorem dX3_sameBooks_7 : decode cX3_sameBooks 7 = .ok (.aload_n 0, 1) := fx_ok0 eX3_sameBooks_0.2.2.2.2.2.1
theorem dX3_sameBooks_8 : decode cX3_sameBooks 8 = .ok (.iload_n 2, 1) := fx_ok0 eX3_sameBooks_0.2.2.2.2.2.2.1
theorem dX3_sameBooks_9 : decode cX3_sameBooks 9 = .ok (.invokevirtual 37, 3) := fx_ok0 eX3_sameBooks_0.2.2.2.2.2.2.2.1
theorem dX3_sameBooks_12 : decode cX3_sameBooks 12 = .ok (.invokevirtual 167, 3) := fx_ok0 eX3_sameBooks_0.2.2.2.2.2.2.2.2.1
theorem dX3_sameBooks_15 : decode cX3_sameBooks 15 = .ok (.ireturn, 1) := fx_ok0 eX3_sameBooks_0.2.2.2.2.2.2.2.2.2
def fAX3_openView_0 : List UInt8 := [42, 27, 182, 0, 171, 58, 7, 42, 28, 182, 0, 37, 58, 8, 29, 21, 4, 21, 5, 184, 0, 175, 21, 6, 6, 184, 0, 41, 25, 8, 21, 4, 182, 0, 70, 54, 9, 25, 8, 21, 5, 182, 0, 70, 54, 10, 29, 5, 160, 0, 15, 21, 9, 21, 10, 164, 0, 8, 42, 182, 0, 63, 172, 21]
def fAX3_openView_1 : List UInt8 := [6, 4, 126, 153, 0, 7, 4, 167, 0, 4, 3, 54, 11, 21, 6, 5, 126, 153, 0, 7, 4, 167, 0, 4, 3, 54, 12, 21, 11, 153, 0, 8, 21, 9, 167, 0, 7, 21, 9, 4, 96, 54, 13, 21, 12, 153, 0, 8, 21, 10, 167, 0, 7, 21, 10, 4, 100, 54, 14, 25, 7, 25, 8, 181]
def fAX3_openView_2 : List UInt8 := [0, 178, 25, 7, 29, 154, 0, 7, 3, 167, 0, 5, 21, 13, 181, 0, 182, 25, 7, 29, 4, 160, 0, 8, 16, 99, 167, 0, 5, 21, 14, 181, 0, 185, 25, 8, 25, 7, 180, 0, 182, 25, 7, 180, 0, 185, 182, 0, 188, 172]
def fTX3_openView_2 : List UInt8 := fAX3_openView_2
def fTX3_openView_1 : List UInt8 := fAX3_openView_1 ++ fTX3_openView_2
def fTX3_openView_0 : List UInt8 := fAX3_openView_0 ++ fTX3_openView_1
theorem fDX3_openView_0 : cX3_openView.data.toList.drop 0 = fTX3_openView_0 := eq_of_beq (by decide +kernel)
theorem fDX3_openView_1 : cX3_openView.data.toList.drop 64 = fTX3_openView_1 := fx_nx (d := 0) (n := 64) (a := fAX3_openView_0) fDX3_openView_0 rfl
theorem fDX3_openView_2 : cX3_openView.data.toList.drop 128 = fTX3_openView_2 := fx_nx (d := 64) (n := 64) (a := fAX3_openView_1) fDX3_openView_1 rfl
theorem eX3_openView_0 : (fdecl fTX3_openView_0 0 = some (.aload_n 0, 1)) ∧ (fdecl fTX3_openView_0 1 = some (.iload_n 1, 1)) ∧ (fdecl fTX3_openView_0 2 = some (.invokevirtual 171, 3)) ∧ (fdecl fTX3_openView_0 5 = some (.astore 7, 2)) ∧ (fdecl fTX3_openView_0 7 = some (.aload_n 0, 1)) ∧ (fdecl fTX3_openView_0 8 = some (.iload_n 2, 1)) ∧ (fdecl fTX3_openView_0 9 = some (.invokevirtual 37, 3)) ∧ (fdecl fTX3_openView_0 12 = some (.astore 8, 2)) ∧ (fdecl fTX3_openView_0 14 = some (.iload_n 3, 1)) ∧ (fdecl fTX3_openView_0 15 = some (.iload 4, 2)) ∧ (fdecl fTX3_openView_0 17 = some (.iload 5, 2)) ∧ (fdecl fTX3_openView_0 19 = some (.invokestatic 175, 3)) ∧ (fdecl fTX3_openView_0 22 = some (.iload 6, 2)) ∧ (fdecl fTX3_openView_0 24 = some (.iconst 3, 1)) ∧ (fdecl fTX3_openView_0 25 = some (.invokestatic 41, 3)) ∧ (fdecl fTX3_openView_0 28 = some (.aload 8, 2)) := by decide +kernel
theorem dX3_openView_0 : decode cX3_openView 0 = .ok (.aload_n 0, 1) := fx_ok (d := 0) (i := 0) fDX3_openView_0 eX3_openView_0.1
theorem dX3_openView_1 : decode cX3_openView 1 = .ok (.iload_n 1, 1) := fx_ok (d := 0) (i := 1) fDX3_openView_0 eX3_openView_0.2.1
theorem dX3_openView_2 : decode cX3_openView 2 = .ok (.invokevirtual 171, 3) := fx_ok (d := 0) (i := 2) fDX3_openView_0 eX3_openView_0.2.2.1
theorem dX3_openView_5 : decode cX3_openView 5 = .ok (.astore 7, 2) := fx_ok (d := 0) (i := 5) fDX3_openView_0 eX3_openView_0.2.2.2.1
theorem dX3_openView_7 : decode cX3_openView 7 = .ok (.aload_n 0, 1) := fx_ok (d := 0) (i := 7) fDX3_openView_0 eX3_openView_0.2.2.2.2.1
theorem dX3_openView_8 : decode cX3_openView 8 = .ok (.iload_n 2, 1) := fx_ok (d := 0) (i := 8) fDX3_openView_0 eX3_openView_0.2.2.2.2.2.1
theorem dX3_openView_9 : decode cX3_openView 9 = .ok (.invokevirtual 37, 3) := fx_ok (d := 0) (i := 9) fDX3_openView_0 eX3_openView_0.2.2.2.2.2.2.1
theorem dX3_openView_12 : decode cX3_openView 12 = .ok (.astore 8, 2) := fx_ok (d := 0) (i := 12) fDX3_openView_0 eX3_openView_0.2.2.2.2.2.2.2.1
theorem dX3_openView_14 : decode cX3_openView 14 = .ok (.iload_n 3, 1) := fx_ok (d := 0) (i := 14) fDX3_openView_0 eX3_openView_0.2.2.2.2.2.2.2.2.1
theorem dX3_openView_15 : decode cX3_openView 15 = .ok (.iload 4, 2) := fx_ok (d := 0) (i := 15) fDX3_openView_0 eX3_openView_0.2.2.2.2.2.2.2.2.2.1
theorem dX3_openView_17 : decode cX3_openView 17 = .ok (.iload 5, 2) := fx_ok (d := 0) (i := 17) fDX3_openView_0 eX3_openView_0.2.2.2.2.2.2.2.2.2.2.1
theorem dX3_openView_19 : decode cX3_openView 19 = .ok (.invokestatic 175, 3) := fx_ok (d := 0) (i := 19) fDX3_openView_0 eX3_openView_0.2.2.2.2.2.2.2.2.2.2.2.1
theorem dX3_openView_22 : decode cX3_openView 22 = .ok (.iload 6, 2) := fx_ok (d := 0) (i := 22) fDX3_openView_0 eX3_openView_0.2.2.2.2.2.2.2.2.2.2.2.2.1
theorem dX3_openView_24 : decode cX3_openView 24 = .ok (.iconst 3, 1) := fx_ok (d := 0) (i := 24) fDX3_openView_0 eX3_openView_0.2.2.2.2.2.2.2.2.2.2.2.2.2.1
theorem dX3_openView_25 : decode cX3_openView 25 = .ok (.invokestatic 41, 3) := fx_ok (d := 0) (i := 25) fDX3_openView_0 eX3_openView_0.2.2.2.2.2.2.2.2.2.2.2.2.2.2.1
theorem dX3_openView_28 : decode cX3_openView 28 = .ok (.aload 8, 2) := fx_ok (d := 0) (i := 28) fDX3_openView_0 eX3_openView_0.2.2.2.2.2.2.2.2.2.2.2.2.2.2.2
theorem eX3_openView_30 : (fdecl fTX3_openView_0 30 = some (.iload 4, 2)) ∧ (fdecl fTX3_openView_0 32 = some (.invokevirtual 70, 3)) ∧ (fdecl fTX3_openView_0 35 = some (.istore 9, 2)) ∧ (fdecl fTX3_openView_0 37 = some (.aload 8, 2)) ∧ (fdecl fTX3_openView_0 39 = some (.iload 5, 2)) ∧ (fdecl fTX3_openView_0 41 = some (.invokevirtual 70, 3)) ∧ (fdecl fTX3_openView_0 44 = some (.istore 10, 2)) ∧ (fdecl fTX3_openView_0 46 = some (.iload_n 3, 1)) ∧ (fdecl fTX3_openView_0 47 = some (.iconst 2, 1)) ∧ (fdecl fTX3_openView_0 48 = some (.if_icmp .ne 15, 3)) ∧ (fdecl fTX3_openView_0 51 = some (.iload 9, 2)) ∧ (fdecl fTX3_openView_0 53 = some (.iload 10, 2)) ∧ (fdecl fTX3_openView_0 55 = some (.if_icmp .le 8, 3)) ∧ (fdecl fTX3_openView_0 58 = some (.aload_n 0, 1)) ∧ (fdecl fTX3_openView_0 59 = some (.invokevirtual 63, 3)) ∧ (fdecl fTX3_openView_0 62 = some (.ireturn, 1)) := by decide +kernel
theorem dX3_openView_30 : decode cX3_openView 30 = .ok (.iload 4, 2) := fx_ok (d := 0) (i := 30) fDX3_openView_0 eX3_openView_30.1
theorem dX3_openView_32 : decode cX3_openView 32 = .ok (.invokevirtual 70, 3) := fx_ok (d := 0) (i := 32) fDX3_openView_0 eX3_openView_30.2.1
theorem dX3_openView_35 : decode cX3_openView 35 = .ok (.istore 9, 2) := fx_ok (d := 0) (i := 35) fDX3_openView_0 eX3_openView_30.2.2.1
theorem dX3_openView_37 : decode cX3_openView 37 = .ok (.aload 8, 2) := fx_ok (d := 0) (i := 37) fDX3_openView_0 eX3_openView_30.2.2.2.1
theorem dX3_openView_39 : decode cX3_openView 39 = .ok (.iload 5, 2) := fx_ok (d := 0) (i := 39) fDX3_openView_0 eX3_openView_30.2.2.2.2.1
theorem dX3_openView_41 : decode cX3_openView 41 = .ok (.invokevirtual 70, 3) := fx_ok (d := 0) (i := 41) fDX3_openView_0 eX3_openView_30.2.2.2.2.2.1
theorem dX3_openView_44 : decode cX3_openView 44 = .ok (.istore 10, 2) := fx_ok (d := 0) (i := 44) fDX3_openView_0 eX3_openView_30.2.2.2.2.2.2.1
theorem dX3_openView_46 : decode cX3_openView 46 = .ok (.iload_n 3, 1) := fx_ok (d := 0) (i := 46) fDX3_openView_0 eX3_openView_30.2.2.2.2.2.2.2.1
theorem dX3_openView_47 : decode cX3_openView 47 = .ok (.iconst 2, 1) := fx_ok (d := 0) (i := 47) fDX3_openView_0 eX3_openView_30.2.2.2.2.2.2.2.2.1
theorem dX3_openView_48 : decode cX3_openView 48 = .ok (.if_icmp .ne 15, 3) := fx_ok (d := 0) (i := 48) fDX3_openView_0 eX3_openView_30.2.2.2.2.2.2.2.2.2.1
theorem dX3_openView_51 : decode cX3_openView 51 = .ok (.iload 9, 2) := fx_ok (d := 0) (i := 51) fDX3_openView_0 eX3_openView_30.2.2.2.2.2.2.2.2.2.2.1
theorem dX3_openView_53 : decode cX3_openView 53 = .ok (.iload 10, 2) := fx_ok (d := 0) (i := 53) fDX3_openView_0 eX3_openView_30.2.2.2.2.2.2.2.2.2.2.2.1
theorem dX3_openView_55 : decode cX3_openView 55 = .ok (.if_icmp .le 8, 3) := fx_ok (d := 0) (i := 55) fDX3_openView_0 eX3_openView_30.2.2.2.2.2.2.2.2.2.2.2.2.1
theorem dX3_openView_58 : decode cX3_openView 58 = .ok (.aload_n 0, 1) := fx_ok (d := 0) (i := 58) fDX3_openView_0 eX3_openView_30.2.2.2.2.2.2.2.2.2.2.2.2.2.1
theorem dX3_openView_59 : decode cX3_openView 59 = .ok (.invokevirtual 63, 3) := fx_ok (d := 0) (i := 59) fDX3_openView_0 eX3_openView_30.2.2.2.2.2.2.2.2.2.2.2.2.2.2.1
theorem dX3_openView_62 : decode cX3_openView 62 = .ok (.ireturn, 1) := fx_ok (d := 0) (i := 62) fDX3_openView_0 eX3_openView_30.2.2.2.2.2.2.2.2.2.2.2.2.2.2.2
theorem eX3_openView_63 : (fdecl fTX3_openView_0 63 = some (.iload 6, 2)) ∧ (fdecl fTX3_openView_1 1 = some (.iconst 1, 1)) ∧ (fdecl fTX3_openView_1 2 = some (.iand, 1)) ∧ (fdecl fTX3_openView_1 3 = some (.ifCond .eq 7, 3)) ∧ (fdecl fTX3_openView_1 6 = some (.iconst 1, 1)) ∧ (fdecl fTX3_openView_1 7 = some (.goto 4, 3)) ∧ (fdecl fTX3_openView_1 10 = some (.iconst 0, 1)) ∧ (fdecl fTX3_openView_1 11 = some (.istore 11, 2)) ∧ (fdecl fTX3_openView_1 13 = some (.iload 6, 2)) ∧ (fdecl fTX3_openView_1 15 = some (.iconst 2, 1)) ∧ (fdecl fTX3_openView_1 16 = some (.iand, 1)) ∧ (fdecl fTX3_openView_1 17 = some (.ifCond .eq 7, 3)) ∧ (fdecl fTX3_openView_1 20 = some (.iconst 1, 1)) ∧ (fdecl fTX3_openView_1 21 = some (.goto 4, 3)) ∧ (fdecl fTX3_openView_1 24 = some (.iconst 0, 1)) ∧ (fdecl fTX3_openView_1 25 = some (.istore 12, 2)) := by decide +kernel
theorem dX3_openView_63 : decode cX3_openView 63 = .ok (.iload 6, 2) := fx_ok (d := 0) (i := 63) fDX3_openView_0 eX3_openView_63.1
theorem dX3_openView_65 : decode cX3_openView 65 = .ok (.iconst 1, 1) := fx_ok (d := 64) (i := 1) fDX3_openView_1 eX3_openView_63.2.1
theorem dX3_openView_66 : decode cX3_openView 66 = .ok (.iand, 1) := fx_ok (d := 64) (i := 2) fDX3_openView_1 eX3_openView_63.2.2.1
theorem dX3_openView_67 : decode cX3_openView 67 = .ok (.ifCond .eq 7, 3) := fx_ok (d := 64) (i := 3) fDX3_openView_1 eX3_openView_63.2.2.2.1
theorem dX3_openView_70 : decode cX3_openView 70 = .ok (.iconst 1, 1) := fx_ok (d := 64) (i := 6) fDX3_openView_1 eX3_openView_63.2.2.2.2.1
theorem dX3_openView_71 : decode cX3_openView 71 = .ok (.goto 4, 3) := fx_ok (d := 64) (i := 7) fDX3_openView_1 eX3_openView_63.2.2.2.2.2.1
theorem dX3_openView_74 : decode cX3_openView 74 = .ok (.iconst 0, 1) := fx_ok (d := 64) (i := 10) fDX3_openView_1 eX3_openView_63.2.2.2.2.2.2.1
theorem dX3_openView_75 : decode cX3_openView 75 = .ok (.istore 11, 2) := fx_ok (d := 64) (i := 11) fDX3_openView_1 eX3_openView_63.2.2.2.2.2.2.2.1
theorem dX3_openView_77 : decode cX3_openView 77 = .ok (.iload 6, 2) := fx_ok (d := 64) (i := 13) fDX3_openView_1 eX3_openView_63.2.2.2.2.2.2.2.2.1
theorem dX3_openView_79 : decode cX3_openView 79 = .ok (.iconst 2, 1) := fx_ok (d := 64) (i := 15) fDX3_openView_1 eX3_openView_63.2.2.2.2.2.2.2.2.2.1
theorem dX3_openView_80 : decode cX3_openView 80 = .ok (.iand, 1) := fx_ok (d := 64) (i := 16) fDX3_openView_1 eX3_openView_63.2.2.2.2.2.2.2.2.2.2.1
theorem dX3_openView_81 : decode cX3_openView 81 = .ok (.ifCond .eq 7, 3) := fx_ok (d := 64) (i := 17) fDX3_openView_1 eX3_openView_63.2.2.2.2.2.2.2.2.2.2.2.1
theorem dX3_openView_84 : decode cX3_openView 84 = .ok (.iconst 1, 1) := fx_ok (d := 64) (i := 20) fDX3_openView_1 eX3_openView_63.2.2.2.2.2.2.2.2.2.2.2.2.1
theorem dX3_openView_85 : decode cX3_openView 85 = .ok (.goto 4, 3) := fx_ok (d := 64) (i := 21) fDX3_openView_1 eX3_openView_63.2.2.2.2.2.2.2.2.2.2.2.2.2.1
theorem dX3_openView_88 : decode cX3_openView 88 = .ok (.iconst 0, 1) := fx_ok (d := 64) (i := 24) fDX3_openView_1 eX3_openView_63.2.2.2.2.2.2.2.2.2.2.2.2.2.2.1
theorem dX3_openView_89 : decode cX3_openView 89 = .ok (.istore 12, 2) := fx_ok (d := 64) (i := 25) fDX3_openView_1 eX3_openView_63.2.2.2.2.2.2.2.2.2.2.2.2.2.2.2
theorem eX3_openView_91 : (fdecl fTX3_openView_1 27 = some (.iload 11, 2)) ∧ (fdecl fTX3_openView_1 29 = some (.ifCond .eq 8, 3)) ∧ (fdecl fTX3_openView_1 32 = some (.iload 9, 2)) ∧ (fdecl fTX3_openView_1 34 = some (.goto 7, 3)) ∧ (fdecl fTX3_openView_1 37 = some (.iload 9, 2)) ∧ (fdecl fTX3_openView_1 39 = some (.iconst 1, 1)) ∧ (fdecl fTX3_openView_1 40 = some (.iadd, 1)) ∧ (fdecl fTX3_openView_1 41 = some (.istore 13, 2)) ∧ (fdecl fTX3_openView_1 43 = some (.iload 12, 2)) ∧ (fdecl fTX3_openView_1 45 = some (.ifCond .eq 8, 3)) ∧ (fdecl fTX3_openView_1 48 = some (.iload 10, 2)) ∧ (fdecl fTX3_openView_1 50 = some (.goto 7, 3)) ∧ (fdecl fTX3_openView_1 53 = some (.iload 10, 2)) ∧ (fdecl fTX3_openView_1 55 = some (.iconst 1, 1)) ∧ (fdecl fTX3_openView_1 56 = some (.isub, 1)) ∧ (fdecl fTX3_openView_1 57 = some (.istore 14, 2)) := by decide +kernel
theorem dX3_openView_91 : decode cX3_openView 91 = .ok (.iload 11, 2) := fx_ok (d := 64) (i := 27) fDX3_openView_1 eX3_openView_91.1
theorem dX3_openView_93 : decode cX3_openView 93 = .ok (.ifCond .eq 8, 3) := fx_ok (d := 64) (i := 29) fDX3_openView_1 eX3_openView_91.2.1
theorem dX3_openView_96 : decode cX3_openView 96 = .ok (.iload 9, 2) := fx_ok (d := 64) (i := 32) fDX3_openView_1 eX3_openView_91.2.2.1
theorem dX3_openView_98 : decode cX3_openView 98 = .ok (.goto 7, 3) := fx_ok (d := 64) (i := 34) fDX3_openView_1 eX3_openView_91.2.2.2.1
theorem dX3_openView_101 : decode cX3_openView 101 = .ok (.iload 9, 2) := fx_ok (d := 64) (i := 37) fDX3_openView_1 eX3_openView_91.2.2.2.2.1
theorem dX3_openView_103 : decode cX3_openView 103 = .ok (.iconst 1, 1) := fx_ok (d := 64) (i := 39) fDX3_openView_1 eX3_openView_91.2.2.2.2.2.1
theorem dX3_openView_104 : decode cX3_openView 104 = .ok (.iadd, 1) := fx_ok (d := 64) (i := 40) fDX3_openView_1 eX3_openView_91.2.2.2.2.2.2.1
theorem dX3_openView_105 : decode cX3_openView 105 = .ok (.istore 13, 2) := fx_ok (d := 64) (i := 41) fDX3_openView_1 eX3_openView_91.2.2.2.2.2.2.2.1
theorem dX3_openView_107 : decode cX3_openView 107 = .ok (.iload 12, 2) := fx_ok (d := 64) (i := 43) fDX3_openView_1 eX3_openView_91.2.2.2.2.2.2.2.2.1
theorem dX3_openView_109 : decode cX3_openView 109 = .ok (.ifCond .eq 8, 3) := fx_ok (d := 64) (i := 45) fDX3_openView_1 eX3_openView_91.2.2.2.2.2.2.2.2.2.1
theorem dX3_openView_112 : decode cX3_openView 112 = .ok (.iload 10, 2) := fx_ok (d := 64) (i := 48) fDX3_openView_1 eX3_openView_91.2.2.2.2.2.2.2.2.2.2.1
theorem dX3_openView_114 : decode cX3_openView 114 = .ok (.goto 7, 3) := fx_ok (d := 64) (i := 50) fDX3_openView_1 eX3_openView_91.2.2.2.2.2.2.2.2.2.2.2.1
theorem dX3_openView_117 : decode cX3_openView 117 = .ok (.iload 10, 2) := fx_ok (d := 64) (i := 53) fDX3_openView_1 eX3_openView_91.2.2.2.2.2.2.2.2.2.2.2.2.1
theorem dX3_openView_119 : decode cX3_openView 119 = .ok (.iconst 1, 1) := fx_ok (d := 64) (i := 55) fDX3_openView_1 eX3_openView_91.2.2.2.2.2.2.2.2.2.2.2.2.2.1
theorem dX3_openView_120 : decode cX3_openView 120 = .ok (.isub, 1) := fx_ok (d := 64) (i := 56) fDX3_openView_1 eX3_openView_91.2.2.2.2.2.2.2.2.2.2.2.2.2.2.1
theorem dX3_openView_121 : decode cX3_openView 121 = .ok (.istore 14, 2) := fx_ok (d := 64) (i := 57) fDX3_openView_1 eX3_openView_91.2.2.2.2.2.2.2.2.2.2.2.2.2.2.2
theorem eX3_openView_123 : (fdecl fTX3_openView_1 59 = some (.aload 7, 2)) ∧ (fdecl fTX3_openView_1 61 = some (.aload 8, 2)) ∧ (fdecl fTX3_openView_1 63 = some (.putfield 178, 3)) ∧ (fdecl fTX3_openView_2 2 = some (.aload 7, 2)) ∧ (fdecl fTX3_openView_2 4 = some (.iload_n 3, 1)) ∧ (fdecl fTX3_openView_2 5 = some (.ifCond .ne 7, 3)) ∧ (fdecl fTX3_openView_2 8 = some (.iconst 0, 1)) ∧ (fdecl fTX3_openView_2 9 = some (.goto 5, 3)) ∧ (fdecl fTX3_openView_2 12 = some (.iload 13, 2)) ∧ (fdecl fTX3_openView_2 14 = some (.putfield 182, 3)) ∧ (fdecl fTX3_openView_2 17 = some (.aload 7, 2)) ∧ (fdecl fTX3_openView_2 19 = some (.iload_n 3, 1)) ∧ (fdecl fTX3_openView_2 20 = some (.iconst 1, 1)) ∧ (fdecl fTX3_openView_2 21 = some (.if_icmp .ne 8, 3)) ∧ (fdecl fTX3_openView_2 24 = some (.bipush 99, 2)) ∧ (fdecl fTX3_openView_2 26 = some (.goto 5, 3)) := by decide +kernel
theorem dX3_openView_123 : decode cX3_openView 123 = .ok (.aload 7, 2) := fx_ok (d := 64) (i := 59) fDX3_openView_1 eX3_openView_123.1
theorem dX3_openView_125 : decode cX3_openView 125 = .ok (.aload 8, 2) := fx_ok (d := 64) (i := 61) fDX3_openView_1 eX3_openView_123.2.1
theorem dX3_openView_127 : decode cX3_openView 127 = .ok (.putfield 178, 3) := fx_ok (d := 64) (i := 63) fDX3_openView_1 eX3_openView_123.2.2.1
theorem dX3_openView_130 : decode cX3_openView 130 = .ok (.aload 7, 2) := fx_ok (d := 128) (i := 2) fDX3_openView_2 eX3_openView_123.2.2.2.1
theorem dX3_openView_132 : decode cX3_openView 132 = .ok (.iload_n 3, 1) := fx_ok (d := 128) (i := 4) fDX3_openView_2 eX3_openView_123.2.2.2.2.1
theorem dX3_openView_133 : decode cX3_openView 133 = .ok (.ifCond .ne 7, 3) := fx_ok (d := 128) (i := 5) fDX3_openView_2 eX3_openView_123.2.2.2.2.2.1
theorem dX3_openView_136 : decode cX3_openView 136 = .ok (.iconst 0, 1) := fx_ok (d := 128) (i := 8) fDX3_openView_2 eX3_openView_123.2.2.2.2.2.2.1
theorem dX3_openView_137 : decode cX3_openView 137 = .ok (.goto 5, 3) := fx_ok (d := 128) (i := 9) fDX3_openView_2 eX3_openView_123.2.2.2.2.2.2.2.1
theorem dX3_openView_140 : decode cX3_openView 140 = .ok (.iload 13, 2) := fx_ok (d := 128) (i := 12) fDX3_openView_2 eX3_openView_123.2.2.2.2.2.2.2.2.1
theorem dX3_openView_142 : decode cX3_openView 142 = .ok (.putfield 182, 3) := fx_ok (d := 128) (i := 14) fDX3_openView_2 eX3_openView_123.2.2.2.2.2.2.2.2.2.1
theorem dX3_openView_145 : decode cX3_openView 145 = .ok (.aload 7, 2) := fx_ok (d := 128) (i := 17) fDX3_openView_2 eX3_openView_123.2.2.2.2.2.2.2.2.2.2.1
theorem dX3_openView_147 : decode cX3_openView 147 = .ok (.iload_n 3, 1) := fx_ok (d := 128) (i := 19) fDX3_openView_2 eX3_openView_123.2.2.2.2.2.2.2.2.2.2.2.1
theorem dX3_openView_148 : decode cX3_openView 148 = .ok (.iconst 1, 1) := fx_ok (d := 128) (i := 20) fDX3_openView_2 eX3_openView_123.2.2.2.2.2.2.2.2.2.2.2.2.1
theorem dX3_openView_149 : decode cX3_openView 149 = .ok (.if_icmp .ne 8, 3) := fx_ok (d := 128) (i := 21) fDX3_openView_2 eX3_openView_123.2.2.2.2.2.2.2.2.2.2.2.2.2.1
theorem dX3_openView_152 : decode cX3_openView 152 = .ok (.bipush 99, 2) := fx_ok (d := 128) (i := 24) fDX3_openView_2 eX3_openView_123.2.2.2.2.2.2.2.2.2.2.2.2.2.2.1
theorem dX3_openView_154 : decode cX3_openView 154 = .ok (.goto 5, 3) := fx_ok (d := 128) (i := 26) fDX3_openView_2 eX3_openView_123.2.2.2.2.2.2.2.2.2.2.2.2.2.2.2
theorem eX3_openView_157 : (fdecl fTX3_openView_2 29 = some (.iload 14, 2)) ∧ (fdecl fTX3_openView_2 31 = some (.putfield 185, 3)) ∧ (fdecl fTX3_openView_2 34 = some (.aload 8, 2)) ∧ (fdecl fTX3_openView_2 36 = some (.aload 7, 2)) ∧ (fdecl fTX3_openView_2 38 = some (.getfield 182, 3)) ∧ (fdecl fTX3_openView_2 41 = some (.aload 7, 2)) ∧ (fdecl fTX3_openView_2 43 = some (.getfield 185, 3)) ∧ (fdecl fTX3_openView_2 46 = some (.invokevirtual 188, 3)) ∧ (fdecl fTX3_openView_2 49 = some (.ireturn, 1)) := by decide +kernel
theorem dX3_openView_157 : decode cX3_openView 157 = .ok (.iload 14, 2) := fx_ok (d := 128) (i := 29) fDX3_openView_2 eX3_openView_157.1
theorem dX3_openView_159 : decode cX3_openView 159 = .ok (.putfield 185, 3) := fx_ok (d := 128) (i := 31) fDX3_openView_2 eX3_openView_157.2.1
theorem dX3_openView_162 : decode cX3_openView 162 = .ok (.aload 8, 2) := fx_ok (d := 128) (i := 34) fDX3_openView_2 eX3_openView_157.2.2.1
theorem dX3_openView_164 : decode cX3_openView 164 = .ok (.aload 7, 2) := fx_ok (d := 128) (i := 36) fDX3_openView_2 eX3_openView_157.2.2.2.1
theorem dX3_openView_166 : decode cX3_openView 166 = .ok (.getfield 182, 3) := fx_ok (d := 128) (i := 38) fDX3_openView_2 eX3_openView_157.2.2.2.2.1
theorem dX3_openView_169 : decode cX3_openView 169 = .ok (.aload 7, 2) := fx_ok (d := 128) (i := 41) fDX3_openView_2 eX3_openView_157.2.2.2.2.2.1
theorem dX3_openView_171 : decode cX3_openView 171 = .ok (.getfield 185, 3) := fx_ok (d := 128) (i := 43) fDX3_openView_2 eX3_openView_157.2.2.2.2.2.2.1
theorem dX3_openView_174 : decode cX3_openView 174 = .ok (.invokevirtual 188, 3) := fx_ok (d := 128) (i := 46) fDX3_openView_2 eX3_openView_157.2.2.2.2.2.2.2.1
theorem dX3_openView_177 : decode cX3_openView 177 = .ok (.ireturn, 1) := fx_ok (d := 128) (i := 49) fDX3_openView_2 eX3_openView_157.2.2.2.2.2.2.2.2
def fAX3_narrowView_0 : List UInt8 := [42, 27, 182, 0, 171, 58, 5, 28, 29, 21, 4, 184, 0, 175, 28, 154, 0, 11, 25, 5, 180, 0, 182, 167, 0, 12, 25, 5, 180, 0, 178, 29, 182, 0, 70, 54, 6, 28, 4, 160, 0, 11, 25, 5, 180, 0, 185, 167, 0, 13, 25, 5, 180, 0, 178, 21, 4, 182, 0, 70, 54, 7, 28, 153]
def fAX3_narrowView_1 : List UInt8 := [0, 17, 25, 5, 21, 6, 182, 0, 191, 154, 0, 7, 4, 167, 0, 4, 3, 54, 8, 28, 4, 159, 0, 17, 25, 5, 21, 7, 182, 0, 191, 154, 0, 7, 4, 167, 0, 4, 3, 54, 9, 21, 8, 154, 0, 20, 21, 9, 154, 0, 15, 28, 5, 160, 0, 15, 21, 6, 21, 7, 164, 0, 8, 42]
def fAX3_narrowView_2 : List UInt8 := [182, 0, 63, 172, 25, 5, 21, 6, 181, 0, 182, 25, 5, 21, 7, 181, 0, 185, 25, 5, 180, 0, 178, 25, 5, 180, 0, 182, 25, 5, 180, 0, 185, 182, 0, 188, 172]
def fTX3_narrowView_2 : List UInt8 := fAX3_narrowView_2
def fTX3_narrowView_1 : List UInt8 := fAX3_narrowView_1 ++ fTX3_narrowView_2
def fTX3_narrowView_0 : List UInt8 := fAX3_narrowView_0 ++ fTX3_narrowView_1
theorem fDX3_narrowView_0 : cX3_narrowView.data.toList.drop 0 = fTX3_narrowView_0 := eq_of_beq (by decide +kernel)
theorem fDX3_narrowView_1 : cX3_narrowView.data.toList.drop 64 = fTX3_narrowView_1 := fx_nx (d := 0) (n := 64) (a := fAX3_narrowView_0) fDX3_narrowView_0 rfl
theorem fDX3_narrowView_2 : cX3_narrowView.data.toList.drop 128 = fTX3_narrowView_2 := fx_nx (d := 64) (n := 64) (a := fAX3_narrowView_1) fDX3_narrowView_1 rfl
theorem eX3_narrowView_0 : (fdecl fTX3_narrowView_0 0 = some (.aload_n 0, 1)) ∧ (fdecl fTX3_narrowView_0 1 = some (.iload_n 1, 1)) ∧ (fdecl fTX3_narrowView_0 2 = some (.invokevirtual 171, 3)) ∧ (fdecl fTX3_narrowView_0 5 = some (.astore 5, 2)) ∧ (fdecl fTX3_narrowView_0 7 = some (.iload_n 2, 1)) ∧ (fdecl fTX3_narrowView_0 8 = some (.iload_n 3, 1)) ∧ (fdecl fTX3_narrowView_0 9 = some (.iload 4, 2)) ∧ (fdecl fTX3_narrowView_0 11 = some (.invokestatic 175, 3)) ∧ (fdecl fTX3_narrowView_0 14 = some (.iload_n 2, 1)) ∧ (fdecl fTX3_narrowView_0 15 = some (.ifCond .ne 11, 3)) ∧ (fdecl fTX3_narrowView_0 18 = some (.aload 5, 2)) ∧ (fdecl fTX3_narrowView_0 20 = some (.getfield 182, 3)) ∧ (fdecl fTX3_narrowView_0 23 = some (.goto 12, 3)) ∧ (fdecl fTX3_narrowView_0 26 = some (.aload 5, 2)) ∧ (fdecl fTX3_narrowView_0 28 = some (.getfield 178, 3)) ∧ (fdecl fTX3_narrowView_0 31 = some (.iload_n 3, 1)) := by decide +kernel
theorem dX3_narrowView_0 : decode cX3_narrowView 0 = .ok (.aload_n 0, 1) := fx_ok (d := 0) (i := 0) fDX3_narrowView_0 eX3_narrowView_0.1
theorem dX3_narrowView_1 : decode cX3_narrowView 1 = .ok (.iload_n 1, 1) := fx_ok (d := 0) (i := 1) fDX3_narrowView_0 eX3_narrowView_0.2.1
theorem dX3_narrowView_2 : decode cX3_narrowView 2 = .ok (.invokevirtual 171, 3) := fx_ok (d := 0) (i := 2) fDX3_narrowView_0 eX3_narrowView_0.2.2.1
theorem dX3_narrowView_5 : decode cX3_narrowView 5 = .ok (.astore 5, 2) := fx_ok (d := 0) (i := 5) fDX3_narrowView_0 eX3_narrowView_0.2.2.2.1
theorem dX3_narrowView_7 : decode cX3_narrowView 7 = .ok (.iload_n 2, 1) := fx_ok (d := 0) (i := 7) fDX3_narrowView_0 eX3_narrowView_0.2.2.2.2.1
theorem dX3_narrowView_8 : decode cX3_narrowView 8 = .ok (.iload_n 3, 1) := fx_ok (d := 0) (i := 8) fDX3_narrowView_0 eX3_narrowView_0.2.2.2.2.2.1
theorem dX3_narrowView_9 : decode cX3_narrowView 9 = .ok (.iload 4, 2) := fx_ok (d := 0) (i := 9) fDX3_narrowView_0 eX3_narrowView_0.2.2.2.2.2.2.1
theorem dX3_narrowView_11 : decode cX3_narrowView 11 = .ok (.invokestatic 175, 3) := fx_ok (d := 0) (i := 11) fDX3_narrowView_0 eX3_narrowView_0.2.2.2.2.2.2.2.1
theorem dX3_narrowView_14 : decode cX3_narrowView 14 = .ok (.iload_n 2, 1) := fx_ok (d := 0) (i := 14) fDX3_narrowView_0 eX3_narrowView_0.2.2.2.2.2.2.2.2.1
theorem dX3_narrowView_15 : decode cX3_narrowView 15 = .ok (.ifCond .ne 11, 3) := fx_ok (d := 0) (i := 15) fDX3_narrowView_0 eX3_narrowView_0.2.2.2.2.2.2.2.2.2.1
theorem dX3_narrowView_18 : decode cX3_narrowView 18 = .ok (.aload 5, 2) := fx_ok (d := 0) (i := 18) fDX3_narrowView_0 eX3_narrowView_0.2.2.2.2.2.2.2.2.2.2.1
theorem dX3_narrowView_20 : decode cX3_narrowView 20 = .ok (.getfield 182, 3) := fx_ok (d := 0) (i := 20) fDX3_narrowView_0 eX3_narrowView_0.2.2.2.2.2.2.2.2.2.2.2.1
theorem dX3_narrowView_23 : decode cX3_narrowView 23 = .ok (.goto 12, 3) := fx_ok (d := 0) (i := 23) fDX3_narrowView_0 eX3_narrowView_0.2.2.2.2.2.2.2.2.2.2.2.2.1
theorem dX3_narrowView_26 : decode cX3_narrowView 26 = .ok (.aload 5, 2) := fx_ok (d := 0) (i := 26) fDX3_narrowView_0 eX3_narrowView_0.2.2.2.2.2.2.2.2.2.2.2.2.2.1
theorem dX3_narrowView_28 : decode cX3_narrowView 28 = .ok (.getfield 178, 3) := fx_ok (d := 0) (i := 28) fDX3_narrowView_0 eX3_narrowView_0.2.2.2.2.2.2.2.2.2.2.2.2.2.2.1
theorem dX3_narrowView_31 : decode cX3_narrowView 31 = .ok (.iload_n 3, 1) := fx_ok (d := 0) (i := 31) fDX3_narrowView_0 eX3_narrowView_0.2.2.2.2.2.2.2.2.2.2.2.2.2.2.2
theorem eX3_narrowView_32 : (fdecl fTX3_narrowView_0 32 = some (.invokevirtual 70, 3)) ∧ (fdecl fTX3_narrowView_0 35 = some (.istore 6, 2)) ∧ (fdecl fTX3_narrowView_0 37 = some (.iload_n 2, 1)) ∧ (fdecl fTX3_narrowView_0 38 = some (.iconst 1, 1)) ∧ (fdecl fTX3_narrowView_0 39 = some (.if_icmp .ne 11, 3)) ∧ (fdecl fTX3_narrowView_0 42 = some (.aload 5, 2)) ∧ (fdecl fTX3_narrowView_0 44 = some (.getfield 185, 3)) ∧ (fdecl fTX3_narrowView_0 47 = some (.goto 13, 3)) ∧ (fdecl fTX3_narrowView_0 50 = some (.aload 5, 2)) ∧ (fdecl fTX3_narrowView_0 52 = some (.getfield 178, 3)) ∧ (fdecl fTX3_narrowView_0 55 = some (.iload 4, 2)) ∧ (fdecl fTX3_narrowView_0 57 = some (.invokevirtual 70, 3)) ∧ (fdecl fTX3_narrowView_0 60 = some (.istore 7, 2)) ∧ (fdecl fTX3_narrowView_0 62 = some (.iload_n 2, 1)) ∧ (fdecl fTX3_narrowView_0 63 = some (.ifCond .eq 17, 3)) ∧ (fdecl fTX3_narrowView_1 2 = some (.aload 5, 2)) := by decide +kernel
theorem dX3_narrowView_32 : decode cX3_narrowView 32 = .ok (.invokevirtual 70, 3) := fx_ok (d := 0) (i := 32) fDX3_narrowView_0 eX3_narrowView_32.1
theorem dX3_narrowView_35 : decode cX3_narrowView 35 = .ok (.istore 6, 2) := fx_ok (d := 0) (i := 35) fDX3_narrowView_0 eX3_narrowView_32.2.1
theorem dX3_narrowView_37 : decode cX3_narrowView 37 = .ok (.iload_n 2, 1) := fx_ok (d := 0) (i := 37) fDX3_narrowView_0 eX3_narrowView_32.2.2.1
theorem dX3_narrowView_38 : decode cX3_narrowView 38 = .ok (.iconst 1, 1) := fx_ok (d := 0) (i := 38) fDX3_narrowView_0 eX3_narrowView_32.2.2.2.1
theorem dX3_narrowView_39 : decode cX3_narrowView 39 = .ok (.if_icmp .ne 11, 3) := fx_ok (d := 0) (i := 39) fDX3_narrowView_0 eX3_narrowView_32.2.2.2.2.1
theorem dX3_narrowView_42 : decode cX3_narrowView 42 = .ok (.aload 5, 2) := fx_ok (d := 0) (i := 42) fDX3_narrowView_0 eX3_narrowView_32.2.2.2.2.2.1
theorem dX3_narrowView_44 : decode cX3_narrowView 44 = .ok (.getfield 185, 3) := fx_ok (d := 0) (i := 44) fDX3_narrowView_0 eX3_narrowView_32.2.2.2.2.2.2.1
theorem dX3_narrowView_47 : decode cX3_narrowView 47 = .ok (.goto 13, 3) := fx_ok (d := 0) (i := 47) fDX3_narrowView_0 eX3_narrowView_32.2.2.2.2.2.2.2.1
theorem dX3_narrowView_50 : decode cX3_narrowView 50 = .ok (.aload 5, 2) := fx_ok (d := 0) (i := 50) fDX3_narrowView_0 eX3_narrowView_32.2.2.2.2.2.2.2.2.1
theorem dX3_narrowView_52 : decode cX3_narrowView 52 = .ok (.getfield 178, 3) := fx_ok (d := 0) (i := 52) fDX3_narrowView_0 eX3_narrowView_32.2.2.2.2.2.2.2.2.2.1
theorem dX3_narrowView_55 : decode cX3_narrowView 55 = .ok (.iload 4, 2) := fx_ok (d := 0) (i := 55) fDX3_narrowView_0 eX3_narrowView_32.2.2.2.2.2.2.2.2.2.2.1
theorem dX3_narrowView_57 : decode cX3_narrowView 57 = .ok (.invokevirtual 70, 3) := fx_ok (d := 0) (i := 57) fDX3_narrowView_0 eX3_narrowView_32.2.2.2.2.2.2.2.2.2.2.2.1
theorem dX3_narrowView_60 : decode cX3_narrowView 60 = .ok (.istore 7, 2) := fx_ok (d := 0) (i := 60) fDX3_narrowView_0 eX3_narrowView_32.2.2.2.2.2.2.2.2.2.2.2.2.1
theorem dX3_narrowView_62 : decode cX3_narrowView 62 = .ok (.iload_n 2, 1) := fx_ok (d := 0) (i := 62) fDX3_narrowView_0 eX3_narrowView_32.2.2.2.2.2.2.2.2.2.2.2.2.2.1
theorem dX3_narrowView_63 : decode cX3_narrowView 63 = .ok (.ifCond .eq 17, 3) := fx_ok (d := 0) (i := 63) fDX3_narrowView_0 eX3_narrowView_32.2.2.2.2.2.2.2.2.2.2.2.2.2.2.1
theorem dX3_narrowView_66 : decode cX3_narrowView 66 = .ok (.aload 5, 2) := fx_ok (d := 64) (i := 2) fDX3_narrowView_1 eX3_narrowView_32.2.2.2.2.2.2.2.2.2.2.2.2.2.2.2
theorem eX3_narrowView_68 : (fdecl fTX3_narrowView_1 4 = some (.iload 6, 2)) ∧ (fdecl fTX3_narrowView_1 6 = some (.invokevirtual 191, 3)) ∧ (fdecl fTX3_narrowView_1 9 = some (.ifCond .ne 7, 3)) ∧ (fdecl fTX3_narrowView_1 12 = some (.iconst 1, 1)) ∧ (fdecl fTX3_narrowView_1 13 = some (.goto 4, 3)) ∧ (fdecl fTX3_narrowView_1 16 = some (.iconst 0, 1)) ∧ (fdecl fTX3_narrowView_1 17 = some (.istore 8, 2)) ∧ (fdecl fTX3_narrowView_1 19 = some (.iload_n 2, 1)) ∧ (fdecl fTX3_narrowView_1 20 = some (.iconst 1, 1)) ∧ (fdecl fTX3_narrowView_1 21 = some (.if_icmp .eq 17, 3)) ∧ (fdecl fTX3_narrowView_1 24 = some (.aload 5, 2)) ∧ (fdecl fTX3_narrowView_1 26 = some (.iload 7, 2)) ∧ (fdecl fTX3_narrowView_1 28 = some (.invokevirtual 191, 3)) ∧ (fdecl fTX3_narrowView_1 31 = some (.ifCond .ne 7, 3)) ∧ (fdecl fTX3_narrowView_1 34 = some (.iconst 1, 1)) ∧ (fdecl fTX3_narrowView_1 35 = some (.goto 4, 3)) := by decide +kernel
theorem dX3_narrowView_68 : decode cX3_narrowView 68 = .ok (.iload 6, 2) := fx_ok (d := 64) (i := 4) fDX3_narrowView_1 eX3_narrowView_68.1
theorem dX3_narrowView_70 : decode cX3_narrowView 70 = .ok (.invokevirtual 191, 3) := fx_ok (d := 64) (i := 6) fDX3_narrowView_1 eX3_narrowView_68.2.1
theorem dX3_narrowView_73 : decode cX3_narrowView 73 = .ok (.ifCond .ne 7, 3) := fx_ok (d := 64) (i := 9) fDX3_narrowView_1 eX3_narrowView_68.2.2.1
theorem dX3_narrowView_76 : decode cX3_narrowView 76 = .ok (.iconst 1, 1) := fx_ok (d := 64) (i := 12) fDX3_narrowView_1 eX3_narrowView_68.2.2.2.1
theorem dX3_narrowView_77 : decode cX3_narrowView 77 = .ok (.goto 4, 3) := fx_ok (d := 64) (i := 13) fDX3_narrowView_1 eX3_narrowView_68.2.2.2.2.1
theorem dX3_narrowView_80 : decode cX3_narrowView 80 = .ok (.iconst 0, 1) := fx_ok (d := 64) (i := 16) fDX3_narrowView_1 eX3_narrowView_68.2.2.2.2.2.1
theorem dX3_narrowView_81 : decode cX3_narrowView 81 = .ok (.istore 8, 2) := fx_ok (d := 64) (i := 17) fDX3_narrowView_1 eX3_narrowView_68.2.2.2.2.2.2.1
theorem dX3_narrowView_83 : decode cX3_narrowView 83 = .ok (.iload_n 2, 1) := fx_ok (d := 64) (i := 19) fDX3_narrowView_1 eX3_narrowView_68.2.2.2.2.2.2.2.1
theorem dX3_narrowView_84 : decode cX3_narrowView 84 = .ok (.iconst 1, 1) := fx_ok (d := 64) (i := 20) fDX3_narrowView_1 eX3_narrowView_68.2.2.2.2.2.2.2.2.1
theorem dX3_narrowView_85 : decode cX3_narrowView 85 = .ok (.if_icmp .eq 17, 3) := fx_ok (d := 64) (i := 21) fDX3_narrowView_1 eX3_narrowView_68.2.2.2.2.2.2.2.2.2.1
theorem dX3_narrowView_88 : decode cX3_narrowView 88 = .ok (.aload 5, 2) := fx_ok (d := 64) (i := 24) fDX3_narrowView_1 eX3_narrowView_68.2.2.2.2.2.2.2.2.2.2.1
theorem dX3_narrowView_90 : decode cX3_narrowView 90 = .ok (.iload 7, 2) := fx_ok (d := 64) (i := 26) fDX3_narrowView_1 eX3_narrowView_68.2.2.2.2.2.2.2.2.2.2.2.1
theorem dX3_narrowView_92 : decode cX3_narrowView 92 = .ok (.invokevirtual 191, 3) := fx_ok (d := 64) (i := 28) fDX3_narrowView_1 eX3_narrowView_68.2.2.2.2.2.2.2.2.2.2.2.2.1
theorem dX3_narrowView_95 : decode cX3_narrowView 95 = .ok (.ifCond .ne 7, 3) := fx_ok (d := 64) (i := 31) fDX3_narrowView_1 eX3_narrowView_68.2.2.2.2.2.2.2.2.2.2.2.2.2.1
theorem dX3_narrowView_98 : decode cX3_narrowView 98 = .ok (.iconst 1, 1) := fx_ok (d := 64) (i := 34) fDX3_narrowView_1 eX3_narrowView_68.2.2.2.2.2.2.2.2.2.2.2.2.2.2.1
theorem dX3_narrowView_99 : decode cX3_narrowView 99 = .ok (.goto 4, 3) := fx_ok (d := 64) (i := 35) fDX3_narrowView_1 eX3_narrowView_68.2.2.2.2.2.2.2.2.2.2.2.2.2.2.2
theorem eX3_narrowView_102 : (fdecl fTX3_narrowView_1 38 = some (.iconst 0, 1)) ∧ (fdecl fTX3_narrowView_1 39 = some (.istore 9, 2)) ∧ (fdecl fTX3_narrowView_1 41 = some (.iload 8, 2)) ∧ (fdecl fTX3_narrowView_1 43 = some (.ifCond .ne 20, 3)) ∧ (fdecl fTX3_narrowView_1 46 = some (.iload 9, 2)) ∧ (fdecl fTX3_narrowView_1 48 = some (.ifCond .ne 15, 3)) ∧ (fdecl fTX3_narrowView_1 51 = some (.iload_n 2, 1)) ∧ (fdecl fTX3_narrowView_1 52 = some (.iconst 2, 1)) ∧ (fdecl fTX3_narrowView_1 53 = some (.if_icmp .ne 15, 3)) ∧ (fdecl fTX3_narrowView_1 56 = some (.iload 6, 2)) ∧ (fdecl fTX3_narrowView_1 58 = some (.iload 7, 2)) ∧ (fdecl fTX3_narrowView_1 60 = some (.if_icmp .le 8, 3)) ∧ (fdecl fTX3_narrowView_1 63 = some (.aload_n 0, 1)) ∧ (fdecl fTX3_narrowView_2 0 = some (.invokevirtual 63, 3)) ∧ (fdecl fTX3_narrowView_2 3 = some (.ireturn, 1)) ∧ (fdecl fTX3_narrowView_2 4 = some (.aload 5, 2)) := by decide +kernel
theorem dX3_narrowView_102 : decode cX3_narrowView 102 = .ok (.iconst 0, 1) := fx_ok (d := 64) (i := 38) fDX3_narrowView_1 eX3_narrowView_102.1
theorem dX3_narrowView_103 : decode cX3_narrowView 103 = .ok (.istore 9, 2) := fx_ok (d := 64) (i := 39) fDX3_narrowView_1 eX3_narrowView_102.2.1
theorem dX3_narrowView_105 : decode cX3_narrowView 105 = .ok (.iload 8, 2) := fx_ok (d := 64) (i := 41) fDX3_narrowView_1 eX3_narrowView_102.2.2.1
theorem dX3_narrowView_107 : decode cX3_narrowView 107 = .ok (.ifCond .ne 20, 3) := fx_ok (d := 64) (i := 43) fDX3_narrowView_1 eX3_narrowView_102.2.2.2.1
theorem dX3_narrowView_110 : decode cX3_narrowView 110 = .ok (.iload 9, 2) := fx_ok (d := 64) (i := 46) fDX3_narrowView_1 eX3_narrowView_102.2.2.2.2.1
theorem dX3_narrowView_112 : decode cX3_narrowView 112 = .ok (.ifCond .ne 15, 3) := fx_ok (d := 64) (i := 48) fDX3_narrowView_1 eX3_narrowView_102.2.2.2.2.2.1
theorem dX3_narrowView_115 : decode cX3_narrowView 115 = .ok (.iload_n 2, 1) := fx_ok (d := 64) (i := 51) fDX3_narrowView_1 eX3_narrowView_102.2.2.2.2.2.2.1
theorem dX3_narrowView_116 : decode cX3_narrowView 116 = .ok (.iconst 2, 1) := fx_ok (d := 64) (i := 52) fDX3_narrowView_1 eX3_narrowView_102.2.2.2.2.2.2.2.1
theorem dX3_narrowView_117 : decode cX3_narrowView 117 = .ok (.if_icmp .ne 15, 3) := fx_ok (d := 64) (i := 53) fDX3_narrowView_1 eX3_narrowView_102.2.2.2.2.2.2.2.2.1
theorem dX3_narrowView_120 : decode cX3_narrowView 120 = .ok (.iload 6, 2) := fx_ok (d := 64) (i := 56) fDX3_narrowView_1 eX3_narrowView_102.2.2.2.2.2.2.2.2.2.1
theorem dX3_narrowView_122 : decode cX3_narrowView 122 = .ok (.iload 7, 2) := fx_ok (d := 64) (i := 58) fDX3_narrowView_1 eX3_narrowView_102.2.2.2.2.2.2.2.2.2.2.1
theorem dX3_narrowView_124 : decode cX3_narrowView 124 = .ok (.if_icmp .le 8, 3) := fx_ok (d := 64) (i := 60) fDX3_narrowView_1 eX3_narrowView_102.2.2.2.2.2.2.2.2.2.2.2.1
theorem dX3_narrowView_127 : decode cX3_narrowView 127 = .ok (.aload_n 0, 1) := fx_ok (d := 64) (i := 63) fDX3_narrowView_1 eX3_narrowView_102.2.2.2.2.2.2.2.2.2.2.2.2.1
theorem dX3_narrowView_128 : decode cX3_narrowView 128 = .ok (.invokevirtual 63, 3) := fx_ok (d := 128) (i := 0) fDX3_narrowView_2 eX3_narrowView_102.2.2.2.2.2.2.2.2.2.2.2.2.2.1
theorem dX3_narrowView_131 : decode cX3_narrowView 131 = .ok (.ireturn, 1) := fx_ok (d := 128) (i := 3) fDX3_narrowView_2 eX3_narrowView_102.2.2.2.2.2.2.2.2.2.2.2.2.2.2.1
theorem dX3_narrowView_132 : decode cX3_narrowView 132 = .ok (.aload 5, 2) := fx_ok (d := 128) (i := 4) fDX3_narrowView_2 eX3_narrowView_102.2.2.2.2.2.2.2.2.2.2.2.2.2.2.2
theorem eX3_narrowView_134 : (fdecl fTX3_narrowView_2 6 = some (.iload 6, 2)) ∧ (fdecl fTX3_narrowView_2 8 = some (.putfield 182, 3)) ∧ (fdecl fTX3_narrowView_2 11 = some (.aload 5, 2)) ∧ (fdecl fTX3_narrowView_2 13 = some (.iload 7, 2)) ∧ (fdecl fTX3_narrowView_2 15 = some (.putfield 185, 3)) ∧ (fdecl fTX3_narrowView_2 18 = some (.aload 5, 2)) ∧ (fdecl fTX3_narrowView_2 20 = some (.getfield 178, 3)) ∧ (fdecl fTX3_narrowView_2 23 = some (.aload 5, 2)) ∧ (fdecl fTX3_narrowView_2 25 = some (.getfield 182, 3)) ∧ (fdecl fTX3_narrowView_2 28 = some (.aload 5, 2)) ∧ (fdecl fTX3_narrowView_2 30 = some (.getfield 185, 3)) ∧ (fdecl fTX3_narrowView_2 33 = some (.invokevirtual 188, 3)) ∧ (fdecl fTX3_narrowView_2 36 = some (.ireturn, 1)) := by decide +kernel
theorem dX3_narrowView_134 : decode cX3_narrowView 134 = .ok (.iload 6, 2) := fx_ok (d := 128) (i := 6) fDX3_narrowView_2 eX3_narrowView_134.1
theorem dX3_narrowView_136 : decode cX3_narrowView 136 = .ok (.putfield 182, 3) := fx_ok (d := 128) (i := 8) fDX3_narrowView_2 eX3_narrowView_134.2.1
theorem dX3_narrowView_139 : decode cX3_narrowView 139 = .ok (.aload 5, 2) := fx_ok (d := 128) (i := 11) fDX3_narrowView_2 eX3_narrowView_134.2.2.1
theorem dX3_narrowView_141 : decode cX3_narrowView 141 = .ok (.iload 7, 2) := fx_ok (d := 128) (i := 13) fDX3_narrowView_2 eX3_narrowView_134.2.2.2.1
theorem dX3_narrowView_143 : decode cX3_narrowView 143 = .ok (.putfield 185, 3) := fx_ok (d := 128) (i := 15) fDX3_narrowView_2 eX3_narrowView_134.2.2.2.2.1
theorem dX3_narrowView_146 : decode cX3_narrowView 146 = .ok (.aload 5, 2) := fx_ok (d := 128) (i := 18) fDX3_narrowView_2 eX3_narrowView_134.2.2.2.2.2.1
theorem dX3_narrowView_148 : decode cX3_narrowView 148 = .ok (.getfield 178, 3) := fx_ok (d := 128) (i := 20) fDX3_narrowView_2 eX3_narrowView_134.2.2.2.2.2.2.1
theorem dX3_narrowView_151 : decode cX3_narrowView 151 = .ok (.aload 5, 2) := fx_ok (d := 128) (i := 23) fDX3_narrowView_2 eX3_narrowView_134.2.2.2.2.2.2.2.1
theorem dX3_narrowView_153 : decode cX3_narrowView 153 = .ok (.getfield 182, 3) := fx_ok (d := 128) (i := 25) fDX3_narrowView_2 eX3_narrowView_134.2.2.2.2.2.2.2.2.1
theorem dX3_narrowView_156 : decode cX3_narrowView 156 = .ok (.aload 5, 2) := fx_ok (d := 128) (i := 28) fDX3_narrowView_2 eX3_narrowView_134.2.2.2.2.2.2.2.2.2.1
theorem dX3_narrowView_158 : decode cX3_narrowView 158 = .ok (.getfield 185, 3) := fx_ok (d := 128) (i := 30) fDX3_narrowView_2 eX3_narrowView_134.2.2.2.2.2.2.2.2.2.2.1
theorem dX3_narrowView_161 : decode cX3_narrowView 161 = .ok (.invokevirtual 188, 3) := fx_ok (d := 128) (i := 33) fDX3_narrowView_2 eX3_narrowView_134.2.2.2.2.2.2.2.2.2.2.2.1
theorem dX3_narrowView_164 : decode cX3_narrowView 164 = .ok (.ireturn, 1) := fx_ok (d := 128) (i := 36) fDX3_narrowView_2 eX3_narrowView_134.2.2.2.2.2.2.2.2.2.2.2.2
theorem eX3_buildFromView_0 : (fdecl cX3_buildFromView.data.toList 0 = some (.aload_n 0, 1)) ∧ (fdecl cX3_buildFromView.data.toList 1 = some (.iload_n 1, 1)) ∧ (fdecl cX3_buildFromView.data.toList 2 = some (.invokevirtual 37, 3)) ∧ (fdecl cX3_buildFromView.data.toList 5 = some (.pop, 1)) ∧ (fdecl cX3_buildFromView.data.toList 6 = some (.aload_n 0, 1)) ∧ (fdecl cX3_buildFromView.data.toList 7 = some (.iload_n 2, 1)) ∧ (fdecl cX3_buildFromView.data.toList 8 = some (.invokevirtual 171, 3)) ∧ (fdecl cX3_buildFromView.data.toList 11 = some (.astore 4, 2)) ∧ (fdecl cX3_buildFromView.data.toList 13 = some (.iload_n 3, 1)) ∧ (fdecl cX3_buildFromView.data.toList 14 = some (.iconst 1, 1)) ∧ (fdecl cX3_buildFromView.data.toList 15 = some (.invokestatic 41, 3)) ∧ (fdecl cX3_buildFromView.data.toList 18 = some (.aload_n 0, 1)) ∧ (fdecl cX3_buildFromView.data.toList 19 = some (.dup, 1)) ∧ (fdecl cX3_buildFromView.data.toList 20 = some (.getfield 45, 3)) ∧ (fdecl cX3_buildFromView.data.toList 23 = some (.iconst 1, 1)) ∧ (fdecl cX3_buildFromView.data.toList 24 = some (.iadd, 1)) := by decide +kernel
theorem dX3_buildFromView_0 : decode cX3_buildFromView 0 = .ok (.aload_n 0, 1) := fx_ok0 eX3_buildFromView_0.1
theorem dX3_buildFromView_1 : decode cX3_buildFromView 1 = .ok (.iload_n 1, 1) := fx_ok0 eX3_buildFromView_0.2.1
theorem dX3_buildFromView_2 : decode cX3_buildFromView 2 = .ok (.invokevirtual 37, 3) := fx_ok0 eX3_buildFromView_0.2.2.1
theorem dX3_buildFromView_5 : decode cX3_buildFromView 5 = .ok (.pop, 1) := fx_ok0 eX3_buildFromView_0.2.2.2.1
theorem dX3_buildFromView_6 : decode cX3_buildFromView 6 = .ok (.aload_n 0, 1) := fx_ok0 eX3_buildFromView_0.2.2.2.2.1
theorem dX3_buildFromView_7 : decode cX3_buildFromView 7 = .ok (.iload_n 2, 1) := fx_ok0 eX3_buildFromView_0.2.2.2.2.2.1
theorem dX3_buildFromView_8 : decode cX3_buildFromView 8 = .ok (.invokevirtual 171, 3) := fx_ok0 eX3_buildFromView_0.2.2.2.2.2.2.1
theorem dX3_buildFromView_11 : decode cX3_buildFromView 11 = .ok (.astore 4, 2) := fx_ok0 eX3_buildFromView_0.2.2.2.2.2.2.2.1
theorem dX3_buildFromView_13 : decode cX3_buildFromView 13 = .ok (.iload_n 3, 1) := fx_ok0 eX3_buildFromView_0.2.2.2.2.2.2.2.2.1
theorem dX3_buildFromView_14 : decode cX3_buildFromView 14 = .ok (.iconst 1, 1) := fx_ok0 eX3_buildFromView_0.2.2.2.2.2.2.2.2.2.1
theorem dX3_buildFromView_15 : decode cX3_buildFromView 15 = .ok (.invokestatic 41, 3) := fx_ok0 eX3_buildFromView_0.2.2.2.2.2.2.2.2.2.2.1
theorem dX3_buildFromView_18 : decode cX3_buildFromView 18 = .ok (.aload_n 0, 1) := fx_ok0 eX3_buildFromView_0.2.2.2.2.2.2.2.2.2.2.2.1
theorem dX3_buildFromView_19 : decode cX3_buildFromView 19 = .ok (.dup, 1) := fx_ok0 eX3_buildFromView_0.2.2.2.2.2.2.2.2.2.2.2.2.1
theorem dX3_buildFromView_20 : decode cX3_buildFromView 20 = .ok (.getfield 45, 3) := fx_ok0 eX3_buildFromView_0.2.2.2.2.2.2.2.2.2.2.2.2.2.1
theorem dX3_buildFromView_23 : decode cX3_buildFromView 23 = .ok (.iconst 1, 1) := fx_ok0 eX3_buildFromView_0.2.2.2.2.2.2.2.2.2.2.2.2.2.2.1
theorem dX3_buildFromView_24 : decode cX3_buildFromView 24 = .ok (.iadd, 1) := fx_ok0 eX3_buildFromView_0.2.2.2.2.2.2.2.2.2.2.2.2.2.2.2
theorem eX3_buildFromView_25 : (fdecl cX3_buildFromView.data.toList 25 = some (.putfield 45, 3)) ∧ (fdecl cX3_buildFromView.data.toList 28 = some (.aload_n 0, 1)) ∧ (fdecl cX3_buildFromView.data.toList 29 = some (.getfield 11, 3)) ∧ (fdecl cX3_buildFromView.data.toList 32 = some (.iload_n 1, 1)) ∧ (fdecl cX3_buildFromView.data.toList 33 = some (.aload 4, 2)) ∧ (fdecl cX3_buildFromView.data.toList 35 = some (.getfield 178, 3)) ∧ (fdecl cX3_buildFromView.data.toList 38 = some (.aload 4, 2)) ∧ (fdecl cX3_buildFromView.data.toList 40 = some (.getfield 182, 3)) ∧ (fdecl cX3_buildFromView.data.toList 43 = some (.aload 4, 2)) ∧ (fdecl cX3_buildFromView.data.toList 45 = some (.getfield 185, 3)) ∧ (fdecl cX3_buildFromView.data.toList 48 = some (.aload 4, 2)) ∧ (fdecl cX3_buildFromView.data.toList 50 = some (.getfield 178, 3)) ∧ (fdecl cX3_buildFromView.data.toList 53 = some (.getfield 74, 3)) ∧ (fdecl cX3_buildFromView.data.toList 56 = some (.invokevirtual 56, 3)) ∧ (fdecl cX3_buildFromView.data.toList 59 = some (.aastore, 1)) ∧ (fdecl cX3_buildFromView.data.toList 60 = some (.aload_n 0, 1)) := by decide +kernel
theorem dX3_buildFromView_25 : decode cX3_buildFromView 25 = .ok (.putfield 45, 3) := fx_ok0 eX3_buildFromView_25.1
theorem dX3_buildFromView_28 : decode cX3_buildFromView 28 = .ok (.aload_n 0, 1) := fx_ok0 eX3_buildFromView_25.2.1
theorem dX3_buildFromView_29 : decode cX3_buildFromView 29 = .ok (.getfield 11, 3) := fx_ok0 eX3_buildFromView_25.2.2.1
theorem dX3_buildFromView_32 : decode cX3_buildFromView 32 = .ok (.iload_n 1, 1) := fx_ok0 eX3_buildFromView_25.2.2.2.1
theorem dX3_buildFromView_33 : decode cX3_buildFromView 33 = .ok (.aload 4, 2) := fx_ok0 eX3_buildFromView_25.2.2.2.2.1
theorem dX3_buildFromView_35 : decode cX3_buildFromView 35 = .ok (.getfield 178, 3) := fx_ok0 eX3_buildFromView_25.2.2.2.2.2.1
theorem dX3_buildFromView_38 : decode cX3_buildFromView 38 = .ok (.aload 4, 2) := fx_ok0 eX3_buildFromView_25.2.2.2.2.2.2.1
theorem dX3_buildFromView_40 : decode cX3_buildFromView 40 = .ok (.getfield 182, 3) := fx_ok0 eX3_buildFromView_25.2.2.2.2.2.2.2.1
theorem dX3_buildFromView_43 : decode cX3_buildFromView 43 = .ok (.aload 4, 2) := fx_ok0 eX3_buildFromView_25.2.2.2.2.2.2.2.2.1
theorem dX3_buildFromView_45 : decode cX3_buildFromView 45 = .ok (.getfield 185, 3) := fx_ok0 eX3_buildFromView_25.2.2.2.2.2.2.2.2.2.1
theorem dX3_buildFromView_48 : decode cX3_buildFromView 48 = .ok (.aload 4, 2) := fx_ok0 eX3_buildFromView_25.2.2.2.2.2.2.2.2.2.2.1
theorem dX3_buildFromView_50 : decode cX3_buildFromView 50 = .ok (.getfield 178, 3) := fx_ok0 eX3_buildFromView_25.2.2.2.2.2.2.2.2.2.2.2.1
theorem dX3_buildFromView_53 : decode cX3_buildFromView 53 = .ok (.getfield 74, 3) := fx_ok0 eX3_buildFromView_25.2.2.2.2.2.2.2.2.2.2.2.2.1
theorem dX3_buildFromView_56 : decode cX3_buildFromView 56 = .ok (.invokevirtual 56, 3) := fx_ok0 eX3_buildFromView_25.2.2.2.2.2.2.2.2.2.2.2.2.2.1
theorem dX3_buildFromView_59 : decode cX3_buildFromView 59 = .ok (.aastore, 1) := fx_ok0 eX3_buildFromView_25.2.2.2.2.2.2.2.2.2.2.2.2.2.2.1
theorem dX3_buildFromView_60 : decode cX3_buildFromView 60 = .ok (.aload_n 0, 1) := fx_ok0 eX3_buildFromView_25.2.2.2.2.2.2.2.2.2.2.2.2.2.2.2
theorem eX3_buildFromView_61 : (fdecl cX3_buildFromView.data.toList 61 = some (.getfield 11, 3)) ∧ (fdecl cX3_buildFromView.data.toList 64 = some (.iload_n 1, 1)) ∧ (fdecl cX3_buildFromView.data.toList 65 = some (.aaload, 1)) ∧ (fdecl cX3_buildFromView.data.toList 66 = some (.getfield 49, 3)) ∧ (fdecl cX3_buildFromView.data.toList 69 = some (.ireturn, 1)) := by decide +kernel
theorem dX3_buildFromView_61 : decode cX3_buildFromView 61 = .ok (.getfield 11, 3) := fx_ok0 eX3_buildFromView_61.1
theorem dX3_buildFromView_64 : decode cX3_buildFromView 64 = .ok (.iload_n 1, 1) := fx_ok0 eX3_buildFromView_61.2.1
theorem dX3_buildFromView_65 : decode cX3_buildFromView 65 = .ok (.aaload, 1) := fx_ok0 eX3_buildFromView_61.2.2.1
theorem dX3_buildFromView_66 : decode cX3_buildFromView 66 = .ok (.getfield 49, 3) := fx_ok0 eX3_buildFromView_61.2.2.2.1
theorem dX3_buildFromView_69 : decode cX3_buildFromView 69 = .ok (.ireturn, 1) := fx_ok0 eX3_buildFromView_61.2.2.2.2
theorem eX3_viewPut_0 : (fdecl cX3_viewPut.data.toList 0 = some (.aload_n 0, 1)) ∧ (fdecl cX3_viewPut.data.toList 1 = some (.iload_n 1, 1)) ∧ (fdecl cX3_viewPut.data.toList 2 = some (.invokevirtual 171, 3)) ∧ (fdecl cX3_viewPut.data.toList 5 = some (.astore 4, 2)) ∧ (fdecl cX3_viewPut.data.toList 7 = some (.iload_n 2, 1)) ∧ (fdecl cX3_viewPut.data.toList 8 = some (.invokestatic 60, 3)) ∧ (fdecl cX3_viewPut.data.toList 11 = some (.iload_n 3, 1)) ∧ (fdecl cX3_viewPut.data.toList 12 = some (.invokestatic 104, 3)) ∧ (fdecl cX3_viewPut.data.toList 15 = some (.aload 4, 2)) ∧ (fdecl cX3_viewPut.data.toList 17 = some (.getfield 178, 3)) ∧ (fdecl cX3_viewPut.data.toList 20 = some (.iload_n 2, 1)) ∧ (fdecl cX3_viewPut.data.toList 21 = some (.invokevirtual 70, 3)) ∧ (fdecl cX3_viewPut.data.toList 24 = some (.istore 5, 2)) ∧ (fdecl cX3_viewPut.data.toList 26 = some (.aload 4, 2)) ∧ (fdecl cX3_viewPut.data.toList 28 = some (.iload 5, 2)) ∧ (fdecl cX3_viewPut.data.toList 30 = some (.invokevirtual 191, 3)) := by decide +kernel
theorem dX3_viewPut_0 : decode cX3_viewPut 0 = .ok (.aload_n 0, 1) := fx_ok0 eX3_viewPut_0.1
theorem dX3_viewPut_1 : decode cX3_viewPut 1 = .ok (.iload_n 1, 1) := fx_ok0 eX3_viewPut_0.2.1
theorem dX3_viewPut_2 : decode cX3_viewPut 2 = .ok (.invokevirtual 171, 3) := fx_ok0 eX3_viewPut_0.2.2.1
theorem dX3_viewPut_5 : decode cX3_viewPut 5 = .ok (.astore 4, 2) := fx_ok0 eX3_viewPut_0.2.2.2.1
theorem dX3_viewPut_7 : decode cX3_viewPut 7 = .ok (.iload_n 2, 1) := fx_ok0 eX3_viewPut_0.2.2.2.2.1
theorem dX3_viewPut_8 : decode cX3_viewPut 8 = .ok (.invokestatic 60, 3) := fx_ok0 eX3_viewPut_0.2.2.2.2.2.1
theorem dX3_viewPut_11 : decode cX3_viewPut 11 = .ok (.iload_n 3, 1) := fx_ok0 eX3_viewPut_0.2.2.2.2.2.2.1
theorem dX3_viewPut_12 : decode cX3_viewPut 12 = .ok (.invokestatic 104, 3) := fx_ok0 eX3_viewPut_0.2.2.2.2.2.2.2.1
theorem dX3_viewPut_15 : decode cX3_viewPut 15 = .ok (.aload 4, 2) := fx_ok0 eX3_viewPut_0.2.2.2.2.2.2.2.2.1
theorem dX3_viewPut_17 : decode cX3_viewPut 17 = .ok (.getfield 178, 3) := fx_ok0 eX3_viewPut_0.2.2.2.2.2.2.2.2.2.1
theorem dX3_viewPut_20 : decode cX3_viewPut 20 = .ok (.iload_n 2, 1) := fx_ok0 eX3_viewPut_0.2.2.2.2.2.2.2.2.2.2.1
theorem dX3_viewPut_21 : decode cX3_viewPut 21 = .ok (.invokevirtual 70, 3) := fx_ok0 eX3_viewPut_0.2.2.2.2.2.2.2.2.2.2.2.1
theorem dX3_viewPut_24 : decode cX3_viewPut 24 = .ok (.istore 5, 2) := fx_ok0 eX3_viewPut_0.2.2.2.2.2.2.2.2.2.2.2.2.1
theorem dX3_viewPut_26 : decode cX3_viewPut 26 = .ok (.aload 4, 2) := fx_ok0 eX3_viewPut_0.2.2.2.2.2.2.2.2.2.2.2.2.2.1
theorem dX3_viewPut_28 : decode cX3_viewPut 28 = .ok (.iload 5, 2) := fx_ok0 eX3_viewPut_0.2.2.2.2.2.2.2.2.2.2.2.2.2.2.1
theorem dX3_viewPut_30 : decode cX3_viewPut 30 = .ok (.invokevirtual 191, 3) := fx_ok0 eX3_viewPut_0.2.2.2.2.2.2.2.2.2.2.2.2.2.2.2
theorem eX3_viewPut_33 : (fdecl cX3_viewPut.data.toList 33 = some (.ifCond .ne 8, 3)) ∧ (fdecl cX3_viewPut.data.toList 36 = some (.aload_n 0, 1)) ∧ (fdecl cX3_viewPut.data.toList 37 = some (.invokevirtual 63, 3)) ∧ (fdecl cX3_viewPut.data.toList 40 = some (.ireturn, 1)) ∧ (fdecl cX3_viewPut.data.toList 41 = some (.aload_n 0, 1)) ∧ (fdecl cX3_viewPut.data.toList 42 = some (.aload 4, 2)) ∧ (fdecl cX3_viewPut.data.toList 44 = some (.getfield 178, 3)) ∧ (fdecl cX3_viewPut.data.toList 47 = some (.invokevirtual 67, 3)) ∧ (fdecl cX3_viewPut.data.toList 50 = some (.aload 4, 2)) ∧ (fdecl cX3_viewPut.data.toList 52 = some (.getfield 178, 3)) ∧ (fdecl cX3_viewPut.data.toList 55 = some (.iload 5, 2)) ∧ (fdecl cX3_viewPut.data.toList 57 = some (.iload_n 3, 1)) ∧ (fdecl cX3_viewPut.data.toList 58 = some (.invokevirtual 110, 3)) ∧ (fdecl cX3_viewPut.data.toList 61 = some (.ireturn, 1)) := by decide +kernel
theorem dX3_viewPut_33 : decode cX3_viewPut 33 = .ok (.ifCond .ne 8, 3) := fx_ok0 eX3_viewPut_33.1
theorem dX3_viewPut_36 : decode cX3_viewPut 36 = .ok (.aload_n 0, 1) := fx_ok0 eX3_viewPut_33.2.1
theorem dX3_viewPut_37 : decode cX3_viewPut 37 = .ok (.invokevirtual 63, 3) := fx_ok0 eX3_viewPut_33.2.2.1
theorem dX3_viewPut_40 : decode cX3_viewPut 40 = .ok (.ireturn, 1) := fx_ok0 eX3_viewPut_33.2.2.2.1
theorem dX3_viewPut_41 : decode cX3_viewPut 41 = .ok (.aload_n 0, 1) := fx_ok0 eX3_viewPut_33.2.2.2.2.1
theorem dX3_viewPut_42 : decode cX3_viewPut 42 = .ok (.aload 4, 2) := fx_ok0 eX3_viewPut_33.2.2.2.2.2.1
theorem dX3_viewPut_44 : decode cX3_viewPut 44 = .ok (.getfield 178, 3) := fx_ok0 eX3_viewPut_33.2.2.2.2.2.2.1
theorem dX3_viewPut_47 : decode cX3_viewPut 47 = .ok (.invokevirtual 67, 3) := fx_ok0 eX3_viewPut_33.2.2.2.2.2.2.2.1
theorem dX3_viewPut_50 : decode cX3_viewPut 50 = .ok (.aload 4, 2) := fx_ok0 eX3_viewPut_33.2.2.2.2.2.2.2.2.1
theorem dX3_viewPut_52 : decode cX3_viewPut 52 = .ok (.getfield 178, 3) := fx_ok0 eX3_viewPut_33.2.2.2.2.2.2.2.2.2.1
theorem dX3_viewPut_55 : decode cX3_viewPut 55 = .ok (.iload 5, 2) := fx_ok0 eX3_viewPut_33.2.2.2.2.2.2.2.2.2.2.1
theorem dX3_viewPut_57 : decode cX3_viewPut 57 = .ok (.iload_n 3, 1) := fx_ok0 eX3_viewPut_33.2.2.2.2.2.2.2.2.2.2.2.1
theorem dX3_viewPut_58 : decode cX3_viewPut 58 = .ok (.invokevirtual 110, 3) := fx_ok0 eX3_viewPut_33.2.2.2.2.2.2.2.2.2.2.2.2.1
theorem dX3_viewPut_61 : decode cX3_viewPut 61 = .ok (.ireturn, 1) := fx_ok0 eX3_viewPut_33.2.2.2.2.2.2.2.2.2.2.2.2.2
theorem eX3_viewTake_0 : (fdecl cX3_viewTake.data.toList 0 = some (.aload_n 0, 1)) ∧ (fdecl cX3_viewTake.data.toList 1 = some (.iload_n 1, 1)) ∧ (fdecl cX3_viewTake.data.toList 2 = some (.invokevirtual 171, 3)) ∧ (fdecl cX3_viewTake.data.toList 5 = some (.astore_n 3, 1)) ∧ (fdecl cX3_viewTake.data.toList 6 = some (.iload_n 2, 1)) ∧ (fdecl cX3_viewTake.data.toList 7 = some (.invokestatic 60, 3)) ∧ (fdecl cX3_viewTake.data.toList 10 = some (.aload_n 0, 1)) ∧ (fdecl cX3_viewTake.data.toList 11 = some (.aload_n 3, 1)) ∧ (fdecl cX3_viewTake.data.toList 12 = some (.getfield 178, 3)) ∧ (fdecl cX3_viewTake.data.toList 15 = some (.invokevirtual 67, 3)) ∧ (fdecl cX3_viewTake.data.toList 18 = some (.aload_n 3, 1)) ∧ (fdecl cX3_viewTake.data.toList 19 = some (.getfield 178, 3)) ∧ (fdecl cX3_viewTake.data.toList 22 = some (.iload_n 2, 1)) ∧ (fdecl cX3_viewTake.data.toList 23 = some (.invokevirtual 70, 3)) ∧ (fdecl cX3_viewTake.data.toList 26 = some (.istore 4, 2)) ∧ (fdecl cX3_viewTake.data.toList 28 = some (.aload_n 3, 1)) := by decide +kernel
theorem dX3_viewTake_0 : decode cX3_viewTake 0 = .ok (.aload_n 0, 1) := fx_ok0 eX3_viewTake_0.1
theorem dX3_viewTake_1 : decode cX3_viewTake 1 = .ok (.iload_n 1, 1) := fx_ok0 eX3_viewTake_0.2.1
theorem dX3_viewTake_2 : decode cX3_viewTake 2 = .ok (.invokevirtual 171, 3) := fx_ok0 eX3_viewTake_0.2.2.1
theorem dX3_viewTake_5 : decode cX3_viewTake 5 = .ok (.astore_n 3, 1) := fx_ok0 eX3_viewTake_0.2.2.2.1
theorem dX3_viewTake_6 : decode cX3_viewTake 6 = .ok (.iload_n 2, 1) := fx_ok0 eX3_viewTake_0.2.2.2.2.1
theorem dX3_viewTake_7 : decode cX3_viewTake 7 = .ok (.invokestatic 60, 3) := fx_ok0 eX3_viewTake_0.2.2.2.2.2.1
theorem dX3_viewTake_10 : decode cX3_viewTake 10 = .ok (.aload_n 0, 1) := fx_ok0 eX3_viewTake_0.2.2.2.2.2.2.1
theorem dX3_viewTake_11 : decode cX3_viewTake 11 = .ok (.aload_n 3, 1) := fx_ok0 eX3_viewTake_0.2.2.2.2.2.2.2.1
theorem dX3_viewTake_12 : decode cX3_viewTake 12 = .ok (.getfield 178, 3) := fx_ok0 eX3_viewTake_0.2.2.2.2.2.2.2.2.1
theorem dX3_viewTake_15 : decode cX3_viewTake 15 = .ok (.invokevirtual 67, 3) := fx_ok0 eX3_viewTake_0.2.2.2.2.2.2.2.2.2.1
theorem dX3_viewTake_18 : decode cX3_viewTake 18 = .ok (.aload_n 3, 1) := fx_ok0 eX3_viewTake_0.2.2.2.2.2.2.2.2.2.2.1
theorem dX3_viewTake_19 : decode cX3_viewTake 19 = .ok (.getfield 178, 3) := fx_ok0 eX3_viewTake_0.2.2.2.2.2.2.2.2.2.2.2.1
theorem dX3_viewTake_22 : decode cX3_viewTake 22 = .ok (.iload_n 2, 1) := fx_ok0 eX3_viewTake_0.2.2.2.2.2.2.2.2.2.2.2.2.1
theorem dX3_viewTake_23 : decode cX3_viewTake 23 = .ok (.invokevirtual 70, 3) := fx_ok0 eX3_viewTake_0.2.2.2.2.2.2.2.2.2.2.2.2.2.1
theorem dX3_viewTake_26 : decode cX3_viewTake 26 = .ok (.istore 4, 2) := fx_ok0 eX3_viewTake_0.2.2.2.2.2.2.2.2.2.2.2.2.2.2.1
theorem dX3_viewTake_28 : decode cX3_viewTake 28 = .ok (.aload_n 3, 1) := fx_ok0 eX3_viewTake_0.2.2.2.2.2.2.2.2.2.2.2.2.2.2.2
theorem eX3_viewTake_29 : (fdecl cX3_viewTake.data.toList 29 = some (.iload 4, 2)) ∧ (fdecl cX3_viewTake.data.toList 31 = some (.invokevirtual 191, 3)) ∧ (fdecl cX3_viewTake.data.toList 34 = some (.ifCond .eq 15, 3)) ∧ (fdecl cX3_viewTake.data.toList 37 = some (.aload_n 3, 1)) ∧ (fdecl cX3_viewTake.data.toList 38 = some (.getfield 178, 3)) ∧ (fdecl cX3_viewTake.data.toList 41 = some (.iload 4, 2)) ∧ (fdecl cX3_viewTake.data.toList 43 = some (.invokevirtual 113, 3)) ∧ (fdecl cX3_viewTake.data.toList 46 = some (.goto 4, 3)) ∧ (fdecl cX3_viewTake.data.toList 49 = some (.iconst (-1), 1)) ∧ (fdecl cX3_viewTake.data.toList 50 = some (.ireturn, 1)) := by decide +kernel
theorem dX3_viewTake_29 : decode cX3_viewTake 29 = .ok (.iload 4, 2) := fx_ok0 eX3_viewTake_29.1
theorem dX3_viewTake_31 : decode cX3_viewTake 31 = .ok (.invokevirtual 191, 3) := fx_ok0 eX3_viewTake_29.2.1
theorem dX3_viewTake_34 : decode cX3_viewTake 34 = .ok (.ifCond .eq 15, 3) := fx_ok0 eX3_viewTake_29.2.2.1
theorem dX3_viewTake_37 : decode cX3_viewTake 37 = .ok (.aload_n 3, 1) := fx_ok0 eX3_viewTake_29.2.2.2.1
theorem dX3_viewTake_38 : decode cX3_viewTake 38 = .ok (.getfield 178, 3) := fx_ok0 eX3_viewTake_29.2.2.2.2.1
theorem dX3_viewTake_41 : decode cX3_viewTake 41 = .ok (.iload 4, 2) := fx_ok0 eX3_viewTake_29.2.2.2.2.2.1
theorem dX3_viewTake_43 : decode cX3_viewTake 43 = .ok (.invokevirtual 113, 3) := fx_ok0 eX3_viewTake_29.2.2.2.2.2.2.1
theorem dX3_viewTake_46 : decode cX3_viewTake 46 = .ok (.goto 4, 3) := fx_ok0 eX3_viewTake_29.2.2.2.2.2.2.2.1
theorem dX3_viewTake_49 : decode cX3_viewTake 49 = .ok (.iconst (-1), 1) := fx_ok0 eX3_viewTake_29.2.2.2.2.2.2.2.2.1
theorem dX3_viewTake_50 : decode cX3_viewTake 50 = .ok (.ireturn, 1) := fx_ok0 eX3_viewTake_29.2.2.2.2.2.2.2.2.2
theorem eX3_viewDrop_0 : (fdecl cX3_viewDrop.data.toList 0 = some (.aload_n 0, 1)) ∧ (fdecl cX3_viewDrop.data.toList 1 = some (.iload_n 1, 1)) ∧ (fdecl cX3_viewDrop.data.toList 2 = some (.invokevirtual 171, 3)) ∧ (fdecl cX3_viewDrop.data.toList 5 = some (.astore_n 3, 1)) ∧ (fdecl cX3_viewDrop.data.toList 6 = some (.iload_n 2, 1)) ∧ (fdecl cX3_viewDrop.data.toList 7 = some (.iconst 2, 1)) ∧ (fdecl cX3_viewDrop.data.toList 8 = some (.invokestatic 41, 3)) ∧ (fdecl cX3_viewDrop.data.toList 11 = some (.aload_n 0, 1)) ∧ (fdecl cX3_viewDrop.data.toList 12 = some (.aload_n 3, 1)) ∧ (fdecl cX3_viewDrop.data.toList 13 = some (.getfield 178, 3)) ∧ (fdecl cX3_viewDrop.data.toList 16 = some (.invokevirtual 67, 3)) ∧ (fdecl cX3_viewDrop.data.toList 19 = some (.aload_n 3, 1)) ∧ (fdecl cX3_viewDrop.data.toList 20 = some (.getfield 178, 3)) ∧ (fdecl cX3_viewDrop.data.toList 23 = some (.aload_n 3, 1)) ∧ (fdecl cX3_viewDrop.data.toList 24 = some (.getfield 182, 3)) ∧ (fdecl cX3_viewDrop.data.toList 27 = some (.aload_n 3, 1)) := by decide +kernel
theorem dX3_viewDrop_0 : decode cX3_viewDrop 0 = .ok (.aload_n 0, 1) := fx_ok0 eX3_viewDrop_0.1
theorem dX3_viewDrop_1 : decode cX3_viewDrop 1 = .ok (.iload_n 1, 1) := fx_ok0 eX3_viewDrop_0.2.1
theorem dX3_viewDrop_2 : decode cX3_viewDrop 2 = .ok (.invokevirtual 171, 3) := fx_ok0 eX3_viewDrop_0.2.2.1
theorem dX3_viewDrop_5 : decode cX3_viewDrop 5 = .ok (.astore_n 3, 1) := fx_ok0 eX3_viewDrop_0.2.2.2.1
theorem dX3_viewDrop_6 : decode cX3_viewDrop 6 = .ok (.iload_n 2, 1) := fx_ok0 eX3_viewDrop_0.2.2.2.2.1
theorem dX3_viewDrop_7 : decode cX3_viewDrop 7 = .ok (.iconst 2, 1) := fx_ok0 eX3_viewDrop_0.2.2.2.2.2.1
theorem dX3_viewDrop_8 : decode cX3_viewDrop 8 = .ok (.invokestatic 41, 3) := fx_ok0 eX3_viewDrop_0.2.2.2.2.2.2.1
theorem dX3_viewDrop_11 : decode cX3_viewDrop 11 = .ok (.aload_n 0, 1) := fx_ok0 eX3_viewDrop_0.2.2.2.2.2.2.2.1
theorem dX3_viewDrop_12 : decode cX3_viewDrop 12 = .ok (.aload_n 3, 1) := fx_ok0 eX3_viewDrop_0.2.2.2.2.2.2.2.2.1
theorem dX3_viewDrop_13 : decode cX3_viewDrop 13 = .ok (.getfield 178, 3) := fx_ok0 eX3_viewDrop_0.2.2.2.2.2.2.2.2.2.1
theorem dX3_viewDrop_16 : decode cX3_viewDrop 16 = .ok (.invokevirtual 67, 3) := fx_ok0 eX3_viewDrop_0.2.2.2.2.2.2.2.2.2.2.1
theorem dX3_viewDrop_19 : decode cX3_viewDrop 19 = .ok (.aload_n 3, 1) := fx_ok0 eX3_viewDrop_0.2.2.2.2.2.2.2.2.2.2.2.1
theorem dX3_viewDrop_20 : decode cX3_viewDrop 20 = .ok (.getfield 178, 3) := fx_ok0 eX3_viewDrop_0.2.2.2.2.2.2.2.2.2.2.2.2.1
theorem dX3_viewDrop_23 : decode cX3_viewDrop 23 = .ok (.aload_n 3, 1) := fx_ok0 eX3_viewDrop_0.2.2.2.2.2.2.2.2.2.2.2.2.2.1
theorem dX3_viewDrop_24 : decode cX3_viewDrop 24 = .ok (.getfield 182, 3) := fx_ok0 eX3_viewDrop_0.2.2.2.2.2.2.2.2.2.2.2.2.2.2.1
theorem dX3_viewDrop_27 : decode cX3_viewDrop 27 = .ok (.aload_n 3, 1) := fx_ok0 eX3_viewDrop_0.2.2.2.2.2.2.2.2.2.2.2.2.2.2.2
theorem eX3_viewDrop_28 : (fdecl cX3_viewDrop.data.toList 28 = some (.getfield 185, 3)) ∧ (fdecl cX3_viewDrop.data.toList 31 = some (.iload_n 2, 1)) ∧ (fdecl cX3_viewDrop.data.toList 32 = some (.invokevirtual 116, 3)) ∧ (fdecl cX3_viewDrop.data.toList 35 = some (.ireturn, 1)) := by decide +kernel
theorem dX3_viewDrop_28 : decode cX3_viewDrop 28 = .ok (.getfield 185, 3) := fx_ok0 eX3_viewDrop_28.1
theorem dX3_viewDrop_31 : decode cX3_viewDrop 31 = .ok (.iload_n 2, 1) := fx_ok0 eX3_viewDrop_28.2.1
theorem dX3_viewDrop_32 : decode cX3_viewDrop 32 = .ok (.invokevirtual 116, 3) := fx_ok0 eX3_viewDrop_28.2.2.1
theorem dX3_viewDrop_35 : decode cX3_viewDrop 35 = .ok (.ireturn, 1) := fx_ok0 eX3_viewDrop_28.2.2.2
theorem eX3_viewNear_0 : (fdecl cX3_viewNear.data.toList 0 = some (.aload_n 0, 1)) ∧ (fdecl cX3_viewNear.data.toList 1 = some (.iload_n 1, 1)) ∧ (fdecl cX3_viewNear.data.toList 2 = some (.invokevirtual 171, 3)) ∧ (fdecl cX3_viewNear.data.toList 5 = some (.astore 4, 2)) ∧ (fdecl cX3_viewNear.data.toList 7 = some (.iload_n 2, 1)) ∧ (fdecl cX3_viewNear.data.toList 8 = some (.invokestatic 60, 3)) ∧ (fdecl cX3_viewNear.data.toList 11 = some (.iload_n 3, 1)) ∧ (fdecl cX3_viewNear.data.toList 12 = some (.iconst 4, 1)) ∧ (fdecl cX3_viewNear.data.toList 13 = some (.invokestatic 41, 3)) ∧ (fdecl cX3_viewNear.data.toList 16 = some (.aload 4, 2)) ∧ (fdecl cX3_viewNear.data.toList 18 = some (.getfield 178, 3)) ∧ (fdecl cX3_viewNear.data.toList 21 = some (.aload 4, 2)) ∧ (fdecl cX3_viewNear.data.toList 23 = some (.getfield 178, 3)) ∧ (fdecl cX3_viewNear.data.toList 26 = some (.aload 4, 2)) ∧ (fdecl cX3_viewNear.data.toList 28 = some (.getfield 182, 3)) ∧ (fdecl cX3_viewNear.data.toList 31 = some (.aload 4, 2)) := by decide +kernel
theorem dX3_viewNear_0 : decode cX3_viewNear 0 = .ok (.aload_n 0, 1) := fx_ok0 eX3_viewNear_0.1
theorem dX3_viewNear_1 : decode cX3_viewNear 1 = .ok (.iload_n 1, 1) := fx_ok0 eX3_viewNear_0.2.1
theorem dX3_viewNear_2 : decode cX3_viewNear 2 = .ok (.invokevirtual 171, 3) := fx_ok0 eX3_viewNear_0.2.2.1
theorem dX3_viewNear_5 : decode cX3_viewNear 5 = .ok (.astore 4, 2) := fx_ok0 eX3_viewNear_0.2.2.2.1
theorem dX3_viewNear_7 : decode cX3_viewNear 7 = .ok (.iload_n 2, 1) := fx_ok0 eX3_viewNear_0.2.2.2.2.1
theorem dX3_viewNear_8 : decode cX3_viewNear 8 = .ok (.invokestatic 60, 3) := fx_ok0 eX3_viewNear_0.2.2.2.2.2.1
theorem dX3_viewNear_11 : decode cX3_viewNear 11 = .ok (.iload_n 3, 1) := fx_ok0 eX3_viewNear_0.2.2.2.2.2.2.1
theorem dX3_viewNear_12 : decode cX3_viewNear 12 = .ok (.iconst 4, 1) := fx_ok0 eX3_viewNear_0.2.2.2.2.2.2.2.1
theorem dX3_viewNear_13 : decode cX3_viewNear 13 = .ok (.invokestatic 41, 3) := fx_ok0 eX3_viewNear_0.2.2.2.2.2.2.2.2.1
theorem dX3_viewNear_16 : decode cX3_viewNear 16 = .ok (.aload 4, 2) := fx_ok0 eX3_viewNear_0.2.2.2.2.2.2.2.2.2.1
theorem dX3_viewNear_18 : decode cX3_viewNear 18 = .ok (.getfield 178, 3) := fx_ok0 eX3_viewNear_0.2.2.2.2.2.2.2.2.2.2.1
theorem dX3_viewNear_21 : decode cX3_viewNear 21 = .ok (.aload 4, 2) := fx_ok0 eX3_viewNear_0.2.2.2.2.2.2.2.2.2.2.2.1
theorem dX3_viewNear_23 : decode cX3_viewNear 23 = .ok (.getfield 178, 3) := fx_ok0 eX3_viewNear_0.2.2.2.2.2.2.2.2.2.2.2.2.1
theorem dX3_viewNear_26 : decode cX3_viewNear 26 = .ok (.aload 4, 2) := fx_ok0 eX3_viewNear_0.2.2.2.2.2.2.2.2.2.2.2.2.2.1
theorem dX3_viewNear_28 : decode cX3_viewNear 28 = .ok (.getfield 182, 3) := fx_ok0 eX3_viewNear_0.2.2.2.2.2.2.2.2.2.2.2.2.2.2.1
theorem dX3_viewNear_31 : decode cX3_viewNear 31 = .ok (.aload 4, 2) := fx_ok0 eX3_viewNear_0.2.2.2.2.2.2.2.2.2.2.2.2.2.2.2
theorem eX3_viewNear_33 : (fdecl cX3_viewNear.data.toList 33 = some (.getfield 185, 3)) ∧ (fdecl cX3_viewNear.data.toList 36 = some (.iload_n 2, 1)) ∧ (fdecl cX3_viewNear.data.toList 37 = some (.iload_n 3, 1)) ∧ (fdecl cX3_viewNear.data.toList 38 = some (.invokevirtual 126, 3)) ∧ (fdecl cX3_viewNear.data.toList 41 = some (.invokevirtual 129, 3)) ∧ (fdecl cX3_viewNear.data.toList 44 = some (.ireturn, 1)) := by decide +kernel
theorem dX3_viewNear_33 : decode cX3_viewNear 33 = .ok (.getfield 185, 3) := fx_ok0 eX3_viewNear_33.1
theorem dX3_viewNear_36 : decode cX3_viewNear 36 = .ok (.iload_n 2, 1) := fx_ok0 eX3_viewNear_33.2.1
theorem dX3_viewNear_37 : decode cX3_viewNear 37 = .ok (.iload_n 3, 1) := fx_ok0 eX3_viewNear_33.2.2.1
theorem dX3_viewNear_38 : decode cX3_viewNear 38 = .ok (.invokevirtual 126, 3) := fx_ok0 eX3_viewNear_33.2.2.2.1
theorem dX3_viewNear_41 : decode cX3_viewNear 41 = .ok (.invokevirtual 129, 3) := fx_ok0 eX3_viewNear_33.2.2.2.2.1
theorem dX3_viewNear_44 : decode cX3_viewNear 44 = .ok (.ireturn, 1) := fx_ok0 eX3_viewNear_33.2.2.2.2.2
theorem eX3_viewTell_0 : (fdecl cX3_viewTell.data.toList 0 = some (.aload_n 0, 1)) ∧ (fdecl cX3_viewTell.data.toList 1 = some (.iload_n 1, 1)) ∧ (fdecl cX3_viewTell.data.toList 2 = some (.invokevirtual 171, 3)) ∧ (fdecl cX3_viewTell.data.toList 5 = some (.astore_n 3, 1)) ∧ (fdecl cX3_viewTell.data.toList 6 = some (.iload_n 2, 1)) ∧ (fdecl cX3_viewTell.data.toList 7 = some (.iconst 3, 1)) ∧ (fdecl cX3_viewTell.data.toList 8 = some (.invokestatic 41, 3)) ∧ (fdecl cX3_viewTell.data.toList 11 = some (.iload_n 2, 1)) ∧ (fdecl cX3_viewTell.data.toList 12 = some (.ifCond .ne 19, 3)) ∧ (fdecl cX3_viewTell.data.toList 15 = some (.aload_n 3, 1)) ∧ (fdecl cX3_viewTell.data.toList 16 = some (.getfield 178, 3)) ∧ (fdecl cX3_viewTell.data.toList 19 = some (.aload_n 3, 1)) ∧ (fdecl cX3_viewTell.data.toList 20 = some (.getfield 182, 3)) ∧ (fdecl cX3_viewTell.data.toList 23 = some (.aload_n 3, 1)) ∧ (fdecl cX3_viewTell.data.toList 24 = some (.getfield 185, 3)) ∧ (fdecl cX3_viewTell.data.toList 27 = some (.invokevirtual 188, 3)) := by decide +kernel
theorem dX3_viewTell_0 : decode cX3_viewTell 0 = .ok (.aload_n 0, 1) := fx_ok0 eX3_viewTell_0.1
theorem dX3_viewTell_1 : decode cX3_viewTell 1 = .ok (.iload_n 1, 1) := fx_ok0 eX3_viewTell_0.2.1
theorem dX3_viewTell_2 : decode cX3_viewTell 2 = .ok (.invokevirtual 171, 3) := fx_ok0 eX3_viewTell_0.2.2.1
theorem dX3_viewTell_5 : decode cX3_viewTell 5 = .ok (.astore_n 3, 1) := fx_ok0 eX3_viewTell_0.2.2.2.1
theorem dX3_viewTell_6 : decode cX3_viewTell 6 = .ok (.iload_n 2, 1) := fx_ok0 eX3_viewTell_0.2.2.2.2.1
theorem dX3_viewTell_7 : decode cX3_viewTell 7 = .ok (.iconst 3, 1) := fx_ok0 eX3_viewTell_0.2.2.2.2.2.1
theorem dX3_viewTell_8 : decode cX3_viewTell 8 = .ok (.invokestatic 41, 3) := fx_ok0 eX3_viewTell_0.2.2.2.2.2.2.1
theorem dX3_viewTell_11 : decode cX3_viewTell 11 = .ok (.iload_n 2, 1) := fx_ok0 eX3_viewTell_0.2.2.2.2.2.2.2.1
theorem dX3_viewTell_12 : decode cX3_viewTell 12 = .ok (.ifCond .ne 19, 3) := fx_ok0 eX3_viewTell_0.2.2.2.2.2.2.2.2.1
theorem dX3_viewTell_15 : decode cX3_viewTell 15 = .ok (.aload_n 3, 1) := fx_ok0 eX3_viewTell_0.2.2.2.2.2.2.2.2.2.1
theorem dX3_viewTell_16 : decode cX3_viewTell 16 = .ok (.getfield 178, 3) := fx_ok0 eX3_viewTell_0.2.2.2.2.2.2.2.2.2.2.1
theorem dX3_viewTell_19 : decode cX3_viewTell 19 = .ok (.aload_n 3, 1) := fx_ok0 eX3_viewTell_0.2.2.2.2.2.2.2.2.2.2.2.1
theorem dX3_viewTell_20 : decode cX3_viewTell 20 = .ok (.getfield 182, 3) := fx_ok0 eX3_viewTell_0.2.2.2.2.2.2.2.2.2.2.2.2.1
theorem dX3_viewTell_23 : decode cX3_viewTell 23 = .ok (.aload_n 3, 1) := fx_ok0 eX3_viewTell_0.2.2.2.2.2.2.2.2.2.2.2.2.2.1
theorem dX3_viewTell_24 : decode cX3_viewTell 24 = .ok (.getfield 185, 3) := fx_ok0 eX3_viewTell_0.2.2.2.2.2.2.2.2.2.2.2.2.2.2.1
theorem dX3_viewTell_27 : decode cX3_viewTell 27 = .ok (.invokevirtual 188, 3) := fx_ok0 eX3_viewTell_0.2.2.2.2.2.2.2.2.2.2.2.2.2.2.2
theorem eX3_viewTell_30 : (fdecl cX3_viewTell.data.toList 30 = some (.ireturn, 1)) ∧ (fdecl cX3_viewTell.data.toList 31 = some (.iload_n 2, 1)) ∧ (fdecl cX3_viewTell.data.toList 32 = some (.iconst 3, 1)) ∧ (fdecl cX3_viewTell.data.toList 33 = some (.if_icmp .ne 19, 3)) ∧ (fdecl cX3_viewTell.data.toList 36 = some (.aload_n 3, 1)) ∧ (fdecl cX3_viewTell.data.toList 37 = some (.getfield 178, 3)) ∧ (fdecl cX3_viewTell.data.toList 40 = some (.aload_n 3, 1)) ∧ (fdecl cX3_viewTell.data.toList 41 = some (.getfield 182, 3)) ∧ (fdecl cX3_viewTell.data.toList 44 = some (.aload_n 3, 1)) ∧ (fdecl cX3_viewTell.data.toList 45 = some (.getfield 185, 3)) ∧ (fdecl cX3_viewTell.data.toList 48 = some (.invokevirtual 194, 3)) ∧ (fdecl cX3_viewTell.data.toList 51 = some (.ireturn, 1)) ∧ (fdecl cX3_viewTell.data.toList 52 = some (.aload_n 0, 1)) ∧ (fdecl cX3_viewTell.data.toList 53 = some (.aload_n 3, 1)) ∧ (fdecl cX3_viewTell.data.toList 54 = some (.getfield 178, 3)) ∧ (fdecl cX3_viewTell.data.toList 57 = some (.aload_n 3, 1)) := by decide +kernel
theorem dX3_viewTell_30 : decode cX3_viewTell 30 = .ok (.ireturn, 1) := fx_ok0 eX3_viewTell_30.1
theorem dX3_viewTell_31 : decode cX3_viewTell 31 = .ok (.iload_n 2, 1) := fx_ok0 eX3_viewTell_30.2.1
theorem dX3_viewTell_32 : decode cX3_viewTell 32 = .ok (.iconst 3, 1) := fx_ok0 eX3_viewTell_30.2.2.1
theorem dX3_viewTell_33 : decode cX3_viewTell 33 = .ok (.if_icmp .ne 19, 3) := fx_ok0 eX3_viewTell_30.2.2.2.1
theorem dX3_viewTell_36 : decode cX3_viewTell 36 = .ok (.aload_n 3, 1) := fx_ok0 eX3_viewTell_30.2.2.2.2.1
theorem dX3_viewTell_37 : decode cX3_viewTell 37 = .ok (.getfield 178, 3) := fx_ok0 eX3_viewTell_30.2.2.2.2.2.1
theorem dX3_viewTell_40 : decode cX3_viewTell 40 = .ok (.aload_n 3, 1) := fx_ok0 eX3_viewTell_30.2.2.2.2.2.2.1
theorem dX3_viewTell_41 : decode cX3_viewTell 41 = .ok (.getfield 182, 3) := fx_ok0 eX3_viewTell_30.2.2.2.2.2.2.2.1
theorem dX3_viewTell_44 : decode cX3_viewTell 44 = .ok (.aload_n 3, 1) := fx_ok0 eX3_viewTell_30.2.2.2.2.2.2.2.2.1
theorem dX3_viewTell_45 : decode cX3_viewTell 45 = .ok (.getfield 185, 3) := fx_ok0 eX3_viewTell_30.2.2.2.2.2.2.2.2.2.1
theorem dX3_viewTell_48 : decode cX3_viewTell 48 = .ok (.invokevirtual 194, 3) := fx_ok0 eX3_viewTell_30.2.2.2.2.2.2.2.2.2.2.1
theorem dX3_viewTell_51 : decode cX3_viewTell 51 = .ok (.ireturn, 1) := fx_ok0 eX3_viewTell_30.2.2.2.2.2.2.2.2.2.2.2.1
theorem dX3_viewTell_52 : decode cX3_viewTell 52 = .ok (.aload_n 0, 1) := fx_ok0 eX3_viewTell_30.2.2.2.2.2.2.2.2.2.2.2.2.1
theorem dX3_viewTell_53 : decode cX3_viewTell 53 = .ok (.aload_n 3, 1) := fx_ok0 eX3_viewTell_30.2.2.2.2.2.2.2.2.2.2.2.2.2.1
theorem dX3_viewTell_54 : decode cX3_viewTell 54 = .ok (.getfield 178, 3) := fx_ok0 eX3_viewTell_30.2.2.2.2.2.2.2.2.2.2.2.2.2.2.1
theorem dX3_viewTell_57 : decode cX3_viewTell 57 = .ok (.aload_n 3, 1) := fx_ok0 eX3_viewTell_30.2.2.2.2.2.2.2.2.2.2.2.2.2.2.2
theorem eX3_viewTell_58 : (fdecl cX3_viewTell.data.toList 58 = some (.getfield 178, 3)) ∧ (fdecl cX3_viewTell.data.toList 61 = some (.aload_n 3, 1)) ∧ (fdecl cX3_viewTell.data.toList 62 = some (.getfield 182, 3)) ∧ (fdecl cX3_viewTell.data.toList 65 = some (.aload_n 3, 1)) ∧ (fdecl cX3_viewTell.data.toList 66 = some (.getfield 185, 3)) ∧ (fdecl cX3_viewTell.data.toList 69 = some (.iload_n 2, 1)) ∧ (fdecl cX3_viewTell.data.toList 70 = some (.iconst 2, 1)) ∧ (fdecl cX3_viewTell.data.toList 71 = some (.if_icmp .ne 7, 3)) ∧ (fdecl cX3_viewTell.data.toList 74 = some (.iconst 1, 1)) ∧ (fdecl cX3_viewTell.data.toList 75 = some (.goto 4, 3)) ∧ (fdecl cX3_viewTell.data.toList 78 = some (.iconst 0, 1)) ∧ (fdecl cX3_viewTell.data.toList 79 = some (.invokevirtual 135, 3)) ∧ (fdecl cX3_viewTell.data.toList 82 = some (.invokevirtual 139, 3)) ∧ (fdecl cX3_viewTell.data.toList 85 = some (.ireturn, 1)) := by decide +kernel
theorem dX3_viewTell_58 : decode cX3_viewTell 58 = .ok (.getfield 178, 3) := fx_ok0 eX3_viewTell_58.1
theorem dX3_viewTell_61 : decode cX3_viewTell 61 = .ok (.aload_n 3, 1) := fx_ok0 eX3_viewTell_58.2.1
theorem dX3_viewTell_62 : decode cX3_viewTell 62 = .ok (.getfield 182, 3) := fx_ok0 eX3_viewTell_58.2.2.1
theorem dX3_viewTell_65 : decode cX3_viewTell 65 = .ok (.aload_n 3, 1) := fx_ok0 eX3_viewTell_58.2.2.2.1
theorem dX3_viewTell_66 : decode cX3_viewTell 66 = .ok (.getfield 185, 3) := fx_ok0 eX3_viewTell_58.2.2.2.2.1
theorem dX3_viewTell_69 : decode cX3_viewTell 69 = .ok (.iload_n 2, 1) := fx_ok0 eX3_viewTell_58.2.2.2.2.2.1
theorem dX3_viewTell_70 : decode cX3_viewTell 70 = .ok (.iconst 2, 1) := fx_ok0 eX3_viewTell_58.2.2.2.2.2.2.1
theorem dX3_viewTell_71 : decode cX3_viewTell 71 = .ok (.if_icmp .ne 7, 3) := fx_ok0 eX3_viewTell_58.2.2.2.2.2.2.2.1
theorem dX3_viewTell_74 : decode cX3_viewTell 74 = .ok (.iconst 1, 1) := fx_ok0 eX3_viewTell_58.2.2.2.2.2.2.2.2.1
theorem dX3_viewTell_75 : decode cX3_viewTell 75 = .ok (.goto 4, 3) := fx_ok0 eX3_viewTell_58.2.2.2.2.2.2.2.2.2.1
theorem dX3_viewTell_78 : decode cX3_viewTell 78 = .ok (.iconst 0, 1) := fx_ok0 eX3_viewTell_58.2.2.2.2.2.2.2.2.2.2.1
theorem dX3_viewTell_79 : decode cX3_viewTell 79 = .ok (.invokevirtual 135, 3) := fx_ok0 eX3_viewTell_58.2.2.2.2.2.2.2.2.2.2.2.1
theorem dX3_viewTell_82 : decode cX3_viewTell 82 = .ok (.invokevirtual 139, 3) := fx_ok0 eX3_viewTell_58.2.2.2.2.2.2.2.2.2.2.2.2.1
theorem dX3_viewTell_85 : decode cX3_viewTell 85 = .ok (.ireturn, 1) := fx_ok0 eX3_viewTell_58.2.2.2.2.2.2.2.2.2.2.2.2.2
theorem eX3_startWalk_0 : (fdecl cX3_startWalk.data.toList 0 = some (.aload_n 0, 1)) ∧ (fdecl cX3_startWalk.data.toList 1 = some (.iload_n 1, 1)) ∧ (fdecl cX3_startWalk.data.toList 2 = some (.invokevirtual 37, 3)) ∧ (fdecl cX3_startWalk.data.toList 5 = some (.astore_n 2, 1)) ∧ (fdecl cX3_startWalk.data.toList 6 = some (.aload_n 0, 1)) ∧ (fdecl cX3_startWalk.data.toList 7 = some (.getfield 33, 3)) ∧ (fdecl cX3_startWalk.data.toList 10 = some (.aload_n 2, 1)) ∧ (fdecl cX3_startWalk.data.toList 11 = some (.invokevirtual 197, 3)) ∧ (fdecl cX3_startWalk.data.toList 14 = some (.aload_n 2, 1)) ∧ (fdecl cX3_startWalk.data.toList 15 = some (.getfield 49, 3)) ∧ (fdecl cX3_startWalk.data.toList 18 = some (.ireturn, 1)) := by decide +kernel
theorem dX3_startWalk_0 : decode cX3_startWalk 0 = .ok (.aload_n 0, 1) := fx_ok0 eX3_startWalk_0.1
theorem dX3_startWalk_1 : decode cX3_startWalk 1 = .ok (.iload_n 1, 1) := fx_ok0 eX3_startWalk_0.2.1
theorem dX3_startWalk_2 : decode cX3_startWalk 2 = .ok (.invokevirtual 37, 3) := fx_ok0 eX3_startWalk_0.2.2.1
theorem dX3_startWalk_5 : decode cX3_startWalk 5 = .ok (.astore_n 2, 1) := fx_ok0 eX3_startWalk_0.2.2.2.1
theorem dX3_startWalk_6 : decode cX3_startWalk 6 = .ok (.aload_n 0, 1) := fx_ok0 eX3_startWalk_0.2.2.2.2.1
theorem dX3_startWalk_7 : decode cX3_startWalk 7 = .ok (.getfield 33, 3) := fx_ok0 eX3_startWalk_0.2.2.2.2.2.1
theorem dX3_startWalk_10 : decode cX3_startWalk 10 = .ok (.aload_n 2, 1) := fx_ok0 eX3_startWalk_0.2.2.2.2.2.2.1
theorem dX3_startWalk_11 : decode cX3_startWalk 11 = .ok (.invokevirtual 197, 3) := fx_ok0 eX3_startWalk_0.2.2.2.2.2.2.2.1
theorem dX3_startWalk_14 : decode cX3_startWalk 14 = .ok (.aload_n 2, 1) := fx_ok0 eX3_startWalk_0.2.2.2.2.2.2.2.2.1
theorem dX3_startWalk_15 : decode cX3_startWalk 15 = .ok (.getfield 49, 3) := fx_ok0 eX3_startWalk_0.2.2.2.2.2.2.2.2.2.1
theorem dX3_startWalk_18 : decode cX3_startWalk 18 = .ok (.ireturn, 1) := fx_ok0 eX3_startWalk_0.2.2.2.2.2.2.2.2.2.2
theorem eX3_walkNext_0 : (fdecl cX3_walkNext.data.toList 0 = some (.aload_n 0, 1)) ∧ (fdecl cX3_walkNext.data.toList 1 = some (.getfield 33, 3)) ∧ (fdecl cX3_walkNext.data.toList 4 = some (.invokevirtual 200, 3)) ∧ (fdecl cX3_walkNext.data.toList 7 = some (.ifCond .ne 8, 3)) ∧ (fdecl cX3_walkNext.data.toList 10 = some (.aload_n 0, 1)) ∧ (fdecl cX3_walkNext.data.toList 11 = some (.invokevirtual 63, 3)) ∧ (fdecl cX3_walkNext.data.toList 14 = some (.ireturn, 1)) ∧ (fdecl cX3_walkNext.data.toList 15 = some (.aload_n 0, 1)) ∧ (fdecl cX3_walkNext.data.toList 16 = some (.getfield 33, 3)) ∧ (fdecl cX3_walkNext.data.toList 19 = some (.invokevirtual 204, 3)) ∧ (fdecl cX3_walkNext.data.toList 22 = some (.ireturn, 1)) := by decide +kernel
theorem dX3_walkNext_0 : decode cX3_walkNext 0 = .ok (.aload_n 0, 1) := fx_ok0 eX3_walkNext_0.1
theorem dX3_walkNext_1 : decode cX3_walkNext 1 = .ok (.getfield 33, 3) := fx_ok0 eX3_walkNext_0.2.1
theorem dX3_walkNext_4 : decode cX3_walkNext 4 = .ok (.invokevirtual 200, 3) := fx_ok0 eX3_walkNext_0.2.2.1
theorem dX3_walkNext_7 : decode cX3_walkNext 7 = .ok (.ifCond .ne 8, 3) := fx_ok0 eX3_walkNext_0.2.2.2.1
theorem dX3_walkNext_10 : decode cX3_walkNext 10 = .ok (.aload_n 0, 1) := fx_ok0 eX3_walkNext_0.2.2.2.2.1
theorem dX3_walkNext_11 : decode cX3_walkNext 11 = .ok (.invokevirtual 63, 3) := fx_ok0 eX3_walkNext_0.2.2.2.2.2.1
theorem dX3_walkNext_14 : decode cX3_walkNext 14 = .ok (.ireturn, 1) := fx_ok0 eX3_walkNext_0.2.2.2.2.2.2.1
theorem dX3_walkNext_15 : decode cX3_walkNext 15 = .ok (.aload_n 0, 1) := fx_ok0 eX3_walkNext_0.2.2.2.2.2.2.2.1
theorem dX3_walkNext_16 : decode cX3_walkNext 16 = .ok (.getfield 33, 3) := fx_ok0 eX3_walkNext_0.2.2.2.2.2.2.2.2.1
theorem dX3_walkNext_19 : decode cX3_walkNext 19 = .ok (.invokevirtual 204, 3) := fx_ok0 eX3_walkNext_0.2.2.2.2.2.2.2.2.2.1
theorem dX3_walkNext_22 : decode cX3_walkNext 22 = .ok (.ireturn, 1) := fx_ok0 eX3_walkNext_0.2.2.2.2.2.2.2.2.2.2
theorem eX3_walkSet_0 : (fdecl cX3_walkSet.data.toList 0 = some (.iload_n 1, 1)) ∧ (fdecl cX3_walkSet.data.toList 1 = some (.invokestatic 104, 3)) ∧ (fdecl cX3_walkSet.data.toList 4 = some (.aload_n 0, 1)) ∧ (fdecl cX3_walkSet.data.toList 5 = some (.getfield 33, 3)) ∧ (fdecl cX3_walkSet.data.toList 8 = some (.invokevirtual 207, 3)) ∧ (fdecl cX3_walkSet.data.toList 11 = some (.ifCond .ne 8, 3)) ∧ (fdecl cX3_walkSet.data.toList 14 = some (.aload_n 0, 1)) ∧ (fdecl cX3_walkSet.data.toList 15 = some (.invokevirtual 63, 3)) ∧ (fdecl cX3_walkSet.data.toList 18 = some (.ireturn, 1)) ∧ (fdecl cX3_walkSet.data.toList 19 = some (.aload_n 0, 1)) ∧ (fdecl cX3_walkSet.data.toList 20 = some (.dup, 1)) ∧ (fdecl cX3_walkSet.data.toList 21 = some (.getfield 45, 3)) ∧ (fdecl cX3_walkSet.data.toList 24 = some (.iconst 1, 1)) ∧ (fdecl cX3_walkSet.data.toList 25 = some (.iadd, 1)) ∧ (fdecl cX3_walkSet.data.toList 26 = some (.putfield 45, 3)) ∧ (fdecl cX3_walkSet.data.toList 29 = some (.aload_n 0, 1)) := by decide +kernel
theorem dX3_walkSet_0 : decode cX3_walkSet 0 = .ok (.iload_n 1, 1) := fx_ok0 eX3_walkSet_0.1
theorem dX3_walkSet_1 : decode cX3_walkSet 1 = .ok (.invokestatic 104, 3) := fx_ok0 eX3_walkSet_0.2.1
theorem dX3_walkSet_4 : decode cX3_walkSet 4 = .ok (.aload_n 0, 1) := fx_ok0 eX3_walkSet_0.2.2.1
theorem dX3_walkSet_5 : decode cX3_walkSet 5 = .ok (.getfield 33, 3) := fx_ok0 eX3_walkSet_0.2.2.2.1
theorem dX3_walkSet_8 : decode cX3_walkSet 8 = .ok (.invokevirtual 207, 3) := fx_ok0 eX3_walkSet_0.2.2.2.2.1
theorem dX3_walkSet_11 : decode cX3_walkSet 11 = .ok (.ifCond .ne 8, 3) := fx_ok0 eX3_walkSet_0.2.2.2.2.2.1
theorem dX3_walkSet_14 : decode cX3_walkSet 14 = .ok (.aload_n 0, 1) := fx_ok0 eX3_walkSet_0.2.2.2.2.2.2.1
theorem dX3_walkSet_15 : decode cX3_walkSet 15 = .ok (.invokevirtual 63, 3) := fx_ok0 eX3_walkSet_0.2.2.2.2.2.2.2.1
theorem dX3_walkSet_18 : decode cX3_walkSet 18 = .ok (.ireturn, 1) := fx_ok0 eX3_walkSet_0.2.2.2.2.2.2.2.2.1
theorem dX3_walkSet_19 : decode cX3_walkSet 19 = .ok (.aload_n 0, 1) := fx_ok0 eX3_walkSet_0.2.2.2.2.2.2.2.2.2.1
theorem dX3_walkSet_20 : decode cX3_walkSet 20 = .ok (.dup, 1) := fx_ok0 eX3_walkSet_0.2.2.2.2.2.2.2.2.2.2.1
theorem dX3_walkSet_21 : decode cX3_walkSet 21 = .ok (.getfield 45, 3) := fx_ok0 eX3_walkSet_0.2.2.2.2.2.2.2.2.2.2.2.1
theorem dX3_walkSet_24 : decode cX3_walkSet 24 = .ok (.iconst 1, 1) := fx_ok0 eX3_walkSet_0.2.2.2.2.2.2.2.2.2.2.2.2.1
theorem dX3_walkSet_25 : decode cX3_walkSet 25 = .ok (.iadd, 1) := fx_ok0 eX3_walkSet_0.2.2.2.2.2.2.2.2.2.2.2.2.2.1
theorem dX3_walkSet_26 : decode cX3_walkSet 26 = .ok (.putfield 45, 3) := fx_ok0 eX3_walkSet_0.2.2.2.2.2.2.2.2.2.2.2.2.2.2.1
theorem dX3_walkSet_29 : decode cX3_walkSet 29 = .ok (.aload_n 0, 1) := fx_ok0 eX3_walkSet_0.2.2.2.2.2.2.2.2.2.2.2.2.2.2.2
theorem eX3_walkSet_30 : (fdecl cX3_walkSet.data.toList 30 = some (.getfield 33, 3)) ∧ (fdecl cX3_walkSet.data.toList 33 = some (.iload_n 1, 1)) ∧ (fdecl cX3_walkSet.data.toList 34 = some (.invokevirtual 210, 3)) ∧ (fdecl cX3_walkSet.data.toList 37 = some (.ireturn, 1)) := by decide +kernel
theorem dX3_walkSet_30 : decode cX3_walkSet 30 = .ok (.getfield 33, 3) := fx_ok0 eX3_walkSet_30.1
theorem dX3_walkSet_33 : decode cX3_walkSet 33 = .ok (.iload_n 1, 1) := fx_ok0 eX3_walkSet_30.2.1
theorem dX3_walkSet_34 : decode cX3_walkSet 34 = .ok (.invokevirtual 210, 3) := fx_ok0 eX3_walkSet_30.2.2.1
theorem dX3_walkSet_37 : decode cX3_walkSet 37 = .ok (.ireturn, 1) := fx_ok0 eX3_walkSet_30.2.2.2
theorem eX3_walkTake_0 : (fdecl cX3_walkTake.data.toList 0 = some (.aload_n 0, 1)) ∧ (fdecl cX3_walkTake.data.toList 1 = some (.getfield 33, 3)) ∧ (fdecl cX3_walkTake.data.toList 4 = some (.invokevirtual 207, 3)) ∧ (fdecl cX3_walkTake.data.toList 7 = some (.ifCond .ne 8, 3)) ∧ (fdecl cX3_walkTake.data.toList 10 = some (.aload_n 0, 1)) ∧ (fdecl cX3_walkTake.data.toList 11 = some (.invokevirtual 63, 3)) ∧ (fdecl cX3_walkTake.data.toList 14 = some (.ireturn, 1)) ∧ (fdecl cX3_walkTake.data.toList 15 = some (.aload_n 0, 1)) ∧ (fdecl cX3_walkTake.data.toList 16 = some (.dup, 1)) ∧ (fdecl cX3_walkTake.data.toList 17 = some (.getfield 45, 3)) ∧ (fdecl cX3_walkTake.data.toList 20 = some (.iconst 1, 1)) ∧ (fdecl cX3_walkTake.data.toList 21 = some (.iadd, 1)) ∧ (fdecl cX3_walkTake.data.toList 22 = some (.putfield 45, 3)) ∧ (fdecl cX3_walkTake.data.toList 25 = some (.aload_n 0, 1)) ∧ (fdecl cX3_walkTake.data.toList 26 = some (.getfield 33, 3)) ∧ (fdecl cX3_walkTake.data.toList 29 = some (.invokevirtual 213, 3)) := by decide +kernel
theorem dX3_walkTake_0 : decode cX3_walkTake 0 = .ok (.aload_n 0, 1) := fx_ok0 eX3_walkTake_0.1
theorem dX3_walkTake_1 : decode cX3_walkTake 1 = .ok (.getfield 33, 3) := fx_ok0 eX3_walkTake_0.2.1
theorem dX3_walkTake_4 : decode cX3_walkTake 4 = .ok (.invokevirtual 207, 3) := fx_ok0 eX3_walkTake_0.2.2.1
theorem dX3_walkTake_7 : decode cX3_walkTake 7 = .ok (.ifCond .ne 8, 3) := fx_ok0 eX3_walkTake_0.2.2.2.1
theorem dX3_walkTake_10 : decode cX3_walkTake 10 = .ok (.aload_n 0, 1) := fx_ok0 eX3_walkTake_0.2.2.2.2.1
theorem dX3_walkTake_11 : decode cX3_walkTake 11 = .ok (.invokevirtual 63, 3) := fx_ok0 eX3_walkTake_0.2.2.2.2.2.1
theorem dX3_walkTake_14 : decode cX3_walkTake 14 = .ok (.ireturn, 1) := fx_ok0 eX3_walkTake_0.2.2.2.2.2.2.1
theorem dX3_walkTake_15 : decode cX3_walkTake 15 = .ok (.aload_n 0, 1) := fx_ok0 eX3_walkTake_0.2.2.2.2.2.2.2.1
theorem dX3_walkTake_16 : decode cX3_walkTake 16 = .ok (.dup, 1) := fx_ok0 eX3_walkTake_0.2.2.2.2.2.2.2.2.1
theorem dX3_walkTake_17 : decode cX3_walkTake 17 = .ok (.getfield 45, 3) := fx_ok0 eX3_walkTake_0.2.2.2.2.2.2.2.2.2.1
theorem dX3_walkTake_20 : decode cX3_walkTake 20 = .ok (.iconst 1, 1) := fx_ok0 eX3_walkTake_0.2.2.2.2.2.2.2.2.2.2.1
theorem dX3_walkTake_21 : decode cX3_walkTake 21 = .ok (.iadd, 1) := fx_ok0 eX3_walkTake_0.2.2.2.2.2.2.2.2.2.2.2.1
theorem dX3_walkTake_22 : decode cX3_walkTake 22 = .ok (.putfield 45, 3) := fx_ok0 eX3_walkTake_0.2.2.2.2.2.2.2.2.2.2.2.2.1
theorem dX3_walkTake_25 : decode cX3_walkTake 25 = .ok (.aload_n 0, 1) := fx_ok0 eX3_walkTake_0.2.2.2.2.2.2.2.2.2.2.2.2.2.1
theorem dX3_walkTake_26 : decode cX3_walkTake 26 = .ok (.getfield 33, 3) := fx_ok0 eX3_walkTake_0.2.2.2.2.2.2.2.2.2.2.2.2.2.2.1
theorem dX3_walkTake_29 : decode cX3_walkTake 29 = .ok (.invokevirtual 213, 3) := fx_ok0 eX3_walkTake_0.2.2.2.2.2.2.2.2.2.2.2.2.2.2.2
theorem eX3_walkTake_32 : (fdecl cX3_walkTake.data.toList 32 = some (.ireturn, 1)) := by decide +kernel
theorem dX3_walkTake_32 : decode cX3_walkTake 32 = .ok (.ireturn, 1) := fx_ok0 eX3_walkTake_32
theorem eX3_freshShelf_0 : (fdecl cX3_freshShelf.data.toList 0 = some (.aload_n 0, 1)) ∧ (fdecl cX3_freshShelf.data.toList 1 = some (.iload_n 1, 1)) ∧ (fdecl cX3_freshShelf.data.toList 2 = some (.invokevirtual 216, 3)) ∧ (fdecl cX3_freshShelf.data.toList 5 = some (.astore_n 3, 1)) ∧ (fdecl cX3_freshShelf.data.toList 6 = some (.iload_n 2, 1)) ∧ (fdecl cX3_freshShelf.data.toList 7 = some (.iconst 2, 1)) ∧ (fdecl cX3_freshShelf.data.toList 8 = some (.invokestatic 41, 3)) ∧ (fdecl cX3_freshShelf.data.toList 11 = some (.aload_n 0, 1)) ∧ (fdecl cX3_freshShelf.data.toList 12 = some (.dup, 1)) ∧ (fdecl cX3_freshShelf.data.toList 13 = some (.getfield 219, 3)) ∧ (fdecl cX3_freshShelf.data.toList 16 = some (.iconst 1, 1)) ∧ (fdecl cX3_freshShelf.data.toList 17 = some (.iadd, 1)) ∧ (fdecl cX3_freshShelf.data.toList 18 = some (.putfield 219, 3)) ∧ (fdecl cX3_freshShelf.data.toList 21 = some (.aload_n 0, 1)) ∧ (fdecl cX3_freshShelf.data.toList 22 = some (.getfield 18, 3)) ∧ (fdecl cX3_freshShelf.data.toList 25 = some (.iload_n 1, 1)) := by decide +kernel
theorem dX3_freshShelf_0 : decode cX3_freshShelf 0 = .ok (.aload_n 0, 1) := fx_ok0 eX3_freshShelf_0.1
theorem dX3_freshShelf_1 : decode cX3_freshShelf 1 = .ok (.iload_n 1, 1) := fx_ok0 eX3_freshShelf_0.2.1
theorem dX3_freshShelf_2 : decode cX3_freshShelf 2 = .ok (.invokevirtual 216, 3) := fx_ok0 eX3_freshShelf_0.2.2.1
theorem dX3_freshShelf_5 : decode cX3_freshShelf 5 = .ok (.astore_n 3, 1) := fx_ok0 eX3_freshShelf_0.2.2.2.1
theorem dX3_freshShelf_6 : decode cX3_freshShelf 6 = .ok (.iload_n 2, 1) := fx_ok0 eX3_freshShelf_0.2.2.2.2.1
theorem dX3_freshShelf_7 : decode cX3_freshShelf 7 = .ok (.iconst 2, 1) := fx_ok0 eX3_freshShelf_0.2.2.2.2.2.1
theorem dX3_freshShelf_8 : decode cX3_freshShelf 8 = .ok (.invokestatic 41, 3) := fx_ok0 eX3_freshShelf_0.2.2.2.2.2.2.1
theorem dX3_freshShelf_11 : decode cX3_freshShelf 11 = .ok (.aload_n 0, 1) := fx_ok0 eX3_freshShelf_0.2.2.2.2.2.2.2.1
theorem dX3_freshShelf_12 : decode cX3_freshShelf 12 = .ok (.dup, 1) := fx_ok0 eX3_freshShelf_0.2.2.2.2.2.2.2.2.1
theorem dX3_freshShelf_13 : decode cX3_freshShelf 13 = .ok (.getfield 219, 3) := fx_ok0 eX3_freshShelf_0.2.2.2.2.2.2.2.2.2.1
theorem dX3_freshShelf_16 : decode cX3_freshShelf 16 = .ok (.iconst 1, 1) := fx_ok0 eX3_freshShelf_0.2.2.2.2.2.2.2.2.2.2.1
theorem dX3_freshShelf_17 : decode cX3_freshShelf 17 = .ok (.iadd, 1) := fx_ok0 eX3_freshShelf_0.2.2.2.2.2.2.2.2.2.2.2.1
theorem dX3_freshShelf_18 : decode cX3_freshShelf 18 = .ok (.putfield 219, 3) := fx_ok0 eX3_freshShelf_0.2.2.2.2.2.2.2.2.2.2.2.2.1
theorem dX3_freshShelf_21 : decode cX3_freshShelf 21 = .ok (.aload_n 0, 1) := fx_ok0 eX3_freshShelf_0.2.2.2.2.2.2.2.2.2.2.2.2.2.1
theorem dX3_freshShelf_22 : decode cX3_freshShelf 22 = .ok (.getfield 18, 3) := fx_ok0 eX3_freshShelf_0.2.2.2.2.2.2.2.2.2.2.2.2.2.2.1
theorem dX3_freshShelf_25 : decode cX3_freshShelf 25 = .ok (.iload_n 1, 1) := fx_ok0 eX3_freshShelf_0.2.2.2.2.2.2.2.2.2.2.2.2.2.2.2
theorem eX3_freshShelf_26 : (fdecl cX3_freshShelf.data.toList 26 = some (.new 9, 3)) ∧ (fdecl cX3_freshShelf.data.toList 29 = some (.dup, 1)) ∧ (fdecl cX3_freshShelf.data.toList 30 = some (.iload_n 2, 1)) ∧ (fdecl cX3_freshShelf.data.toList 31 = some (.invokespecial 15, 3)) ∧ (fdecl cX3_freshShelf.data.toList 34 = some (.aastore, 1)) ∧ (fdecl cX3_freshShelf.data.toList 35 = some (.aload_n 3, 1)) ∧ (fdecl cX3_freshShelf.data.toList 36 = some (.getfield 49, 3)) ∧ (fdecl cX3_freshShelf.data.toList 39 = some (.ireturn, 1)) := by decide +kernel
theorem dX3_freshShelf_26 : decode cX3_freshShelf 26 = .ok (.new 9, 3) := fx_ok0 eX3_freshShelf_26.1
theorem dX3_freshShelf_29 : decode cX3_freshShelf 29 = .ok (.dup, 1) := fx_ok0 eX3_freshShelf_26.2.1
theorem dX3_freshShelf_30 : decode cX3_freshShelf 30 = .ok (.iload_n 2, 1) := fx_ok0 eX3_freshShelf_26.2.2.1
theorem dX3_freshShelf_31 : decode cX3_freshShelf 31 = .ok (.invokespecial 15, 3) := fx_ok0 eX3_freshShelf_26.2.2.2.1
theorem dX3_freshShelf_34 : decode cX3_freshShelf 34 = .ok (.aastore, 1) := fx_ok0 eX3_freshShelf_26.2.2.2.2.1
theorem dX3_freshShelf_35 : decode cX3_freshShelf 35 = .ok (.aload_n 3, 1) := fx_ok0 eX3_freshShelf_26.2.2.2.2.2.1
theorem dX3_freshShelf_36 : decode cX3_freshShelf 36 = .ok (.getfield 49, 3) := fx_ok0 eX3_freshShelf_26.2.2.2.2.2.2.1
theorem dX3_freshShelf_39 : decode cX3_freshShelf 39 = .ok (.ireturn, 1) := fx_ok0 eX3_freshShelf_26.2.2.2.2.2.2.2
theorem eX3_buildShelf_0 : (fdecl cX3_buildShelf.data.toList 0 = some (.aload_n 0, 1)) ∧ (fdecl cX3_buildShelf.data.toList 1 = some (.iload_n 1, 1)) ∧ (fdecl cX3_buildShelf.data.toList 2 = some (.invokevirtual 216, 3)) ∧ (fdecl cX3_buildShelf.data.toList 5 = some (.pop, 1)) ∧ (fdecl cX3_buildShelf.data.toList 6 = some (.aload_n 0, 1)) ∧ (fdecl cX3_buildShelf.data.toList 7 = some (.iload_n 2, 1)) ∧ (fdecl cX3_buildShelf.data.toList 8 = some (.invokevirtual 216, 3)) ∧ (fdecl cX3_buildShelf.data.toList 11 = some (.astore 4, 2)) ∧ (fdecl cX3_buildShelf.data.toList 13 = some (.iload_n 3, 1)) ∧ (fdecl cX3_buildShelf.data.toList 14 = some (.bipush 6, 2)) ∧ (fdecl cX3_buildShelf.data.toList 16 = some (.invokestatic 41, 3)) ∧ (fdecl cX3_buildShelf.data.toList 19 = some (.aload_n 0, 1)) ∧ (fdecl cX3_buildShelf.data.toList 20 = some (.dup, 1)) ∧ (fdecl cX3_buildShelf.data.toList 21 = some (.getfield 219, 3)) ∧ (fdecl cX3_buildShelf.data.toList 24 = some (.iconst 1, 1)) ∧ (fdecl cX3_buildShelf.data.toList 25 = some (.iadd, 1)) := by decide +kernel
theorem dX3_buildShelf_0 : decode cX3_buildShelf 0 = .ok (.aload_n 0, 1) := fx_ok0 eX3_buildShelf_0.1
theorem dX3_buildShelf_1 : decode cX3_buildShelf 1 = .ok (.iload_n 1, 1) := fx_ok0 eX3_buildShelf_0.2.1
theorem dX3_buildShelf_2 : decode cX3_buildShelf 2 = .ok (.invokevirtual 216, 3) := fx_ok0 eX3_buildShelf_0.2.2.1
theorem dX3_buildShelf_5 : decode cX3_buildShelf 5 = .ok (.pop, 1) := fx_ok0 eX3_buildShelf_0.2.2.2.1
theorem dX3_buildShelf_6 : decode cX3_buildShelf 6 = .ok (.aload_n 0, 1) := fx_ok0 eX3_buildShelf_0.2.2.2.2.1
theorem dX3_buildShelf_7 : decode cX3_buildShelf 7 = .ok (.iload_n 2, 1) := fx_ok0 eX3_buildShelf_0.2.2.2.2.2.1
theorem dX3_buildShelf_8 : decode cX3_buildShelf 8 = .ok (.invokevirtual 216, 3) := fx_ok0 eX3_buildShelf_0.2.2.2.2.2.2.1
theorem dX3_buildShelf_11 : decode cX3_buildShelf 11 = .ok (.astore 4, 2) := fx_ok0 eX3_buildShelf_0.2.2.2.2.2.2.2.1
theorem dX3_buildShelf_13 : decode cX3_buildShelf 13 = .ok (.iload_n 3, 1) := fx_ok0 eX3_buildShelf_0.2.2.2.2.2.2.2.2.1
theorem dX3_buildShelf_14 : decode cX3_buildShelf 14 = .ok (.bipush 6, 2) := fx_ok0 eX3_buildShelf_0.2.2.2.2.2.2.2.2.2.1
theorem dX3_buildShelf_16 : decode cX3_buildShelf 16 = .ok (.invokestatic 41, 3) := fx_ok0 eX3_buildShelf_0.2.2.2.2.2.2.2.2.2.2.1
theorem dX3_buildShelf_19 : decode cX3_buildShelf 19 = .ok (.aload_n 0, 1) := fx_ok0 eX3_buildShelf_0.2.2.2.2.2.2.2.2.2.2.2.1
theorem dX3_buildShelf_20 : decode cX3_buildShelf 20 = .ok (.dup, 1) := fx_ok0 eX3_buildShelf_0.2.2.2.2.2.2.2.2.2.2.2.2.1
theorem dX3_buildShelf_21 : decode cX3_buildShelf 21 = .ok (.getfield 219, 3) := fx_ok0 eX3_buildShelf_0.2.2.2.2.2.2.2.2.2.2.2.2.2.1
theorem dX3_buildShelf_24 : decode cX3_buildShelf 24 = .ok (.iconst 1, 1) := fx_ok0 eX3_buildShelf_0.2.2.2.2.2.2.2.2.2.2.2.2.2.2.1
theorem dX3_buildShelf_25 : decode cX3_buildShelf 25 = .ok (.iadd, 1) := fx_ok0 eX3_buildShelf_0.2.2.2.2.2.2.2.2.2.2.2.2.2.2.2
theorem eX3_buildShelf_26 : (fdecl cX3_buildShelf.data.toList 26 = some (.putfield 219, 3)) ∧ (fdecl cX3_buildShelf.data.toList 29 = some (.aload_n 0, 1)) ∧ (fdecl cX3_buildShelf.data.toList 30 = some (.getfield 18, 3)) ∧ (fdecl cX3_buildShelf.data.toList 33 = some (.iload_n 1, 1)) ∧ (fdecl cX3_buildShelf.data.toList 34 = some (.aload 4, 2)) ∧ (fdecl cX3_buildShelf.data.toList 36 = some (.iconst 0, 1)) ∧ (fdecl cX3_buildShelf.data.toList 37 = some (.bipush 99, 2)) ∧ (fdecl cX3_buildShelf.data.toList 39 = some (.aload 4, 2)) ∧ (fdecl cX3_buildShelf.data.toList 41 = some (.iload_n 3, 1)) ∧ (fdecl cX3_buildShelf.data.toList 42 = some (.invokestatic 52, 3)) ∧ (fdecl cX3_buildShelf.data.toList 45 = some (.invokevirtual 56, 3)) ∧ (fdecl cX3_buildShelf.data.toList 48 = some (.aastore, 1)) ∧ (fdecl cX3_buildShelf.data.toList 49 = some (.aload_n 0, 1)) ∧ (fdecl cX3_buildShelf.data.toList 50 = some (.getfield 18, 3)) ∧ (fdecl cX3_buildShelf.data.toList 53 = some (.iload_n 1, 1)) ∧ (fdecl cX3_buildShelf.data.toList 54 = some (.aaload, 1)) := by decide +kernel
theorem dX3_buildShelf_26 : decode cX3_buildShelf 26 = .ok (.putfield 219, 3) := fx_ok0 eX3_buildShelf_26.1
theorem dX3_buildShelf_29 : decode cX3_buildShelf 29 = .ok (.aload_n 0, 1) := fx_ok0 eX3_buildShelf_26.2.1
theorem dX3_buildShelf_30 : decode cX3_buildShelf 30 = .ok (.getfield 18, 3) := fx_ok0 eX3_buildShelf_26.2.2.1
theorem dX3_buildShelf_33 : decode cX3_buildShelf 33 = .ok (.iload_n 1, 1) := fx_ok0 eX3_buildShelf_26.2.2.2.1
theorem dX3_buildShelf_34 : decode cX3_buildShelf 34 = .ok (.aload 4, 2) := fx_ok0 eX3_buildShelf_26.2.2.2.2.1
theorem dX3_buildShelf_36 : decode cX3_buildShelf 36 = .ok (.iconst 0, 1) := fx_ok0 eX3_buildShelf_26.2.2.2.2.2.1
theorem dX3_buildShelf_37 : decode cX3_buildShelf 37 = .ok (.bipush 99, 2) := fx_ok0 eX3_buildShelf_26.2.2.2.2.2.2.1
theorem dX3_buildShelf_39 : decode cX3_buildShelf 39 = .ok (.aload 4, 2) := fx_ok0 eX3_buildShelf_26.2.2.2.2.2.2.2.1
theorem dX3_buildShelf_41 : decode cX3_buildShelf 41 = .ok (.iload_n 3, 1) := fx_ok0 eX3_buildShelf_26.2.2.2.2.2.2.2.2.1
theorem dX3_buildShelf_42 : decode cX3_buildShelf 42 = .ok (.invokestatic 52, 3) := fx_ok0 eX3_buildShelf_26.2.2.2.2.2.2.2.2.2.1
theorem dX3_buildShelf_45 : decode cX3_buildShelf 45 = .ok (.invokevirtual 56, 3) := fx_ok0 eX3_buildShelf_26.2.2.2.2.2.2.2.2.2.2.1
theorem dX3_buildShelf_48 : decode cX3_buildShelf 48 = .ok (.aastore, 1) := fx_ok0 eX3_buildShelf_26.2.2.2.2.2.2.2.2.2.2.2.1
theorem dX3_buildShelf_49 : decode cX3_buildShelf 49 = .ok (.aload_n 0, 1) := fx_ok0 eX3_buildShelf_26.2.2.2.2.2.2.2.2.2.2.2.2.1
theorem dX3_buildShelf_50 : decode cX3_buildShelf 50 = .ok (.getfield 18, 3) := fx_ok0 eX3_buildShelf_26.2.2.2.2.2.2.2.2.2.2.2.2.2.1
theorem dX3_buildShelf_53 : decode cX3_buildShelf 53 = .ok (.iload_n 1, 1) := fx_ok0 eX3_buildShelf_26.2.2.2.2.2.2.2.2.2.2.2.2.2.2.1
theorem dX3_buildShelf_54 : decode cX3_buildShelf 54 = .ok (.aaload, 1) := fx_ok0 eX3_buildShelf_26.2.2.2.2.2.2.2.2.2.2.2.2.2.2.2
theorem eX3_buildShelf_55 : (fdecl cX3_buildShelf.data.toList 55 = some (.getfield 49, 3)) ∧ (fdecl cX3_buildShelf.data.toList 58 = some (.ireturn, 1)) := by decide +kernel
theorem dX3_buildShelf_55 : decode cX3_buildShelf 55 = .ok (.getfield 49, 3) := fx_ok0 eX3_buildShelf_55.1
theorem dX3_buildShelf_58 : decode cX3_buildShelf 58 = .ok (.ireturn, 1) := fx_ok0 eX3_buildShelf_55.2
theorem eX3_keysOf_0 : (fdecl cX3_keysOf.data.toList 0 = some (.aload_n 0, 1)) ∧ (fdecl cX3_keysOf.data.toList 1 = some (.iload_n 1, 1)) ∧ (fdecl cX3_keysOf.data.toList 2 = some (.invokevirtual 216, 3)) ∧ (fdecl cX3_keysOf.data.toList 5 = some (.pop, 1)) ∧ (fdecl cX3_keysOf.data.toList 6 = some (.aload_n 0, 1)) ∧ (fdecl cX3_keysOf.data.toList 7 = some (.iload_n 2, 1)) ∧ (fdecl cX3_keysOf.data.toList 8 = some (.invokevirtual 37, 3)) ∧ (fdecl cX3_keysOf.data.toList 11 = some (.astore_n 3, 1)) ∧ (fdecl cX3_keysOf.data.toList 12 = some (.aload_n 0, 1)) ∧ (fdecl cX3_keysOf.data.toList 13 = some (.dup, 1)) ∧ (fdecl cX3_keysOf.data.toList 14 = some (.getfield 219, 3)) ∧ (fdecl cX3_keysOf.data.toList 17 = some (.iconst 1, 1)) ∧ (fdecl cX3_keysOf.data.toList 18 = some (.iadd, 1)) ∧ (fdecl cX3_keysOf.data.toList 19 = some (.putfield 219, 3)) ∧ (fdecl cX3_keysOf.data.toList 22 = some (.aload_n 0, 1)) ∧ (fdecl cX3_keysOf.data.toList 23 = some (.getfield 18, 3)) := by decide +kernel
theorem dX3_keysOf_0 : decode cX3_keysOf 0 = .ok (.aload_n 0, 1) := fx_ok0 eX3_keysOf_0.1
theorem dX3_keysOf_1 : decode cX3_keysOf 1 = .ok (.iload_n 1, 1) := fx_ok0 eX3_keysOf_0.2.1
theorem dX3_keysOf_2 : decode cX3_keysOf 2 = .ok (.invokevirtual 216, 3) := fx_ok0 eX3_keysOf_0.2.2.1
theorem dX3_keysOf_5 : decode cX3_keysOf 5 = .ok (.pop, 1) := fx_ok0 eX3_keysOf_0.2.2.2.1
theorem dX3_keysOf_6 : decode cX3_keysOf 6 = .ok (.aload_n 0, 1) := fx_ok0 eX3_keysOf_0.2.2.2.2.1
theorem dX3_keysOf_7 : decode cX3_keysOf 7 = .ok (.iload_n 2, 1) := fx_ok0 eX3_keysOf_0.2.2.2.2.2.1
theorem dX3_keysOf_8 : decode cX3_keysOf 8 = .ok (.invokevirtual 37, 3) := fx_ok0 eX3_keysOf_0.2.2.2.2.2.2.1
theorem dX3_keysOf_11 : decode cX3_keysOf 11 = .ok (.astore_n 3, 1) := fx_ok0 eX3_keysOf_0.2.2.2.2.2.2.2.1
theorem dX3_keysOf_12 : decode cX3_keysOf 12 = .ok (.aload_n 0, 1) := fx_ok0 eX3_keysOf_0.2.2.2.2.2.2.2.2.1
theorem dX3_keysOf_13 : decode cX3_keysOf 13 = .ok (.dup, 1) := fx_ok0 eX3_keysOf_0.2.2.2.2.2.2.2.2.2.1
theorem dX3_keysOf_14 : decode cX3_keysOf 14 = .ok (.getfield 219, 3) := fx_ok0 eX3_keysOf_0.2.2.2.2.2.2.2.2.2.2.1
theorem dX3_keysOf_17 : decode cX3_keysOf 17 = .ok (.iconst 1, 1) := fx_ok0 eX3_keysOf_0.2.2.2.2.2.2.2.2.2.2.2.1
theorem dX3_keysOf_18 : decode cX3_keysOf 18 = .ok (.iadd, 1) := fx_ok0 eX3_keysOf_0.2.2.2.2.2.2.2.2.2.2.2.2.1
theorem dX3_keysOf_19 : decode cX3_keysOf 19 = .ok (.putfield 219, 3) := fx_ok0 eX3_keysOf_0.2.2.2.2.2.2.2.2.2.2.2.2.2.1
theorem dX3_keysOf_22 : decode cX3_keysOf 22 = .ok (.aload_n 0, 1) := fx_ok0 eX3_keysOf_0.2.2.2.2.2.2.2.2.2.2.2.2.2.2.1
theorem dX3_keysOf_23 : decode cX3_keysOf 23 = .ok (.getfield 18, 3) := fx_ok0 eX3_keysOf_0.2.2.2.2.2.2.2.2.2.2.2.2.2.2.2
theorem eX3_keysOf_26 : (fdecl cX3_keysOf.data.toList 26 = some (.iload_n 1, 1)) ∧ (fdecl cX3_keysOf.data.toList 27 = some (.aload_n 3, 1)) ∧ (fdecl cX3_keysOf.data.toList 28 = some (.invokevirtual 222, 3)) ∧ (fdecl cX3_keysOf.data.toList 31 = some (.aastore, 1)) ∧ (fdecl cX3_keysOf.data.toList 32 = some (.aload_n 0, 1)) ∧ (fdecl cX3_keysOf.data.toList 33 = some (.getfield 18, 3)) ∧ (fdecl cX3_keysOf.data.toList 36 = some (.iload_n 1, 1)) ∧ (fdecl cX3_keysOf.data.toList 37 = some (.aaload, 1)) ∧ (fdecl cX3_keysOf.data.toList 38 = some (.getfield 49, 3)) ∧ (fdecl cX3_keysOf.data.toList 41 = some (.ireturn, 1)) := by decide +kernel
theorem dX3_keysOf_26 : decode cX3_keysOf 26 = .ok (.iload_n 1, 1) := fx_ok0 eX3_keysOf_26.1
theorem dX3_keysOf_27 : decode cX3_keysOf 27 = .ok (.aload_n 3, 1) := fx_ok0 eX3_keysOf_26.2.1
theorem dX3_keysOf_28 : decode cX3_keysOf 28 = .ok (.invokevirtual 222, 3) := fx_ok0 eX3_keysOf_26.2.2.1
theorem dX3_keysOf_31 : decode cX3_keysOf 31 = .ok (.aastore, 1) := fx_ok0 eX3_keysOf_26.2.2.2.1
theorem dX3_keysOf_32 : decode cX3_keysOf 32 = .ok (.aload_n 0, 1) := fx_ok0 eX3_keysOf_26.2.2.2.2.1
theorem dX3_keysOf_33 : decode cX3_keysOf 33 = .ok (.getfield 18, 3) := fx_ok0 eX3_keysOf_26.2.2.2.2.2.1
theorem dX3_keysOf_36 : decode cX3_keysOf 36 = .ok (.iload_n 1, 1) := fx_ok0 eX3_keysOf_26.2.2.2.2.2.2.1
theorem dX3_keysOf_37 : decode cX3_keysOf 37 = .ok (.aaload, 1) := fx_ok0 eX3_keysOf_26.2.2.2.2.2.2.2.1
theorem dX3_keysOf_38 : decode cX3_keysOf 38 = .ok (.getfield 49, 3) := fx_ok0 eX3_keysOf_26.2.2.2.2.2.2.2.2.1
theorem dX3_keysOf_41 : decode cX3_keysOf 41 = .ok (.ireturn, 1) := fx_ok0 eX3_keysOf_26.2.2.2.2.2.2.2.2.2
theorem eX3_lay_0 : (fdecl cX3_lay.data.toList 0 = some (.aload_n 0, 1)) ∧ (fdecl cX3_lay.data.toList 1 = some (.iload_n 1, 1)) ∧ (fdecl cX3_lay.data.toList 2 = some (.invokevirtual 216, 3)) ∧ (fdecl cX3_lay.data.toList 5 = some (.astore 6, 2)) ∧ (fdecl cX3_lay.data.toList 7 = some (.iload_n 2, 1)) ∧ (fdecl cX3_lay.data.toList 8 = some (.iload_n 3, 1)) ∧ (fdecl cX3_lay.data.toList 9 = some (.iload 4, 2)) ∧ (fdecl cX3_lay.data.toList 11 = some (.invokestatic 81, 3)) ∧ (fdecl cX3_lay.data.toList 14 = some (.aload_n 0, 1)) ∧ (fdecl cX3_lay.data.toList 15 = some (.dup, 1)) ∧ (fdecl cX3_lay.data.toList 16 = some (.getfield 219, 3)) ∧ (fdecl cX3_lay.data.toList 19 = some (.iconst 1, 1)) ∧ (fdecl cX3_lay.data.toList 20 = some (.iadd, 1)) ∧ (fdecl cX3_lay.data.toList 21 = some (.putfield 219, 3)) ∧ (fdecl cX3_lay.data.toList 24 = some (.iload 5, 2)) ∧ (fdecl cX3_lay.data.toList 26 = some (.ifCond .eq 15, 3)) := by decide +kernel
theorem dX3_lay_0 : decode cX3_lay 0 = .ok (.aload_n 0, 1) := fx_ok0 eX3_lay_0.1
theorem dX3_lay_1 : decode cX3_lay 1 = .ok (.iload_n 1, 1) := fx_ok0 eX3_lay_0.2.1
theorem dX3_lay_2 : decode cX3_lay 2 = .ok (.invokevirtual 216, 3) := fx_ok0 eX3_lay_0.2.2.1
theorem dX3_lay_5 : decode cX3_lay 5 = .ok (.astore 6, 2) := fx_ok0 eX3_lay_0.2.2.2.1
theorem dX3_lay_7 : decode cX3_lay 7 = .ok (.iload_n 2, 1) := fx_ok0 eX3_lay_0.2.2.2.2.1
theorem dX3_lay_8 : decode cX3_lay 8 = .ok (.iload_n 3, 1) := fx_ok0 eX3_lay_0.2.2.2.2.2.1
theorem dX3_lay_9 : decode cX3_lay 9 = .ok (.iload 4, 2) := fx_ok0 eX3_lay_0.2.2.2.2.2.2.1
theorem dX3_lay_11 : decode cX3_lay 11 = .ok (.invokestatic 81, 3) := fx_ok0 eX3_lay_0.2.2.2.2.2.2.2.1
theorem dX3_lay_14 : decode cX3_lay 14 = .ok (.aload_n 0, 1) := fx_ok0 eX3_lay_0.2.2.2.2.2.2.2.2.1
theorem dX3_lay_15 : decode cX3_lay 15 = .ok (.dup, 1) := fx_ok0 eX3_lay_0.2.2.2.2.2.2.2.2.2.1
theorem dX3_lay_16 : decode cX3_lay 16 = .ok (.getfield 219, 3) := fx_ok0 eX3_lay_0.2.2.2.2.2.2.2.2.2.2.1
theorem dX3_lay_19 : decode cX3_lay 19 = .ok (.iconst 1, 1) := fx_ok0 eX3_lay_0.2.2.2.2.2.2.2.2.2.2.2.1
theorem dX3_lay_20 : decode cX3_lay 20 = .ok (.iadd, 1) := fx_ok0 eX3_lay_0.2.2.2.2.2.2.2.2.2.2.2.2.1
theorem dX3_lay_21 : decode cX3_lay 21 = .ok (.putfield 219, 3) := fx_ok0 eX3_lay_0.2.2.2.2.2.2.2.2.2.2.2.2.2.1
theorem dX3_lay_24 : decode cX3_lay 24 = .ok (.iload 5, 2) := fx_ok0 eX3_lay_0.2.2.2.2.2.2.2.2.2.2.2.2.2.2.1
theorem dX3_lay_26 : decode cX3_lay 26 = .ok (.ifCond .eq 15, 3) := fx_ok0 eX3_lay_0.2.2.2.2.2.2.2.2.2.2.2.2.2.2.2
theorem eX3_lay_29 : (fdecl cX3_lay.data.toList 29 = some (.aload 6, 2)) ∧ (fdecl cX3_lay.data.toList 31 = some (.iload_n 2, 1)) ∧ (fdecl cX3_lay.data.toList 32 = some (.iload_n 3, 1)) ∧ (fdecl cX3_lay.data.toList 33 = some (.iload 4, 2)) ∧ (fdecl cX3_lay.data.toList 35 = some (.invokevirtual 226, 3)) ∧ (fdecl cX3_lay.data.toList 38 = some (.goto 12, 3)) ∧ (fdecl cX3_lay.data.toList 41 = some (.aload 6, 2)) ∧ (fdecl cX3_lay.data.toList 43 = some (.iload_n 2, 1)) ∧ (fdecl cX3_lay.data.toList 44 = some (.iload_n 3, 1)) ∧ (fdecl cX3_lay.data.toList 45 = some (.iload 4, 2)) ∧ (fdecl cX3_lay.data.toList 47 = some (.invokevirtual 88, 3)) ∧ (fdecl cX3_lay.data.toList 50 = some (.ireturn, 1)) := by decide +kernel
theorem dX3_lay_29 : decode cX3_lay 29 = .ok (.aload 6, 2) := fx_ok0 eX3_lay_29.1
theorem dX3_lay_31 : decode cX3_lay 31 = .ok (.iload_n 2, 1) := fx_ok0 eX3_lay_29.2.1
theorem dX3_lay_32 : decode cX3_lay 32 = .ok (.iload_n 3, 1) := fx_ok0 eX3_lay_29.2.2.1
theorem dX3_lay_33 : decode cX3_lay 33 = .ok (.iload 4, 2) := fx_ok0 eX3_lay_29.2.2.2.1
theorem dX3_lay_35 : decode cX3_lay 35 = .ok (.invokevirtual 226, 3) := fx_ok0 eX3_lay_29.2.2.2.2.1
theorem dX3_lay_38 : decode cX3_lay 38 = .ok (.goto 12, 3) := fx_ok0 eX3_lay_29.2.2.2.2.2.1
theorem dX3_lay_41 : decode cX3_lay 41 = .ok (.aload 6, 2) := fx_ok0 eX3_lay_29.2.2.2.2.2.2.1
theorem dX3_lay_43 : decode cX3_lay 43 = .ok (.iload_n 2, 1) := fx_ok0 eX3_lay_29.2.2.2.2.2.2.2.1
theorem dX3_lay_44 : decode cX3_lay 44 = .ok (.iload_n 3, 1) := fx_ok0 eX3_lay_29.2.2.2.2.2.2.2.2.1
theorem dX3_lay_45 : decode cX3_lay 45 = .ok (.iload 4, 2) := fx_ok0 eX3_lay_29.2.2.2.2.2.2.2.2.2.1
theorem dX3_lay_47 : decode cX3_lay 47 = .ok (.invokevirtual 88, 3) := fx_ok0 eX3_lay_29.2.2.2.2.2.2.2.2.2.2.1
theorem dX3_lay_50 : decode cX3_lay 50 = .ok (.ireturn, 1) := fx_ok0 eX3_lay_29.2.2.2.2.2.2.2.2.2.2.2
theorem eX3_shelfBoth_0 : (fdecl cX3_shelfBoth.data.toList 0 = some (.aload_n 0, 1)) ∧ (fdecl cX3_shelfBoth.data.toList 1 = some (.iload_n 1, 1)) ∧ (fdecl cX3_shelfBoth.data.toList 2 = some (.invokevirtual 216, 3)) ∧ (fdecl cX3_shelfBoth.data.toList 5 = some (.astore 4, 2)) ∧ (fdecl cX3_shelfBoth.data.toList 7 = some (.aload_n 0, 1)) ∧ (fdecl cX3_shelfBoth.data.toList 8 = some (.iload_n 2, 1)) ∧ (fdecl cX3_shelfBoth.data.toList 9 = some (.invokevirtual 216, 3)) ∧ (fdecl cX3_shelfBoth.data.toList 12 = some (.astore 5, 2)) ∧ (fdecl cX3_shelfBoth.data.toList 14 = some (.iload_n 3, 1)) ∧ (fdecl cX3_shelfBoth.data.toList 15 = some (.iconst 2, 1)) ∧ (fdecl cX3_shelfBoth.data.toList 16 = some (.invokestatic 41, 3)) ∧ (fdecl cX3_shelfBoth.data.toList 19 = some (.iload_n 1, 1)) ∧ (fdecl cX3_shelfBoth.data.toList 20 = some (.iload_n 2, 1)) ∧ (fdecl cX3_shelfBoth.data.toList 21 = some (.if_icmp .ne 8, 3)) ∧ (fdecl cX3_shelfBoth.data.toList 24 = some (.aload_n 0, 1)) ∧ (fdecl cX3_shelfBoth.data.toList 25 = some (.invokevirtual 63, 3)) := by decide +kernel
theorem dX3_shelfBoth_0 : decode cX3_shelfBoth 0 = .ok (.aload_n 0, 1) := fx_ok0 eX3_shelfBoth_0.1
theorem dX3_shelfBoth_1 : decode cX3_shelfBoth 1 = .ok (.iload_n 1, 1) := fx_ok0 eX3_shelfBoth_0.2.1
theorem dX3_shelfBoth_2 : decode cX3_shelfBoth 2 = .ok (.invokevirtual 216, 3) := fx_ok0 eX3_shelfBoth_0.2.2.1
theorem dX3_shelfBoth_5 : decode cX3_shelfBoth 5 = .ok (.astore 4, 2) := fx_ok0 eX3_shelfBoth_0.2.2.2.1
theorem dX3_shelfBoth_7 : decode cX3_shelfBoth 7 = .ok (.aload_n 0, 1) := fx_ok0 eX3_shelfBoth_0.2.2.2.2.1
theorem dX3_shelfBoth_8 : decode cX3_shelfBoth 8 = .ok (.iload_n 2, 1) := fx_ok0 eX3_shelfBoth_0.2.2.2.2.2.1
theorem dX3_shelfBoth_9 : decode cX3_shelfBoth 9 = .ok (.invokevirtual 216, 3) := fx_ok0 eX3_shelfBoth_0.2.2.2.2.2.2.1
theorem dX3_shelfBoth_12 : decode cX3_shelfBoth 12 = .ok (.astore 5, 2) := fx_ok0 eX3_shelfBoth_0.2.2.2.2.2.2.2.1
theorem dX3_shelfBoth_14 : decode cX3_shelfBoth 14 = .ok (.iload_n 3, 1) := fx_ok0 eX3_shelfBoth_0.2.2.2.2.2.2.2.2.1
theorem dX3_shelfBoth_15 : decode cX3_shelfBoth 15 = .ok (.iconst 2, 1) := fx_ok0 eX3_shelfBoth_0.2.2.2.2.2.2.2.2.2.1
theorem dX3_shelfBoth_16 : decode cX3_shelfBoth 16 = .ok (.invokestatic 41, 3) := fx_ok0 eX3_shelfBoth_0.2.2.2.2.2.2.2.2.2.2.1
theorem dX3_shelfBoth_19 : decode cX3_shelfBoth 19 = .ok (.iload_n 1, 1) := fx_ok0 eX3_shelfBoth_0.2.2.2.2.2.2.2.2.2.2.2.1
theorem dX3_shelfBoth_20 : decode cX3_shelfBoth 20 = .ok (.iload_n 2, 1) := fx_ok0 eX3_shelfBoth_0.2.2.2.2.2.2.2.2.2.2.2.2.1
theorem dX3_shelfBoth_21 : decode cX3_shelfBoth 21 = .ok (.if_icmp .ne 8, 3) := fx_ok0 eX3_shelfBoth_0.2.2.2.2.2.2.2.2.2.2.2.2.2.1
theorem dX3_shelfBoth_24 : decode cX3_shelfBoth 24 = .ok (.aload_n 0, 1) := fx_ok0 eX3_shelfBoth_0.2.2.2.2.2.2.2.2.2.2.2.2.2.2.1
theorem dX3_shelfBoth_25 : decode cX3_shelfBoth 25 = .ok (.invokevirtual 63, 3) := fx_ok0 eX3_shelfBoth_0.2.2.2.2.2.2.2.2.2.2.2.2.2.2.2
theorem eX3_shelfBoth_28 : (fdecl cX3_shelfBoth.data.toList 28 = some (.ireturn, 1)) ∧ (fdecl cX3_shelfBoth.data.toList 29 = some (.aload_n 0, 1)) ∧ (fdecl cX3_shelfBoth.data.toList 30 = some (.dup, 1)) ∧ (fdecl cX3_shelfBoth.data.toList 31 = some (.getfield 219, 3)) ∧ (fdecl cX3_shelfBoth.data.toList 34 = some (.iconst 1, 1)) ∧ (fdecl cX3_shelfBoth.data.toList 35 = some (.iadd, 1)) ∧ (fdecl cX3_shelfBoth.data.toList 36 = some (.putfield 219, 3)) ∧ (fdecl cX3_shelfBoth.data.toList 39 = some (.iload_n 3, 1)) ∧ (fdecl cX3_shelfBoth.data.toList 40 = some (.ifCond .ne 16, 3)) ∧ (fdecl cX3_shelfBoth.data.toList 43 = some (.aload 4, 2)) ∧ (fdecl cX3_shelfBoth.data.toList 45 = some (.aload 5, 2)) ∧ (fdecl cX3_shelfBoth.data.toList 47 = some (.iconst 0, 1)) ∧ (fdecl cX3_shelfBoth.data.toList 48 = some (.bipush 99, 2)) ∧ (fdecl cX3_shelfBoth.data.toList 50 = some (.invokevirtual 96, 3)) ∧ (fdecl cX3_shelfBoth.data.toList 53 = some (.goto 20, 3)) ∧ (fdecl cX3_shelfBoth.data.toList 56 = some (.aload 4, 2)) := by decide +kernel
theorem dX3_shelfBoth_28 : decode cX3_shelfBoth 28 = .ok (.ireturn, 1) := fx_ok0 eX3_shelfBoth_28.1
theorem dX3_shelfBoth_29 : decode cX3_shelfBoth 29 = .ok (.aload_n 0, 1) := fx_ok0 eX3_shelfBoth_28.2.1
theorem dX3_shelfBoth_30 : decode cX3_shelfBoth 30 = .ok (.dup, 1) := fx_ok0 eX3_shelfBoth_28.2.2.1
theorem dX3_shelfBoth_31 : decode cX3_shelfBoth 31 = .ok (.getfield 219, 3) := fx_ok0 eX3_shelfBoth_28.2.2.2.1
theorem dX3_shelfBoth_34 : decode cX3_shelfBoth 34 = .ok (.iconst 1, 1) := fx_ok0 eX3_shelfBoth_28.2.2.2.2.1
theorem dX3_shelfBoth_35 : decode cX3_shelfBoth 35 = .ok (.iadd, 1) := fx_ok0 eX3_shelfBoth_28.2.2.2.2.2.1
theorem dX3_shelfBoth_36 : decode cX3_shelfBoth 36 = .ok (.putfield 219, 3) := fx_ok0 eX3_shelfBoth_28.2.2.2.2.2.2.1
theorem dX3_shelfBoth_39 : decode cX3_shelfBoth 39 = .ok (.iload_n 3, 1) := fx_ok0 eX3_shelfBoth_28.2.2.2.2.2.2.2.1
theorem dX3_shelfBoth_40 : decode cX3_shelfBoth 40 = .ok (.ifCond .ne 16, 3) := fx_ok0 eX3_shelfBoth_28.2.2.2.2.2.2.2.2.1
theorem dX3_shelfBoth_43 : decode cX3_shelfBoth 43 = .ok (.aload 4, 2) := fx_ok0 eX3_shelfBoth_28.2.2.2.2.2.2.2.2.2.1
theorem dX3_shelfBoth_45 : decode cX3_shelfBoth 45 = .ok (.aload 5, 2) := fx_ok0 eX3_shelfBoth_28.2.2.2.2.2.2.2.2.2.2.1
theorem dX3_shelfBoth_47 : decode cX3_shelfBoth 47 = .ok (.iconst 0, 1) := fx_ok0 eX3_shelfBoth_28.2.2.2.2.2.2.2.2.2.2.2.1
theorem dX3_shelfBoth_48 : decode cX3_shelfBoth 48 = .ok (.bipush 99, 2) := fx_ok0 eX3_shelfBoth_28.2.2.2.2.2.2.2.2.2.2.2.2.1
theorem dX3_shelfBoth_50 : decode cX3_shelfBoth 50 = .ok (.invokevirtual 96, 3) := fx_ok0 eX3_shelfBoth_28.2.2.2.2.2.2.2.2.2.2.2.2.2.1
theorem dX3_shelfBoth_53 : decode cX3_shelfBoth 53 = .ok (.goto 20, 3) := fx_ok0 eX3_shelfBoth_28.2.2.2.2.2.2.2.2.2.2.2.2.2.2.1
theorem dX3_shelfBoth_56 : decode cX3_shelfBoth 56 = .ok (.aload 4, 2) := fx_ok0 eX3_shelfBoth_28.2.2.2.2.2.2.2.2.2.2.2.2.2.2.2
theorem eX3_shelfBoth_58 : (fdecl cX3_shelfBoth.data.toList 58 = some (.aload 5, 2)) ∧ (fdecl cX3_shelfBoth.data.toList 60 = some (.iload_n 3, 1)) ∧ (fdecl cX3_shelfBoth.data.toList 61 = some (.iconst 1, 1)) ∧ (fdecl cX3_shelfBoth.data.toList 62 = some (.if_icmp .ne 7, 3)) ∧ (fdecl cX3_shelfBoth.data.toList 65 = some (.iconst 1, 1)) ∧ (fdecl cX3_shelfBoth.data.toList 66 = some (.goto 4, 3)) ∧ (fdecl cX3_shelfBoth.data.toList 69 = some (.iconst 0, 1)) ∧ (fdecl cX3_shelfBoth.data.toList 70 = some (.invokevirtual 100, 3)) ∧ (fdecl cX3_shelfBoth.data.toList 73 = some (.ireturn, 1)) := by decide +kernel
theorem dX3_shelfBoth_58 : decode cX3_shelfBoth 58 = .ok (.aload 5, 2) := fx_ok0 eX3_shelfBoth_58.1
theorem dX3_shelfBoth_60 : decode cX3_shelfBoth 60 = .ok (.iload_n 3, 1) := fx_ok0 eX3_shelfBoth_58.2.1
theorem dX3_shelfBoth_61 : decode cX3_shelfBoth 61 = .ok (.iconst 1, 1) := fx_ok0 eX3_shelfBoth_58.2.2.1
theorem dX3_shelfBoth_62 : decode cX3_shelfBoth 62 = .ok (.if_icmp .ne 7, 3) := fx_ok0 eX3_shelfBoth_58.2.2.2.1
theorem dX3_shelfBoth_65 : decode cX3_shelfBoth 65 = .ok (.iconst 1, 1) := fx_ok0 eX3_shelfBoth_58.2.2.2.2.1
theorem dX3_shelfBoth_66 : decode cX3_shelfBoth 66 = .ok (.goto 4, 3) := fx_ok0 eX3_shelfBoth_58.2.2.2.2.2.1
theorem dX3_shelfBoth_69 : decode cX3_shelfBoth 69 = .ok (.iconst 0, 1) := fx_ok0 eX3_shelfBoth_58.2.2.2.2.2.2.1
theorem dX3_shelfBoth_70 : decode cX3_shelfBoth 70 = .ok (.invokevirtual 100, 3) := fx_ok0 eX3_shelfBoth_58.2.2.2.2.2.2.2.1
theorem dX3_shelfBoth_73 : decode cX3_shelfBoth 73 = .ok (.ireturn, 1) := fx_ok0 eX3_shelfBoth_58.2.2.2.2.2.2.2.2
theorem eX3_shelfDrop_0 : (fdecl cX3_shelfDrop.data.toList 0 = some (.aload_n 0, 1)) ∧ (fdecl cX3_shelfDrop.data.toList 1 = some (.iload_n 1, 1)) ∧ (fdecl cX3_shelfDrop.data.toList 2 = some (.invokevirtual 216, 3)) ∧ (fdecl cX3_shelfDrop.data.toList 5 = some (.astore_n 3, 1)) ∧ (fdecl cX3_shelfDrop.data.toList 6 = some (.iload_n 2, 1)) ∧ (fdecl cX3_shelfDrop.data.toList 7 = some (.iconst 2, 1)) ∧ (fdecl cX3_shelfDrop.data.toList 8 = some (.invokestatic 41, 3)) ∧ (fdecl cX3_shelfDrop.data.toList 11 = some (.aload_n 0, 1)) ∧ (fdecl cX3_shelfDrop.data.toList 12 = some (.dup, 1)) ∧ (fdecl cX3_shelfDrop.data.toList 13 = some (.getfield 219, 3)) ∧ (fdecl cX3_shelfDrop.data.toList 16 = some (.iconst 1, 1)) ∧ (fdecl cX3_shelfDrop.data.toList 17 = some (.iadd, 1)) ∧ (fdecl cX3_shelfDrop.data.toList 18 = some (.putfield 219, 3)) ∧ (fdecl cX3_shelfDrop.data.toList 21 = some (.iload_n 2, 1)) ∧ (fdecl cX3_shelfDrop.data.toList 22 = some (.iconst 2, 1)) ∧ (fdecl cX3_shelfDrop.data.toList 23 = some (.if_icmp .ne 13, 3)) := by decide +kernel
theorem dX3_shelfDrop_0 : decode cX3_shelfDrop 0 = .ok (.aload_n 0, 1) := fx_ok0 eX3_shelfDrop_0.1
theorem dX3_shelfDrop_1 : decode cX3_shelfDrop 1 = .ok (.iload_n 1, 1) := fx_ok0 eX3_shelfDrop_0.2.1
theorem dX3_shelfDrop_2 : decode cX3_shelfDrop 2 = .ok (.invokevirtual 216, 3) := fx_ok0 eX3_shelfDrop_0.2.2.1
theorem dX3_shelfDrop_5 : decode cX3_shelfDrop 5 = .ok (.astore_n 3, 1) := fx_ok0 eX3_shelfDrop_0.2.2.2.1
theorem dX3_shelfDrop_6 : decode cX3_shelfDrop 6 = .ok (.iload_n 2, 1) := fx_ok0 eX3_shelfDrop_0.2.2.2.2.1
theorem dX3_shelfDrop_7 : decode cX3_shelfDrop 7 = .ok (.iconst 2, 1) := fx_ok0 eX3_shelfDrop_0.2.2.2.2.2.1
theorem dX3_shelfDrop_8 : decode cX3_shelfDrop 8 = .ok (.invokestatic 41, 3) := fx_ok0 eX3_shelfDrop_0.2.2.2.2.2.2.1
theorem dX3_shelfDrop_11 : decode cX3_shelfDrop 11 = .ok (.aload_n 0, 1) := fx_ok0 eX3_shelfDrop_0.2.2.2.2.2.2.2.1
theorem dX3_shelfDrop_12 : decode cX3_shelfDrop 12 = .ok (.dup, 1) := fx_ok0 eX3_shelfDrop_0.2.2.2.2.2.2.2.2.1
theorem dX3_shelfDrop_13 : decode cX3_shelfDrop 13 = .ok (.getfield 219, 3) := fx_ok0 eX3_shelfDrop_0.2.2.2.2.2.2.2.2.2.1
theorem dX3_shelfDrop_16 : decode cX3_shelfDrop 16 = .ok (.iconst 1, 1) := fx_ok0 eX3_shelfDrop_0.2.2.2.2.2.2.2.2.2.2.1
theorem dX3_shelfDrop_17 : decode cX3_shelfDrop 17 = .ok (.iadd, 1) := fx_ok0 eX3_shelfDrop_0.2.2.2.2.2.2.2.2.2.2.2.1
theorem dX3_shelfDrop_18 : decode cX3_shelfDrop 18 = .ok (.putfield 219, 3) := fx_ok0 eX3_shelfDrop_0.2.2.2.2.2.2.2.2.2.2.2.2.1
theorem dX3_shelfDrop_21 : decode cX3_shelfDrop 21 = .ok (.iload_n 2, 1) := fx_ok0 eX3_shelfDrop_0.2.2.2.2.2.2.2.2.2.2.2.2.2.1
theorem dX3_shelfDrop_22 : decode cX3_shelfDrop 22 = .ok (.iconst 2, 1) := fx_ok0 eX3_shelfDrop_0.2.2.2.2.2.2.2.2.2.2.2.2.2.2.1
theorem dX3_shelfDrop_23 : decode cX3_shelfDrop 23 = .ok (.if_icmp .ne 13, 3) := fx_ok0 eX3_shelfDrop_0.2.2.2.2.2.2.2.2.2.2.2.2.2.2.2
theorem eX3_shelfDrop_26 : (fdecl cX3_shelfDrop.data.toList 26 = some (.aload_n 3, 1)) ∧ (fdecl cX3_shelfDrop.data.toList 27 = some (.iconst 0, 1)) ∧ (fdecl cX3_shelfDrop.data.toList 28 = some (.bipush 99, 2)) ∧ (fdecl cX3_shelfDrop.data.toList 30 = some (.invokevirtual 77, 3)) ∧ (fdecl cX3_shelfDrop.data.toList 33 = some (.goto 20, 3)) ∧ (fdecl cX3_shelfDrop.data.toList 36 = some (.aload_n 3, 1)) ∧ (fdecl cX3_shelfDrop.data.toList 37 = some (.iconst 0, 1)) ∧ (fdecl cX3_shelfDrop.data.toList 38 = some (.bipush 99, 2)) ∧ (fdecl cX3_shelfDrop.data.toList 40 = some (.iload_n 2, 1)) ∧ (fdecl cX3_shelfDrop.data.toList 41 = some (.iconst 1, 1)) ∧ (fdecl cX3_shelfDrop.data.toList 42 = some (.if_icmp .ne 7, 3)) ∧ (fdecl cX3_shelfDrop.data.toList 45 = some (.iconst 1, 1)) ∧ (fdecl cX3_shelfDrop.data.toList 46 = some (.goto 4, 3)) ∧ (fdecl cX3_shelfDrop.data.toList 49 = some (.iconst 0, 1)) ∧ (fdecl cX3_shelfDrop.data.toList 50 = some (.invokevirtual 229, 3)) ∧ (fdecl cX3_shelfDrop.data.toList 53 = some (.ireturn, 1)) := by decide +kernel
theorem dX3_shelfDrop_26 : decode cX3_shelfDrop 26 = .ok (.aload_n 3, 1) := fx_ok0 eX3_shelfDrop_26.1
theorem dX3_shelfDrop_27 : decode cX3_shelfDrop 27 = .ok (.iconst 0, 1) := fx_ok0 eX3_shelfDrop_26.2.1
theorem dX3_shelfDrop_28 : decode cX3_shelfDrop 28 = .ok (.bipush 99, 2) := fx_ok0 eX3_shelfDrop_26.2.2.1
theorem dX3_shelfDrop_30 : decode cX3_shelfDrop 30 = .ok (.invokevirtual 77, 3) := fx_ok0 eX3_shelfDrop_26.2.2.2.1
theorem dX3_shelfDrop_33 : decode cX3_shelfDrop 33 = .ok (.goto 20, 3) := fx_ok0 eX3_shelfDrop_26.2.2.2.2.1
theorem dX3_shelfDrop_36 : decode cX3_shelfDrop 36 = .ok (.aload_n 3, 1) := fx_ok0 eX3_shelfDrop_26.2.2.2.2.2.1
theorem dX3_shelfDrop_37 : decode cX3_shelfDrop 37 = .ok (.iconst 0, 1) := fx_ok0 eX3_shelfDrop_26.2.2.2.2.2.2.1
theorem dX3_shelfDrop_38 : decode cX3_shelfDrop 38 = .ok (.bipush 99, 2) := fx_ok0 eX3_shelfDrop_26.2.2.2.2.2.2.2.1
theorem dX3_shelfDrop_40 : decode cX3_shelfDrop 40 = .ok (.iload_n 2, 1) := fx_ok0 eX3_shelfDrop_26.2.2.2.2.2.2.2.2.1
theorem dX3_shelfDrop_41 : decode cX3_shelfDrop 41 = .ok (.iconst 1, 1) := fx_ok0 eX3_shelfDrop_26.2.2.2.2.2.2.2.2.2.1
theorem dX3_shelfDrop_42 : decode cX3_shelfDrop 42 = .ok (.if_icmp .ne 7, 3) := fx_ok0 eX3_shelfDrop_26.2.2.2.2.2.2.2.2.2.2.1
theorem dX3_shelfDrop_45 : decode cX3_shelfDrop 45 = .ok (.iconst 1, 1) := fx_ok0 eX3_shelfDrop_26.2.2.2.2.2.2.2.2.2.2.2.1
theorem dX3_shelfDrop_46 : decode cX3_shelfDrop 46 = .ok (.goto 4, 3) := fx_ok0 eX3_shelfDrop_26.2.2.2.2.2.2.2.2.2.2.2.2.1
theorem dX3_shelfDrop_49 : decode cX3_shelfDrop 49 = .ok (.iconst 0, 1) := fx_ok0 eX3_shelfDrop_26.2.2.2.2.2.2.2.2.2.2.2.2.2.1
theorem dX3_shelfDrop_50 : decode cX3_shelfDrop 50 = .ok (.invokevirtual 229, 3) := fx_ok0 eX3_shelfDrop_26.2.2.2.2.2.2.2.2.2.2.2.2.2.2.1
theorem dX3_shelfDrop_53 : decode cX3_shelfDrop 53 = .ok (.ireturn, 1) := fx_ok0 eX3_shelfDrop_26.2.2.2.2.2.2.2.2.2.2.2.2.2.2.2
def fAX3_shelfCut_0 : List UInt8 := [42, 27, 182, 0, 216, 58, 6, 42, 21, 5, 182, 0, 216, 87, 28, 184, 0, 60, 29, 184, 0, 60, 21, 4, 7, 184, 0, 41, 25, 6, 28, 182, 0, 70, 54, 7, 25, 6, 29, 182, 0, 70, 4, 100, 54, 8, 21, 7, 21, 8, 4, 96, 164, 0, 8, 42, 182, 0, 63, 172, 21, 4, 154, 0]
def fAX3_shelfCut_1 : List UInt8 := [13, 25, 6, 21, 7, 21, 8, 182, 0, 188, 172, 42, 89, 180, 0, 219, 4, 96, 181, 0, 219, 21, 4, 4, 160, 0, 13, 25, 6, 21, 7, 21, 8, 182, 0, 77, 172, 21, 4, 7, 160, 0, 35, 42, 180, 0, 18, 21, 5, 25, 6, 21, 7, 21, 8, 25, 6, 180, 0, 74, 182, 0, 56, 83]
def fAX3_shelfCut_2 : List UInt8 := [42, 180, 0, 18, 21, 5, 50, 180, 0, 49, 172, 25, 6, 21, 7, 21, 8, 21, 4, 6, 160, 0, 7, 4, 167, 0, 4, 3, 182, 0, 229, 172]
def fTX3_shelfCut_2 : List UInt8 := fAX3_shelfCut_2
def fTX3_shelfCut_1 : List UInt8 := fAX3_shelfCut_1 ++ fTX3_shelfCut_2
def fTX3_shelfCut_0 : List UInt8 := fAX3_shelfCut_0 ++ fTX3_shelfCut_1
theorem fDX3_shelfCut_0 : cX3_shelfCut.data.toList.drop 0 = fTX3_shelfCut_0 := eq_of_beq (by decide +kernel)
theorem fDX3_shelfCut_1 : cX3_shelfCut.data.toList.drop 64 = fTX3_shelfCut_1 := fx_nx (d := 0) (n := 64) (a := fAX3_shelfCut_0) fDX3_shelfCut_0 rfl
theorem fDX3_shelfCut_2 : cX3_shelfCut.data.toList.drop 128 = fTX3_shelfCut_2 := fx_nx (d := 64) (n := 64) (a := fAX3_shelfCut_1) fDX3_shelfCut_1 rfl
theorem eX3_shelfCut_0 : (fdecl fTX3_shelfCut_0 0 = some (.aload_n 0, 1)) ∧ (fdecl fTX3_shelfCut_0 1 = some (.iload_n 1, 1)) ∧ (fdecl fTX3_shelfCut_0 2 = some (.invokevirtual 216, 3)) ∧ (fdecl fTX3_shelfCut_0 5 = some (.astore 6, 2)) ∧ (fdecl fTX3_shelfCut_0 7 = some (.aload_n 0, 1)) ∧ (fdecl fTX3_shelfCut_0 8 = some (.iload 5, 2)) ∧ (fdecl fTX3_shelfCut_0 10 = some (.invokevirtual 216, 3)) ∧ (fdecl fTX3_shelfCut_0 13 = some (.pop, 1)) ∧ (fdecl fTX3_shelfCut_0 14 = some (.iload_n 2, 1)) ∧ (fdecl fTX3_shelfCut_0 15 = some (.invokestatic 60, 3)) ∧ (fdecl fTX3_shelfCut_0 18 = some (.iload_n 3, 1)) ∧ (fdecl fTX3_shelfCut_0 19 = some (.invokestatic 60, 3)) ∧ (fdecl fTX3_shelfCut_0 22 = some (.iload 4, 2)) ∧ (fdecl fTX3_shelfCut_0 24 = some (.iconst 4, 1)) ∧ (fdecl fTX3_shelfCut_0 25 = some (.invokestatic 41, 3)) ∧ (fdecl fTX3_shelfCut_0 28 = some (.aload 6, 2)) := by decide +kernel
theorem dX3_shelfCut_0 : decode cX3_shelfCut 0 = .ok (.aload_n 0, 1) := fx_ok (d := 0) (i := 0) fDX3_shelfCut_0 eX3_shelfCut_0.1
theorem dX3_shelfCut_1 : decode cX3_shelfCut 1 = .ok (.iload_n 1, 1) := fx_ok (d := 0) (i := 1) fDX3_shelfCut_0 eX3_shelfCut_0.2.1
theorem dX3_shelfCut_2 : decode cX3_shelfCut 2 = .ok (.invokevirtual 216, 3) := fx_ok (d := 0) (i := 2) fDX3_shelfCut_0 eX3_shelfCut_0.2.2.1
theorem dX3_shelfCut_5 : decode cX3_shelfCut 5 = .ok (.astore 6, 2) := fx_ok (d := 0) (i := 5) fDX3_shelfCut_0 eX3_shelfCut_0.2.2.2.1
theorem dX3_shelfCut_7 : decode cX3_shelfCut 7 = .ok (.aload_n 0, 1) := fx_ok (d := 0) (i := 7) fDX3_shelfCut_0 eX3_shelfCut_0.2.2.2.2.1
theorem dX3_shelfCut_8 : decode cX3_shelfCut 8 = .ok (.iload 5, 2) := fx_ok (d := 0) (i := 8) fDX3_shelfCut_0 eX3_shelfCut_0.2.2.2.2.2.1
theorem dX3_shelfCut_10 : decode cX3_shelfCut 10 = .ok (.invokevirtual 216, 3) := fx_ok (d := 0) (i := 10) fDX3_shelfCut_0 eX3_shelfCut_0.2.2.2.2.2.2.1
theorem dX3_shelfCut_13 : decode cX3_shelfCut 13 = .ok (.pop, 1) := fx_ok (d := 0) (i := 13) fDX3_shelfCut_0 eX3_shelfCut_0.2.2.2.2.2.2.2.1
theorem dX3_shelfCut_14 : decode cX3_shelfCut 14 = .ok (.iload_n 2, 1) := fx_ok (d := 0) (i := 14) fDX3_shelfCut_0 eX3_shelfCut_0.2.2.2.2.2.2.2.2.1
theorem dX3_shelfCut_15 : decode cX3_shelfCut 15 = .ok (.invokestatic 60, 3) := fx_ok (d := 0) (i := 15) fDX3_shelfCut_0 eX3_shelfCut_0.2.2.2.2.2.2.2.2.2.1
theorem dX3_shelfCut_18 : decode cX3_shelfCut 18 = .ok (.iload_n 3, 1) := fx_ok (d := 0) (i := 18) fDX3_shelfCut_0 eX3_shelfCut_0.2.2.2.2.2.2.2.2.2.2.1
theorem dX3_shelfCut_19 : decode cX3_shelfCut 19 = .ok (.invokestatic 60, 3) := fx_ok (d := 0) (i := 19) fDX3_shelfCut_0 eX3_shelfCut_0.2.2.2.2.2.2.2.2.2.2.2.1
theorem dX3_shelfCut_22 : decode cX3_shelfCut 22 = .ok (.iload 4, 2) := fx_ok (d := 0) (i := 22) fDX3_shelfCut_0 eX3_shelfCut_0.2.2.2.2.2.2.2.2.2.2.2.2.1
theorem dX3_shelfCut_24 : decode cX3_shelfCut 24 = .ok (.iconst 4, 1) := fx_ok (d := 0) (i := 24) fDX3_shelfCut_0 eX3_shelfCut_0.2.2.2.2.2.2.2.2.2.2.2.2.2.1
theorem dX3_shelfCut_25 : decode cX3_shelfCut 25 = .ok (.invokestatic 41, 3) := fx_ok (d := 0) (i := 25) fDX3_shelfCut_0 eX3_shelfCut_0.2.2.2.2.2.2.2.2.2.2.2.2.2.2.1
theorem dX3_shelfCut_28 : decode cX3_shelfCut 28 = .ok (.aload 6, 2) := fx_ok (d := 0) (i := 28) fDX3_shelfCut_0 eX3_shelfCut_0.2.2.2.2.2.2.2.2.2.2.2.2.2.2.2
theorem eX3_shelfCut_30 : (fdecl fTX3_shelfCut_0 30 = some (.iload_n 2, 1)) ∧ (fdecl fTX3_shelfCut_0 31 = some (.invokevirtual 70, 3)) ∧ (fdecl fTX3_shelfCut_0 34 = some (.istore 7, 2)) ∧ (fdecl fTX3_shelfCut_0 36 = some (.aload 6, 2)) ∧ (fdecl fTX3_shelfCut_0 38 = some (.iload_n 3, 1)) ∧ (fdecl fTX3_shelfCut_0 39 = some (.invokevirtual 70, 3)) ∧ (fdecl fTX3_shelfCut_0 42 = some (.iconst 1, 1)) ∧ (fdecl fTX3_shelfCut_0 43 = some (.isub, 1)) ∧ (fdecl fTX3_shelfCut_0 44 = some (.istore 8, 2)) ∧ (fdecl fTX3_shelfCut_0 46 = some (.iload 7, 2)) ∧ (fdecl fTX3_shelfCut_0 48 = some (.iload 8, 2)) ∧ (fdecl fTX3_shelfCut_0 50 = some (.iconst 1, 1)) ∧ (fdecl fTX3_shelfCut_0 51 = some (.iadd, 1)) ∧ (fdecl fTX3_shelfCut_0 52 = some (.if_icmp .le 8, 3)) ∧ (fdecl fTX3_shelfCut_0 55 = some (.aload_n 0, 1)) ∧ (fdecl fTX3_shelfCut_0 56 = some (.invokevirtual 63, 3)) := by decide +kernel
theorem dX3_shelfCut_30 : decode cX3_shelfCut 30 = .ok (.iload_n 2, 1) := fx_ok (d := 0) (i := 30) fDX3_shelfCut_0 eX3_shelfCut_30.1
theorem dX3_shelfCut_31 : decode cX3_shelfCut 31 = .ok (.invokevirtual 70, 3) := fx_ok (d := 0) (i := 31) fDX3_shelfCut_0 eX3_shelfCut_30.2.1
theorem dX3_shelfCut_34 : decode cX3_shelfCut 34 = .ok (.istore 7, 2) := fx_ok (d := 0) (i := 34) fDX3_shelfCut_0 eX3_shelfCut_30.2.2.1
theorem dX3_shelfCut_36 : decode cX3_shelfCut 36 = .ok (.aload 6, 2) := fx_ok (d := 0) (i := 36) fDX3_shelfCut_0 eX3_shelfCut_30.2.2.2.1
theorem dX3_shelfCut_38 : decode cX3_shelfCut 38 = .ok (.iload_n 3, 1) := fx_ok (d := 0) (i := 38) fDX3_shelfCut_0 eX3_shelfCut_30.2.2.2.2.1
theorem dX3_shelfCut_39 : decode cX3_shelfCut 39 = .ok (.invokevirtual 70, 3) := fx_ok (d := 0) (i := 39) fDX3_shelfCut_0 eX3_shelfCut_30.2.2.2.2.2.1
theorem dX3_shelfCut_42 : decode cX3_shelfCut 42 = .ok (.iconst 1, 1) := fx_ok (d := 0) (i := 42) fDX3_shelfCut_0 eX3_shelfCut_30.2.2.2.2.2.2.1
theorem dX3_shelfCut_43 : decode cX3_shelfCut 43 = .ok (.isub, 1) := fx_ok (d := 0) (i := 43) fDX3_shelfCut_0 eX3_shelfCut_30.2.2.2.2.2.2.2.1
theorem dX3_shelfCut_44 : decode cX3_shelfCut 44 = .ok (.istore 8, 2) := fx_ok (d := 0) (i := 44) fDX3_shelfCut_0 eX3_shelfCut_30.2.2.2.2.2.2.2.2.1
theorem dX3_shelfCut_46 : decode cX3_shelfCut 46 = .ok (.iload 7, 2) := fx_ok (d := 0) (i := 46) fDX3_shelfCut_0 eX3_shelfCut_30.2.2.2.2.2.2.2.2.2.1
theorem dX3_shelfCut_48 : decode cX3_shelfCut 48 = .ok (.iload 8, 2) := fx_ok (d := 0) (i := 48) fDX3_shelfCut_0 eX3_shelfCut_30.2.2.2.2.2.2.2.2.2.2.1
theorem dX3_shelfCut_50 : decode cX3_shelfCut 50 = .ok (.iconst 1, 1) := fx_ok (d := 0) (i := 50) fDX3_shelfCut_0 eX3_shelfCut_30.2.2.2.2.2.2.2.2.2.2.2.1
theorem dX3_shelfCut_51 : decode cX3_shelfCut 51 = .ok (.iadd, 1) := fx_ok (d := 0) (i := 51) fDX3_shelfCut_0 eX3_shelfCut_30.2.2.2.2.2.2.2.2.2.2.2.2.1
theorem dX3_shelfCut_52 : decode cX3_shelfCut 52 = .ok (.if_icmp .le 8, 3) := fx_ok (d := 0) (i := 52) fDX3_shelfCut_0 eX3_shelfCut_30.2.2.2.2.2.2.2.2.2.2.2.2.2.1
theorem dX3_shelfCut_55 : decode cX3_shelfCut 55 = .ok (.aload_n 0, 1) := fx_ok (d := 0) (i := 55) fDX3_shelfCut_0 eX3_shelfCut_30.2.2.2.2.2.2.2.2.2.2.2.2.2.2.1
theorem dX3_shelfCut_56 : decode cX3_shelfCut 56 = .ok (.invokevirtual 63, 3) := fx_ok (d := 0) (i := 56) fDX3_shelfCut_0 eX3_shelfCut_30.2.2.2.2.2.2.2.2.2.2.2.2.2.2.2
theorem eX3_shelfCut_59 : (fdecl fTX3_shelfCut_0 59 = some (.ireturn, 1)) ∧ (fdecl fTX3_shelfCut_0 60 = some (.iload 4, 2)) ∧ (fdecl fTX3_shelfCut_0 62 = some (.ifCond .ne 13, 3)) ∧ (fdecl fTX3_shelfCut_1 1 = some (.aload 6, 2)) ∧ (fdecl fTX3_shelfCut_1 3 = some (.iload 7, 2)) ∧ (fdecl fTX3_shelfCut_1 5 = some (.iload 8, 2)) ∧ (fdecl fTX3_shelfCut_1 7 = some (.invokevirtual 188, 3)) ∧ (fdecl fTX3_shelfCut_1 10 = some (.ireturn, 1)) ∧ (fdecl fTX3_shelfCut_1 11 = some (.aload_n 0, 1)) ∧ (fdecl fTX3_shelfCut_1 12 = some (.dup, 1)) ∧ (fdecl fTX3_shelfCut_1 13 = some (.getfield 219, 3)) ∧ (fdecl fTX3_shelfCut_1 16 = some (.iconst 1, 1)) ∧ (fdecl fTX3_shelfCut_1 17 = some (.iadd, 1)) ∧ (fdecl fTX3_shelfCut_1 18 = some (.putfield 219, 3)) ∧ (fdecl fTX3_shelfCut_1 21 = some (.iload 4, 2)) ∧ (fdecl fTX3_shelfCut_1 23 = some (.iconst 1, 1)) := by decide +kernel
theorem dX3_shelfCut_59 : decode cX3_shelfCut 59 = .ok (.ireturn, 1) := fx_ok (d := 0) (i := 59) fDX3_shelfCut_0 eX3_shelfCut_59.1
theorem dX3_shelfCut_60 : decode cX3_shelfCut 60 = .ok (.iload 4, 2) := fx_ok (d := 0) (i := 60) fDX3_shelfCut_0 eX3_shelfCut_59.2.1
theorem dX3_shelfCut_62 : decode cX3_shelfCut 62 = .ok (.ifCond .ne 13, 3) := fx_ok (d := 0) (i := 62) fDX3_shelfCut_0 eX3_shelfCut_59.2.2.1
theorem dX3_shelfCut_65 : decode cX3_shelfCut 65 = .ok (.aload 6, 2) := fx_ok (d := 64) (i := 1) fDX3_shelfCut_1 eX3_shelfCut_59.2.2.2.1
theorem dX3_shelfCut_67 : decode cX3_shelfCut 67 = .ok (.iload 7, 2) := fx_ok (d := 64) (i := 3) fDX3_shelfCut_1 eX3_shelfCut_59.2.2.2.2.1
theorem dX3_shelfCut_69 : decode cX3_shelfCut 69 = .ok (.iload 8, 2) := fx_ok (d := 64) (i := 5) fDX3_shelfCut_1 eX3_shelfCut_59.2.2.2.2.2.1
theorem dX3_shelfCut_71 : decode cX3_shelfCut 71 = .ok (.invokevirtual 188, 3) := fx_ok (d := 64) (i := 7) fDX3_shelfCut_1 eX3_shelfCut_59.2.2.2.2.2.2.1
theorem dX3_shelfCut_74 : decode cX3_shelfCut 74 = .ok (.ireturn, 1) := fx_ok (d := 64) (i := 10) fDX3_shelfCut_1 eX3_shelfCut_59.2.2.2.2.2.2.2.1
theorem dX3_shelfCut_75 : decode cX3_shelfCut 75 = .ok (.aload_n 0, 1) := fx_ok (d := 64) (i := 11) fDX3_shelfCut_1 eX3_shelfCut_59.2.2.2.2.2.2.2.2.1
theorem dX3_shelfCut_76 : decode cX3_shelfCut 76 = .ok (.dup, 1) := fx_ok (d := 64) (i := 12) fDX3_shelfCut_1 eX3_shelfCut_59.2.2.2.2.2.2.2.2.2.1
theorem dX3_shelfCut_77 : decode cX3_shelfCut 77 = .ok (.getfield 219, 3) := fx_ok (d := 64) (i := 13) fDX3_shelfCut_1 eX3_shelfCut_59.2.2.2.2.2.2.2.2.2.2.1
theorem dX3_shelfCut_80 : decode cX3_shelfCut 80 = .ok (.iconst 1, 1) := fx_ok (d := 64) (i := 16) fDX3_shelfCut_1 eX3_shelfCut_59.2.2.2.2.2.2.2.2.2.2.2.1
theorem dX3_shelfCut_81 : decode cX3_shelfCut 81 = .ok (.iadd, 1) := fx_ok (d := 64) (i := 17) fDX3_shelfCut_1 eX3_shelfCut_59.2.2.2.2.2.2.2.2.2.2.2.2.1
theorem dX3_shelfCut_82 : decode cX3_shelfCut 82 = .ok (.putfield 219, 3) := fx_ok (d := 64) (i := 18) fDX3_shelfCut_1 eX3_shelfCut_59.2.2.2.2.2.2.2.2.2.2.2.2.2.1
theorem dX3_shelfCut_85 : decode cX3_shelfCut 85 = .ok (.iload 4, 2) := fx_ok (d := 64) (i := 21) fDX3_shelfCut_1 eX3_shelfCut_59.2.2.2.2.2.2.2.2.2.2.2.2.2.2.1
theorem dX3_shelfCut_87 : decode cX3_shelfCut 87 = .ok (.iconst 1, 1) := fx_ok (d := 64) (i := 23) fDX3_shelfCut_1 eX3_shelfCut_59.2.2.2.2.2.2.2.2.2.2.2.2.2.2.2
theorem eX3_shelfCut_88 : (fdecl fTX3_shelfCut_1 24 = some (.if_icmp .ne 13, 3)) ∧ (fdecl fTX3_shelfCut_1 27 = some (.aload 6, 2)) ∧ (fdecl fTX3_shelfCut_1 29 = some (.iload 7, 2)) ∧ (fdecl fTX3_shelfCut_1 31 = some (.iload 8, 2)) ∧ (fdecl fTX3_shelfCut_1 33 = some (.invokevirtual 77, 3)) ∧ (fdecl fTX3_shelfCut_1 36 = some (.ireturn, 1)) ∧ (fdecl fTX3_shelfCut_1 37 = some (.iload 4, 2)) ∧ (fdecl fTX3_shelfCut_1 39 = some (.iconst 4, 1)) ∧ (fdecl fTX3_shelfCut_1 40 = some (.if_icmp .ne 35, 3)) ∧ (fdecl fTX3_shelfCut_1 43 = some (.aload_n 0, 1)) ∧ (fdecl fTX3_shelfCut_1 44 = some (.getfield 18, 3)) ∧ (fdecl fTX3_shelfCut_1 47 = some (.iload 5, 2)) ∧ (fdecl fTX3_shelfCut_1 49 = some (.aload 6, 2)) ∧ (fdecl fTX3_shelfCut_1 51 = some (.iload 7, 2)) ∧ (fdecl fTX3_shelfCut_1 53 = some (.iload 8, 2)) ∧ (fdecl fTX3_shelfCut_1 55 = some (.aload 6, 2)) := by decide +kernel
theorem dX3_shelfCut_88 : decode cX3_shelfCut 88 = .ok (.if_icmp .ne 13, 3) := fx_ok (d := 64) (i := 24) fDX3_shelfCut_1 eX3_shelfCut_88.1
theorem dX3_shelfCut_91 : decode cX3_shelfCut 91 = .ok (.aload 6, 2) := fx_ok (d := 64) (i := 27) fDX3_shelfCut_1 eX3_shelfCut_88.2.1
theorem dX3_shelfCut_93 : decode cX3_shelfCut 93 = .ok (.iload 7, 2) := fx_ok (d := 64) (i := 29) fDX3_shelfCut_1 eX3_shelfCut_88.2.2.1
theorem dX3_shelfCut_95 : decode cX3_shelfCut 95 = .ok (.iload 8, 2) := fx_ok (d := 64) (i := 31) fDX3_shelfCut_1 eX3_shelfCut_88.2.2.2.1
theorem dX3_shelfCut_97 : decode cX3_shelfCut 97 = .ok (.invokevirtual 77, 3) := fx_ok (d := 64) (i := 33) fDX3_shelfCut_1 eX3_shelfCut_88.2.2.2.2.1
theorem dX3_shelfCut_100 : decode cX3_shelfCut 100 = .ok (.ireturn, 1) := fx_ok (d := 64) (i := 36) fDX3_shelfCut_1 eX3_shelfCut_88.2.2.2.2.2.1
theorem dX3_shelfCut_101 : decode cX3_shelfCut 101 = .ok (.iload 4, 2) := fx_ok (d := 64) (i := 37) fDX3_shelfCut_1 eX3_shelfCut_88.2.2.2.2.2.2.1
theorem dX3_shelfCut_103 : decode cX3_shelfCut 103 = .ok (.iconst 4, 1) := fx_ok (d := 64) (i := 39) fDX3_shelfCut_1 eX3_shelfCut_88.2.2.2.2.2.2.2.1
theorem dX3_shelfCut_104 : decode cX3_shelfCut 104 = .ok (.if_icmp .ne 35, 3) := fx_ok (d := 64) (i := 40) fDX3_shelfCut_1 eX3_shelfCut_88.2.2.2.2.2.2.2.2.1
theorem dX3_shelfCut_107 : decode cX3_shelfCut 107 = .ok (.aload_n 0, 1) := fx_ok (d := 64) (i := 43) fDX3_shelfCut_1 eX3_shelfCut_88.2.2.2.2.2.2.2.2.2.1
theorem dX3_shelfCut_108 : decode cX3_shelfCut 108 = .ok (.getfield 18, 3) := fx_ok (d := 64) (i := 44) fDX3_shelfCut_1 eX3_shelfCut_88.2.2.2.2.2.2.2.2.2.2.1
theorem dX3_shelfCut_111 : decode cX3_shelfCut 111 = .ok (.iload 5, 2) := fx_ok (d := 64) (i := 47) fDX3_shelfCut_1 eX3_shelfCut_88.2.2.2.2.2.2.2.2.2.2.2.1
theorem dX3_shelfCut_113 : decode cX3_shelfCut 113 = .ok (.aload 6, 2) := fx_ok (d := 64) (i := 49) fDX3_shelfCut_1 eX3_shelfCut_88.2.2.2.2.2.2.2.2.2.2.2.2.1
theorem dX3_shelfCut_115 : decode cX3_shelfCut 115 = .ok (.iload 7, 2) := fx_ok (d := 64) (i := 51) fDX3_shelfCut_1 eX3_shelfCut_88.2.2.2.2.2.2.2.2.2.2.2.2.2.1
theorem dX3_shelfCut_117 : decode cX3_shelfCut 117 = .ok (.iload 8, 2) := fx_ok (d := 64) (i := 53) fDX3_shelfCut_1 eX3_shelfCut_88.2.2.2.2.2.2.2.2.2.2.2.2.2.2.1
theorem dX3_shelfCut_119 : decode cX3_shelfCut 119 = .ok (.aload 6, 2) := fx_ok (d := 64) (i := 55) fDX3_shelfCut_1 eX3_shelfCut_88.2.2.2.2.2.2.2.2.2.2.2.2.2.2.2
theorem eX3_shelfCut_121 : (fdecl fTX3_shelfCut_1 57 = some (.getfield 74, 3)) ∧ (fdecl fTX3_shelfCut_1 60 = some (.invokevirtual 56, 3)) ∧ (fdecl fTX3_shelfCut_1 63 = some (.aastore, 1)) ∧ (fdecl fTX3_shelfCut_2 0 = some (.aload_n 0, 1)) ∧ (fdecl fTX3_shelfCut_2 1 = some (.getfield 18, 3)) ∧ (fdecl fTX3_shelfCut_2 4 = some (.iload 5, 2)) ∧ (fdecl fTX3_shelfCut_2 6 = some (.aaload, 1)) ∧ (fdecl fTX3_shelfCut_2 7 = some (.getfield 49, 3)) ∧ (fdecl fTX3_shelfCut_2 10 = some (.ireturn, 1)) ∧ (fdecl fTX3_shelfCut_2 11 = some (.aload 6, 2)) ∧ (fdecl fTX3_shelfCut_2 13 = some (.iload 7, 2)) ∧ (fdecl fTX3_shelfCut_2 15 = some (.iload 8, 2)) ∧ (fdecl fTX3_shelfCut_2 17 = some (.iload 4, 2)) ∧ (fdecl fTX3_shelfCut_2 19 = some (.iconst 3, 1)) ∧ (fdecl fTX3_shelfCut_2 20 = some (.if_icmp .ne 7, 3)) ∧ (fdecl fTX3_shelfCut_2 23 = some (.iconst 1, 1)) := by decide +kernel
theorem dX3_shelfCut_121 : decode cX3_shelfCut 121 = .ok (.getfield 74, 3) := fx_ok (d := 64) (i := 57) fDX3_shelfCut_1 eX3_shelfCut_121.1
theorem dX3_shelfCut_124 : decode cX3_shelfCut 124 = .ok (.invokevirtual 56, 3) := fx_ok (d := 64) (i := 60) fDX3_shelfCut_1 eX3_shelfCut_121.2.1
theorem dX3_shelfCut_127 : decode cX3_shelfCut 127 = .ok (.aastore, 1) := fx_ok (d := 64) (i := 63) fDX3_shelfCut_1 eX3_shelfCut_121.2.2.1
theorem dX3_shelfCut_128 : decode cX3_shelfCut 128 = .ok (.aload_n 0, 1) := fx_ok (d := 128) (i := 0) fDX3_shelfCut_2 eX3_shelfCut_121.2.2.2.1
theorem dX3_shelfCut_129 : decode cX3_shelfCut 129 = .ok (.getfield 18, 3) := fx_ok (d := 128) (i := 1) fDX3_shelfCut_2 eX3_shelfCut_121.2.2.2.2.1
theorem dX3_shelfCut_132 : decode cX3_shelfCut 132 = .ok (.iload 5, 2) := fx_ok (d := 128) (i := 4) fDX3_shelfCut_2 eX3_shelfCut_121.2.2.2.2.2.1
theorem dX3_shelfCut_134 : decode cX3_shelfCut 134 = .ok (.aaload, 1) := fx_ok (d := 128) (i := 6) fDX3_shelfCut_2 eX3_shelfCut_121.2.2.2.2.2.2.1
theorem dX3_shelfCut_135 : decode cX3_shelfCut 135 = .ok (.getfield 49, 3) := fx_ok (d := 128) (i := 7) fDX3_shelfCut_2 eX3_shelfCut_121.2.2.2.2.2.2.2.1
theorem dX3_shelfCut_138 : decode cX3_shelfCut 138 = .ok (.ireturn, 1) := fx_ok (d := 128) (i := 10) fDX3_shelfCut_2 eX3_shelfCut_121.2.2.2.2.2.2.2.2.1
theorem dX3_shelfCut_139 : decode cX3_shelfCut 139 = .ok (.aload 6, 2) := fx_ok (d := 128) (i := 11) fDX3_shelfCut_2 eX3_shelfCut_121.2.2.2.2.2.2.2.2.2.1
theorem dX3_shelfCut_141 : decode cX3_shelfCut 141 = .ok (.iload 7, 2) := fx_ok (d := 128) (i := 13) fDX3_shelfCut_2 eX3_shelfCut_121.2.2.2.2.2.2.2.2.2.2.1
theorem dX3_shelfCut_143 : decode cX3_shelfCut 143 = .ok (.iload 8, 2) := fx_ok (d := 128) (i := 15) fDX3_shelfCut_2 eX3_shelfCut_121.2.2.2.2.2.2.2.2.2.2.2.1
theorem dX3_shelfCut_145 : decode cX3_shelfCut 145 = .ok (.iload 4, 2) := fx_ok (d := 128) (i := 17) fDX3_shelfCut_2 eX3_shelfCut_121.2.2.2.2.2.2.2.2.2.2.2.2.1
theorem dX3_shelfCut_147 : decode cX3_shelfCut 147 = .ok (.iconst 3, 1) := fx_ok (d := 128) (i := 19) fDX3_shelfCut_2 eX3_shelfCut_121.2.2.2.2.2.2.2.2.2.2.2.2.2.1
theorem dX3_shelfCut_148 : decode cX3_shelfCut 148 = .ok (.if_icmp .ne 7, 3) := fx_ok (d := 128) (i := 20) fDX3_shelfCut_2 eX3_shelfCut_121.2.2.2.2.2.2.2.2.2.2.2.2.2.2.1
theorem dX3_shelfCut_151 : decode cX3_shelfCut 151 = .ok (.iconst 1, 1) := fx_ok (d := 128) (i := 23) fDX3_shelfCut_2 eX3_shelfCut_121.2.2.2.2.2.2.2.2.2.2.2.2.2.2.2
theorem eX3_shelfCut_152 : (fdecl fTX3_shelfCut_2 24 = some (.goto 4, 3)) ∧ (fdecl fTX3_shelfCut_2 27 = some (.iconst 0, 1)) ∧ (fdecl fTX3_shelfCut_2 28 = some (.invokevirtual 229, 3)) ∧ (fdecl fTX3_shelfCut_2 31 = some (.ireturn, 1)) := by decide +kernel
theorem dX3_shelfCut_152 : decode cX3_shelfCut 152 = .ok (.goto 4, 3) := fx_ok (d := 128) (i := 24) fDX3_shelfCut_2 eX3_shelfCut_152.1
theorem dX3_shelfCut_155 : decode cX3_shelfCut 155 = .ok (.iconst 0, 1) := fx_ok (d := 128) (i := 27) fDX3_shelfCut_2 eX3_shelfCut_152.2.1
theorem dX3_shelfCut_156 : decode cX3_shelfCut 156 = .ok (.invokevirtual 229, 3) := fx_ok (d := 128) (i := 28) fDX3_shelfCut_2 eX3_shelfCut_152.2.2.1
theorem dX3_shelfCut_159 : decode cX3_shelfCut 159 = .ok (.ireturn, 1) := fx_ok (d := 128) (i := 31) fDX3_shelfCut_2 eX3_shelfCut_152.2.2.2
theorem eX3_shelfNear_0 : (fdecl cX3_shelfNear.data.toList 0 = some (.aload_n 0, 1)) ∧ (fdecl cX3_shelfNear.data.toList 1 = some (.iload_n 1, 1)) ∧ (fdecl cX3_shelfNear.data.toList 2 = some (.invokevirtual 216, 3)) ∧ (fdecl cX3_shelfNear.data.toList 5 = some (.astore 4, 2)) ∧ (fdecl cX3_shelfNear.data.toList 7 = some (.iload_n 2, 1)) ∧ (fdecl cX3_shelfNear.data.toList 8 = some (.invokestatic 60, 3)) ∧ (fdecl cX3_shelfNear.data.toList 11 = some (.iload_n 3, 1)) ∧ (fdecl cX3_shelfNear.data.toList 12 = some (.iconst 4, 1)) ∧ (fdecl cX3_shelfNear.data.toList 13 = some (.invokestatic 41, 3)) ∧ (fdecl cX3_shelfNear.data.toList 16 = some (.aload 4, 2)) ∧ (fdecl cX3_shelfNear.data.toList 18 = some (.aload 4, 2)) ∧ (fdecl cX3_shelfNear.data.toList 20 = some (.iconst 0, 1)) ∧ (fdecl cX3_shelfNear.data.toList 21 = some (.bipush 99, 2)) ∧ (fdecl cX3_shelfNear.data.toList 23 = some (.iload_n 2, 1)) ∧ (fdecl cX3_shelfNear.data.toList 24 = some (.iload_n 3, 1)) ∧ (fdecl cX3_shelfNear.data.toList 25 = some (.invokevirtual 126, 3)) := by decide +kernel
theorem dX3_shelfNear_0 : decode cX3_shelfNear 0 = .ok (.aload_n 0, 1) := fx_ok0 eX3_shelfNear_0.1
theorem dX3_shelfNear_1 : decode cX3_shelfNear 1 = .ok (.iload_n 1, 1) := fx_ok0 eX3_shelfNear_0.2.1
theorem dX3_shelfNear_2 : decode cX3_shelfNear 2 = .ok (.invokevirtual 216, 3) := fx_ok0 eX3_shelfNear_0.2.2.1
theorem dX3_shelfNear_5 : decode cX3_shelfNear 5 = .ok (.astore 4, 2) := fx_ok0 eX3_shelfNear_0.2.2.2.1
theorem dX3_shelfNear_7 : decode cX3_shelfNear 7 = .ok (.iload_n 2, 1) := fx_ok0 eX3_shelfNear_0.2.2.2.2.1
theorem dX3_shelfNear_8 : decode cX3_shelfNear 8 = .ok (.invokestatic 60, 3) := fx_ok0 eX3_shelfNear_0.2.2.2.2.2.1
theorem dX3_shelfNear_11 : decode cX3_shelfNear 11 = .ok (.iload_n 3, 1) := fx_ok0 eX3_shelfNear_0.2.2.2.2.2.2.1
theorem dX3_shelfNear_12 : decode cX3_shelfNear 12 = .ok (.iconst 4, 1) := fx_ok0 eX3_shelfNear_0.2.2.2.2.2.2.2.1
theorem dX3_shelfNear_13 : decode cX3_shelfNear 13 = .ok (.invokestatic 41, 3) := fx_ok0 eX3_shelfNear_0.2.2.2.2.2.2.2.2.1
theorem dX3_shelfNear_16 : decode cX3_shelfNear 16 = .ok (.aload 4, 2) := fx_ok0 eX3_shelfNear_0.2.2.2.2.2.2.2.2.2.1
theorem dX3_shelfNear_18 : decode cX3_shelfNear 18 = .ok (.aload 4, 2) := fx_ok0 eX3_shelfNear_0.2.2.2.2.2.2.2.2.2.2.1
theorem dX3_shelfNear_20 : decode cX3_shelfNear 20 = .ok (.iconst 0, 1) := fx_ok0 eX3_shelfNear_0.2.2.2.2.2.2.2.2.2.2.2.1
theorem dX3_shelfNear_21 : decode cX3_shelfNear 21 = .ok (.bipush 99, 2) := fx_ok0 eX3_shelfNear_0.2.2.2.2.2.2.2.2.2.2.2.2.1
theorem dX3_shelfNear_23 : decode cX3_shelfNear 23 = .ok (.iload_n 2, 1) := fx_ok0 eX3_shelfNear_0.2.2.2.2.2.2.2.2.2.2.2.2.2.1
theorem dX3_shelfNear_24 : decode cX3_shelfNear 24 = .ok (.iload_n 3, 1) := fx_ok0 eX3_shelfNear_0.2.2.2.2.2.2.2.2.2.2.2.2.2.2.1
theorem dX3_shelfNear_25 : decode cX3_shelfNear 25 = .ok (.invokevirtual 126, 3) := fx_ok0 eX3_shelfNear_0.2.2.2.2.2.2.2.2.2.2.2.2.2.2.2
theorem eX3_shelfNear_28 : (fdecl cX3_shelfNear.data.toList 28 = some (.invokevirtual 132, 3)) ∧ (fdecl cX3_shelfNear.data.toList 31 = some (.ireturn, 1)) := by decide +kernel
theorem dX3_shelfNear_28 : decode cX3_shelfNear 28 = .ok (.invokevirtual 132, 3) := fx_ok0 eX3_shelfNear_28.1
theorem dX3_shelfNear_31 : decode cX3_shelfNear 31 = .ok (.ireturn, 1) := fx_ok0 eX3_shelfNear_28.2
theorem eX3_shelfTell_0 : (fdecl cX3_shelfTell.data.toList 0 = some (.aload_n 0, 1)) ∧ (fdecl cX3_shelfTell.data.toList 1 = some (.iload_n 1, 1)) ∧ (fdecl cX3_shelfTell.data.toList 2 = some (.invokevirtual 216, 3)) ∧ (fdecl cX3_shelfTell.data.toList 5 = some (.astore_n 3, 1)) ∧ (fdecl cX3_shelfTell.data.toList 6 = some (.iload_n 2, 1)) ∧ (fdecl cX3_shelfTell.data.toList 7 = some (.iconst 4, 1)) ∧ (fdecl cX3_shelfTell.data.toList 8 = some (.invokestatic 41, 3)) ∧ (fdecl cX3_shelfTell.data.toList 11 = some (.iload_n 2, 1)) ∧ (fdecl cX3_shelfTell.data.toList 12 = some (.iconst 2, 1)) ∧ (fdecl cX3_shelfTell.data.toList 13 = some (.if_icmp .gt 9, 3)) ∧ (fdecl cX3_shelfTell.data.toList 16 = some (.aload_n 3, 1)) ∧ (fdecl cX3_shelfTell.data.toList 17 = some (.iload_n 2, 1)) ∧ (fdecl cX3_shelfTell.data.toList 18 = some (.invokestatic 232, 3)) ∧ (fdecl cX3_shelfTell.data.toList 21 = some (.ireturn, 1)) ∧ (fdecl cX3_shelfTell.data.toList 22 = some (.aload_n 0, 1)) ∧ (fdecl cX3_shelfTell.data.toList 23 = some (.aload_n 3, 1)) := by decide +kernel
theorem dX3_shelfTell_0 : decode cX3_shelfTell 0 = .ok (.aload_n 0, 1) := fx_ok0 eX3_shelfTell_0.1
theorem dX3_shelfTell_1 : decode cX3_shelfTell 1 = .ok (.iload_n 1, 1) := fx_ok0 eX3_shelfTell_0.2.1
theorem dX3_shelfTell_2 : decode cX3_shelfTell 2 = .ok (.invokevirtual 216, 3) := fx_ok0 eX3_shelfTell_0.2.2.1
theorem dX3_shelfTell_5 : decode cX3_shelfTell 5 = .ok (.astore_n 3, 1) := fx_ok0 eX3_shelfTell_0.2.2.2.1
theorem dX3_shelfTell_6 : decode cX3_shelfTell 6 = .ok (.iload_n 2, 1) := fx_ok0 eX3_shelfTell_0.2.2.2.2.1
theorem dX3_shelfTell_7 : decode cX3_shelfTell 7 = .ok (.iconst 4, 1) := fx_ok0 eX3_shelfTell_0.2.2.2.2.2.1
theorem dX3_shelfTell_8 : decode cX3_shelfTell 8 = .ok (.invokestatic 41, 3) := fx_ok0 eX3_shelfTell_0.2.2.2.2.2.2.1
theorem dX3_shelfTell_11 : decode cX3_shelfTell 11 = .ok (.iload_n 2, 1) := fx_ok0 eX3_shelfTell_0.2.2.2.2.2.2.2.1
theorem dX3_shelfTell_12 : decode cX3_shelfTell 12 = .ok (.iconst 2, 1) := fx_ok0 eX3_shelfTell_0.2.2.2.2.2.2.2.2.1
theorem dX3_shelfTell_13 : decode cX3_shelfTell 13 = .ok (.if_icmp .gt 9, 3) := fx_ok0 eX3_shelfTell_0.2.2.2.2.2.2.2.2.2.1
theorem dX3_shelfTell_16 : decode cX3_shelfTell 16 = .ok (.aload_n 3, 1) := fx_ok0 eX3_shelfTell_0.2.2.2.2.2.2.2.2.2.2.1
theorem dX3_shelfTell_17 : decode cX3_shelfTell 17 = .ok (.iload_n 2, 1) := fx_ok0 eX3_shelfTell_0.2.2.2.2.2.2.2.2.2.2.2.1
theorem dX3_shelfTell_18 : decode cX3_shelfTell 18 = .ok (.invokestatic 232, 3) := fx_ok0 eX3_shelfTell_0.2.2.2.2.2.2.2.2.2.2.2.2.1
theorem dX3_shelfTell_21 : decode cX3_shelfTell 21 = .ok (.ireturn, 1) := fx_ok0 eX3_shelfTell_0.2.2.2.2.2.2.2.2.2.2.2.2.2.1
theorem dX3_shelfTell_22 : decode cX3_shelfTell 22 = .ok (.aload_n 0, 1) := fx_ok0 eX3_shelfTell_0.2.2.2.2.2.2.2.2.2.2.2.2.2.2.1
theorem dX3_shelfTell_23 : decode cX3_shelfTell 23 = .ok (.aload_n 3, 1) := fx_ok0 eX3_shelfTell_0.2.2.2.2.2.2.2.2.2.2.2.2.2.2.2
theorem eX3_shelfTell_24 : (fdecl cX3_shelfTell.data.toList 24 = some (.aload_n 3, 1)) ∧ (fdecl cX3_shelfTell.data.toList 25 = some (.iconst 0, 1)) ∧ (fdecl cX3_shelfTell.data.toList 26 = some (.bipush 99, 2)) ∧ (fdecl cX3_shelfTell.data.toList 28 = some (.iload_n 2, 1)) ∧ (fdecl cX3_shelfTell.data.toList 29 = some (.iconst 4, 1)) ∧ (fdecl cX3_shelfTell.data.toList 30 = some (.if_icmp .ne 7, 3)) ∧ (fdecl cX3_shelfTell.data.toList 33 = some (.iconst 1, 1)) ∧ (fdecl cX3_shelfTell.data.toList 34 = some (.goto 4, 3)) ∧ (fdecl cX3_shelfTell.data.toList 37 = some (.iconst 0, 1)) ∧ (fdecl cX3_shelfTell.data.toList 38 = some (.invokevirtual 135, 3)) ∧ (fdecl cX3_shelfTell.data.toList 41 = some (.invokevirtual 139, 3)) ∧ (fdecl cX3_shelfTell.data.toList 44 = some (.ireturn, 1)) := by decide +kernel
theorem dX3_shelfTell_24 : decode cX3_shelfTell 24 = .ok (.aload_n 3, 1) := fx_ok0 eX3_shelfTell_24.1
theorem dX3_shelfTell_25 : decode cX3_shelfTell 25 = .ok (.iconst 0, 1) := fx_ok0 eX3_shelfTell_24.2.1
theorem dX3_shelfTell_26 : decode cX3_shelfTell 26 = .ok (.bipush 99, 2) := fx_ok0 eX3_shelfTell_24.2.2.1
theorem dX3_shelfTell_28 : decode cX3_shelfTell 28 = .ok (.iload_n 2, 1) := fx_ok0 eX3_shelfTell_24.2.2.2.1
theorem dX3_shelfTell_29 : decode cX3_shelfTell 29 = .ok (.iconst 4, 1) := fx_ok0 eX3_shelfTell_24.2.2.2.2.1
theorem dX3_shelfTell_30 : decode cX3_shelfTell 30 = .ok (.if_icmp .ne 7, 3) := fx_ok0 eX3_shelfTell_24.2.2.2.2.2.1
theorem dX3_shelfTell_33 : decode cX3_shelfTell 33 = .ok (.iconst 1, 1) := fx_ok0 eX3_shelfTell_24.2.2.2.2.2.2.1
theorem dX3_shelfTell_34 : decode cX3_shelfTell 34 = .ok (.goto 4, 3) := fx_ok0 eX3_shelfTell_24.2.2.2.2.2.2.2.1
theorem dX3_shelfTell_37 : decode cX3_shelfTell 37 = .ok (.iconst 0, 1) := fx_ok0 eX3_shelfTell_24.2.2.2.2.2.2.2.2.1
theorem dX3_shelfTell_38 : decode cX3_shelfTell 38 = .ok (.invokevirtual 135, 3) := fx_ok0 eX3_shelfTell_24.2.2.2.2.2.2.2.2.2.1
theorem dX3_shelfTell_41 : decode cX3_shelfTell 41 = .ok (.invokevirtual 139, 3) := fx_ok0 eX3_shelfTell_24.2.2.2.2.2.2.2.2.2.2.1
theorem dX3_shelfTell_44 : decode cX3_shelfTell 44 = .ok (.ireturn, 1) := fx_ok0 eX3_shelfTell_24.2.2.2.2.2.2.2.2.2.2.2
theorem eX3_sameShelves_0 : (fdecl cX3_sameShelves.data.toList 0 = some (.aload_n 0, 1)) ∧ (fdecl cX3_sameShelves.data.toList 1 = some (.iload_n 1, 1)) ∧ (fdecl cX3_sameShelves.data.toList 2 = some (.invokevirtual 216, 3)) ∧ (fdecl cX3_sameShelves.data.toList 5 = some (.astore 4, 2)) ∧ (fdecl cX3_sameShelves.data.toList 7 = some (.aload_n 0, 1)) ∧ (fdecl cX3_sameShelves.data.toList 8 = some (.iload_n 2, 1)) ∧ (fdecl cX3_sameShelves.data.toList 9 = some (.invokevirtual 216, 3)) ∧ (fdecl cX3_sameShelves.data.toList 12 = some (.astore 5, 2)) ∧ (fdecl cX3_sameShelves.data.toList 14 = some (.iload_n 3, 1)) ∧ (fdecl cX3_sameShelves.data.toList 15 = some (.iconst 1, 1)) ∧ (fdecl cX3_sameShelves.data.toList 16 = some (.invokestatic 41, 3)) ∧ (fdecl cX3_sameShelves.data.toList 19 = some (.iload_n 3, 1)) ∧ (fdecl cX3_sameShelves.data.toList 20 = some (.ifCond .ne 13, 3)) ∧ (fdecl cX3_sameShelves.data.toList 23 = some (.aload 4, 2)) ∧ (fdecl cX3_sameShelves.data.toList 25 = some (.aload 5, 2)) ∧ (fdecl cX3_sameShelves.data.toList 27 = some (.invokevirtual 167, 3)) := by decide +kernel
theorem dX3_sameShelves_0 : decode cX3_sameShelves 0 = .ok (.aload_n 0, 1) := fx_ok0 eX3_sameShelves_0.1
theorem dX3_sameShelves_1 : decode cX3_sameShelves 1 = .ok (.iload_n 1, 1) := fx_ok0 eX3_sameShelves_0.2.1
theorem dX3_sameShelves_2 : decode cX3_sameShelves 2 = .ok (.invokevirtual 216, 3) := fx_ok0 eX3_sameShelves_0.2.2.1
theorem dX3_sameShelves_5 : decode cX3_sameShelves 5 = .ok (.astore 4, 2) := fx_ok0 eX3_sameShelves_0.2.2.2.1
theorem dX3_sameShelves_7 : decode cX3_sameShelves 7 = .ok (.aload_n 0, 1) := fx_ok0 eX3_sameShelves_0.2.2.2.2.1
theorem dX3_sameShelves_8 : decode cX3_sameShelves 8 = .ok (.iload_n 2, 1) := fx_ok0 eX3_sameShelves_0.2.2.2.2.2.1
theorem dX3_sameShelves_9 : decode cX3_sameShelves 9 = .ok (.invokevirtual 216, 3) := fx_ok0 eX3_sameShelves_0.2.2.2.2.2.2.1
theorem dX3_sameShelves_12 : decode cX3_sameShelves 12 = .ok (.astore 5, 2) := fx_ok0 eX3_sameShelves_0.2.2.2.2.2.2.2.1
theorem dX3_sameShelves_14 : decode cX3_sameShelves 14 = .ok (.iload_n 3, 1) := fx_ok0 eX3_sameShelves_0.2.2.2.2.2.2.2.2.1
theorem dX3_sameShelves_15 : decode cX3_sameShelves 15 = .ok (.iconst 1, 1) := fx_ok0 eX3_sameShelves_0.2.2.2.2.2.2.2.2.2.1
theorem dX3_sameShelves_16 : decode cX3_sameShelves 16 = .ok (.invokestatic 41, 3) := fx_ok0 eX3_sameShelves_0.2.2.2.2.2.2.2.2.2.2.1
theorem dX3_sameShelves_19 : decode cX3_sameShelves 19 = .ok (.iload_n 3, 1) := fx_ok0 eX3_sameShelves_0.2.2.2.2.2.2.2.2.2.2.2.1
theorem dX3_sameShelves_20 : decode cX3_sameShelves 20 = .ok (.ifCond .ne 13, 3) := fx_ok0 eX3_sameShelves_0.2.2.2.2.2.2.2.2.2.2.2.2.1
theorem dX3_sameShelves_23 : decode cX3_sameShelves 23 = .ok (.aload 4, 2) := fx_ok0 eX3_sameShelves_0.2.2.2.2.2.2.2.2.2.2.2.2.2.1
theorem dX3_sameShelves_25 : decode cX3_sameShelves 25 = .ok (.aload 5, 2) := fx_ok0 eX3_sameShelves_0.2.2.2.2.2.2.2.2.2.2.2.2.2.2.1
theorem dX3_sameShelves_27 : decode cX3_sameShelves 27 = .ok (.invokevirtual 167, 3) := fx_ok0 eX3_sameShelves_0.2.2.2.2.2.2.2.2.2.2.2.2.2.2.2
theorem eX3_sameShelves_30 : (fdecl cX3_sameShelves.data.toList 30 = some (.goto 10, 3)) ∧ (fdecl cX3_sameShelves.data.toList 33 = some (.aload 4, 2)) ∧ (fdecl cX3_sameShelves.data.toList 35 = some (.aload 5, 2)) ∧ (fdecl cX3_sameShelves.data.toList 37 = some (.invokevirtual 235, 3)) ∧ (fdecl cX3_sameShelves.data.toList 40 = some (.ireturn, 1)) := by decide +kernel
theorem dX3_sameShelves_30 : decode cX3_sameShelves 30 = .ok (.goto 10, 3) := fx_ok0 eX3_sameShelves_30.1
theorem dX3_sameShelves_33 : decode cX3_sameShelves 33 = .ok (.aload 4, 2) := fx_ok0 eX3_sameShelves_30.2.1
theorem dX3_sameShelves_35 : decode cX3_sameShelves 35 = .ok (.aload 5, 2) := fx_ok0 eX3_sameShelves_30.2.2.1
theorem dX3_sameShelves_37 : decode cX3_sameShelves 37 = .ok (.invokevirtual 235, 3) := fx_ok0 eX3_sameShelves_30.2.2.2.1
theorem dX3_sameShelves_40 : decode cX3_sameShelves 40 = .ok (.ireturn, 1) := fx_ok0 eX3_sameShelves_30.2.2.2.2
theorem eX3_house_0 : (fdecl cX3_house.data.toList 0 = some (.iload_n 1, 1)) ∧ (fdecl cX3_house.data.toList 1 = some (.iconst 3, 1)) ∧ (fdecl cX3_house.data.toList 2 = some (.invokestatic 41, 3)) ∧ (fdecl cX3_house.data.toList 5 = some (.aload_n 0, 1)) ∧ (fdecl cX3_house.data.toList 6 = some (.iload_n 1, 1)) ∧ (fdecl cX3_house.data.toList 7 = some (.invokevirtual 238, 3)) ∧ (fdecl cX3_house.data.toList 10 = some (.ireturn, 1)) := by decide +kernel
theorem dX3_house_0 : decode cX3_house 0 = .ok (.iload_n 1, 1) := fx_ok0 eX3_house_0.1
theorem dX3_house_1 : decode cX3_house 1 = .ok (.iconst 3, 1) := fx_ok0 eX3_house_0.2.1
theorem dX3_house_2 : decode cX3_house 2 = .ok (.invokestatic 41, 3) := fx_ok0 eX3_house_0.2.2.1
theorem dX3_house_5 : decode cX3_house 5 = .ok (.aload_n 0, 1) := fx_ok0 eX3_house_0.2.2.2.1
theorem dX3_house_6 : decode cX3_house 6 = .ok (.iload_n 1, 1) := fx_ok0 eX3_house_0.2.2.2.2.1
theorem dX3_house_7 : decode cX3_house 7 = .ok (.invokevirtual 238, 3) := fx_ok0 eX3_house_0.2.2.2.2.2.1
theorem dX3_house_10 : decode cX3_house 10 = .ok (.ireturn, 1) := fx_ok0 eX3_house_0.2.2.2.2.2.2
theorem eX3_knock_0 : (fdecl cX3_knock.data.toList 0 = some (.aload_n 0, 1)) ∧ (fdecl cX3_knock.data.toList 1 = some (.dup, 1)) ∧ (fdecl cX3_knock.data.toList 2 = some (.getfield 241, 3)) ∧ (fdecl cX3_knock.data.toList 5 = some (.iconst 1, 1)) ∧ (fdecl cX3_knock.data.toList 6 = some (.iadd, 1)) ∧ (fdecl cX3_knock.data.toList 7 = some (.putfield 241, 3)) ∧ (fdecl cX3_knock.data.toList 10 = some (.aload_n 0, 1)) ∧ (fdecl cX3_knock.data.toList 11 = some (.getfield 241, 3)) ∧ (fdecl cX3_knock.data.toList 14 = some (.ireturn, 1)) := by decide +kernel
theorem dX3_knock_0 : decode cX3_knock 0 = .ok (.aload_n 0, 1) := fx_ok0 eX3_knock_0.1
theorem dX3_knock_1 : decode cX3_knock 1 = .ok (.dup, 1) := fx_ok0 eX3_knock_0.2.1
theorem dX3_knock_2 : decode cX3_knock 2 = .ok (.getfield 241, 3) := fx_ok0 eX3_knock_0.2.2.1
theorem dX3_knock_5 : decode cX3_knock 5 = .ok (.iconst 1, 1) := fx_ok0 eX3_knock_0.2.2.2.1
theorem dX3_knock_6 : decode cX3_knock 6 = .ok (.iadd, 1) := fx_ok0 eX3_knock_0.2.2.2.2.1
theorem dX3_knock_7 : decode cX3_knock 7 = .ok (.putfield 241, 3) := fx_ok0 eX3_knock_0.2.2.2.2.2.1
theorem dX3_knock_10 : decode cX3_knock 10 = .ok (.aload_n 0, 1) := fx_ok0 eX3_knock_0.2.2.2.2.2.2.1
theorem dX3_knock_11 : decode cX3_knock 11 = .ok (.getfield 241, 3) := fx_ok0 eX3_knock_0.2.2.2.2.2.2.2.1
theorem dX3_knock_14 : decode cX3_knock 14 = .ok (.ireturn, 1) := fx_ok0 eX3_knock_0.2.2.2.2.2.2.2.2
theorem eX3_isSound_0 : (fdecl cX3_isSound.data.toList 0 = some (.iconst 0, 1)) ∧ (fdecl cX3_isSound.data.toList 1 = some (.istore_n 1, 1)) ∧ (fdecl cX3_isSound.data.toList 2 = some (.iload_n 1, 1)) ∧ (fdecl cX3_isSound.data.toList 3 = some (.iconst 4, 1)) ∧ (fdecl cX3_isSound.data.toList 4 = some (.if_icmp .ge 23, 3)) ∧ (fdecl cX3_isSound.data.toList 7 = some (.aload_n 0, 1)) ∧ (fdecl cX3_isSound.data.toList 8 = some (.getfield 11, 3)) ∧ (fdecl cX3_isSound.data.toList 11 = some (.iload_n 1, 1)) ∧ (fdecl cX3_isSound.data.toList 12 = some (.aaload, 1)) ∧ (fdecl cX3_isSound.data.toList 13 = some (.invokestatic 244, 3)) ∧ (fdecl cX3_isSound.data.toList 16 = some (.ifCond .ne 5, 3)) ∧ (fdecl cX3_isSound.data.toList 19 = some (.iconst 0, 1)) ∧ (fdecl cX3_isSound.data.toList 20 = some (.ireturn, 1)) ∧ (fdecl cX3_isSound.data.toList 24 = some (.goto (-22), 3)) ∧ (fdecl cX3_isSound.data.toList 27 = some (.iconst 0, 1)) ∧ (fdecl cX3_isSound.data.toList 28 = some (.istore_n 1, 1)) := by decide +kernel
theorem dX3_isSound_0 : decode cX3_isSound 0 = .ok (.iconst 0, 1) := fx_ok0 eX3_isSound_0.1
theorem dX3_isSound_1 : decode cX3_isSound 1 = .ok (.istore_n 1, 1) := fx_ok0 eX3_isSound_0.2.1
theorem dX3_isSound_2 : decode cX3_isSound 2 = .ok (.iload_n 1, 1) := fx_ok0 eX3_isSound_0.2.2.1
theorem dX3_isSound_3 : decode cX3_isSound 3 = .ok (.iconst 4, 1) := fx_ok0 eX3_isSound_0.2.2.2.1
theorem dX3_isSound_4 : decode cX3_isSound 4 = .ok (.if_icmp .ge 23, 3) := fx_ok0 eX3_isSound_0.2.2.2.2.1
theorem dX3_isSound_7 : decode cX3_isSound 7 = .ok (.aload_n 0, 1) := fx_ok0 eX3_isSound_0.2.2.2.2.2.1
theorem dX3_isSound_8 : decode cX3_isSound 8 = .ok (.getfield 11, 3) := fx_ok0 eX3_isSound_0.2.2.2.2.2.2.1
theorem dX3_isSound_11 : decode cX3_isSound 11 = .ok (.iload_n 1, 1) := fx_ok0 eX3_isSound_0.2.2.2.2.2.2.2.1
theorem dX3_isSound_12 : decode cX3_isSound 12 = .ok (.aaload, 1) := fx_ok0 eX3_isSound_0.2.2.2.2.2.2.2.2.1
theorem dX3_isSound_13 : decode cX3_isSound 13 = .ok (.invokestatic 244, 3) := fx_ok0 eX3_isSound_0.2.2.2.2.2.2.2.2.2.1
theorem dX3_isSound_16 : decode cX3_isSound 16 = .ok (.ifCond .ne 5, 3) := fx_ok0 eX3_isSound_0.2.2.2.2.2.2.2.2.2.2.1
theorem dX3_isSound_19 : decode cX3_isSound 19 = .ok (.iconst 0, 1) := fx_ok0 eX3_isSound_0.2.2.2.2.2.2.2.2.2.2.2.1
theorem dX3_isSound_20 : decode cX3_isSound 20 = .ok (.ireturn, 1) := fx_ok0 eX3_isSound_0.2.2.2.2.2.2.2.2.2.2.2.2.1
theorem dX3_isSound_24 : decode cX3_isSound 24 = .ok (.goto (-22), 3) := fx_ok0 eX3_isSound_0.2.2.2.2.2.2.2.2.2.2.2.2.2.1
theorem dX3_isSound_27 : decode cX3_isSound 27 = .ok (.iconst 0, 1) := fx_ok0 eX3_isSound_0.2.2.2.2.2.2.2.2.2.2.2.2.2.2.1
theorem dX3_isSound_28 : decode cX3_isSound 28 = .ok (.istore_n 1, 1) := fx_ok0 eX3_isSound_0.2.2.2.2.2.2.2.2.2.2.2.2.2.2.2
theorem eX3_isSound_29 : (fdecl cX3_isSound.data.toList 29 = some (.iload_n 1, 1)) ∧ (fdecl cX3_isSound.data.toList 30 = some (.iconst 3, 1)) ∧ (fdecl cX3_isSound.data.toList 31 = some (.if_icmp .ge 23, 3)) ∧ (fdecl cX3_isSound.data.toList 34 = some (.aload_n 0, 1)) ∧ (fdecl cX3_isSound.data.toList 35 = some (.getfield 18, 3)) ∧ (fdecl cX3_isSound.data.toList 38 = some (.iload_n 1, 1)) ∧ (fdecl cX3_isSound.data.toList 39 = some (.aaload, 1)) ∧ (fdecl cX3_isSound.data.toList 40 = some (.invokestatic 244, 3)) ∧ (fdecl cX3_isSound.data.toList 43 = some (.ifCond .ne 5, 3)) ∧ (fdecl cX3_isSound.data.toList 46 = some (.iconst 0, 1)) ∧ (fdecl cX3_isSound.data.toList 47 = some (.ireturn, 1)) ∧ (fdecl cX3_isSound.data.toList 51 = some (.goto (-22), 3)) ∧ (fdecl cX3_isSound.data.toList 54 = some (.iconst 0, 1)) ∧ (fdecl cX3_isSound.data.toList 55 = some (.istore_n 1, 1)) ∧ (fdecl cX3_isSound.data.toList 56 = some (.iload_n 1, 1)) ∧ (fdecl cX3_isSound.data.toList 57 = some (.iconst 2, 1)) := by decide +kernel
theorem dX3_isSound_29 : decode cX3_isSound 29 = .ok (.iload_n 1, 1) := fx_ok0 eX3_isSound_29.1
theorem dX3_isSound_30 : decode cX3_isSound 30 = .ok (.iconst 3, 1) := fx_ok0 eX3_isSound_29.2.1
theorem dX3_isSound_31 : decode cX3_isSound 31 = .ok (.if_icmp .ge 23, 3) := fx_ok0 eX3_isSound_29.2.2.1
theorem dX3_isSound_34 : decode cX3_isSound 34 = .ok (.aload_n 0, 1) := fx_ok0 eX3_isSound_29.2.2.2.1
theorem dX3_isSound_35 : decode cX3_isSound 35 = .ok (.getfield 18, 3) := fx_ok0 eX3_isSound_29.2.2.2.2.1
theorem dX3_isSound_38 : decode cX3_isSound 38 = .ok (.iload_n 1, 1) := fx_ok0 eX3_isSound_29.2.2.2.2.2.1
theorem dX3_isSound_39 : decode cX3_isSound 39 = .ok (.aaload, 1) := fx_ok0 eX3_isSound_29.2.2.2.2.2.2.1
theorem dX3_isSound_40 : decode cX3_isSound 40 = .ok (.invokestatic 244, 3) := fx_ok0 eX3_isSound_29.2.2.2.2.2.2.2.1
theorem dX3_isSound_43 : decode cX3_isSound 43 = .ok (.ifCond .ne 5, 3) := fx_ok0 eX3_isSound_29.2.2.2.2.2.2.2.2.1
theorem dX3_isSound_46 : decode cX3_isSound 46 = .ok (.iconst 0, 1) := fx_ok0 eX3_isSound_29.2.2.2.2.2.2.2.2.2.1
theorem dX3_isSound_47 : decode cX3_isSound 47 = .ok (.ireturn, 1) := fx_ok0 eX3_isSound_29.2.2.2.2.2.2.2.2.2.2.1
theorem dX3_isSound_51 : decode cX3_isSound 51 = .ok (.goto (-22), 3) := fx_ok0 eX3_isSound_29.2.2.2.2.2.2.2.2.2.2.2.1
theorem dX3_isSound_54 : decode cX3_isSound 54 = .ok (.iconst 0, 1) := fx_ok0 eX3_isSound_29.2.2.2.2.2.2.2.2.2.2.2.2.1
theorem dX3_isSound_55 : decode cX3_isSound 55 = .ok (.istore_n 1, 1) := fx_ok0 eX3_isSound_29.2.2.2.2.2.2.2.2.2.2.2.2.2.1
theorem dX3_isSound_56 : decode cX3_isSound 56 = .ok (.iload_n 1, 1) := fx_ok0 eX3_isSound_29.2.2.2.2.2.2.2.2.2.2.2.2.2.2.1
theorem dX3_isSound_57 : decode cX3_isSound 57 = .ok (.iconst 2, 1) := fx_ok0 eX3_isSound_29.2.2.2.2.2.2.2.2.2.2.2.2.2.2.2
theorem eX3_isSound_58 : (fdecl cX3_isSound.data.toList 58 = some (.if_icmp .ge 23, 3)) ∧ (fdecl cX3_isSound.data.toList 61 = some (.aload_n 0, 1)) ∧ (fdecl cX3_isSound.data.toList 62 = some (.getfield 23, 3)) ∧ (fdecl cX3_isSound.data.toList 65 = some (.iload_n 1, 1)) ∧ (fdecl cX3_isSound.data.toList 66 = some (.aaload, 1)) ∧ (fdecl cX3_isSound.data.toList 67 = some (.invokestatic 247, 3)) ∧ (fdecl cX3_isSound.data.toList 70 = some (.ifCond .ne 5, 3)) ∧ (fdecl cX3_isSound.data.toList 73 = some (.iconst 0, 1)) ∧ (fdecl cX3_isSound.data.toList 74 = some (.ireturn, 1)) ∧ (fdecl cX3_isSound.data.toList 78 = some (.goto (-22), 3)) ∧ (fdecl cX3_isSound.data.toList 81 = some (.iconst 1, 1)) ∧ (fdecl cX3_isSound.data.toList 82 = some (.ireturn, 1)) := by decide +kernel
theorem dX3_isSound_58 : decode cX3_isSound 58 = .ok (.if_icmp .ge 23, 3) := fx_ok0 eX3_isSound_58.1
theorem dX3_isSound_61 : decode cX3_isSound 61 = .ok (.aload_n 0, 1) := fx_ok0 eX3_isSound_58.2.1
theorem dX3_isSound_62 : decode cX3_isSound 62 = .ok (.getfield 23, 3) := fx_ok0 eX3_isSound_58.2.2.1
theorem dX3_isSound_65 : decode cX3_isSound 65 = .ok (.iload_n 1, 1) := fx_ok0 eX3_isSound_58.2.2.2.1
theorem dX3_isSound_66 : decode cX3_isSound 66 = .ok (.aaload, 1) := fx_ok0 eX3_isSound_58.2.2.2.2.1
theorem dX3_isSound_67 : decode cX3_isSound 67 = .ok (.invokestatic 247, 3) := fx_ok0 eX3_isSound_58.2.2.2.2.2.1
theorem dX3_isSound_70 : decode cX3_isSound 70 = .ok (.ifCond .ne 5, 3) := fx_ok0 eX3_isSound_58.2.2.2.2.2.2.1
theorem dX3_isSound_73 : decode cX3_isSound 73 = .ok (.iconst 0, 1) := fx_ok0 eX3_isSound_58.2.2.2.2.2.2.2.1
theorem dX3_isSound_74 : decode cX3_isSound 74 = .ok (.ireturn, 1) := fx_ok0 eX3_isSound_58.2.2.2.2.2.2.2.2.1
theorem dX3_isSound_78 : decode cX3_isSound 78 = .ok (.goto (-22), 3) := fx_ok0 eX3_isSound_58.2.2.2.2.2.2.2.2.2.1
theorem dX3_isSound_81 : decode cX3_isSound 81 = .ok (.iconst 1, 1) := fx_ok0 eX3_isSound_58.2.2.2.2.2.2.2.2.2.2.1
theorem dX3_isSound_82 : decode cX3_isSound 82 = .ok (.ireturn, 1) := fx_ok0 eX3_isSound_58.2.2.2.2.2.2.2.2.2.2.2
theorem dX3_isSound_21 : decode cX3_isSound 21 = .ok (.iinc 1 1, 3) := by decide +kernel
theorem dX3_isSound_48 : decode cX3_isSound 48 = .ok (.iinc 1 1, 3) := by decide +kernel
theorem dX3_isSound_75 : decode cX3_isSound 75 = .ok (.iinc 1 1, 3) := by decide +kernel
def fAX3_digest_0 : List UInt8 := [20, 0, 251, 64, 3, 62, 29, 7, 162, 0, 20, 31, 42, 180, 0, 11, 29, 50, 184, 0, 253, 64, 132, 3, 1, 167, 255, 237, 3, 62, 29, 5, 162, 0, 20, 31, 42, 180, 0, 23, 29, 50, 184, 1, 1, 64, 132, 3, 1, 167, 255, 237, 31, 42, 180, 0, 33, 182, 0, 200, 153, 0, 7, 4]
def fAX3_digest_1 : List UInt8 := [167, 0, 4, 3, 184, 1, 5, 64, 31, 42, 180, 0, 33, 182, 1, 9, 184, 1, 5, 64, 3, 62, 29, 6, 162, 0, 20, 31, 42, 180, 0, 18, 29, 50, 184, 1, 12, 64, 132, 3, 1, 167, 255, 237, 3, 62, 29, 6, 163, 0, 19, 31, 42, 29, 182, 0, 238, 184, 1, 5, 64, 132, 3, 1]
def fAX3_digest_2 : List UInt8 := [167, 255, 238, 31, 42, 182, 1, 15, 153, 0, 7, 4, 167, 0, 4, 3, 184, 1, 5, 173]
def fTX3_digest_2 : List UInt8 := fAX3_digest_2
def fTX3_digest_1 : List UInt8 := fAX3_digest_1 ++ fTX3_digest_2
def fTX3_digest_0 : List UInt8 := fAX3_digest_0 ++ fTX3_digest_1
theorem fDX3_digest_0 : cX3_digest.data.toList.drop 0 = fTX3_digest_0 := eq_of_beq (by decide +kernel)
theorem fDX3_digest_1 : cX3_digest.data.toList.drop 64 = fTX3_digest_1 := fx_nx (d := 0) (n := 64) (a := fAX3_digest_0) fDX3_digest_0 rfl
theorem fDX3_digest_2 : cX3_digest.data.toList.drop 128 = fTX3_digest_2 := fx_nx (d := 64) (n := 64) (a := fAX3_digest_1) fDX3_digest_1 rfl
theorem eX3_digest_0 : (fdecl fTX3_digest_0 0 = some (.ldc2_w 251, 3)) ∧ (fdecl fTX3_digest_0 3 = some (.lstore_n 1, 1)) ∧ (fdecl fTX3_digest_0 4 = some (.iconst 0, 1)) ∧ (fdecl fTX3_digest_0 5 = some (.istore_n 3, 1)) ∧ (fdecl fTX3_digest_0 6 = some (.iload_n 3, 1)) ∧ (fdecl fTX3_digest_0 7 = some (.iconst 4, 1)) ∧ (fdecl fTX3_digest_0 8 = some (.if_icmp .ge 20, 3)) ∧ (fdecl fTX3_digest_0 11 = some (.lload_n 1, 1)) ∧ (fdecl fTX3_digest_0 12 = some (.aload_n 0, 1)) ∧ (fdecl fTX3_digest_0 13 = some (.getfield 11, 3)) ∧ (fdecl fTX3_digest_0 16 = some (.iload_n 3, 1)) ∧ (fdecl fTX3_digest_0 17 = some (.aaload, 1)) ∧ (fdecl fTX3_digest_0 18 = some (.invokestatic 253, 3)) ∧ (fdecl fTX3_digest_0 21 = some (.lstore_n 1, 1)) ∧ (fdecl fTX3_digest_0 25 = some (.goto (-19), 3)) ∧ (fdecl fTX3_digest_0 28 = some (.iconst 0, 1)) := by decide +kernel
theorem dX3_digest_0 : decode cX3_digest 0 = .ok (.ldc2_w 251, 3) := fx_ok (d := 0) (i := 0) fDX3_digest_0 eX3_digest_0.1
theorem dX3_digest_3 : decode cX3_digest 3 = .ok (.lstore_n 1, 1) := fx_ok (d := 0) (i := 3) fDX3_digest_0 eX3_digest_0.2.1
theorem dX3_digest_4 : decode cX3_digest 4 = .ok (.iconst 0, 1) := fx_ok (d := 0) (i := 4) fDX3_digest_0 eX3_digest_0.2.2.1
theorem dX3_digest_5 : decode cX3_digest 5 = .ok (.istore_n 3, 1) := fx_ok (d := 0) (i := 5) fDX3_digest_0 eX3_digest_0.2.2.2.1
theorem dX3_digest_6 : decode cX3_digest 6 = .ok (.iload_n 3, 1) := fx_ok (d := 0) (i := 6) fDX3_digest_0 eX3_digest_0.2.2.2.2.1
theorem dX3_digest_7 : decode cX3_digest 7 = .ok (.iconst 4, 1) := fx_ok (d := 0) (i := 7) fDX3_digest_0 eX3_digest_0.2.2.2.2.2.1
theorem dX3_digest_8 : decode cX3_digest 8 = .ok (.if_icmp .ge 20, 3) := fx_ok (d := 0) (i := 8) fDX3_digest_0 eX3_digest_0.2.2.2.2.2.2.1
theorem dX3_digest_11 : decode cX3_digest 11 = .ok (.lload_n 1, 1) := fx_ok (d := 0) (i := 11) fDX3_digest_0 eX3_digest_0.2.2.2.2.2.2.2.1
theorem dX3_digest_12 : decode cX3_digest 12 = .ok (.aload_n 0, 1) := fx_ok (d := 0) (i := 12) fDX3_digest_0 eX3_digest_0.2.2.2.2.2.2.2.2.1
theorem dX3_digest_13 : decode cX3_digest 13 = .ok (.getfield 11, 3) := fx_ok (d := 0) (i := 13) fDX3_digest_0 eX3_digest_0.2.2.2.2.2.2.2.2.2.1
theorem dX3_digest_16 : decode cX3_digest 16 = .ok (.iload_n 3, 1) := fx_ok (d := 0) (i := 16) fDX3_digest_0 eX3_digest_0.2.2.2.2.2.2.2.2.2.2.1
theorem dX3_digest_17 : decode cX3_digest 17 = .ok (.aaload, 1) := fx_ok (d := 0) (i := 17) fDX3_digest_0 eX3_digest_0.2.2.2.2.2.2.2.2.2.2.2.1
theorem dX3_digest_18 : decode cX3_digest 18 = .ok (.invokestatic 253, 3) := fx_ok (d := 0) (i := 18) fDX3_digest_0 eX3_digest_0.2.2.2.2.2.2.2.2.2.2.2.2.1
theorem dX3_digest_21 : decode cX3_digest 21 = .ok (.lstore_n 1, 1) := fx_ok (d := 0) (i := 21) fDX3_digest_0 eX3_digest_0.2.2.2.2.2.2.2.2.2.2.2.2.2.1
theorem dX3_digest_25 : decode cX3_digest 25 = .ok (.goto (-19), 3) := fx_ok (d := 0) (i := 25) fDX3_digest_0 eX3_digest_0.2.2.2.2.2.2.2.2.2.2.2.2.2.2.1
theorem dX3_digest_28 : decode cX3_digest 28 = .ok (.iconst 0, 1) := fx_ok (d := 0) (i := 28) fDX3_digest_0 eX3_digest_0.2.2.2.2.2.2.2.2.2.2.2.2.2.2.2
theorem eX3_digest_29 : (fdecl fTX3_digest_0 29 = some (.istore_n 3, 1)) ∧ (fdecl fTX3_digest_0 30 = some (.iload_n 3, 1)) ∧ (fdecl fTX3_digest_0 31 = some (.iconst 2, 1)) ∧ (fdecl fTX3_digest_0 32 = some (.if_icmp .ge 20, 3)) ∧ (fdecl fTX3_digest_0 35 = some (.lload_n 1, 1)) ∧ (fdecl fTX3_digest_0 36 = some (.aload_n 0, 1)) ∧ (fdecl fTX3_digest_0 37 = some (.getfield 23, 3)) ∧ (fdecl fTX3_digest_0 40 = some (.iload_n 3, 1)) ∧ (fdecl fTX3_digest_0 41 = some (.aaload, 1)) ∧ (fdecl fTX3_digest_0 42 = some (.invokestatic 257, 3)) ∧ (fdecl fTX3_digest_0 45 = some (.lstore_n 1, 1)) ∧ (fdecl fTX3_digest_0 49 = some (.goto (-19), 3)) ∧ (fdecl fTX3_digest_0 52 = some (.lload_n 1, 1)) ∧ (fdecl fTX3_digest_0 53 = some (.aload_n 0, 1)) ∧ (fdecl fTX3_digest_0 54 = some (.getfield 33, 3)) ∧ (fdecl fTX3_digest_0 57 = some (.invokevirtual 200, 3)) := by decide +kernel
theorem dX3_digest_29 : decode cX3_digest 29 = .ok (.istore_n 3, 1) := fx_ok (d := 0) (i := 29) fDX3_digest_0 eX3_digest_29.1
theorem dX3_digest_30 : decode cX3_digest 30 = .ok (.iload_n 3, 1) := fx_ok (d := 0) (i := 30) fDX3_digest_0 eX3_digest_29.2.1
theorem dX3_digest_31 : decode cX3_digest 31 = .ok (.iconst 2, 1) := fx_ok (d := 0) (i := 31) fDX3_digest_0 eX3_digest_29.2.2.1
theorem dX3_digest_32 : decode cX3_digest 32 = .ok (.if_icmp .ge 20, 3) := fx_ok (d := 0) (i := 32) fDX3_digest_0 eX3_digest_29.2.2.2.1
theorem dX3_digest_35 : decode cX3_digest 35 = .ok (.lload_n 1, 1) := fx_ok (d := 0) (i := 35) fDX3_digest_0 eX3_digest_29.2.2.2.2.1
theorem dX3_digest_36 : decode cX3_digest 36 = .ok (.aload_n 0, 1) := fx_ok (d := 0) (i := 36) fDX3_digest_0 eX3_digest_29.2.2.2.2.2.1
theorem dX3_digest_37 : decode cX3_digest 37 = .ok (.getfield 23, 3) := fx_ok (d := 0) (i := 37) fDX3_digest_0 eX3_digest_29.2.2.2.2.2.2.1
theorem dX3_digest_40 : decode cX3_digest 40 = .ok (.iload_n 3, 1) := fx_ok (d := 0) (i := 40) fDX3_digest_0 eX3_digest_29.2.2.2.2.2.2.2.1
theorem dX3_digest_41 : decode cX3_digest 41 = .ok (.aaload, 1) := fx_ok (d := 0) (i := 41) fDX3_digest_0 eX3_digest_29.2.2.2.2.2.2.2.2.1
theorem dX3_digest_42 : decode cX3_digest 42 = .ok (.invokestatic 257, 3) := fx_ok (d := 0) (i := 42) fDX3_digest_0 eX3_digest_29.2.2.2.2.2.2.2.2.2.1
theorem dX3_digest_45 : decode cX3_digest 45 = .ok (.lstore_n 1, 1) := fx_ok (d := 0) (i := 45) fDX3_digest_0 eX3_digest_29.2.2.2.2.2.2.2.2.2.2.1
theorem dX3_digest_49 : decode cX3_digest 49 = .ok (.goto (-19), 3) := fx_ok (d := 0) (i := 49) fDX3_digest_0 eX3_digest_29.2.2.2.2.2.2.2.2.2.2.2.1
theorem dX3_digest_52 : decode cX3_digest 52 = .ok (.lload_n 1, 1) := fx_ok (d := 0) (i := 52) fDX3_digest_0 eX3_digest_29.2.2.2.2.2.2.2.2.2.2.2.2.1
theorem dX3_digest_53 : decode cX3_digest 53 = .ok (.aload_n 0, 1) := fx_ok (d := 0) (i := 53) fDX3_digest_0 eX3_digest_29.2.2.2.2.2.2.2.2.2.2.2.2.2.1
theorem dX3_digest_54 : decode cX3_digest 54 = .ok (.getfield 33, 3) := fx_ok (d := 0) (i := 54) fDX3_digest_0 eX3_digest_29.2.2.2.2.2.2.2.2.2.2.2.2.2.2.1
theorem dX3_digest_57 : decode cX3_digest 57 = .ok (.invokevirtual 200, 3) := fx_ok (d := 0) (i := 57) fDX3_digest_0 eX3_digest_29.2.2.2.2.2.2.2.2.2.2.2.2.2.2.2
theorem eX3_digest_60 : (fdecl fTX3_digest_0 60 = some (.ifCond .eq 7, 3)) ∧ (fdecl fTX3_digest_0 63 = some (.iconst 1, 1)) ∧ (fdecl fTX3_digest_1 0 = some (.goto 4, 3)) ∧ (fdecl fTX3_digest_1 3 = some (.iconst 0, 1)) ∧ (fdecl fTX3_digest_1 4 = some (.invokestatic 261, 3)) ∧ (fdecl fTX3_digest_1 7 = some (.lstore_n 1, 1)) ∧ (fdecl fTX3_digest_1 8 = some (.lload_n 1, 1)) ∧ (fdecl fTX3_digest_1 9 = some (.aload_n 0, 1)) ∧ (fdecl fTX3_digest_1 10 = some (.getfield 33, 3)) ∧ (fdecl fTX3_digest_1 13 = some (.invokevirtual 265, 3)) ∧ (fdecl fTX3_digest_1 16 = some (.invokestatic 261, 3)) ∧ (fdecl fTX3_digest_1 19 = some (.lstore_n 1, 1)) ∧ (fdecl fTX3_digest_1 20 = some (.iconst 0, 1)) ∧ (fdecl fTX3_digest_1 21 = some (.istore_n 3, 1)) ∧ (fdecl fTX3_digest_1 22 = some (.iload_n 3, 1)) ∧ (fdecl fTX3_digest_1 23 = some (.iconst 3, 1)) := by decide +kernel
theorem dX3_digest_60 : decode cX3_digest 60 = .ok (.ifCond .eq 7, 3) := fx_ok (d := 0) (i := 60) fDX3_digest_0 eX3_digest_60.1
theorem dX3_digest_63 : decode cX3_digest 63 = .ok (.iconst 1, 1) := fx_ok (d := 0) (i := 63) fDX3_digest_0 eX3_digest_60.2.1
theorem dX3_digest_64 : decode cX3_digest 64 = .ok (.goto 4, 3) := fx_ok (d := 64) (i := 0) fDX3_digest_1 eX3_digest_60.2.2.1
theorem dX3_digest_67 : decode cX3_digest 67 = .ok (.iconst 0, 1) := fx_ok (d := 64) (i := 3) fDX3_digest_1 eX3_digest_60.2.2.2.1
theorem dX3_digest_68 : decode cX3_digest 68 = .ok (.invokestatic 261, 3) := fx_ok (d := 64) (i := 4) fDX3_digest_1 eX3_digest_60.2.2.2.2.1
theorem dX3_digest_71 : decode cX3_digest 71 = .ok (.lstore_n 1, 1) := fx_ok (d := 64) (i := 7) fDX3_digest_1 eX3_digest_60.2.2.2.2.2.1
theorem dX3_digest_72 : decode cX3_digest 72 = .ok (.lload_n 1, 1) := fx_ok (d := 64) (i := 8) fDX3_digest_1 eX3_digest_60.2.2.2.2.2.2.1
theorem dX3_digest_73 : decode cX3_digest 73 = .ok (.aload_n 0, 1) := fx_ok (d := 64) (i := 9) fDX3_digest_1 eX3_digest_60.2.2.2.2.2.2.2.1
theorem dX3_digest_74 : decode cX3_digest 74 = .ok (.getfield 33, 3) := fx_ok (d := 64) (i := 10) fDX3_digest_1 eX3_digest_60.2.2.2.2.2.2.2.2.1
theorem dX3_digest_77 : decode cX3_digest 77 = .ok (.invokevirtual 265, 3) := fx_ok (d := 64) (i := 13) fDX3_digest_1 eX3_digest_60.2.2.2.2.2.2.2.2.2.1
theorem dX3_digest_80 : decode cX3_digest 80 = .ok (.invokestatic 261, 3) := fx_ok (d := 64) (i := 16) fDX3_digest_1 eX3_digest_60.2.2.2.2.2.2.2.2.2.2.1
theorem dX3_digest_83 : decode cX3_digest 83 = .ok (.lstore_n 1, 1) := fx_ok (d := 64) (i := 19) fDX3_digest_1 eX3_digest_60.2.2.2.2.2.2.2.2.2.2.2.1
theorem dX3_digest_84 : decode cX3_digest 84 = .ok (.iconst 0, 1) := fx_ok (d := 64) (i := 20) fDX3_digest_1 eX3_digest_60.2.2.2.2.2.2.2.2.2.2.2.2.1
theorem dX3_digest_85 : decode cX3_digest 85 = .ok (.istore_n 3, 1) := fx_ok (d := 64) (i := 21) fDX3_digest_1 eX3_digest_60.2.2.2.2.2.2.2.2.2.2.2.2.2.1
theorem dX3_digest_86 : decode cX3_digest 86 = .ok (.iload_n 3, 1) := fx_ok (d := 64) (i := 22) fDX3_digest_1 eX3_digest_60.2.2.2.2.2.2.2.2.2.2.2.2.2.2.1
theorem dX3_digest_87 : decode cX3_digest 87 = .ok (.iconst 3, 1) := fx_ok (d := 64) (i := 23) fDX3_digest_1 eX3_digest_60.2.2.2.2.2.2.2.2.2.2.2.2.2.2.2
theorem eX3_digest_88 : (fdecl fTX3_digest_1 24 = some (.if_icmp .ge 20, 3)) ∧ (fdecl fTX3_digest_1 27 = some (.lload_n 1, 1)) ∧ (fdecl fTX3_digest_1 28 = some (.aload_n 0, 1)) ∧ (fdecl fTX3_digest_1 29 = some (.getfield 18, 3)) ∧ (fdecl fTX3_digest_1 32 = some (.iload_n 3, 1)) ∧ (fdecl fTX3_digest_1 33 = some (.aaload, 1)) ∧ (fdecl fTX3_digest_1 34 = some (.invokestatic 268, 3)) ∧ (fdecl fTX3_digest_1 37 = some (.lstore_n 1, 1)) ∧ (fdecl fTX3_digest_1 41 = some (.goto (-19), 3)) ∧ (fdecl fTX3_digest_1 44 = some (.iconst 0, 1)) ∧ (fdecl fTX3_digest_1 45 = some (.istore_n 3, 1)) ∧ (fdecl fTX3_digest_1 46 = some (.iload_n 3, 1)) ∧ (fdecl fTX3_digest_1 47 = some (.iconst 3, 1)) ∧ (fdecl fTX3_digest_1 48 = some (.if_icmp .gt 19, 3)) ∧ (fdecl fTX3_digest_1 51 = some (.lload_n 1, 1)) ∧ (fdecl fTX3_digest_1 52 = some (.aload_n 0, 1)) := by decide +kernel
theorem dX3_digest_88 : decode cX3_digest 88 = .ok (.if_icmp .ge 20, 3) := fx_ok (d := 64) (i := 24) fDX3_digest_1 eX3_digest_88.1
theorem dX3_digest_91 : decode cX3_digest 91 = .ok (.lload_n 1, 1) := fx_ok (d := 64) (i := 27) fDX3_digest_1 eX3_digest_88.2.1
theorem dX3_digest_92 : decode cX3_digest 92 = .ok (.aload_n 0, 1) := fx_ok (d := 64) (i := 28) fDX3_digest_1 eX3_digest_88.2.2.1
theorem dX3_digest_93 : decode cX3_digest 93 = .ok (.getfield 18, 3) := fx_ok (d := 64) (i := 29) fDX3_digest_1 eX3_digest_88.2.2.2.1
theorem dX3_digest_96 : decode cX3_digest 96 = .ok (.iload_n 3, 1) := fx_ok (d := 64) (i := 32) fDX3_digest_1 eX3_digest_88.2.2.2.2.1
theorem dX3_digest_97 : decode cX3_digest 97 = .ok (.aaload, 1) := fx_ok (d := 64) (i := 33) fDX3_digest_1 eX3_digest_88.2.2.2.2.2.1
theorem dX3_digest_98 : decode cX3_digest 98 = .ok (.invokestatic 268, 3) := fx_ok (d := 64) (i := 34) fDX3_digest_1 eX3_digest_88.2.2.2.2.2.2.1
theorem dX3_digest_101 : decode cX3_digest 101 = .ok (.lstore_n 1, 1) := fx_ok (d := 64) (i := 37) fDX3_digest_1 eX3_digest_88.2.2.2.2.2.2.2.1
theorem dX3_digest_105 : decode cX3_digest 105 = .ok (.goto (-19), 3) := fx_ok (d := 64) (i := 41) fDX3_digest_1 eX3_digest_88.2.2.2.2.2.2.2.2.1
theorem dX3_digest_108 : decode cX3_digest 108 = .ok (.iconst 0, 1) := fx_ok (d := 64) (i := 44) fDX3_digest_1 eX3_digest_88.2.2.2.2.2.2.2.2.2.1
theorem dX3_digest_109 : decode cX3_digest 109 = .ok (.istore_n 3, 1) := fx_ok (d := 64) (i := 45) fDX3_digest_1 eX3_digest_88.2.2.2.2.2.2.2.2.2.2.1
theorem dX3_digest_110 : decode cX3_digest 110 = .ok (.iload_n 3, 1) := fx_ok (d := 64) (i := 46) fDX3_digest_1 eX3_digest_88.2.2.2.2.2.2.2.2.2.2.2.1
theorem dX3_digest_111 : decode cX3_digest 111 = .ok (.iconst 3, 1) := fx_ok (d := 64) (i := 47) fDX3_digest_1 eX3_digest_88.2.2.2.2.2.2.2.2.2.2.2.2.1
theorem dX3_digest_112 : decode cX3_digest 112 = .ok (.if_icmp .gt 19, 3) := fx_ok (d := 64) (i := 48) fDX3_digest_1 eX3_digest_88.2.2.2.2.2.2.2.2.2.2.2.2.2.1
theorem dX3_digest_115 : decode cX3_digest 115 = .ok (.lload_n 1, 1) := fx_ok (d := 64) (i := 51) fDX3_digest_1 eX3_digest_88.2.2.2.2.2.2.2.2.2.2.2.2.2.2.1
theorem dX3_digest_116 : decode cX3_digest 116 = .ok (.aload_n 0, 1) := fx_ok (d := 64) (i := 52) fDX3_digest_1 eX3_digest_88.2.2.2.2.2.2.2.2.2.2.2.2.2.2.2
theorem eX3_digest_117 : (fdecl fTX3_digest_1 53 = some (.iload_n 3, 1)) ∧ (fdecl fTX3_digest_1 54 = some (.invokevirtual 238, 3)) ∧ (fdecl fTX3_digest_1 57 = some (.invokestatic 261, 3)) ∧ (fdecl fTX3_digest_1 60 = some (.lstore_n 1, 1)) ∧ (fdecl fTX3_digest_2 0 = some (.goto (-18), 3)) ∧ (fdecl fTX3_digest_2 3 = some (.lload_n 1, 1)) ∧ (fdecl fTX3_digest_2 4 = some (.aload_n 0, 1)) ∧ (fdecl fTX3_digest_2 5 = some (.invokevirtual 271, 3)) ∧ (fdecl fTX3_digest_2 8 = some (.ifCond .eq 7, 3)) ∧ (fdecl fTX3_digest_2 11 = some (.iconst 1, 1)) ∧ (fdecl fTX3_digest_2 12 = some (.goto 4, 3)) ∧ (fdecl fTX3_digest_2 15 = some (.iconst 0, 1)) ∧ (fdecl fTX3_digest_2 16 = some (.invokestatic 261, 3)) ∧ (fdecl fTX3_digest_2 19 = some (.lreturn, 1)) := by decide +kernel
theorem dX3_digest_117 : decode cX3_digest 117 = .ok (.iload_n 3, 1) := fx_ok (d := 64) (i := 53) fDX3_digest_1 eX3_digest_117.1
theorem dX3_digest_118 : decode cX3_digest 118 = .ok (.invokevirtual 238, 3) := fx_ok (d := 64) (i := 54) fDX3_digest_1 eX3_digest_117.2.1
theorem dX3_digest_121 : decode cX3_digest 121 = .ok (.invokestatic 261, 3) := fx_ok (d := 64) (i := 57) fDX3_digest_1 eX3_digest_117.2.2.1
theorem dX3_digest_124 : decode cX3_digest 124 = .ok (.lstore_n 1, 1) := fx_ok (d := 64) (i := 60) fDX3_digest_1 eX3_digest_117.2.2.2.1
theorem dX3_digest_128 : decode cX3_digest 128 = .ok (.goto (-18), 3) := fx_ok (d := 128) (i := 0) fDX3_digest_2 eX3_digest_117.2.2.2.2.1
theorem dX3_digest_131 : decode cX3_digest 131 = .ok (.lload_n 1, 1) := fx_ok (d := 128) (i := 3) fDX3_digest_2 eX3_digest_117.2.2.2.2.2.1
theorem dX3_digest_132 : decode cX3_digest 132 = .ok (.aload_n 0, 1) := fx_ok (d := 128) (i := 4) fDX3_digest_2 eX3_digest_117.2.2.2.2.2.2.1
theorem dX3_digest_133 : decode cX3_digest 133 = .ok (.invokevirtual 271, 3) := fx_ok (d := 128) (i := 5) fDX3_digest_2 eX3_digest_117.2.2.2.2.2.2.2.1
theorem dX3_digest_136 : decode cX3_digest 136 = .ok (.ifCond .eq 7, 3) := fx_ok (d := 128) (i := 8) fDX3_digest_2 eX3_digest_117.2.2.2.2.2.2.2.2.1
theorem dX3_digest_139 : decode cX3_digest 139 = .ok (.iconst 1, 1) := fx_ok (d := 128) (i := 11) fDX3_digest_2 eX3_digest_117.2.2.2.2.2.2.2.2.2.1
theorem dX3_digest_140 : decode cX3_digest 140 = .ok (.goto 4, 3) := fx_ok (d := 128) (i := 12) fDX3_digest_2 eX3_digest_117.2.2.2.2.2.2.2.2.2.2.1
theorem dX3_digest_143 : decode cX3_digest 143 = .ok (.iconst 0, 1) := fx_ok (d := 128) (i := 15) fDX3_digest_2 eX3_digest_117.2.2.2.2.2.2.2.2.2.2.2.1
theorem dX3_digest_144 : decode cX3_digest 144 = .ok (.invokestatic 261, 3) := fx_ok (d := 128) (i := 16) fDX3_digest_2 eX3_digest_117.2.2.2.2.2.2.2.2.2.2.2.2.1
theorem dX3_digest_147 : decode cX3_digest 147 = .ok (.lreturn, 1) := fx_ok (d := 128) (i := 19) fDX3_digest_2 eX3_digest_117.2.2.2.2.2.2.2.2.2.2.2.2.2
theorem dX3_digest_22 : decode cX3_digest 22 = .ok (.iinc 3 1, 3) := by decide +kernel
theorem dX3_digest_46 : decode cX3_digest 46 = .ok (.iinc 3 1, 3) := by decide +kernel
theorem dX3_digest_102 : decode cX3_digest 102 = .ok (.iinc 3 1, 3) := by decide +kernel
theorem dX3_digest_125 : decode cX3_digest 125 = .ok (.iinc 3 1, 3) := by decide +kernel
theorem eX3_bookAt_0 : (fdecl cX3_bookAt.data.toList 0 = some (.iload_n 1, 1)) ∧ (fdecl cX3_bookAt.data.toList 1 = some (.ifCond .lt 8, 3)) ∧ (fdecl cX3_bookAt.data.toList 4 = some (.iload_n 1, 1)) ∧ (fdecl cX3_bookAt.data.toList 5 = some (.iconst 4, 1)) ∧ (fdecl cX3_bookAt.data.toList 6 = some (.if_icmp .lt 14, 3)) ∧ (fdecl cX3_bookAt.data.toList 9 = some (.new 274, 3)) ∧ (fdecl cX3_bookAt.data.toList 12 = some (.dup, 1)) ∧ (fdecl cX3_bookAt.data.toList 13 = some (.ldc_w 276, 3)) ∧ (fdecl cX3_bookAt.data.toList 16 = some (.invokespecial 278, 3)) ∧ (fdecl cX3_bookAt.data.toList 19 = some (.athrow, 1)) ∧ (fdecl cX3_bookAt.data.toList 20 = some (.aload_n 0, 1)) ∧ (fdecl cX3_bookAt.data.toList 21 = some (.getfield 11, 3)) ∧ (fdecl cX3_bookAt.data.toList 24 = some (.iload_n 1, 1)) ∧ (fdecl cX3_bookAt.data.toList 25 = some (.aaload, 1)) ∧ (fdecl cX3_bookAt.data.toList 26 = some (.areturn, 1)) := by decide +kernel
theorem dX3_bookAt_0 : decode cX3_bookAt 0 = .ok (.iload_n 1, 1) := fx_ok0 eX3_bookAt_0.1
theorem dX3_bookAt_1 : decode cX3_bookAt 1 = .ok (.ifCond .lt 8, 3) := fx_ok0 eX3_bookAt_0.2.1
theorem dX3_bookAt_4 : decode cX3_bookAt 4 = .ok (.iload_n 1, 1) := fx_ok0 eX3_bookAt_0.2.2.1
theorem dX3_bookAt_5 : decode cX3_bookAt 5 = .ok (.iconst 4, 1) := fx_ok0 eX3_bookAt_0.2.2.2.1
theorem dX3_bookAt_6 : decode cX3_bookAt 6 = .ok (.if_icmp .lt 14, 3) := fx_ok0 eX3_bookAt_0.2.2.2.2.1
theorem dX3_bookAt_9 : decode cX3_bookAt 9 = .ok (.new 274, 3) := fx_ok0 eX3_bookAt_0.2.2.2.2.2.1
theorem dX3_bookAt_12 : decode cX3_bookAt 12 = .ok (.dup, 1) := fx_ok0 eX3_bookAt_0.2.2.2.2.2.2.1
theorem dX3_bookAt_13 : decode cX3_bookAt 13 = .ok (.ldc_w 276, 3) := fx_ok0 eX3_bookAt_0.2.2.2.2.2.2.2.1
theorem dX3_bookAt_16 : decode cX3_bookAt 16 = .ok (.invokespecial 278, 3) := fx_ok0 eX3_bookAt_0.2.2.2.2.2.2.2.2.1
theorem dX3_bookAt_19 : decode cX3_bookAt 19 = .ok (.athrow, 1) := fx_ok0 eX3_bookAt_0.2.2.2.2.2.2.2.2.2.1
theorem dX3_bookAt_20 : decode cX3_bookAt 20 = .ok (.aload_n 0, 1) := fx_ok0 eX3_bookAt_0.2.2.2.2.2.2.2.2.2.2.1
theorem dX3_bookAt_21 : decode cX3_bookAt 21 = .ok (.getfield 11, 3) := fx_ok0 eX3_bookAt_0.2.2.2.2.2.2.2.2.2.2.2.1
theorem dX3_bookAt_24 : decode cX3_bookAt 24 = .ok (.iload_n 1, 1) := fx_ok0 eX3_bookAt_0.2.2.2.2.2.2.2.2.2.2.2.2.1
theorem dX3_bookAt_25 : decode cX3_bookAt 25 = .ok (.aaload, 1) := fx_ok0 eX3_bookAt_0.2.2.2.2.2.2.2.2.2.2.2.2.2.1
theorem dX3_bookAt_26 : decode cX3_bookAt 26 = .ok (.areturn, 1) := fx_ok0 eX3_bookAt_0.2.2.2.2.2.2.2.2.2.2.2.2.2.2
theorem eX3_shelfAt_0 : (fdecl cX3_shelfAt.data.toList 0 = some (.iload_n 1, 1)) ∧ (fdecl cX3_shelfAt.data.toList 1 = some (.ifCond .lt 8, 3)) ∧ (fdecl cX3_shelfAt.data.toList 4 = some (.iload_n 1, 1)) ∧ (fdecl cX3_shelfAt.data.toList 5 = some (.iconst 3, 1)) ∧ (fdecl cX3_shelfAt.data.toList 6 = some (.if_icmp .lt 14, 3)) ∧ (fdecl cX3_shelfAt.data.toList 9 = some (.new 274, 3)) ∧ (fdecl cX3_shelfAt.data.toList 12 = some (.dup, 1)) ∧ (fdecl cX3_shelfAt.data.toList 13 = some (.ldc_w 281, 3)) ∧ (fdecl cX3_shelfAt.data.toList 16 = some (.invokespecial 278, 3)) ∧ (fdecl cX3_shelfAt.data.toList 19 = some (.athrow, 1)) ∧ (fdecl cX3_shelfAt.data.toList 20 = some (.aload_n 0, 1)) ∧ (fdecl cX3_shelfAt.data.toList 21 = some (.getfield 18, 3)) ∧ (fdecl cX3_shelfAt.data.toList 24 = some (.iload_n 1, 1)) ∧ (fdecl cX3_shelfAt.data.toList 25 = some (.aaload, 1)) ∧ (fdecl cX3_shelfAt.data.toList 26 = some (.areturn, 1)) := by decide +kernel
theorem dX3_shelfAt_0 : decode cX3_shelfAt 0 = .ok (.iload_n 1, 1) := fx_ok0 eX3_shelfAt_0.1
theorem dX3_shelfAt_1 : decode cX3_shelfAt 1 = .ok (.ifCond .lt 8, 3) := fx_ok0 eX3_shelfAt_0.2.1
theorem dX3_shelfAt_4 : decode cX3_shelfAt 4 = .ok (.iload_n 1, 1) := fx_ok0 eX3_shelfAt_0.2.2.1
theorem dX3_shelfAt_5 : decode cX3_shelfAt 5 = .ok (.iconst 3, 1) := fx_ok0 eX3_shelfAt_0.2.2.2.1
theorem dX3_shelfAt_6 : decode cX3_shelfAt 6 = .ok (.if_icmp .lt 14, 3) := fx_ok0 eX3_shelfAt_0.2.2.2.2.1
theorem dX3_shelfAt_9 : decode cX3_shelfAt 9 = .ok (.new 274, 3) := fx_ok0 eX3_shelfAt_0.2.2.2.2.2.1
theorem dX3_shelfAt_12 : decode cX3_shelfAt 12 = .ok (.dup, 1) := fx_ok0 eX3_shelfAt_0.2.2.2.2.2.2.1
theorem dX3_shelfAt_13 : decode cX3_shelfAt 13 = .ok (.ldc_w 281, 3) := fx_ok0 eX3_shelfAt_0.2.2.2.2.2.2.2.1
theorem dX3_shelfAt_16 : decode cX3_shelfAt 16 = .ok (.invokespecial 278, 3) := fx_ok0 eX3_shelfAt_0.2.2.2.2.2.2.2.2.1
theorem dX3_shelfAt_19 : decode cX3_shelfAt 19 = .ok (.athrow, 1) := fx_ok0 eX3_shelfAt_0.2.2.2.2.2.2.2.2.2.1
theorem dX3_shelfAt_20 : decode cX3_shelfAt 20 = .ok (.aload_n 0, 1) := fx_ok0 eX3_shelfAt_0.2.2.2.2.2.2.2.2.2.2.1
theorem dX3_shelfAt_21 : decode cX3_shelfAt 21 = .ok (.getfield 18, 3) := fx_ok0 eX3_shelfAt_0.2.2.2.2.2.2.2.2.2.2.2.1
theorem dX3_shelfAt_24 : decode cX3_shelfAt 24 = .ok (.iload_n 1, 1) := fx_ok0 eX3_shelfAt_0.2.2.2.2.2.2.2.2.2.2.2.2.1
theorem dX3_shelfAt_25 : decode cX3_shelfAt 25 = .ok (.aaload, 1) := fx_ok0 eX3_shelfAt_0.2.2.2.2.2.2.2.2.2.2.2.2.2.1
theorem dX3_shelfAt_26 : decode cX3_shelfAt 26 = .ok (.areturn, 1) := fx_ok0 eX3_shelfAt_0.2.2.2.2.2.2.2.2.2.2.2.2.2.2
theorem eX3_viewAt_0 : (fdecl cX3_viewAt.data.toList 0 = some (.iload_n 1, 1)) ∧ (fdecl cX3_viewAt.data.toList 1 = some (.ifCond .lt 8, 3)) ∧ (fdecl cX3_viewAt.data.toList 4 = some (.iload_n 1, 1)) ∧ (fdecl cX3_viewAt.data.toList 5 = some (.iconst 2, 1)) ∧ (fdecl cX3_viewAt.data.toList 6 = some (.if_icmp .lt 14, 3)) ∧ (fdecl cX3_viewAt.data.toList 9 = some (.new 274, 3)) ∧ (fdecl cX3_viewAt.data.toList 12 = some (.dup, 1)) ∧ (fdecl cX3_viewAt.data.toList 13 = some (.ldc_w 283, 3)) ∧ (fdecl cX3_viewAt.data.toList 16 = some (.invokespecial 278, 3)) ∧ (fdecl cX3_viewAt.data.toList 19 = some (.athrow, 1)) ∧ (fdecl cX3_viewAt.data.toList 20 = some (.aload_n 0, 1)) ∧ (fdecl cX3_viewAt.data.toList 21 = some (.getfield 23, 3)) ∧ (fdecl cX3_viewAt.data.toList 24 = some (.iload_n 1, 1)) ∧ (fdecl cX3_viewAt.data.toList 25 = some (.aaload, 1)) ∧ (fdecl cX3_viewAt.data.toList 26 = some (.areturn, 1)) := by decide +kernel
theorem dX3_viewAt_0 : decode cX3_viewAt 0 = .ok (.iload_n 1, 1) := fx_ok0 eX3_viewAt_0.1
theorem dX3_viewAt_1 : decode cX3_viewAt 1 = .ok (.ifCond .lt 8, 3) := fx_ok0 eX3_viewAt_0.2.1
theorem dX3_viewAt_4 : decode cX3_viewAt 4 = .ok (.iload_n 1, 1) := fx_ok0 eX3_viewAt_0.2.2.1
theorem dX3_viewAt_5 : decode cX3_viewAt 5 = .ok (.iconst 2, 1) := fx_ok0 eX3_viewAt_0.2.2.2.1
theorem dX3_viewAt_6 : decode cX3_viewAt 6 = .ok (.if_icmp .lt 14, 3) := fx_ok0 eX3_viewAt_0.2.2.2.2.1
theorem dX3_viewAt_9 : decode cX3_viewAt 9 = .ok (.new 274, 3) := fx_ok0 eX3_viewAt_0.2.2.2.2.2.1
theorem dX3_viewAt_12 : decode cX3_viewAt 12 = .ok (.dup, 1) := fx_ok0 eX3_viewAt_0.2.2.2.2.2.2.1
theorem dX3_viewAt_13 : decode cX3_viewAt 13 = .ok (.ldc_w 283, 3) := fx_ok0 eX3_viewAt_0.2.2.2.2.2.2.2.1
theorem dX3_viewAt_16 : decode cX3_viewAt 16 = .ok (.invokespecial 278, 3) := fx_ok0 eX3_viewAt_0.2.2.2.2.2.2.2.2.1
theorem dX3_viewAt_19 : decode cX3_viewAt 19 = .ok (.athrow, 1) := fx_ok0 eX3_viewAt_0.2.2.2.2.2.2.2.2.2.1
theorem dX3_viewAt_20 : decode cX3_viewAt 20 = .ok (.aload_n 0, 1) := fx_ok0 eX3_viewAt_0.2.2.2.2.2.2.2.2.2.2.1
theorem dX3_viewAt_21 : decode cX3_viewAt 21 = .ok (.getfield 23, 3) := fx_ok0 eX3_viewAt_0.2.2.2.2.2.2.2.2.2.2.2.1
theorem dX3_viewAt_24 : decode cX3_viewAt 24 = .ok (.iload_n 1, 1) := fx_ok0 eX3_viewAt_0.2.2.2.2.2.2.2.2.2.2.2.2.1
theorem dX3_viewAt_25 : decode cX3_viewAt 25 = .ok (.aaload, 1) := fx_ok0 eX3_viewAt_0.2.2.2.2.2.2.2.2.2.2.2.2.2.1
theorem dX3_viewAt_26 : decode cX3_viewAt 26 = .ok (.areturn, 1) := fx_ok0 eX3_viewAt_0.2.2.2.2.2.2.2.2.2.2.2.2.2.2
theorem eX3_checkUpTo_0 : (fdecl cX3_checkUpTo.data.toList 0 = some (.iload_n 0, 1)) ∧ (fdecl cX3_checkUpTo.data.toList 1 = some (.ifCond .lt 8, 3)) ∧ (fdecl cX3_checkUpTo.data.toList 4 = some (.iload_n 0, 1)) ∧ (fdecl cX3_checkUpTo.data.toList 5 = some (.iload_n 1, 1)) ∧ (fdecl cX3_checkUpTo.data.toList 6 = some (.if_icmp .le 14, 3)) ∧ (fdecl cX3_checkUpTo.data.toList 9 = some (.new 285, 3)) ∧ (fdecl cX3_checkUpTo.data.toList 12 = some (.dup, 1)) ∧ (fdecl cX3_checkUpTo.data.toList 13 = some (.ldc_w 287, 3)) ∧ (fdecl cX3_checkUpTo.data.toList 16 = some (.invokespecial 289, 3)) ∧ (fdecl cX3_checkUpTo.data.toList 19 = some (.athrow, 1)) ∧ (fdecl cX3_checkUpTo.data.toList 20 = some (.return_, 1)) := by decide +kernel
theorem dX3_checkUpTo_0 : decode cX3_checkUpTo 0 = .ok (.iload_n 0, 1) := fx_ok0 eX3_checkUpTo_0.1
theorem dX3_checkUpTo_1 : decode cX3_checkUpTo 1 = .ok (.ifCond .lt 8, 3) := fx_ok0 eX3_checkUpTo_0.2.1
theorem dX3_checkUpTo_4 : decode cX3_checkUpTo 4 = .ok (.iload_n 0, 1) := fx_ok0 eX3_checkUpTo_0.2.2.1
theorem dX3_checkUpTo_5 : decode cX3_checkUpTo 5 = .ok (.iload_n 1, 1) := fx_ok0 eX3_checkUpTo_0.2.2.2.1
theorem dX3_checkUpTo_6 : decode cX3_checkUpTo 6 = .ok (.if_icmp .le 14, 3) := fx_ok0 eX3_checkUpTo_0.2.2.2.2.1
theorem dX3_checkUpTo_9 : decode cX3_checkUpTo 9 = .ok (.new 285, 3) := fx_ok0 eX3_checkUpTo_0.2.2.2.2.2.1
theorem dX3_checkUpTo_12 : decode cX3_checkUpTo 12 = .ok (.dup, 1) := fx_ok0 eX3_checkUpTo_0.2.2.2.2.2.2.1
theorem dX3_checkUpTo_13 : decode cX3_checkUpTo 13 = .ok (.ldc_w 287, 3) := fx_ok0 eX3_checkUpTo_0.2.2.2.2.2.2.2.1
theorem dX3_checkUpTo_16 : decode cX3_checkUpTo 16 = .ok (.invokespecial 289, 3) := fx_ok0 eX3_checkUpTo_0.2.2.2.2.2.2.2.2.1
theorem dX3_checkUpTo_19 : decode cX3_checkUpTo 19 = .ok (.athrow, 1) := fx_ok0 eX3_checkUpTo_0.2.2.2.2.2.2.2.2.2.1
theorem dX3_checkUpTo_20 : decode cX3_checkUpTo 20 = .ok (.return_, 1) := fx_ok0 eX3_checkUpTo_0.2.2.2.2.2.2.2.2.2.2
theorem eX3_checkKey_0 : (fdecl cX3_checkKey.data.toList 0 = some (.iload_n 0, 1)) ∧ (fdecl cX3_checkKey.data.toList 1 = some (.ifCond .lt 9, 3)) ∧ (fdecl cX3_checkKey.data.toList 4 = some (.iload_n 0, 1)) ∧ (fdecl cX3_checkKey.data.toList 5 = some (.bipush 100, 2)) ∧ (fdecl cX3_checkKey.data.toList 7 = some (.if_icmp .lt 14, 3)) ∧ (fdecl cX3_checkKey.data.toList 10 = some (.new 285, 3)) ∧ (fdecl cX3_checkKey.data.toList 13 = some (.dup, 1)) ∧ (fdecl cX3_checkKey.data.toList 14 = some (.ldc_w 290, 3)) ∧ (fdecl cX3_checkKey.data.toList 17 = some (.invokespecial 289, 3)) ∧ (fdecl cX3_checkKey.data.toList 20 = some (.athrow, 1)) ∧ (fdecl cX3_checkKey.data.toList 21 = some (.return_, 1)) := by decide +kernel
theorem dX3_checkKey_0 : decode cX3_checkKey 0 = .ok (.iload_n 0, 1) := fx_ok0 eX3_checkKey_0.1
theorem dX3_checkKey_1 : decode cX3_checkKey 1 = .ok (.ifCond .lt 9, 3) := fx_ok0 eX3_checkKey_0.2.1
theorem dX3_checkKey_4 : decode cX3_checkKey 4 = .ok (.iload_n 0, 1) := fx_ok0 eX3_checkKey_0.2.2.1
theorem dX3_checkKey_5 : decode cX3_checkKey 5 = .ok (.bipush 100, 2) := fx_ok0 eX3_checkKey_0.2.2.2.1
theorem dX3_checkKey_7 : decode cX3_checkKey 7 = .ok (.if_icmp .lt 14, 3) := fx_ok0 eX3_checkKey_0.2.2.2.2.1
theorem dX3_checkKey_10 : decode cX3_checkKey 10 = .ok (.new 285, 3) := fx_ok0 eX3_checkKey_0.2.2.2.2.2.1
theorem dX3_checkKey_13 : decode cX3_checkKey 13 = .ok (.dup, 1) := fx_ok0 eX3_checkKey_0.2.2.2.2.2.2.1
theorem dX3_checkKey_14 : decode cX3_checkKey 14 = .ok (.ldc_w 290, 3) := fx_ok0 eX3_checkKey_0.2.2.2.2.2.2.2.1
theorem dX3_checkKey_17 : decode cX3_checkKey 17 = .ok (.invokespecial 289, 3) := fx_ok0 eX3_checkKey_0.2.2.2.2.2.2.2.2.1
theorem dX3_checkKey_20 : decode cX3_checkKey 20 = .ok (.athrow, 1) := fx_ok0 eX3_checkKey_0.2.2.2.2.2.2.2.2.2.1
theorem dX3_checkKey_21 : decode cX3_checkKey 21 = .ok (.return_, 1) := fx_ok0 eX3_checkKey_0.2.2.2.2.2.2.2.2.2.2
theorem eX3_checkWorth_0 : (fdecl cX3_checkWorth.data.toList 0 = some (.iload_n 0, 1)) ∧ (fdecl cX3_checkWorth.data.toList 1 = some (.ifCond .lt 9, 3)) ∧ (fdecl cX3_checkWorth.data.toList 4 = some (.iload_n 0, 1)) ∧ (fdecl cX3_checkWorth.data.toList 5 = some (.bipush 99, 2)) ∧ (fdecl cX3_checkWorth.data.toList 7 = some (.if_icmp .le 14, 3)) ∧ (fdecl cX3_checkWorth.data.toList 10 = some (.new 285, 3)) ∧ (fdecl cX3_checkWorth.data.toList 13 = some (.dup, 1)) ∧ (fdecl cX3_checkWorth.data.toList 14 = some (.ldc_w 292, 3)) ∧ (fdecl cX3_checkWorth.data.toList 17 = some (.invokespecial 289, 3)) ∧ (fdecl cX3_checkWorth.data.toList 20 = some (.athrow, 1)) ∧ (fdecl cX3_checkWorth.data.toList 21 = some (.return_, 1)) := by decide +kernel
theorem dX3_checkWorth_0 : decode cX3_checkWorth 0 = .ok (.iload_n 0, 1) := fx_ok0 eX3_checkWorth_0.1
theorem dX3_checkWorth_1 : decode cX3_checkWorth 1 = .ok (.ifCond .lt 9, 3) := fx_ok0 eX3_checkWorth_0.2.1
theorem dX3_checkWorth_4 : decode cX3_checkWorth 4 = .ok (.iload_n 0, 1) := fx_ok0 eX3_checkWorth_0.2.2.1
theorem dX3_checkWorth_5 : decode cX3_checkWorth 5 = .ok (.bipush 99, 2) := fx_ok0 eX3_checkWorth_0.2.2.2.1
theorem dX3_checkWorth_7 : decode cX3_checkWorth 7 = .ok (.if_icmp .le 14, 3) := fx_ok0 eX3_checkWorth_0.2.2.2.2.1
theorem dX3_checkWorth_10 : decode cX3_checkWorth 10 = .ok (.new 285, 3) := fx_ok0 eX3_checkWorth_0.2.2.2.2.2.1
theorem dX3_checkWorth_13 : decode cX3_checkWorth 13 = .ok (.dup, 1) := fx_ok0 eX3_checkWorth_0.2.2.2.2.2.2.1
theorem dX3_checkWorth_14 : decode cX3_checkWorth 14 = .ok (.ldc_w 292, 3) := fx_ok0 eX3_checkWorth_0.2.2.2.2.2.2.2.1
theorem dX3_checkWorth_17 : decode cX3_checkWorth 17 = .ok (.invokespecial 289, 3) := fx_ok0 eX3_checkWorth_0.2.2.2.2.2.2.2.2.1
theorem dX3_checkWorth_20 : decode cX3_checkWorth 20 = .ok (.athrow, 1) := fx_ok0 eX3_checkWorth_0.2.2.2.2.2.2.2.2.2.1
theorem dX3_checkWorth_21 : decode cX3_checkWorth 21 = .ok (.return_, 1) := fx_ok0 eX3_checkWorth_0.2.2.2.2.2.2.2.2.2.2
theorem eX3_checkWorthOrNone_0 : (fdecl cX3_checkWorthOrNone.data.toList 0 = some (.iload_n 0, 1)) ∧ (fdecl cX3_checkWorthOrNone.data.toList 1 = some (.iconst (-1), 1)) ∧ (fdecl cX3_checkWorthOrNone.data.toList 2 = some (.if_icmp .eq 7, 3)) ∧ (fdecl cX3_checkWorthOrNone.data.toList 5 = some (.iload_n 0, 1)) ∧ (fdecl cX3_checkWorthOrNone.data.toList 6 = some (.invokestatic 104, 3)) ∧ (fdecl cX3_checkWorthOrNone.data.toList 9 = some (.return_, 1)) := by decide +kernel
theorem dX3_checkWorthOrNone_0 : decode cX3_checkWorthOrNone 0 = .ok (.iload_n 0, 1) := fx_ok0 eX3_checkWorthOrNone_0.1
theorem dX3_checkWorthOrNone_1 : decode cX3_checkWorthOrNone 1 = .ok (.iconst (-1), 1) := fx_ok0 eX3_checkWorthOrNone_0.2.1
theorem dX3_checkWorthOrNone_2 : decode cX3_checkWorthOrNone 2 = .ok (.if_icmp .eq 7, 3) := fx_ok0 eX3_checkWorthOrNone_0.2.2.1
theorem dX3_checkWorthOrNone_5 : decode cX3_checkWorthOrNone 5 = .ok (.iload_n 0, 1) := fx_ok0 eX3_checkWorthOrNone_0.2.2.2.1
theorem dX3_checkWorthOrNone_6 : decode cX3_checkWorthOrNone 6 = .ok (.invokestatic 104, 3) := fx_ok0 eX3_checkWorthOrNone_0.2.2.2.2.1
theorem dX3_checkWorthOrNone_9 : decode cX3_checkWorthOrNone 9 = .ok (.return_, 1) := fx_ok0 eX3_checkWorthOrNone_0.2.2.2.2.2
theorem eX3_checkSteps_0 : (fdecl cX3_checkSteps.data.toList 0 = some (.iload_n 0, 1)) ∧ (fdecl cX3_checkSteps.data.toList 1 = some (.invokestatic 60, 3)) ∧ (fdecl cX3_checkSteps.data.toList 4 = some (.iload_n 1, 1)) ∧ (fdecl cX3_checkSteps.data.toList 5 = some (.bipush 99, 2)) ∧ (fdecl cX3_checkSteps.data.toList 7 = some (.invokestatic 41, 3)) ∧ (fdecl cX3_checkSteps.data.toList 10 = some (.iload_n 2, 1)) ∧ (fdecl cX3_checkSteps.data.toList 11 = some (.bipush 100, 2)) ∧ (fdecl cX3_checkSteps.data.toList 13 = some (.invokestatic 41, 3)) ∧ (fdecl cX3_checkSteps.data.toList 16 = some (.return_, 1)) := by decide +kernel
theorem dX3_checkSteps_0 : decode cX3_checkSteps 0 = .ok (.iload_n 0, 1) := fx_ok0 eX3_checkSteps_0.1
theorem dX3_checkSteps_1 : decode cX3_checkSteps 1 = .ok (.invokestatic 60, 3) := fx_ok0 eX3_checkSteps_0.2.1
theorem dX3_checkSteps_4 : decode cX3_checkSteps 4 = .ok (.iload_n 1, 1) := fx_ok0 eX3_checkSteps_0.2.2.1
theorem dX3_checkSteps_5 : decode cX3_checkSteps 5 = .ok (.bipush 99, 2) := fx_ok0 eX3_checkSteps_0.2.2.2.1
theorem dX3_checkSteps_7 : decode cX3_checkSteps 7 = .ok (.invokestatic 41, 3) := fx_ok0 eX3_checkSteps_0.2.2.2.2.1
theorem dX3_checkSteps_10 : decode cX3_checkSteps 10 = .ok (.iload_n 2, 1) := fx_ok0 eX3_checkSteps_0.2.2.2.2.2.1
theorem dX3_checkSteps_11 : decode cX3_checkSteps 11 = .ok (.bipush 100, 2) := fx_ok0 eX3_checkSteps_0.2.2.2.2.2.2.1
theorem dX3_checkSteps_13 : decode cX3_checkSteps 13 = .ok (.invokestatic 41, 3) := fx_ok0 eX3_checkSteps_0.2.2.2.2.2.2.2.1
theorem dX3_checkSteps_16 : decode cX3_checkSteps 16 = .ok (.return_, 1) := fx_ok0 eX3_checkSteps_0.2.2.2.2.2.2.2.2
theorem eX3_checkKindAndBounds_0 : (fdecl cX3_checkKindAndBounds.data.toList 0 = some (.iload_n 0, 1)) ∧ (fdecl cX3_checkKindAndBounds.data.toList 1 = some (.iconst 2, 1)) ∧ (fdecl cX3_checkKindAndBounds.data.toList 2 = some (.invokestatic 41, 3)) ∧ (fdecl cX3_checkKindAndBounds.data.toList 5 = some (.iload_n 1, 1)) ∧ (fdecl cX3_checkKindAndBounds.data.toList 6 = some (.invokestatic 60, 3)) ∧ (fdecl cX3_checkKindAndBounds.data.toList 9 = some (.iload_n 2, 1)) ∧ (fdecl cX3_checkKindAndBounds.data.toList 10 = some (.invokestatic 60, 3)) ∧ (fdecl cX3_checkKindAndBounds.data.toList 13 = some (.return_, 1)) := by decide +kernel
theorem dX3_checkKindAndBounds_0 : decode cX3_checkKindAndBounds 0 = .ok (.iload_n 0, 1) := fx_ok0 eX3_checkKindAndBounds_0.1
theorem dX3_checkKindAndBounds_1 : decode cX3_checkKindAndBounds 1 = .ok (.iconst 2, 1) := fx_ok0 eX3_checkKindAndBounds_0.2.1
theorem dX3_checkKindAndBounds_2 : decode cX3_checkKindAndBounds 2 = .ok (.invokestatic 41, 3) := fx_ok0 eX3_checkKindAndBounds_0.2.2.1
theorem dX3_checkKindAndBounds_5 : decode cX3_checkKindAndBounds 5 = .ok (.iload_n 1, 1) := fx_ok0 eX3_checkKindAndBounds_0.2.2.2.1
theorem dX3_checkKindAndBounds_6 : decode cX3_checkKindAndBounds 6 = .ok (.invokestatic 60, 3) := fx_ok0 eX3_checkKindAndBounds_0.2.2.2.2.1
theorem dX3_checkKindAndBounds_9 : decode cX3_checkKindAndBounds 9 = .ok (.iload_n 2, 1) := fx_ok0 eX3_checkKindAndBounds_0.2.2.2.2.2.1
theorem dX3_checkKindAndBounds_10 : decode cX3_checkKindAndBounds 10 = .ok (.invokestatic 60, 3) := fx_ok0 eX3_checkKindAndBounds_0.2.2.2.2.2.2.1
theorem dX3_checkKindAndBounds_13 : decode cX3_checkKindAndBounds 13 = .ok (.return_, 1) := fx_ok0 eX3_checkKindAndBounds_0.2.2.2.2.2.2.2
theorem eX3_refuse_0 : (fdecl cX3_refuse.data.toList 0 = some (.aload_n 0, 1)) ∧ (fdecl cX3_refuse.data.toList 1 = some (.dup, 1)) ∧ (fdecl cX3_refuse.data.toList 2 = some (.getfield 294, 3)) ∧ (fdecl cX3_refuse.data.toList 5 = some (.iconst 1, 1)) ∧ (fdecl cX3_refuse.data.toList 6 = some (.iadd, 1)) ∧ (fdecl cX3_refuse.data.toList 7 = some (.putfield 294, 3)) ∧ (fdecl cX3_refuse.data.toList 10 = some (.bipush (-9), 2)) ∧ (fdecl cX3_refuse.data.toList 12 = some (.ireturn, 1)) := by decide +kernel
theorem dX3_refuse_0 : decode cX3_refuse 0 = .ok (.aload_n 0, 1) := fx_ok0 eX3_refuse_0.1
theorem dX3_refuse_1 : decode cX3_refuse 1 = .ok (.dup, 1) := fx_ok0 eX3_refuse_0.2.1
theorem dX3_refuse_2 : decode cX3_refuse 2 = .ok (.getfield 294, 3) := fx_ok0 eX3_refuse_0.2.2.1
theorem dX3_refuse_5 : decode cX3_refuse 5 = .ok (.iconst 1, 1) := fx_ok0 eX3_refuse_0.2.2.2.1
theorem dX3_refuse_6 : decode cX3_refuse 6 = .ok (.iadd, 1) := fx_ok0 eX3_refuse_0.2.2.2.2.1
theorem dX3_refuse_7 : decode cX3_refuse 7 = .ok (.putfield 294, 3) := fx_ok0 eX3_refuse_0.2.2.2.2.2.1
theorem dX3_refuse_10 : decode cX3_refuse 10 = .ok (.bipush (-9), 2) := fx_ok0 eX3_refuse_0.2.2.2.2.2.2.1
theorem dX3_refuse_12 : decode cX3_refuse 12 = .ok (.ireturn, 1) := fx_ok0 eX3_refuse_0.2.2.2.2.2.2.2
theorem eX3_keyOrRefuse_0 : (fdecl cX3_keyOrRefuse.data.toList 0 = some (.iload_n 2, 1)) ∧ (fdecl cX3_keyOrRefuse.data.toList 1 = some (.iconst (-1), 1)) ∧ (fdecl cX3_keyOrRefuse.data.toList 2 = some (.if_icmp .ne 10, 3)) ∧ (fdecl cX3_keyOrRefuse.data.toList 5 = some (.aload_n 0, 1)) ∧ (fdecl cX3_keyOrRefuse.data.toList 6 = some (.invokevirtual 63, 3)) ∧ (fdecl cX3_keyOrRefuse.data.toList 9 = some (.goto 8, 3)) ∧ (fdecl cX3_keyOrRefuse.data.toList 12 = some (.aload_n 1, 1)) ∧ (fdecl cX3_keyOrRefuse.data.toList 13 = some (.iload_n 2, 1)) ∧ (fdecl cX3_keyOrRefuse.data.toList 14 = some (.invokevirtual 132, 3)) ∧ (fdecl cX3_keyOrRefuse.data.toList 17 = some (.ireturn, 1)) := by decide +kernel
theorem dX3_keyOrRefuse_0 : decode cX3_keyOrRefuse 0 = .ok (.iload_n 2, 1) := fx_ok0 eX3_keyOrRefuse_0.1
theorem dX3_keyOrRefuse_1 : decode cX3_keyOrRefuse 1 = .ok (.iconst (-1), 1) := fx_ok0 eX3_keyOrRefuse_0.2.1
theorem dX3_keyOrRefuse_2 : decode cX3_keyOrRefuse 2 = .ok (.if_icmp .ne 10, 3) := fx_ok0 eX3_keyOrRefuse_0.2.2.1
theorem dX3_keyOrRefuse_5 : decode cX3_keyOrRefuse 5 = .ok (.aload_n 0, 1) := fx_ok0 eX3_keyOrRefuse_0.2.2.2.1
theorem dX3_keyOrRefuse_6 : decode cX3_keyOrRefuse 6 = .ok (.invokevirtual 63, 3) := fx_ok0 eX3_keyOrRefuse_0.2.2.2.2.1
theorem dX3_keyOrRefuse_9 : decode cX3_keyOrRefuse 9 = .ok (.goto 8, 3) := fx_ok0 eX3_keyOrRefuse_0.2.2.2.2.2.1
theorem dX3_keyOrRefuse_12 : decode cX3_keyOrRefuse 12 = .ok (.aload_n 1, 1) := fx_ok0 eX3_keyOrRefuse_0.2.2.2.2.2.2.1
theorem dX3_keyOrRefuse_13 : decode cX3_keyOrRefuse 13 = .ok (.iload_n 2, 1) := fx_ok0 eX3_keyOrRefuse_0.2.2.2.2.2.2.2.1
theorem dX3_keyOrRefuse_14 : decode cX3_keyOrRefuse 14 = .ok (.invokevirtual 132, 3) := fx_ok0 eX3_keyOrRefuse_0.2.2.2.2.2.2.2.2.1
theorem dX3_keyOrRefuse_17 : decode cX3_keyOrRefuse 17 = .ok (.ireturn, 1) := fx_ok0 eX3_keyOrRefuse_0.2.2.2.2.2.2.2.2.2
theorem eX3_write_0 : (fdecl cX3_write.data.toList 0 = some (.aload_n 0, 1)) ∧ (fdecl cX3_write.data.toList 1 = some (.dup, 1)) ∧ (fdecl cX3_write.data.toList 2 = some (.getfield 45, 3)) ∧ (fdecl cX3_write.data.toList 5 = some (.iconst 1, 1)) ∧ (fdecl cX3_write.data.toList 6 = some (.iadd, 1)) ∧ (fdecl cX3_write.data.toList 7 = some (.putfield 45, 3)) ∧ (fdecl cX3_write.data.toList 10 = some (.aload_n 0, 1)) ∧ (fdecl cX3_write.data.toList 11 = some (.getfield 33, 3)) ∧ (fdecl cX3_write.data.toList 14 = some (.aload_n 1, 1)) ∧ (fdecl cX3_write.data.toList 15 = some (.invokevirtual 297, 3)) ∧ (fdecl cX3_write.data.toList 18 = some (.return_, 1)) := by decide +kernel
theorem dX3_write_0 : decode cX3_write 0 = .ok (.aload_n 0, 1) := fx_ok0 eX3_write_0.1
theorem dX3_write_1 : decode cX3_write 1 = .ok (.dup, 1) := fx_ok0 eX3_write_0.2.1
theorem dX3_write_2 : decode cX3_write 2 = .ok (.getfield 45, 3) := fx_ok0 eX3_write_0.2.2.1
theorem dX3_write_5 : decode cX3_write 5 = .ok (.iconst 1, 1) := fx_ok0 eX3_write_0.2.2.2.1
theorem dX3_write_6 : decode cX3_write 6 = .ok (.iadd, 1) := fx_ok0 eX3_write_0.2.2.2.2.1
theorem dX3_write_7 : decode cX3_write 7 = .ok (.putfield 45, 3) := fx_ok0 eX3_write_0.2.2.2.2.2.1
theorem dX3_write_10 : decode cX3_write 10 = .ok (.aload_n 0, 1) := fx_ok0 eX3_write_0.2.2.2.2.2.2.1
theorem dX3_write_11 : decode cX3_write 11 = .ok (.getfield 33, 3) := fx_ok0 eX3_write_0.2.2.2.2.2.2.2.1
theorem dX3_write_14 : decode cX3_write 14 = .ok (.aload_n 1, 1) := fx_ok0 eX3_write_0.2.2.2.2.2.2.2.2.1
theorem dX3_write_15 : decode cX3_write 15 = .ok (.invokevirtual 297, 3) := fx_ok0 eX3_write_0.2.2.2.2.2.2.2.2.2.1
theorem dX3_write_18 : decode cX3_write 18 = .ok (.return_, 1) := fx_ok0 eX3_write_0.2.2.2.2.2.2.2.2.2.2
theorem eX3_builtOrder_0 : (fdecl cX3_builtOrder.data.toList 0 = some (.iload_n 1, 1)) ∧ (fdecl cX3_builtOrder.data.toList 1 = some (.iconst 4, 1)) ∧ (fdecl cX3_builtOrder.data.toList 2 = some (.if_icmp .ge 10, 3)) ∧ (fdecl cX3_builtOrder.data.toList 5 = some (.aload_n 0, 1)) ∧ (fdecl cX3_builtOrder.data.toList 6 = some (.getfield 74, 3)) ∧ (fdecl cX3_builtOrder.data.toList 9 = some (.goto 6, 3)) ∧ (fdecl cX3_builtOrder.data.toList 12 = some (.iload_n 1, 1)) ∧ (fdecl cX3_builtOrder.data.toList 13 = some (.iconst 4, 1)) ∧ (fdecl cX3_builtOrder.data.toList 14 = some (.isub, 1)) ∧ (fdecl cX3_builtOrder.data.toList 15 = some (.ireturn, 1)) := by decide +kernel
theorem dX3_builtOrder_0 : decode cX3_builtOrder 0 = .ok (.iload_n 1, 1) := fx_ok0 eX3_builtOrder_0.1
theorem dX3_builtOrder_1 : decode cX3_builtOrder 1 = .ok (.iconst 4, 1) := fx_ok0 eX3_builtOrder_0.2.1
theorem dX3_builtOrder_2 : decode cX3_builtOrder 2 = .ok (.if_icmp .ge 10, 3) := fx_ok0 eX3_builtOrder_0.2.2.1
theorem dX3_builtOrder_5 : decode cX3_builtOrder 5 = .ok (.aload_n 0, 1) := fx_ok0 eX3_builtOrder_0.2.2.2.1
theorem dX3_builtOrder_6 : decode cX3_builtOrder 6 = .ok (.getfield 74, 3) := fx_ok0 eX3_builtOrder_0.2.2.2.2.1
theorem dX3_builtOrder_9 : decode cX3_builtOrder 9 = .ok (.goto 6, 3) := fx_ok0 eX3_builtOrder_0.2.2.2.2.2.1
theorem dX3_builtOrder_12 : decode cX3_builtOrder 12 = .ok (.iload_n 1, 1) := fx_ok0 eX3_builtOrder_0.2.2.2.2.2.2.1
theorem dX3_builtOrder_13 : decode cX3_builtOrder 13 = .ok (.iconst 4, 1) := fx_ok0 eX3_builtOrder_0.2.2.2.2.2.2.2.1
theorem dX3_builtOrder_14 : decode cX3_builtOrder 14 = .ok (.isub, 1) := fx_ok0 eX3_builtOrder_0.2.2.2.2.2.2.2.2.1
theorem dX3_builtOrder_15 : decode cX3_builtOrder 15 = .ok (.ireturn, 1) := fx_ok0 eX3_builtOrder_0.2.2.2.2.2.2.2.2.2
theorem eX3_bookFact_0 : (fdecl cX3_bookFact.data.toList 0 = some (.iload_n 1, 1)) ∧ (fdecl cX3_bookFact.data.toList 28 = some (.aload_n 0, 1)) ∧ (fdecl cX3_bookFact.data.toList 29 = some (.getfield 49, 3)) ∧ (fdecl cX3_bookFact.data.toList 32 = some (.ireturn, 1)) ∧ (fdecl cX3_bookFact.data.toList 33 = some (.aload_n 0, 1)) ∧ (fdecl cX3_bookFact.data.toList 34 = some (.getfield 74, 3)) ∧ (fdecl cX3_bookFact.data.toList 37 = some (.ireturn, 1)) ∧ (fdecl cX3_bookFact.data.toList 38 = some (.aload_n 0, 1)) ∧ (fdecl cX3_bookFact.data.toList 39 = some (.invokevirtual 300, 3)) ∧ (fdecl cX3_bookFact.data.toList 42 = some (.ireturn, 1)) ∧ (fdecl cX3_bookFact.data.toList 43 = some (.aload_n 0, 1)) ∧ (fdecl cX3_bookFact.data.toList 44 = some (.getfield 49, 3)) ∧ (fdecl cX3_bookFact.data.toList 47 = some (.ifCond .ne 7, 3)) ∧ (fdecl cX3_bookFact.data.toList 50 = some (.iconst 1, 1)) ∧ (fdecl cX3_bookFact.data.toList 51 = some (.goto 4, 3)) ∧ (fdecl cX3_bookFact.data.toList 54 = some (.iconst 0, 1)) := by decide +kernel
theorem dX3_bookFact_0 : decode cX3_bookFact 0 = .ok (.iload_n 1, 1) := fx_ok0 eX3_bookFact_0.1
theorem dX3_bookFact_28 : decode cX3_bookFact 28 = .ok (.aload_n 0, 1) := fx_ok0 eX3_bookFact_0.2.1
theorem dX3_bookFact_29 : decode cX3_bookFact 29 = .ok (.getfield 49, 3) := fx_ok0 eX3_bookFact_0.2.2.1
theorem dX3_bookFact_32 : decode cX3_bookFact 32 = .ok (.ireturn, 1) := fx_ok0 eX3_bookFact_0.2.2.2.1
theorem dX3_bookFact_33 : decode cX3_bookFact 33 = .ok (.aload_n 0, 1) := fx_ok0 eX3_bookFact_0.2.2.2.2.1
theorem dX3_bookFact_34 : decode cX3_bookFact 34 = .ok (.getfield 74, 3) := fx_ok0 eX3_bookFact_0.2.2.2.2.2.1
theorem dX3_bookFact_37 : decode cX3_bookFact 37 = .ok (.ireturn, 1) := fx_ok0 eX3_bookFact_0.2.2.2.2.2.2.1
theorem dX3_bookFact_38 : decode cX3_bookFact 38 = .ok (.aload_n 0, 1) := fx_ok0 eX3_bookFact_0.2.2.2.2.2.2.2.1
theorem dX3_bookFact_39 : decode cX3_bookFact 39 = .ok (.invokevirtual 300, 3) := fx_ok0 eX3_bookFact_0.2.2.2.2.2.2.2.2.1
theorem dX3_bookFact_42 : decode cX3_bookFact 42 = .ok (.ireturn, 1) := fx_ok0 eX3_bookFact_0.2.2.2.2.2.2.2.2.2.1
theorem dX3_bookFact_43 : decode cX3_bookFact 43 = .ok (.aload_n 0, 1) := fx_ok0 eX3_bookFact_0.2.2.2.2.2.2.2.2.2.2.1
theorem dX3_bookFact_44 : decode cX3_bookFact 44 = .ok (.getfield 49, 3) := fx_ok0 eX3_bookFact_0.2.2.2.2.2.2.2.2.2.2.2.1
theorem dX3_bookFact_47 : decode cX3_bookFact 47 = .ok (.ifCond .ne 7, 3) := fx_ok0 eX3_bookFact_0.2.2.2.2.2.2.2.2.2.2.2.2.1
theorem dX3_bookFact_50 : decode cX3_bookFact 50 = .ok (.iconst 1, 1) := fx_ok0 eX3_bookFact_0.2.2.2.2.2.2.2.2.2.2.2.2.2.1
theorem dX3_bookFact_51 : decode cX3_bookFact 51 = .ok (.goto 4, 3) := fx_ok0 eX3_bookFact_0.2.2.2.2.2.2.2.2.2.2.2.2.2.2.1
theorem dX3_bookFact_54 : decode cX3_bookFact 54 = .ok (.iconst 0, 1) := fx_ok0 eX3_bookFact_0.2.2.2.2.2.2.2.2.2.2.2.2.2.2.2
theorem eX3_bookFact_55 : (fdecl cX3_bookFact.data.toList 55 = some (.ireturn, 1)) := by decide +kernel
theorem dX3_bookFact_55 : decode cX3_bookFact 55 = .ok (.ireturn, 1) := fx_ok0 eX3_bookFact_55
theorem dX3_bookFact_1 : decode cX3_bookFact 1 = .ok (.tableswitch 42 0 2 #[27, 32, 37], 27) := by decide +kernel
theorem eX3_shelfFact_0 : (fdecl cX3_shelfFact.data.toList 0 = some (.iload_n 1, 1)) ∧ (fdecl cX3_shelfFact.data.toList 28 = some (.aload_n 0, 1)) ∧ (fdecl cX3_shelfFact.data.toList 29 = some (.getfield 49, 3)) ∧ (fdecl cX3_shelfFact.data.toList 32 = some (.ireturn, 1)) ∧ (fdecl cX3_shelfFact.data.toList 33 = some (.aload_n 0, 1)) ∧ (fdecl cX3_shelfFact.data.toList 34 = some (.getfield 74, 3)) ∧ (fdecl cX3_shelfFact.data.toList 37 = some (.ireturn, 1)) ∧ (fdecl cX3_shelfFact.data.toList 38 = some (.aload_n 0, 1)) ∧ (fdecl cX3_shelfFact.data.toList 39 = some (.invokevirtual 303, 3)) ∧ (fdecl cX3_shelfFact.data.toList 42 = some (.ireturn, 1)) := by decide +kernel
theorem dX3_shelfFact_0 : decode cX3_shelfFact 0 = .ok (.iload_n 1, 1) := fx_ok0 eX3_shelfFact_0.1
theorem dX3_shelfFact_28 : decode cX3_shelfFact 28 = .ok (.aload_n 0, 1) := fx_ok0 eX3_shelfFact_0.2.1
theorem dX3_shelfFact_29 : decode cX3_shelfFact 29 = .ok (.getfield 49, 3) := fx_ok0 eX3_shelfFact_0.2.2.1
theorem dX3_shelfFact_32 : decode cX3_shelfFact 32 = .ok (.ireturn, 1) := fx_ok0 eX3_shelfFact_0.2.2.2.1
theorem dX3_shelfFact_33 : decode cX3_shelfFact 33 = .ok (.aload_n 0, 1) := fx_ok0 eX3_shelfFact_0.2.2.2.2.1
theorem dX3_shelfFact_34 : decode cX3_shelfFact 34 = .ok (.getfield 74, 3) := fx_ok0 eX3_shelfFact_0.2.2.2.2.2.1
theorem dX3_shelfFact_37 : decode cX3_shelfFact 37 = .ok (.ireturn, 1) := fx_ok0 eX3_shelfFact_0.2.2.2.2.2.2.1
theorem dX3_shelfFact_38 : decode cX3_shelfFact 38 = .ok (.aload_n 0, 1) := fx_ok0 eX3_shelfFact_0.2.2.2.2.2.2.2.1
theorem dX3_shelfFact_39 : decode cX3_shelfFact 39 = .ok (.invokevirtual 303, 3) := fx_ok0 eX3_shelfFact_0.2.2.2.2.2.2.2.2.1
theorem dX3_shelfFact_42 : decode cX3_shelfFact 42 = .ok (.ireturn, 1) := fx_ok0 eX3_shelfFact_0.2.2.2.2.2.2.2.2.2
theorem dX3_shelfFact_1 : decode cX3_shelfFact 1 = .ok (.lookupswitch 37 #[(0, 27), (1, 32)], 27) := by decide +kernel
theorem eX3_houseFact_0 : (fdecl cX3_houseFact.data.toList 0 = some (.iload_n 1, 1)) ∧ (fdecl cX3_houseFact.data.toList 28 = some (.aload_n 0, 1)) ∧ (fdecl cX3_houseFact.data.toList 29 = some (.getfield 45, 3)) ∧ (fdecl cX3_houseFact.data.toList 32 = some (.ireturn, 1)) ∧ (fdecl cX3_houseFact.data.toList 33 = some (.aload_n 0, 1)) ∧ (fdecl cX3_houseFact.data.toList 34 = some (.getfield 219, 3)) ∧ (fdecl cX3_houseFact.data.toList 37 = some (.ireturn, 1)) ∧ (fdecl cX3_houseFact.data.toList 38 = some (.aload_n 0, 1)) ∧ (fdecl cX3_houseFact.data.toList 39 = some (.getfield 294, 3)) ∧ (fdecl cX3_houseFact.data.toList 42 = some (.ireturn, 1)) ∧ (fdecl cX3_houseFact.data.toList 43 = some (.aload_n 0, 1)) ∧ (fdecl cX3_houseFact.data.toList 44 = some (.getfield 241, 3)) ∧ (fdecl cX3_houseFact.data.toList 47 = some (.ireturn, 1)) := by decide +kernel
theorem dX3_houseFact_0 : decode cX3_houseFact 0 = .ok (.iload_n 1, 1) := fx_ok0 eX3_houseFact_0.1
theorem dX3_houseFact_28 : decode cX3_houseFact 28 = .ok (.aload_n 0, 1) := fx_ok0 eX3_houseFact_0.2.1
theorem dX3_houseFact_29 : decode cX3_houseFact 29 = .ok (.getfield 45, 3) := fx_ok0 eX3_houseFact_0.2.2.1
theorem dX3_houseFact_32 : decode cX3_houseFact 32 = .ok (.ireturn, 1) := fx_ok0 eX3_houseFact_0.2.2.2.1
theorem dX3_houseFact_33 : decode cX3_houseFact 33 = .ok (.aload_n 0, 1) := fx_ok0 eX3_houseFact_0.2.2.2.2.1
theorem dX3_houseFact_34 : decode cX3_houseFact 34 = .ok (.getfield 219, 3) := fx_ok0 eX3_houseFact_0.2.2.2.2.2.1
theorem dX3_houseFact_37 : decode cX3_houseFact 37 = .ok (.ireturn, 1) := fx_ok0 eX3_houseFact_0.2.2.2.2.2.2.1
theorem dX3_houseFact_38 : decode cX3_houseFact 38 = .ok (.aload_n 0, 1) := fx_ok0 eX3_houseFact_0.2.2.2.2.2.2.2.1
theorem dX3_houseFact_39 : decode cX3_houseFact 39 = .ok (.getfield 294, 3) := fx_ok0 eX3_houseFact_0.2.2.2.2.2.2.2.2.1
theorem dX3_houseFact_42 : decode cX3_houseFact 42 = .ok (.ireturn, 1) := fx_ok0 eX3_houseFact_0.2.2.2.2.2.2.2.2.2.1
theorem dX3_houseFact_43 : decode cX3_houseFact 43 = .ok (.aload_n 0, 1) := fx_ok0 eX3_houseFact_0.2.2.2.2.2.2.2.2.2.2.1
theorem dX3_houseFact_44 : decode cX3_houseFact 44 = .ok (.getfield 241, 3) := fx_ok0 eX3_houseFact_0.2.2.2.2.2.2.2.2.2.2.2.1
theorem dX3_houseFact_47 : decode cX3_houseFact 47 = .ok (.ireturn, 1) := fx_ok0 eX3_houseFact_0.2.2.2.2.2.2.2.2.2.2.2.2
theorem dX3_houseFact_1 : decode cX3_houseFact 1 = .ok (.tableswitch 42 0 2 #[27, 32, 37], 27) := by decide +kernel
theorem eX3_isRowSound_0 : (fdecl cX3_isRowSound.data.toList 0 = some (.aload_n 0, 1)) ∧ (fdecl cX3_isRowSound.data.toList 1 = some (.iconst 0, 1)) ∧ (fdecl cX3_isRowSound.data.toList 2 = some (.bipush 99, 2)) ∧ (fdecl cX3_isRowSound.data.toList 4 = some (.aload_n 0, 1)) ∧ (fdecl cX3_isRowSound.data.toList 5 = some (.getfield 49, 3)) ∧ (fdecl cX3_isRowSound.data.toList 8 = some (.invokestatic 306, 3)) ∧ (fdecl cX3_isRowSound.data.toList 11 = some (.ifCond .eq 39, 3)) ∧ (fdecl cX3_isRowSound.data.toList 14 = some (.aload_n 0, 1)) ∧ (fdecl cX3_isRowSound.data.toList 15 = some (.invokestatic 310, 3)) ∧ (fdecl cX3_isRowSound.data.toList 18 = some (.ifCond .eq 32, 3)) ∧ (fdecl cX3_isRowSound.data.toList 21 = some (.aload_n 0, 1)) ∧ (fdecl cX3_isRowSound.data.toList 22 = some (.invokestatic 313, 3)) ∧ (fdecl cX3_isRowSound.data.toList 25 = some (.ifCond .eq 25, 3)) ∧ (fdecl cX3_isRowSound.data.toList 28 = some (.aload_n 0, 1)) ∧ (fdecl cX3_isRowSound.data.toList 29 = some (.aload_n 0, 1)) ∧ (fdecl cX3_isRowSound.data.toList 30 = some (.iconst 0, 1)) := by decide +kernel
theorem dX3_isRowSound_0 : decode cX3_isRowSound 0 = .ok (.aload_n 0, 1) := fx_ok0 eX3_isRowSound_0.1
theorem dX3_isRowSound_1 : decode cX3_isRowSound 1 = .ok (.iconst 0, 1) := fx_ok0 eX3_isRowSound_0.2.1
theorem dX3_isRowSound_2 : decode cX3_isRowSound 2 = .ok (.bipush 99, 2) := fx_ok0 eX3_isRowSound_0.2.2.1
theorem dX3_isRowSound_4 : decode cX3_isRowSound 4 = .ok (.aload_n 0, 1) := fx_ok0 eX3_isRowSound_0.2.2.2.1
theorem dX3_isRowSound_5 : decode cX3_isRowSound 5 = .ok (.getfield 49, 3) := fx_ok0 eX3_isRowSound_0.2.2.2.2.1
theorem dX3_isRowSound_8 : decode cX3_isRowSound 8 = .ok (.invokestatic 306, 3) := fx_ok0 eX3_isRowSound_0.2.2.2.2.2.1
theorem dX3_isRowSound_11 : decode cX3_isRowSound 11 = .ok (.ifCond .eq 39, 3) := fx_ok0 eX3_isRowSound_0.2.2.2.2.2.2.1
theorem dX3_isRowSound_14 : decode cX3_isRowSound 14 = .ok (.aload_n 0, 1) := fx_ok0 eX3_isRowSound_0.2.2.2.2.2.2.2.1
theorem dX3_isRowSound_15 : decode cX3_isRowSound 15 = .ok (.invokestatic 310, 3) := fx_ok0 eX3_isRowSound_0.2.2.2.2.2.2.2.2.1
theorem dX3_isRowSound_18 : decode cX3_isRowSound 18 = .ok (.ifCond .eq 32, 3) := fx_ok0 eX3_isRowSound_0.2.2.2.2.2.2.2.2.2.1
theorem dX3_isRowSound_21 : decode cX3_isRowSound 21 = .ok (.aload_n 0, 1) := fx_ok0 eX3_isRowSound_0.2.2.2.2.2.2.2.2.2.2.1
theorem dX3_isRowSound_22 : decode cX3_isRowSound 22 = .ok (.invokestatic 313, 3) := fx_ok0 eX3_isRowSound_0.2.2.2.2.2.2.2.2.2.2.2.1
theorem dX3_isRowSound_25 : decode cX3_isRowSound 25 = .ok (.ifCond .eq 25, 3) := fx_ok0 eX3_isRowSound_0.2.2.2.2.2.2.2.2.2.2.2.2.1
theorem dX3_isRowSound_28 : decode cX3_isRowSound 28 = .ok (.aload_n 0, 1) := fx_ok0 eX3_isRowSound_0.2.2.2.2.2.2.2.2.2.2.2.2.2.1
theorem dX3_isRowSound_29 : decode cX3_isRowSound 29 = .ok (.aload_n 0, 1) := fx_ok0 eX3_isRowSound_0.2.2.2.2.2.2.2.2.2.2.2.2.2.2.1
theorem dX3_isRowSound_30 : decode cX3_isRowSound 30 = .ok (.iconst 0, 1) := fx_ok0 eX3_isRowSound_0.2.2.2.2.2.2.2.2.2.2.2.2.2.2.2
theorem eX3_isRowSound_31 : (fdecl cX3_isRowSound.data.toList 31 = some (.bipush 99, 2)) ∧ (fdecl cX3_isRowSound.data.toList 33 = some (.aload_n 0, 1)) ∧ (fdecl cX3_isRowSound.data.toList 34 = some (.getfield 74, 3)) ∧ (fdecl cX3_isRowSound.data.toList 37 = some (.invokevirtual 56, 3)) ∧ (fdecl cX3_isRowSound.data.toList 40 = some (.invokevirtual 167, 3)) ∧ (fdecl cX3_isRowSound.data.toList 43 = some (.ifCond .eq 7, 3)) ∧ (fdecl cX3_isRowSound.data.toList 46 = some (.iconst 1, 1)) ∧ (fdecl cX3_isRowSound.data.toList 47 = some (.goto 4, 3)) ∧ (fdecl cX3_isRowSound.data.toList 50 = some (.iconst 0, 1)) ∧ (fdecl cX3_isRowSound.data.toList 51 = some (.ireturn, 1)) := by decide +kernel
theorem dX3_isRowSound_31 : decode cX3_isRowSound 31 = .ok (.bipush 99, 2) := fx_ok0 eX3_isRowSound_31.1
theorem dX3_isRowSound_33 : decode cX3_isRowSound 33 = .ok (.aload_n 0, 1) := fx_ok0 eX3_isRowSound_31.2.1
theorem dX3_isRowSound_34 : decode cX3_isRowSound 34 = .ok (.getfield 74, 3) := fx_ok0 eX3_isRowSound_31.2.2.1
theorem dX3_isRowSound_37 : decode cX3_isRowSound 37 = .ok (.invokevirtual 56, 3) := fx_ok0 eX3_isRowSound_31.2.2.2.1
theorem dX3_isRowSound_40 : decode cX3_isRowSound 40 = .ok (.invokevirtual 167, 3) := fx_ok0 eX3_isRowSound_31.2.2.2.2.1
theorem dX3_isRowSound_43 : decode cX3_isRowSound 43 = .ok (.ifCond .eq 7, 3) := fx_ok0 eX3_isRowSound_31.2.2.2.2.2.1
theorem dX3_isRowSound_46 : decode cX3_isRowSound 46 = .ok (.iconst 1, 1) := fx_ok0 eX3_isRowSound_31.2.2.2.2.2.2.1
theorem dX3_isRowSound_47 : decode cX3_isRowSound 47 = .ok (.goto 4, 3) := fx_ok0 eX3_isRowSound_31.2.2.2.2.2.2.2.1
theorem dX3_isRowSound_50 : decode cX3_isRowSound 50 = .ok (.iconst 0, 1) := fx_ok0 eX3_isRowSound_31.2.2.2.2.2.2.2.2.1
theorem dX3_isRowSound_51 : decode cX3_isRowSound 51 = .ok (.ireturn, 1) := fx_ok0 eX3_isRowSound_31.2.2.2.2.2.2.2.2.2
theorem eX3_isViewSound_0 : (fdecl cX3_isViewSound.data.toList 0 = some (.aload_n 0, 1)) ∧ (fdecl cX3_isViewSound.data.toList 1 = some (.getfield 178, 3)) ∧ (fdecl cX3_isViewSound.data.toList 4 = some (.aload_n 0, 1)) ∧ (fdecl cX3_isViewSound.data.toList 5 = some (.getfield 182, 3)) ∧ (fdecl cX3_isViewSound.data.toList 8 = some (.aload_n 0, 1)) ∧ (fdecl cX3_isViewSound.data.toList 9 = some (.getfield 185, 3)) ∧ (fdecl cX3_isViewSound.data.toList 12 = some (.invokevirtual 188, 3)) ∧ (fdecl cX3_isViewSound.data.toList 15 = some (.istore_n 1, 1)) ∧ (fdecl cX3_isViewSound.data.toList 16 = some (.iload_n 1, 1)) ∧ (fdecl cX3_isViewSound.data.toList 17 = some (.aload_n 0, 1)) ∧ (fdecl cX3_isViewSound.data.toList 18 = some (.getfield 178, 3)) ∧ (fdecl cX3_isViewSound.data.toList 21 = some (.getfield 49, 3)) ∧ (fdecl cX3_isViewSound.data.toList 24 = some (.if_icmp .gt 26, 3)) ∧ (fdecl cX3_isViewSound.data.toList 27 = some (.aload_n 0, 1)) ∧ (fdecl cX3_isViewSound.data.toList 28 = some (.getfield 178, 3)) ∧ (fdecl cX3_isViewSound.data.toList 31 = some (.aload_n 0, 1)) := by decide +kernel
theorem dX3_isViewSound_0 : decode cX3_isViewSound 0 = .ok (.aload_n 0, 1) := fx_ok0 eX3_isViewSound_0.1
theorem dX3_isViewSound_1 : decode cX3_isViewSound 1 = .ok (.getfield 178, 3) := fx_ok0 eX3_isViewSound_0.2.1
theorem dX3_isViewSound_4 : decode cX3_isViewSound 4 = .ok (.aload_n 0, 1) := fx_ok0 eX3_isViewSound_0.2.2.1
theorem dX3_isViewSound_5 : decode cX3_isViewSound 5 = .ok (.getfield 182, 3) := fx_ok0 eX3_isViewSound_0.2.2.2.1
theorem dX3_isViewSound_8 : decode cX3_isViewSound 8 = .ok (.aload_n 0, 1) := fx_ok0 eX3_isViewSound_0.2.2.2.2.1
theorem dX3_isViewSound_9 : decode cX3_isViewSound 9 = .ok (.getfield 185, 3) := fx_ok0 eX3_isViewSound_0.2.2.2.2.2.1
theorem dX3_isViewSound_12 : decode cX3_isViewSound 12 = .ok (.invokevirtual 188, 3) := fx_ok0 eX3_isViewSound_0.2.2.2.2.2.2.1
theorem dX3_isViewSound_15 : decode cX3_isViewSound 15 = .ok (.istore_n 1, 1) := fx_ok0 eX3_isViewSound_0.2.2.2.2.2.2.2.1
theorem dX3_isViewSound_16 : decode cX3_isViewSound 16 = .ok (.iload_n 1, 1) := fx_ok0 eX3_isViewSound_0.2.2.2.2.2.2.2.2.1
theorem dX3_isViewSound_17 : decode cX3_isViewSound 17 = .ok (.aload_n 0, 1) := fx_ok0 eX3_isViewSound_0.2.2.2.2.2.2.2.2.2.1
theorem dX3_isViewSound_18 : decode cX3_isViewSound 18 = .ok (.getfield 178, 3) := fx_ok0 eX3_isViewSound_0.2.2.2.2.2.2.2.2.2.2.1
theorem dX3_isViewSound_21 : decode cX3_isViewSound 21 = .ok (.getfield 49, 3) := fx_ok0 eX3_isViewSound_0.2.2.2.2.2.2.2.2.2.2.2.1
theorem dX3_isViewSound_24 : decode cX3_isViewSound 24 = .ok (.if_icmp .gt 26, 3) := fx_ok0 eX3_isViewSound_0.2.2.2.2.2.2.2.2.2.2.2.2.1
theorem dX3_isViewSound_27 : decode cX3_isViewSound 27 = .ok (.aload_n 0, 1) := fx_ok0 eX3_isViewSound_0.2.2.2.2.2.2.2.2.2.2.2.2.2.1
theorem dX3_isViewSound_28 : decode cX3_isViewSound 28 = .ok (.getfield 178, 3) := fx_ok0 eX3_isViewSound_0.2.2.2.2.2.2.2.2.2.2.2.2.2.2.1
theorem dX3_isViewSound_31 : decode cX3_isViewSound 31 = .ok (.aload_n 0, 1) := fx_ok0 eX3_isViewSound_0.2.2.2.2.2.2.2.2.2.2.2.2.2.2.2
theorem eX3_isViewSound_32 : (fdecl cX3_isViewSound.data.toList 32 = some (.getfield 182, 3)) ∧ (fdecl cX3_isViewSound.data.toList 35 = some (.aload_n 0, 1)) ∧ (fdecl cX3_isViewSound.data.toList 36 = some (.getfield 185, 3)) ∧ (fdecl cX3_isViewSound.data.toList 39 = some (.iload_n 1, 1)) ∧ (fdecl cX3_isViewSound.data.toList 40 = some (.invokestatic 306, 3)) ∧ (fdecl cX3_isViewSound.data.toList 43 = some (.ifCond .eq 7, 3)) ∧ (fdecl cX3_isViewSound.data.toList 46 = some (.iconst 1, 1)) ∧ (fdecl cX3_isViewSound.data.toList 47 = some (.goto 4, 3)) ∧ (fdecl cX3_isViewSound.data.toList 50 = some (.iconst 0, 1)) ∧ (fdecl cX3_isViewSound.data.toList 51 = some (.ireturn, 1)) := by decide +kernel
theorem dX3_isViewSound_32 : decode cX3_isViewSound 32 = .ok (.getfield 182, 3) := fx_ok0 eX3_isViewSound_32.1
theorem dX3_isViewSound_35 : decode cX3_isViewSound 35 = .ok (.aload_n 0, 1) := fx_ok0 eX3_isViewSound_32.2.1
theorem dX3_isViewSound_36 : decode cX3_isViewSound 36 = .ok (.getfield 185, 3) := fx_ok0 eX3_isViewSound_32.2.2.1
theorem dX3_isViewSound_39 : decode cX3_isViewSound 39 = .ok (.iload_n 1, 1) := fx_ok0 eX3_isViewSound_32.2.2.2.1
theorem dX3_isViewSound_40 : decode cX3_isViewSound 40 = .ok (.invokestatic 306, 3) := fx_ok0 eX3_isViewSound_32.2.2.2.2.1
theorem dX3_isViewSound_43 : decode cX3_isViewSound 43 = .ok (.ifCond .eq 7, 3) := fx_ok0 eX3_isViewSound_32.2.2.2.2.2.1
theorem dX3_isViewSound_46 : decode cX3_isViewSound 46 = .ok (.iconst 1, 1) := fx_ok0 eX3_isViewSound_32.2.2.2.2.2.2.1
theorem dX3_isViewSound_47 : decode cX3_isViewSound 47 = .ok (.goto 4, 3) := fx_ok0 eX3_isViewSound_32.2.2.2.2.2.2.2.1
theorem dX3_isViewSound_50 : decode cX3_isViewSound 50 = .ok (.iconst 0, 1) := fx_ok0 eX3_isViewSound_32.2.2.2.2.2.2.2.2.1
theorem dX3_isViewSound_51 : decode cX3_isViewSound 51 = .ok (.ireturn, 1) := fx_ok0 eX3_isViewSound_32.2.2.2.2.2.2.2.2.2
def fAX3_isToldInOrder_0 : List UInt8 := [42, 27, 28, 3, 182, 0, 135, 54, 4, 3, 54, 5, 21, 4, 2, 159, 0, 71, 21, 5, 16, 100, 162, 0, 64, 132, 5, 1, 42, 27, 28, 42, 21, 4, 182, 0, 132, 6, 182, 0, 126, 54, 6, 42, 21, 4, 182, 0, 119, 153, 0, 28, 21, 6, 2, 159, 0, 24, 42, 42, 21, 4, 182, 0]
def fAX3_isToldInOrder_1 : List UInt8 := [132, 42, 21, 6, 182, 0, 132, 182, 1, 60, 154, 0, 5, 3, 172, 21, 6, 54, 4, 167, 255, 185, 21, 4, 2, 160, 0, 13, 21, 5, 29, 160, 0, 7, 4, 167, 0, 4, 3, 172]
def fTX3_isToldInOrder_1 : List UInt8 := fAX3_isToldInOrder_1
def fTX3_isToldInOrder_0 : List UInt8 := fAX3_isToldInOrder_0 ++ fTX3_isToldInOrder_1
theorem fDX3_isToldInOrder_0 : cX3_isToldInOrder.data.toList.drop 0 = fTX3_isToldInOrder_0 := eq_of_beq (by decide +kernel)
theorem fDX3_isToldInOrder_1 : cX3_isToldInOrder.data.toList.drop 64 = fTX3_isToldInOrder_1 := fx_nx (d := 0) (n := 64) (a := fAX3_isToldInOrder_0) fDX3_isToldInOrder_0 rfl
theorem eX3_isToldInOrder_0 : (fdecl fTX3_isToldInOrder_0 0 = some (.aload_n 0, 1)) ∧ (fdecl fTX3_isToldInOrder_0 1 = some (.iload_n 1, 1)) ∧ (fdecl fTX3_isToldInOrder_0 2 = some (.iload_n 2, 1)) ∧ (fdecl fTX3_isToldInOrder_0 3 = some (.iconst 0, 1)) ∧ (fdecl fTX3_isToldInOrder_0 4 = some (.invokevirtual 135, 3)) ∧ (fdecl fTX3_isToldInOrder_0 7 = some (.istore 4, 2)) ∧ (fdecl fTX3_isToldInOrder_0 9 = some (.iconst 0, 1)) ∧ (fdecl fTX3_isToldInOrder_0 10 = some (.istore 5, 2)) ∧ (fdecl fTX3_isToldInOrder_0 12 = some (.iload 4, 2)) ∧ (fdecl fTX3_isToldInOrder_0 14 = some (.iconst (-1), 1)) ∧ (fdecl fTX3_isToldInOrder_0 15 = some (.if_icmp .eq 71, 3)) ∧ (fdecl fTX3_isToldInOrder_0 18 = some (.iload 5, 2)) ∧ (fdecl fTX3_isToldInOrder_0 20 = some (.bipush 100, 2)) ∧ (fdecl fTX3_isToldInOrder_0 22 = some (.if_icmp .ge 64, 3)) ∧ (fdecl fTX3_isToldInOrder_0 28 = some (.aload_n 0, 1)) ∧ (fdecl fTX3_isToldInOrder_0 29 = some (.iload_n 1, 1)) := by decide +kernel
theorem dX3_isToldInOrder_0 : decode cX3_isToldInOrder 0 = .ok (.aload_n 0, 1) := fx_ok (d := 0) (i := 0) fDX3_isToldInOrder_0 eX3_isToldInOrder_0.1
theorem dX3_isToldInOrder_1 : decode cX3_isToldInOrder 1 = .ok (.iload_n 1, 1) := fx_ok (d := 0) (i := 1) fDX3_isToldInOrder_0 eX3_isToldInOrder_0.2.1
theorem dX3_isToldInOrder_2 : decode cX3_isToldInOrder 2 = .ok (.iload_n 2, 1) := fx_ok (d := 0) (i := 2) fDX3_isToldInOrder_0 eX3_isToldInOrder_0.2.2.1
theorem dX3_isToldInOrder_3 : decode cX3_isToldInOrder 3 = .ok (.iconst 0, 1) := fx_ok (d := 0) (i := 3) fDX3_isToldInOrder_0 eX3_isToldInOrder_0.2.2.2.1
theorem dX3_isToldInOrder_4 : decode cX3_isToldInOrder 4 = .ok (.invokevirtual 135, 3) := fx_ok (d := 0) (i := 4) fDX3_isToldInOrder_0 eX3_isToldInOrder_0.2.2.2.2.1
theorem dX3_isToldInOrder_7 : decode cX3_isToldInOrder 7 = .ok (.istore 4, 2) := fx_ok (d := 0) (i := 7) fDX3_isToldInOrder_0 eX3_isToldInOrder_0.2.2.2.2.2.1
theorem dX3_isToldInOrder_9 : decode cX3_isToldInOrder 9 = .ok (.iconst 0, 1) := fx_ok (d := 0) (i := 9) fDX3_isToldInOrder_0 eX3_isToldInOrder_0.2.2.2.2.2.2.1
theorem dX3_isToldInOrder_10 : decode cX3_isToldInOrder 10 = .ok (.istore 5, 2) := fx_ok (d := 0) (i := 10) fDX3_isToldInOrder_0 eX3_isToldInOrder_0.2.2.2.2.2.2.2.1
theorem dX3_isToldInOrder_12 : decode cX3_isToldInOrder 12 = .ok (.iload 4, 2) := fx_ok (d := 0) (i := 12) fDX3_isToldInOrder_0 eX3_isToldInOrder_0.2.2.2.2.2.2.2.2.1
theorem dX3_isToldInOrder_14 : decode cX3_isToldInOrder 14 = .ok (.iconst (-1), 1) := fx_ok (d := 0) (i := 14) fDX3_isToldInOrder_0 eX3_isToldInOrder_0.2.2.2.2.2.2.2.2.2.1
theorem dX3_isToldInOrder_15 : decode cX3_isToldInOrder 15 = .ok (.if_icmp .eq 71, 3) := fx_ok (d := 0) (i := 15) fDX3_isToldInOrder_0 eX3_isToldInOrder_0.2.2.2.2.2.2.2.2.2.2.1
theorem dX3_isToldInOrder_18 : decode cX3_isToldInOrder 18 = .ok (.iload 5, 2) := fx_ok (d := 0) (i := 18) fDX3_isToldInOrder_0 eX3_isToldInOrder_0.2.2.2.2.2.2.2.2.2.2.2.1
theorem dX3_isToldInOrder_20 : decode cX3_isToldInOrder 20 = .ok (.bipush 100, 2) := fx_ok (d := 0) (i := 20) fDX3_isToldInOrder_0 eX3_isToldInOrder_0.2.2.2.2.2.2.2.2.2.2.2.2.1
theorem dX3_isToldInOrder_22 : decode cX3_isToldInOrder 22 = .ok (.if_icmp .ge 64, 3) := fx_ok (d := 0) (i := 22) fDX3_isToldInOrder_0 eX3_isToldInOrder_0.2.2.2.2.2.2.2.2.2.2.2.2.2.1
theorem dX3_isToldInOrder_28 : decode cX3_isToldInOrder 28 = .ok (.aload_n 0, 1) := fx_ok (d := 0) (i := 28) fDX3_isToldInOrder_0 eX3_isToldInOrder_0.2.2.2.2.2.2.2.2.2.2.2.2.2.2.1
theorem dX3_isToldInOrder_29 : decode cX3_isToldInOrder 29 = .ok (.iload_n 1, 1) := fx_ok (d := 0) (i := 29) fDX3_isToldInOrder_0 eX3_isToldInOrder_0.2.2.2.2.2.2.2.2.2.2.2.2.2.2.2
theorem eX3_isToldInOrder_30 : (fdecl fTX3_isToldInOrder_0 30 = some (.iload_n 2, 1)) ∧ (fdecl fTX3_isToldInOrder_0 31 = some (.aload_n 0, 1)) ∧ (fdecl fTX3_isToldInOrder_0 32 = some (.iload 4, 2)) ∧ (fdecl fTX3_isToldInOrder_0 34 = some (.invokevirtual 132, 3)) ∧ (fdecl fTX3_isToldInOrder_0 37 = some (.iconst 3, 1)) ∧ (fdecl fTX3_isToldInOrder_0 38 = some (.invokevirtual 126, 3)) ∧ (fdecl fTX3_isToldInOrder_0 41 = some (.istore 6, 2)) ∧ (fdecl fTX3_isToldInOrder_0 43 = some (.aload_n 0, 1)) ∧ (fdecl fTX3_isToldInOrder_0 44 = some (.iload 4, 2)) ∧ (fdecl fTX3_isToldInOrder_0 46 = some (.invokevirtual 119, 3)) ∧ (fdecl fTX3_isToldInOrder_0 49 = some (.ifCond .eq 28, 3)) ∧ (fdecl fTX3_isToldInOrder_0 52 = some (.iload 6, 2)) ∧ (fdecl fTX3_isToldInOrder_0 54 = some (.iconst (-1), 1)) ∧ (fdecl fTX3_isToldInOrder_0 55 = some (.if_icmp .eq 24, 3)) ∧ (fdecl fTX3_isToldInOrder_0 58 = some (.aload_n 0, 1)) ∧ (fdecl fTX3_isToldInOrder_0 59 = some (.aload_n 0, 1)) := by decide +kernel
theorem dX3_isToldInOrder_30 : decode cX3_isToldInOrder 30 = .ok (.iload_n 2, 1) := fx_ok (d := 0) (i := 30) fDX3_isToldInOrder_0 eX3_isToldInOrder_30.1
theorem dX3_isToldInOrder_31 : decode cX3_isToldInOrder 31 = .ok (.aload_n 0, 1) := fx_ok (d := 0) (i := 31) fDX3_isToldInOrder_0 eX3_isToldInOrder_30.2.1
theorem dX3_isToldInOrder_32 : decode cX3_isToldInOrder 32 = .ok (.iload 4, 2) := fx_ok (d := 0) (i := 32) fDX3_isToldInOrder_0 eX3_isToldInOrder_30.2.2.1
theorem dX3_isToldInOrder_34 : decode cX3_isToldInOrder 34 = .ok (.invokevirtual 132, 3) := fx_ok (d := 0) (i := 34) fDX3_isToldInOrder_0 eX3_isToldInOrder_30.2.2.2.1
theorem dX3_isToldInOrder_37 : decode cX3_isToldInOrder 37 = .ok (.iconst 3, 1) := fx_ok (d := 0) (i := 37) fDX3_isToldInOrder_0 eX3_isToldInOrder_30.2.2.2.2.1
theorem dX3_isToldInOrder_38 : decode cX3_isToldInOrder 38 = .ok (.invokevirtual 126, 3) := fx_ok (d := 0) (i := 38) fDX3_isToldInOrder_0 eX3_isToldInOrder_30.2.2.2.2.2.1
theorem dX3_isToldInOrder_41 : decode cX3_isToldInOrder 41 = .ok (.istore 6, 2) := fx_ok (d := 0) (i := 41) fDX3_isToldInOrder_0 eX3_isToldInOrder_30.2.2.2.2.2.2.1
theorem dX3_isToldInOrder_43 : decode cX3_isToldInOrder 43 = .ok (.aload_n 0, 1) := fx_ok (d := 0) (i := 43) fDX3_isToldInOrder_0 eX3_isToldInOrder_30.2.2.2.2.2.2.2.1
theorem dX3_isToldInOrder_44 : decode cX3_isToldInOrder 44 = .ok (.iload 4, 2) := fx_ok (d := 0) (i := 44) fDX3_isToldInOrder_0 eX3_isToldInOrder_30.2.2.2.2.2.2.2.2.1
theorem dX3_isToldInOrder_46 : decode cX3_isToldInOrder 46 = .ok (.invokevirtual 119, 3) := fx_ok (d := 0) (i := 46) fDX3_isToldInOrder_0 eX3_isToldInOrder_30.2.2.2.2.2.2.2.2.2.1
theorem dX3_isToldInOrder_49 : decode cX3_isToldInOrder 49 = .ok (.ifCond .eq 28, 3) := fx_ok (d := 0) (i := 49) fDX3_isToldInOrder_0 eX3_isToldInOrder_30.2.2.2.2.2.2.2.2.2.2.1
theorem dX3_isToldInOrder_52 : decode cX3_isToldInOrder 52 = .ok (.iload 6, 2) := fx_ok (d := 0) (i := 52) fDX3_isToldInOrder_0 eX3_isToldInOrder_30.2.2.2.2.2.2.2.2.2.2.2.1
theorem dX3_isToldInOrder_54 : decode cX3_isToldInOrder 54 = .ok (.iconst (-1), 1) := fx_ok (d := 0) (i := 54) fDX3_isToldInOrder_0 eX3_isToldInOrder_30.2.2.2.2.2.2.2.2.2.2.2.2.1
theorem dX3_isToldInOrder_55 : decode cX3_isToldInOrder 55 = .ok (.if_icmp .eq 24, 3) := fx_ok (d := 0) (i := 55) fDX3_isToldInOrder_0 eX3_isToldInOrder_30.2.2.2.2.2.2.2.2.2.2.2.2.2.1
theorem dX3_isToldInOrder_58 : decode cX3_isToldInOrder 58 = .ok (.aload_n 0, 1) := fx_ok (d := 0) (i := 58) fDX3_isToldInOrder_0 eX3_isToldInOrder_30.2.2.2.2.2.2.2.2.2.2.2.2.2.2.1
theorem dX3_isToldInOrder_59 : decode cX3_isToldInOrder 59 = .ok (.aload_n 0, 1) := fx_ok (d := 0) (i := 59) fDX3_isToldInOrder_0 eX3_isToldInOrder_30.2.2.2.2.2.2.2.2.2.2.2.2.2.2.2
theorem eX3_isToldInOrder_60 : (fdecl fTX3_isToldInOrder_0 60 = some (.iload 4, 2)) ∧ (fdecl fTX3_isToldInOrder_0 62 = some (.invokevirtual 132, 3)) ∧ (fdecl fTX3_isToldInOrder_1 1 = some (.aload_n 0, 1)) ∧ (fdecl fTX3_isToldInOrder_1 2 = some (.iload 6, 2)) ∧ (fdecl fTX3_isToldInOrder_1 4 = some (.invokevirtual 132, 3)) ∧ (fdecl fTX3_isToldInOrder_1 7 = some (.invokevirtual 316, 3)) ∧ (fdecl fTX3_isToldInOrder_1 10 = some (.ifCond .ne 5, 3)) ∧ (fdecl fTX3_isToldInOrder_1 13 = some (.iconst 0, 1)) ∧ (fdecl fTX3_isToldInOrder_1 14 = some (.ireturn, 1)) ∧ (fdecl fTX3_isToldInOrder_1 15 = some (.iload 6, 2)) ∧ (fdecl fTX3_isToldInOrder_1 17 = some (.istore 4, 2)) ∧ (fdecl fTX3_isToldInOrder_1 19 = some (.goto (-71), 3)) ∧ (fdecl fTX3_isToldInOrder_1 22 = some (.iload 4, 2)) ∧ (fdecl fTX3_isToldInOrder_1 24 = some (.iconst (-1), 1)) ∧ (fdecl fTX3_isToldInOrder_1 25 = some (.if_icmp .ne 13, 3)) ∧ (fdecl fTX3_isToldInOrder_1 28 = some (.iload 5, 2)) := by decide +kernel
theorem dX3_isToldInOrder_60 : decode cX3_isToldInOrder 60 = .ok (.iload 4, 2) := fx_ok (d := 0) (i := 60) fDX3_isToldInOrder_0 eX3_isToldInOrder_60.1
theorem dX3_isToldInOrder_62 : decode cX3_isToldInOrder 62 = .ok (.invokevirtual 132, 3) := fx_ok (d := 0) (i := 62) fDX3_isToldInOrder_0 eX3_isToldInOrder_60.2.1
theorem dX3_isToldInOrder_65 : decode cX3_isToldInOrder 65 = .ok (.aload_n 0, 1) := fx_ok (d := 64) (i := 1) fDX3_isToldInOrder_1 eX3_isToldInOrder_60.2.2.1
theorem dX3_isToldInOrder_66 : decode cX3_isToldInOrder 66 = .ok (.iload 6, 2) := fx_ok (d := 64) (i := 2) fDX3_isToldInOrder_1 eX3_isToldInOrder_60.2.2.2.1
theorem dX3_isToldInOrder_68 : decode cX3_isToldInOrder 68 = .ok (.invokevirtual 132, 3) := fx_ok (d := 64) (i := 4) fDX3_isToldInOrder_1 eX3_isToldInOrder_60.2.2.2.2.1
theorem dX3_isToldInOrder_71 : decode cX3_isToldInOrder 71 = .ok (.invokevirtual 316, 3) := fx_ok (d := 64) (i := 7) fDX3_isToldInOrder_1 eX3_isToldInOrder_60.2.2.2.2.2.1
theorem dX3_isToldInOrder_74 : decode cX3_isToldInOrder 74 = .ok (.ifCond .ne 5, 3) := fx_ok (d := 64) (i := 10) fDX3_isToldInOrder_1 eX3_isToldInOrder_60.2.2.2.2.2.2.1
theorem dX3_isToldInOrder_77 : decode cX3_isToldInOrder 77 = .ok (.iconst 0, 1) := fx_ok (d := 64) (i := 13) fDX3_isToldInOrder_1 eX3_isToldInOrder_60.2.2.2.2.2.2.2.1
theorem dX3_isToldInOrder_78 : decode cX3_isToldInOrder 78 = .ok (.ireturn, 1) := fx_ok (d := 64) (i := 14) fDX3_isToldInOrder_1 eX3_isToldInOrder_60.2.2.2.2.2.2.2.2.1
theorem dX3_isToldInOrder_79 : decode cX3_isToldInOrder 79 = .ok (.iload 6, 2) := fx_ok (d := 64) (i := 15) fDX3_isToldInOrder_1 eX3_isToldInOrder_60.2.2.2.2.2.2.2.2.2.1
theorem dX3_isToldInOrder_81 : decode cX3_isToldInOrder 81 = .ok (.istore 4, 2) := fx_ok (d := 64) (i := 17) fDX3_isToldInOrder_1 eX3_isToldInOrder_60.2.2.2.2.2.2.2.2.2.2.1
theorem dX3_isToldInOrder_83 : decode cX3_isToldInOrder 83 = .ok (.goto (-71), 3) := fx_ok (d := 64) (i := 19) fDX3_isToldInOrder_1 eX3_isToldInOrder_60.2.2.2.2.2.2.2.2.2.2.2.1
theorem dX3_isToldInOrder_86 : decode cX3_isToldInOrder 86 = .ok (.iload 4, 2) := fx_ok (d := 64) (i := 22) fDX3_isToldInOrder_1 eX3_isToldInOrder_60.2.2.2.2.2.2.2.2.2.2.2.2.1
theorem dX3_isToldInOrder_88 : decode cX3_isToldInOrder 88 = .ok (.iconst (-1), 1) := fx_ok (d := 64) (i := 24) fDX3_isToldInOrder_1 eX3_isToldInOrder_60.2.2.2.2.2.2.2.2.2.2.2.2.2.1
theorem dX3_isToldInOrder_89 : decode cX3_isToldInOrder 89 = .ok (.if_icmp .ne 13, 3) := fx_ok (d := 64) (i := 25) fDX3_isToldInOrder_1 eX3_isToldInOrder_60.2.2.2.2.2.2.2.2.2.2.2.2.2.2.1
theorem dX3_isToldInOrder_92 : decode cX3_isToldInOrder 92 = .ok (.iload 5, 2) := fx_ok (d := 64) (i := 28) fDX3_isToldInOrder_1 eX3_isToldInOrder_60.2.2.2.2.2.2.2.2.2.2.2.2.2.2.2
theorem eX3_isToldInOrder_94 : (fdecl fTX3_isToldInOrder_1 30 = some (.iload_n 3, 1)) ∧ (fdecl fTX3_isToldInOrder_1 31 = some (.if_icmp .ne 7, 3)) ∧ (fdecl fTX3_isToldInOrder_1 34 = some (.iconst 1, 1)) ∧ (fdecl fTX3_isToldInOrder_1 35 = some (.goto 4, 3)) ∧ (fdecl fTX3_isToldInOrder_1 38 = some (.iconst 0, 1)) ∧ (fdecl fTX3_isToldInOrder_1 39 = some (.ireturn, 1)) := by decide +kernel
theorem dX3_isToldInOrder_94 : decode cX3_isToldInOrder 94 = .ok (.iload_n 3, 1) := fx_ok (d := 64) (i := 30) fDX3_isToldInOrder_1 eX3_isToldInOrder_94.1
theorem dX3_isToldInOrder_95 : decode cX3_isToldInOrder 95 = .ok (.if_icmp .ne 7, 3) := fx_ok (d := 64) (i := 31) fDX3_isToldInOrder_1 eX3_isToldInOrder_94.2.1
theorem dX3_isToldInOrder_98 : decode cX3_isToldInOrder 98 = .ok (.iconst 1, 1) := fx_ok (d := 64) (i := 34) fDX3_isToldInOrder_1 eX3_isToldInOrder_94.2.2.1
theorem dX3_isToldInOrder_99 : decode cX3_isToldInOrder 99 = .ok (.goto 4, 3) := fx_ok (d := 64) (i := 35) fDX3_isToldInOrder_1 eX3_isToldInOrder_94.2.2.2.1
theorem dX3_isToldInOrder_102 : decode cX3_isToldInOrder 102 = .ok (.iconst 0, 1) := fx_ok (d := 64) (i := 38) fDX3_isToldInOrder_1 eX3_isToldInOrder_94.2.2.2.2.1
theorem dX3_isToldInOrder_103 : decode cX3_isToldInOrder 103 = .ok (.ireturn, 1) := fx_ok (d := 64) (i := 39) fDX3_isToldInOrder_1 eX3_isToldInOrder_94.2.2.2.2.2
theorem dX3_isToldInOrder_25 : decode cX3_isToldInOrder 25 = .ok (.iinc 5 1, 3) := by decide +kernel
theorem eX3_isToldBackwards_0 : (fdecl cX3_isToldBackwards.data.toList 0 = some (.aload_n 0, 1)) ∧ (fdecl cX3_isToldBackwards.data.toList 1 = some (.iconst 0, 1)) ∧ (fdecl cX3_isToldBackwards.data.toList 2 = some (.bipush 99, 2)) ∧ (fdecl cX3_isToldBackwards.data.toList 4 = some (.iconst 1, 1)) ∧ (fdecl cX3_isToldBackwards.data.toList 5 = some (.invokevirtual 135, 3)) ∧ (fdecl cX3_isToldBackwards.data.toList 8 = some (.istore_n 1, 1)) ∧ (fdecl cX3_isToldBackwards.data.toList 9 = some (.iconst 0, 1)) ∧ (fdecl cX3_isToldBackwards.data.toList 10 = some (.istore_n 2, 1)) ∧ (fdecl cX3_isToldBackwards.data.toList 11 = some (.iload_n 1, 1)) ∧ (fdecl cX3_isToldBackwards.data.toList 12 = some (.iconst (-1), 1)) ∧ (fdecl cX3_isToldBackwards.data.toList 13 = some (.if_icmp .eq 55, 3)) ∧ (fdecl cX3_isToldBackwards.data.toList 16 = some (.iload_n 2, 1)) ∧ (fdecl cX3_isToldBackwards.data.toList 17 = some (.bipush 100, 2)) ∧ (fdecl cX3_isToldBackwards.data.toList 19 = some (.if_icmp .ge 49, 3)) ∧ (fdecl cX3_isToldBackwards.data.toList 25 = some (.aload_n 0, 1)) ∧ (fdecl cX3_isToldBackwards.data.toList 26 = some (.iconst 0, 1)) := by decide +kernel
theorem dX3_isToldBackwards_0 : decode cX3_isToldBackwards 0 = .ok (.aload_n 0, 1) := fx_ok0 eX3_isToldBackwards_0.1
theorem dX3_isToldBackwards_1 : decode cX3_isToldBackwards 1 = .ok (.iconst 0, 1) := fx_ok0 eX3_isToldBackwards_0.2.1
theorem dX3_isToldBackwards_2 : decode cX3_isToldBackwards 2 = .ok (.bipush 99, 2) := fx_ok0 eX3_isToldBackwards_0.2.2.1
theorem dX3_isToldBackwards_4 : decode cX3_isToldBackwards 4 = .ok (.iconst 1, 1) := fx_ok0 eX3_isToldBackwards_0.2.2.2.1
theorem dX3_isToldBackwards_5 : decode cX3_isToldBackwards 5 = .ok (.invokevirtual 135, 3) := fx_ok0 eX3_isToldBackwards_0.2.2.2.2.1
theorem dX3_isToldBackwards_8 : decode cX3_isToldBackwards 8 = .ok (.istore_n 1, 1) := fx_ok0 eX3_isToldBackwards_0.2.2.2.2.2.1
theorem dX3_isToldBackwards_9 : decode cX3_isToldBackwards 9 = .ok (.iconst 0, 1) := fx_ok0 eX3_isToldBackwards_0.2.2.2.2.2.2.1
theorem dX3_isToldBackwards_10 : decode cX3_isToldBackwards 10 = .ok (.istore_n 2, 1) := fx_ok0 eX3_isToldBackwards_0.2.2.2.2.2.2.2.1
theorem dX3_isToldBackwards_11 : decode cX3_isToldBackwards 11 = .ok (.iload_n 1, 1) := fx_ok0 eX3_isToldBackwards_0.2.2.2.2.2.2.2.2.1
theorem dX3_isToldBackwards_12 : decode cX3_isToldBackwards 12 = .ok (.iconst (-1), 1) := fx_ok0 eX3_isToldBackwards_0.2.2.2.2.2.2.2.2.2.1
theorem dX3_isToldBackwards_13 : decode cX3_isToldBackwards 13 = .ok (.if_icmp .eq 55, 3) := fx_ok0 eX3_isToldBackwards_0.2.2.2.2.2.2.2.2.2.2.1
theorem dX3_isToldBackwards_16 : decode cX3_isToldBackwards 16 = .ok (.iload_n 2, 1) := fx_ok0 eX3_isToldBackwards_0.2.2.2.2.2.2.2.2.2.2.2.1
theorem dX3_isToldBackwards_17 : decode cX3_isToldBackwards 17 = .ok (.bipush 100, 2) := fx_ok0 eX3_isToldBackwards_0.2.2.2.2.2.2.2.2.2.2.2.2.1
theorem dX3_isToldBackwards_19 : decode cX3_isToldBackwards 19 = .ok (.if_icmp .ge 49, 3) := fx_ok0 eX3_isToldBackwards_0.2.2.2.2.2.2.2.2.2.2.2.2.2.1
theorem dX3_isToldBackwards_25 : decode cX3_isToldBackwards 25 = .ok (.aload_n 0, 1) := fx_ok0 eX3_isToldBackwards_0.2.2.2.2.2.2.2.2.2.2.2.2.2.2.1
theorem dX3_isToldBackwards_26 : decode cX3_isToldBackwards 26 = .ok (.iconst 0, 1) := fx_ok0 eX3_isToldBackwards_0.2.2.2.2.2.2.2.2.2.2.2.2.2.2.2
theorem eX3_isToldBackwards_27 : (fdecl cX3_isToldBackwards.data.toList 27 = some (.bipush 99, 2)) ∧ (fdecl cX3_isToldBackwards.data.toList 29 = some (.aload_n 0, 1)) ∧ (fdecl cX3_isToldBackwards.data.toList 30 = some (.iload_n 1, 1)) ∧ (fdecl cX3_isToldBackwards.data.toList 31 = some (.invokevirtual 132, 3)) ∧ (fdecl cX3_isToldBackwards.data.toList 34 = some (.iconst 2, 1)) ∧ (fdecl cX3_isToldBackwards.data.toList 35 = some (.invokevirtual 126, 3)) ∧ (fdecl cX3_isToldBackwards.data.toList 38 = some (.istore_n 3, 1)) ∧ (fdecl cX3_isToldBackwards.data.toList 39 = some (.iload_n 3, 1)) ∧ (fdecl cX3_isToldBackwards.data.toList 40 = some (.iconst (-1), 1)) ∧ (fdecl cX3_isToldBackwards.data.toList 41 = some (.if_icmp .eq 22, 3)) ∧ (fdecl cX3_isToldBackwards.data.toList 44 = some (.aload_n 0, 1)) ∧ (fdecl cX3_isToldBackwards.data.toList 45 = some (.aload_n 0, 1)) ∧ (fdecl cX3_isToldBackwards.data.toList 46 = some (.iload_n 3, 1)) ∧ (fdecl cX3_isToldBackwards.data.toList 47 = some (.invokevirtual 132, 3)) ∧ (fdecl cX3_isToldBackwards.data.toList 50 = some (.aload_n 0, 1)) ∧ (fdecl cX3_isToldBackwards.data.toList 51 = some (.iload_n 1, 1)) := by decide +kernel
theorem dX3_isToldBackwards_27 : decode cX3_isToldBackwards 27 = .ok (.bipush 99, 2) := fx_ok0 eX3_isToldBackwards_27.1
theorem dX3_isToldBackwards_29 : decode cX3_isToldBackwards 29 = .ok (.aload_n 0, 1) := fx_ok0 eX3_isToldBackwards_27.2.1
theorem dX3_isToldBackwards_30 : decode cX3_isToldBackwards 30 = .ok (.iload_n 1, 1) := fx_ok0 eX3_isToldBackwards_27.2.2.1
theorem dX3_isToldBackwards_31 : decode cX3_isToldBackwards 31 = .ok (.invokevirtual 132, 3) := fx_ok0 eX3_isToldBackwards_27.2.2.2.1
theorem dX3_isToldBackwards_34 : decode cX3_isToldBackwards 34 = .ok (.iconst 2, 1) := fx_ok0 eX3_isToldBackwards_27.2.2.2.2.1
theorem dX3_isToldBackwards_35 : decode cX3_isToldBackwards 35 = .ok (.invokevirtual 126, 3) := fx_ok0 eX3_isToldBackwards_27.2.2.2.2.2.1
theorem dX3_isToldBackwards_38 : decode cX3_isToldBackwards 38 = .ok (.istore_n 3, 1) := fx_ok0 eX3_isToldBackwards_27.2.2.2.2.2.2.1
theorem dX3_isToldBackwards_39 : decode cX3_isToldBackwards 39 = .ok (.iload_n 3, 1) := fx_ok0 eX3_isToldBackwards_27.2.2.2.2.2.2.2.1
theorem dX3_isToldBackwards_40 : decode cX3_isToldBackwards 40 = .ok (.iconst (-1), 1) := fx_ok0 eX3_isToldBackwards_27.2.2.2.2.2.2.2.2.1
theorem dX3_isToldBackwards_41 : decode cX3_isToldBackwards 41 = .ok (.if_icmp .eq 22, 3) := fx_ok0 eX3_isToldBackwards_27.2.2.2.2.2.2.2.2.2.1
theorem dX3_isToldBackwards_44 : decode cX3_isToldBackwards 44 = .ok (.aload_n 0, 1) := fx_ok0 eX3_isToldBackwards_27.2.2.2.2.2.2.2.2.2.2.1
theorem dX3_isToldBackwards_45 : decode cX3_isToldBackwards 45 = .ok (.aload_n 0, 1) := fx_ok0 eX3_isToldBackwards_27.2.2.2.2.2.2.2.2.2.2.2.1
theorem dX3_isToldBackwards_46 : decode cX3_isToldBackwards 46 = .ok (.iload_n 3, 1) := fx_ok0 eX3_isToldBackwards_27.2.2.2.2.2.2.2.2.2.2.2.2.1
theorem dX3_isToldBackwards_47 : decode cX3_isToldBackwards 47 = .ok (.invokevirtual 132, 3) := fx_ok0 eX3_isToldBackwards_27.2.2.2.2.2.2.2.2.2.2.2.2.2.1
theorem dX3_isToldBackwards_50 : decode cX3_isToldBackwards 50 = .ok (.aload_n 0, 1) := fx_ok0 eX3_isToldBackwards_27.2.2.2.2.2.2.2.2.2.2.2.2.2.2.1
theorem dX3_isToldBackwards_51 : decode cX3_isToldBackwards 51 = .ok (.iload_n 1, 1) := fx_ok0 eX3_isToldBackwards_27.2.2.2.2.2.2.2.2.2.2.2.2.2.2.2
theorem eX3_isToldBackwards_52 : (fdecl cX3_isToldBackwards.data.toList 52 = some (.invokevirtual 132, 3)) ∧ (fdecl cX3_isToldBackwards.data.toList 55 = some (.invokevirtual 316, 3)) ∧ (fdecl cX3_isToldBackwards.data.toList 58 = some (.ifCond .ne 5, 3)) ∧ (fdecl cX3_isToldBackwards.data.toList 61 = some (.iconst 0, 1)) ∧ (fdecl cX3_isToldBackwards.data.toList 62 = some (.ireturn, 1)) ∧ (fdecl cX3_isToldBackwards.data.toList 63 = some (.iload_n 3, 1)) ∧ (fdecl cX3_isToldBackwards.data.toList 64 = some (.istore_n 1, 1)) ∧ (fdecl cX3_isToldBackwards.data.toList 65 = some (.goto (-54), 3)) ∧ (fdecl cX3_isToldBackwards.data.toList 68 = some (.iload_n 1, 1)) ∧ (fdecl cX3_isToldBackwards.data.toList 69 = some (.iconst (-1), 1)) ∧ (fdecl cX3_isToldBackwards.data.toList 70 = some (.if_icmp .ne 15, 3)) ∧ (fdecl cX3_isToldBackwards.data.toList 73 = some (.iload_n 2, 1)) ∧ (fdecl cX3_isToldBackwards.data.toList 74 = some (.aload_n 0, 1)) ∧ (fdecl cX3_isToldBackwards.data.toList 75 = some (.getfield 49, 3)) ∧ (fdecl cX3_isToldBackwards.data.toList 78 = some (.if_icmp .ne 7, 3)) ∧ (fdecl cX3_isToldBackwards.data.toList 81 = some (.iconst 1, 1)) := by decide +kernel
theorem dX3_isToldBackwards_52 : decode cX3_isToldBackwards 52 = .ok (.invokevirtual 132, 3) := fx_ok0 eX3_isToldBackwards_52.1
theorem dX3_isToldBackwards_55 : decode cX3_isToldBackwards 55 = .ok (.invokevirtual 316, 3) := fx_ok0 eX3_isToldBackwards_52.2.1
theorem dX3_isToldBackwards_58 : decode cX3_isToldBackwards 58 = .ok (.ifCond .ne 5, 3) := fx_ok0 eX3_isToldBackwards_52.2.2.1
theorem dX3_isToldBackwards_61 : decode cX3_isToldBackwards 61 = .ok (.iconst 0, 1) := fx_ok0 eX3_isToldBackwards_52.2.2.2.1
theorem dX3_isToldBackwards_62 : decode cX3_isToldBackwards 62 = .ok (.ireturn, 1) := fx_ok0 eX3_isToldBackwards_52.2.2.2.2.1
theorem dX3_isToldBackwards_63 : decode cX3_isToldBackwards 63 = .ok (.iload_n 3, 1) := fx_ok0 eX3_isToldBackwards_52.2.2.2.2.2.1
theorem dX3_isToldBackwards_64 : decode cX3_isToldBackwards 64 = .ok (.istore_n 1, 1) := fx_ok0 eX3_isToldBackwards_52.2.2.2.2.2.2.1
theorem dX3_isToldBackwards_65 : decode cX3_isToldBackwards 65 = .ok (.goto (-54), 3) := fx_ok0 eX3_isToldBackwards_52.2.2.2.2.2.2.2.1
theorem dX3_isToldBackwards_68 : decode cX3_isToldBackwards 68 = .ok (.iload_n 1, 1) := fx_ok0 eX3_isToldBackwards_52.2.2.2.2.2.2.2.2.1
theorem dX3_isToldBackwards_69 : decode cX3_isToldBackwards 69 = .ok (.iconst (-1), 1) := fx_ok0 eX3_isToldBackwards_52.2.2.2.2.2.2.2.2.2.1
theorem dX3_isToldBackwards_70 : decode cX3_isToldBackwards 70 = .ok (.if_icmp .ne 15, 3) := fx_ok0 eX3_isToldBackwards_52.2.2.2.2.2.2.2.2.2.2.1
theorem dX3_isToldBackwards_73 : decode cX3_isToldBackwards 73 = .ok (.iload_n 2, 1) := fx_ok0 eX3_isToldBackwards_52.2.2.2.2.2.2.2.2.2.2.2.1
theorem dX3_isToldBackwards_74 : decode cX3_isToldBackwards 74 = .ok (.aload_n 0, 1) := fx_ok0 eX3_isToldBackwards_52.2.2.2.2.2.2.2.2.2.2.2.2.1
theorem dX3_isToldBackwards_75 : decode cX3_isToldBackwards 75 = .ok (.getfield 49, 3) := fx_ok0 eX3_isToldBackwards_52.2.2.2.2.2.2.2.2.2.2.2.2.2.1
theorem dX3_isToldBackwards_78 : decode cX3_isToldBackwards 78 = .ok (.if_icmp .ne 7, 3) := fx_ok0 eX3_isToldBackwards_52.2.2.2.2.2.2.2.2.2.2.2.2.2.2.1
theorem dX3_isToldBackwards_81 : decode cX3_isToldBackwards 81 = .ok (.iconst 1, 1) := fx_ok0 eX3_isToldBackwards_52.2.2.2.2.2.2.2.2.2.2.2.2.2.2.2
theorem eX3_isToldBackwards_82 : (fdecl cX3_isToldBackwards.data.toList 82 = some (.goto 4, 3)) ∧ (fdecl cX3_isToldBackwards.data.toList 85 = some (.iconst 0, 1)) ∧ (fdecl cX3_isToldBackwards.data.toList 86 = some (.ireturn, 1)) := by decide +kernel
theorem dX3_isToldBackwards_82 : decode cX3_isToldBackwards 82 = .ok (.goto 4, 3) := fx_ok0 eX3_isToldBackwards_82.1
theorem dX3_isToldBackwards_85 : decode cX3_isToldBackwards 85 = .ok (.iconst 0, 1) := fx_ok0 eX3_isToldBackwards_82.2.1
theorem dX3_isToldBackwards_86 : decode cX3_isToldBackwards 86 = .ok (.ireturn, 1) := fx_ok0 eX3_isToldBackwards_82.2.2
theorem dX3_isToldBackwards_22 : decode cX3_isToldBackwards 22 = .ok (.iinc 2 1, 3) := by decide +kernel
def fAX3_areNeighboursFound_0 : List UInt8 := [2, 60, 3, 61, 28, 16, 100, 162, 0, 137, 42, 28, 182, 0, 119, 153, 0, 123, 42, 28, 182, 0, 132, 62, 42, 3, 16, 99, 29, 3, 182, 0, 126, 28, 160, 0, 33, 42, 3, 16, 99, 29, 4, 182, 0, 126, 28, 160, 0, 20, 42, 3, 16, 99, 29, 7, 182, 0, 126, 28, 160, 0, 7, 4]
def fAX3_areNeighboursFound_1 : List UInt8 := [167, 0, 4, 3, 54, 4, 42, 3, 16, 99, 29, 5, 182, 0, 126, 27, 160, 0, 7, 4, 167, 0, 4, 3, 54, 5, 27, 2, 159, 0, 20, 42, 3, 16, 99, 42, 27, 182, 0, 132, 6, 182, 0, 126, 28, 160, 0, 7, 4, 167, 0, 4, 3, 54, 6, 21, 4, 153, 0, 13, 21, 5, 153, 0]
def fAX3_areNeighboursFound_2 : List UInt8 := [8, 21, 6, 154, 0, 5, 3, 172, 28, 60, 132, 2, 1, 167, 255, 119, 4, 172]
def fTX3_areNeighboursFound_2 : List UInt8 := fAX3_areNeighboursFound_2
def fTX3_areNeighboursFound_1 : List UInt8 := fAX3_areNeighboursFound_1 ++ fTX3_areNeighboursFound_2
def fTX3_areNeighboursFound_0 : List UInt8 := fAX3_areNeighboursFound_0 ++ fTX3_areNeighboursFound_1
theorem fDX3_areNeighboursFound_0 : cX3_areNeighboursFound.data.toList.drop 0 = fTX3_areNeighboursFound_0 := eq_of_beq (by decide +kernel)
theorem fDX3_areNeighboursFound_1 : cX3_areNeighboursFound.data.toList.drop 64 = fTX3_areNeighboursFound_1 := fx_nx (d := 0) (n := 64) (a := fAX3_areNeighboursFound_0) fDX3_areNeighboursFound_0 rfl
theorem fDX3_areNeighboursFound_2 : cX3_areNeighboursFound.data.toList.drop 128 = fTX3_areNeighboursFound_2 := fx_nx (d := 64) (n := 64) (a := fAX3_areNeighboursFound_1) fDX3_areNeighboursFound_1 rfl
theorem eX3_areNeighboursFound_0 : (fdecl fTX3_areNeighboursFound_0 0 = some (.iconst (-1), 1)) ∧ (fdecl fTX3_areNeighboursFound_0 1 = some (.istore_n 1, 1)) ∧ (fdecl fTX3_areNeighboursFound_0 2 = some (.iconst 0, 1)) ∧ (fdecl fTX3_areNeighboursFound_0 3 = some (.istore_n 2, 1)) ∧ (fdecl fTX3_areNeighboursFound_0 4 = some (.iload_n 2, 1)) ∧ (fdecl fTX3_areNeighboursFound_0 5 = some (.bipush 100, 2)) ∧ (fdecl fTX3_areNeighboursFound_0 7 = some (.if_icmp .ge 137, 3)) ∧ (fdecl fTX3_areNeighboursFound_0 10 = some (.aload_n 0, 1)) ∧ (fdecl fTX3_areNeighboursFound_0 11 = some (.iload_n 2, 1)) ∧ (fdecl fTX3_areNeighboursFound_0 12 = some (.invokevirtual 119, 3)) ∧ (fdecl fTX3_areNeighboursFound_0 15 = some (.ifCond .eq 123, 3)) ∧ (fdecl fTX3_areNeighboursFound_0 18 = some (.aload_n 0, 1)) ∧ (fdecl fTX3_areNeighboursFound_0 19 = some (.iload_n 2, 1)) ∧ (fdecl fTX3_areNeighboursFound_0 20 = some (.invokevirtual 132, 3)) ∧ (fdecl fTX3_areNeighboursFound_0 23 = some (.istore_n 3, 1)) ∧ (fdecl fTX3_areNeighboursFound_0 24 = some (.aload_n 0, 1)) := by decide +kernel
theorem dX3_areNeighboursFound_0 : decode cX3_areNeighboursFound 0 = .ok (.iconst (-1), 1) := fx_ok (d := 0) (i := 0) fDX3_areNeighboursFound_0 eX3_areNeighboursFound_0.1
theorem dX3_areNeighboursFound_1 : decode cX3_areNeighboursFound 1 = .ok (.istore_n 1, 1) := fx_ok (d := 0) (i := 1) fDX3_areNeighboursFound_0 eX3_areNeighboursFound_0.2.1
theorem dX3_areNeighboursFound_2 : decode cX3_areNeighboursFound 2 = .ok (.iconst 0, 1) := fx_ok (d := 0) (i := 2) fDX3_areNeighboursFound_0 eX3_areNeighboursFound_0.2.2.1
theorem dX3_areNeighboursFound_3 : decode cX3_areNeighboursFound 3 = .ok (.istore_n 2, 1) := fx_ok (d := 0) (i := 3) fDX3_areNeighboursFound_0 eX3_areNeighboursFound_0.2.2.2.1
theorem dX3_areNeighboursFound_4 : decode cX3_areNeighboursFound 4 = .ok (.iload_n 2, 1) := fx_ok (d := 0) (i := 4) fDX3_areNeighboursFound_0 eX3_areNeighboursFound_0.2.2.2.2.1
theorem dX3_areNeighboursFound_5 : decode cX3_areNeighboursFound 5 = .ok (.bipush 100, 2) := fx_ok (d := 0) (i := 5) fDX3_areNeighboursFound_0 eX3_areNeighboursFound_0.2.2.2.2.2.1
theorem dX3_areNeighboursFound_7 : decode cX3_areNeighboursFound 7 = .ok (.if_icmp .ge 137, 3) := fx_ok (d := 0) (i := 7) fDX3_areNeighboursFound_0 eX3_areNeighboursFound_0.2.2.2.2.2.2.1
theorem dX3_areNeighboursFound_10 : decode cX3_areNeighboursFound 10 = .ok (.aload_n 0, 1) := fx_ok (d := 0) (i := 10) fDX3_areNeighboursFound_0 eX3_areNeighboursFound_0.2.2.2.2.2.2.2.1
theorem dX3_areNeighboursFound_11 : decode cX3_areNeighboursFound 11 = .ok (.iload_n 2, 1) := fx_ok (d := 0) (i := 11) fDX3_areNeighboursFound_0 eX3_areNeighboursFound_0.2.2.2.2.2.2.2.2.1
theorem dX3_areNeighboursFound_12 : decode cX3_areNeighboursFound 12 = .ok (.invokevirtual 119, 3) := fx_ok (d := 0) (i := 12) fDX3_areNeighboursFound_0 eX3_areNeighboursFound_0.2.2.2.2.2.2.2.2.2.1
theorem dX3_areNeighboursFound_15 : decode cX3_areNeighboursFound 15 = .ok (.ifCond .eq 123, 3) := fx_ok (d := 0) (i := 15) fDX3_areNeighboursFound_0 eX3_areNeighboursFound_0.2.2.2.2.2.2.2.2.2.2.1
theorem dX3_areNeighboursFound_18 : decode cX3_areNeighboursFound 18 = .ok (.aload_n 0, 1) := fx_ok (d := 0) (i := 18) fDX3_areNeighboursFound_0 eX3_areNeighboursFound_0.2.2.2.2.2.2.2.2.2.2.2.1
theorem dX3_areNeighboursFound_19 : decode cX3_areNeighboursFound 19 = .ok (.iload_n 2, 1) := fx_ok (d := 0) (i := 19) fDX3_areNeighboursFound_0 eX3_areNeighboursFound_0.2.2.2.2.2.2.2.2.2.2.2.2.1
theorem dX3_areNeighboursFound_20 : decode cX3_areNeighboursFound 20 = .ok (.invokevirtual 132, 3) := fx_ok (d := 0) (i := 20) fDX3_areNeighboursFound_0 eX3_areNeighboursFound_0.2.2.2.2.2.2.2.2.2.2.2.2.2.1
theorem dX3_areNeighboursFound_23 : decode cX3_areNeighboursFound 23 = .ok (.istore_n 3, 1) := fx_ok (d := 0) (i := 23) fDX3_areNeighboursFound_0 eX3_areNeighboursFound_0.2.2.2.2.2.2.2.2.2.2.2.2.2.2.1
theorem dX3_areNeighboursFound_24 : decode cX3_areNeighboursFound 24 = .ok (.aload_n 0, 1) := fx_ok (d := 0) (i := 24) fDX3_areNeighboursFound_0 eX3_areNeighboursFound_0.2.2.2.2.2.2.2.2.2.2.2.2.2.2.2
theorem eX3_areNeighboursFound_25 : (fdecl fTX3_areNeighboursFound_0 25 = some (.iconst 0, 1)) ∧ (fdecl fTX3_areNeighboursFound_0 26 = some (.bipush 99, 2)) ∧ (fdecl fTX3_areNeighboursFound_0 28 = some (.iload_n 3, 1)) ∧ (fdecl fTX3_areNeighboursFound_0 29 = some (.iconst 0, 1)) ∧ (fdecl fTX3_areNeighboursFound_0 30 = some (.invokevirtual 126, 3)) ∧ (fdecl fTX3_areNeighboursFound_0 33 = some (.iload_n 2, 1)) ∧ (fdecl fTX3_areNeighboursFound_0 34 = some (.if_icmp .ne 33, 3)) ∧ (fdecl fTX3_areNeighboursFound_0 37 = some (.aload_n 0, 1)) ∧ (fdecl fTX3_areNeighboursFound_0 38 = some (.iconst 0, 1)) ∧ (fdecl fTX3_areNeighboursFound_0 39 = some (.bipush 99, 2)) ∧ (fdecl fTX3_areNeighboursFound_0 41 = some (.iload_n 3, 1)) ∧ (fdecl fTX3_areNeighboursFound_0 42 = some (.iconst 1, 1)) ∧ (fdecl fTX3_areNeighboursFound_0 43 = some (.invokevirtual 126, 3)) ∧ (fdecl fTX3_areNeighboursFound_0 46 = some (.iload_n 2, 1)) ∧ (fdecl fTX3_areNeighboursFound_0 47 = some (.if_icmp .ne 20, 3)) ∧ (fdecl fTX3_areNeighboursFound_0 50 = some (.aload_n 0, 1)) := by decide +kernel
theorem dX3_areNeighboursFound_25 : decode cX3_areNeighboursFound 25 = .ok (.iconst 0, 1) := fx_ok (d := 0) (i := 25) fDX3_areNeighboursFound_0 eX3_areNeighboursFound_25.1
theorem dX3_areNeighboursFound_26 : decode cX3_areNeighboursFound 26 = .ok (.bipush 99, 2) := fx_ok (d := 0) (i := 26) fDX3_areNeighboursFound_0 eX3_areNeighboursFound_25.2.1
theorem dX3_areNeighboursFound_28 : decode cX3_areNeighboursFound 28 = .ok (.iload_n 3, 1) := fx_ok (d := 0) (i := 28) fDX3_areNeighboursFound_0 eX3_areNeighboursFound_25.2.2.1
theorem dX3_areNeighboursFound_29 : decode cX3_areNeighboursFound 29 = .ok (.iconst 0, 1) := fx_ok (d := 0) (i := 29) fDX3_areNeighboursFound_0 eX3_areNeighboursFound_25.2.2.2.1
theorem dX3_areNeighboursFound_30 : decode cX3_areNeighboursFound 30 = .ok (.invokevirtual 126, 3) := fx_ok (d := 0) (i := 30) fDX3_areNeighboursFound_0 eX3_areNeighboursFound_25.2.2.2.2.1
theorem dX3_areNeighboursFound_33 : decode cX3_areNeighboursFound 33 = .ok (.iload_n 2, 1) := fx_ok (d := 0) (i := 33) fDX3_areNeighboursFound_0 eX3_areNeighboursFound_25.2.2.2.2.2.1
theorem dX3_areNeighboursFound_34 : decode cX3_areNeighboursFound 34 = .ok (.if_icmp .ne 33, 3) := fx_ok (d := 0) (i := 34) fDX3_areNeighboursFound_0 eX3_areNeighboursFound_25.2.2.2.2.2.2.1
theorem dX3_areNeighboursFound_37 : decode cX3_areNeighboursFound 37 = .ok (.aload_n 0, 1) := fx_ok (d := 0) (i := 37) fDX3_areNeighboursFound_0 eX3_areNeighboursFound_25.2.2.2.2.2.2.2.1
theorem dX3_areNeighboursFound_38 : decode cX3_areNeighboursFound 38 = .ok (.iconst 0, 1) := fx_ok (d := 0) (i := 38) fDX3_areNeighboursFound_0 eX3_areNeighboursFound_25.2.2.2.2.2.2.2.2.1
theorem dX3_areNeighboursFound_39 : decode cX3_areNeighboursFound 39 = .ok (.bipush 99, 2) := fx_ok (d := 0) (i := 39) fDX3_areNeighboursFound_0 eX3_areNeighboursFound_25.2.2.2.2.2.2.2.2.2.1
theorem dX3_areNeighboursFound_41 : decode cX3_areNeighboursFound 41 = .ok (.iload_n 3, 1) := fx_ok (d := 0) (i := 41) fDX3_areNeighboursFound_0 eX3_areNeighboursFound_25.2.2.2.2.2.2.2.2.2.2.1
theorem dX3_areNeighboursFound_42 : decode cX3_areNeighboursFound 42 = .ok (.iconst 1, 1) := fx_ok (d := 0) (i := 42) fDX3_areNeighboursFound_0 eX3_areNeighboursFound_25.2.2.2.2.2.2.2.2.2.2.2.1
theorem dX3_areNeighboursFound_43 : decode cX3_areNeighboursFound 43 = .ok (.invokevirtual 126, 3) := fx_ok (d := 0) (i := 43) fDX3_areNeighboursFound_0 eX3_areNeighboursFound_25.2.2.2.2.2.2.2.2.2.2.2.2.1
theorem dX3_areNeighboursFound_46 : decode cX3_areNeighboursFound 46 = .ok (.iload_n 2, 1) := fx_ok (d := 0) (i := 46) fDX3_areNeighboursFound_0 eX3_areNeighboursFound_25.2.2.2.2.2.2.2.2.2.2.2.2.2.1
theorem dX3_areNeighboursFound_47 : decode cX3_areNeighboursFound 47 = .ok (.if_icmp .ne 20, 3) := fx_ok (d := 0) (i := 47) fDX3_areNeighboursFound_0 eX3_areNeighboursFound_25.2.2.2.2.2.2.2.2.2.2.2.2.2.2.1
theorem dX3_areNeighboursFound_50 : decode cX3_areNeighboursFound 50 = .ok (.aload_n 0, 1) := fx_ok (d := 0) (i := 50) fDX3_areNeighboursFound_0 eX3_areNeighboursFound_25.2.2.2.2.2.2.2.2.2.2.2.2.2.2.2
theorem eX3_areNeighboursFound_51 : (fdecl fTX3_areNeighboursFound_0 51 = some (.iconst 0, 1)) ∧ (fdecl fTX3_areNeighboursFound_0 52 = some (.bipush 99, 2)) ∧ (fdecl fTX3_areNeighboursFound_0 54 = some (.iload_n 3, 1)) ∧ (fdecl fTX3_areNeighboursFound_0 55 = some (.iconst 4, 1)) ∧ (fdecl fTX3_areNeighboursFound_0 56 = some (.invokevirtual 126, 3)) ∧ (fdecl fTX3_areNeighboursFound_0 59 = some (.iload_n 2, 1)) ∧ (fdecl fTX3_areNeighboursFound_0 60 = some (.if_icmp .ne 7, 3)) ∧ (fdecl fTX3_areNeighboursFound_0 63 = some (.iconst 1, 1)) ∧ (fdecl fTX3_areNeighboursFound_1 0 = some (.goto 4, 3)) ∧ (fdecl fTX3_areNeighboursFound_1 3 = some (.iconst 0, 1)) ∧ (fdecl fTX3_areNeighboursFound_1 4 = some (.istore 4, 2)) ∧ (fdecl fTX3_areNeighboursFound_1 6 = some (.aload_n 0, 1)) ∧ (fdecl fTX3_areNeighboursFound_1 7 = some (.iconst 0, 1)) ∧ (fdecl fTX3_areNeighboursFound_1 8 = some (.bipush 99, 2)) ∧ (fdecl fTX3_areNeighboursFound_1 10 = some (.iload_n 3, 1)) ∧ (fdecl fTX3_areNeighboursFound_1 11 = some (.iconst 2, 1)) := by decide +kernel
theorem dX3_areNeighboursFound_51 : decode cX3_areNeighboursFound 51 = .ok (.iconst 0, 1) := fx_ok (d := 0) (i := 51) fDX3_areNeighboursFound_0 eX3_areNeighboursFound_51.1
theorem dX3_areNeighboursFound_52 : decode cX3_areNeighboursFound 52 = .ok (.bipush 99, 2) := fx_ok (d := 0) (i := 52) fDX3_areNeighboursFound_0 eX3_areNeighboursFound_51.2.1
theorem dX3_areNeighboursFound_54 : decode cX3_areNeighboursFound 54 = .ok (.iload_n 3, 1) := fx_ok (d := 0) (i := 54) fDX3_areNeighboursFound_0 eX3_areNeighboursFound_51.2.2.1
theorem dX3_areNeighboursFound_55 : decode cX3_areNeighboursFound 55 = .ok (.iconst 4, 1) := fx_ok (d := 0) (i := 55) fDX3_areNeighboursFound_0 eX3_areNeighboursFound_51.2.2.2.1
theorem dX3_areNeighboursFound_56 : decode cX3_areNeighboursFound 56 = .ok (.invokevirtual 126, 3) := fx_ok (d := 0) (i := 56) fDX3_areNeighboursFound_0 eX3_areNeighboursFound_51.2.2.2.2.1
theorem dX3_areNeighboursFound_59 : decode cX3_areNeighboursFound 59 = .ok (.iload_n 2, 1) := fx_ok (d := 0) (i := 59) fDX3_areNeighboursFound_0 eX3_areNeighboursFound_51.2.2.2.2.2.1
theorem dX3_areNeighboursFound_60 : decode cX3_areNeighboursFound 60 = .ok (.if_icmp .ne 7, 3) := fx_ok (d := 0) (i := 60) fDX3_areNeighboursFound_0 eX3_areNeighboursFound_51.2.2.2.2.2.2.1
theorem dX3_areNeighboursFound_63 : decode cX3_areNeighboursFound 63 = .ok (.iconst 1, 1) := fx_ok (d := 0) (i := 63) fDX3_areNeighboursFound_0 eX3_areNeighboursFound_51.2.2.2.2.2.2.2.1
theorem dX3_areNeighboursFound_64 : decode cX3_areNeighboursFound 64 = .ok (.goto 4, 3) := fx_ok (d := 64) (i := 0) fDX3_areNeighboursFound_1 eX3_areNeighboursFound_51.2.2.2.2.2.2.2.2.1
theorem dX3_areNeighboursFound_67 : decode cX3_areNeighboursFound 67 = .ok (.iconst 0, 1) := fx_ok (d := 64) (i := 3) fDX3_areNeighboursFound_1 eX3_areNeighboursFound_51.2.2.2.2.2.2.2.2.2.1
theorem dX3_areNeighboursFound_68 : decode cX3_areNeighboursFound 68 = .ok (.istore 4, 2) := fx_ok (d := 64) (i := 4) fDX3_areNeighboursFound_1 eX3_areNeighboursFound_51.2.2.2.2.2.2.2.2.2.2.1
theorem dX3_areNeighboursFound_70 : decode cX3_areNeighboursFound 70 = .ok (.aload_n 0, 1) := fx_ok (d := 64) (i := 6) fDX3_areNeighboursFound_1 eX3_areNeighboursFound_51.2.2.2.2.2.2.2.2.2.2.2.1
theorem dX3_areNeighboursFound_71 : decode cX3_areNeighboursFound 71 = .ok (.iconst 0, 1) := fx_ok (d := 64) (i := 7) fDX3_areNeighboursFound_1 eX3_areNeighboursFound_51.2.2.2.2.2.2.2.2.2.2.2.2.1
theorem dX3_areNeighboursFound_72 : decode cX3_areNeighboursFound 72 = .ok (.bipush 99, 2) := fx_ok (d := 64) (i := 8) fDX3_areNeighboursFound_1 eX3_areNeighboursFound_51.2.2.2.2.2.2.2.2.2.2.2.2.2.1
theorem dX3_areNeighboursFound_74 : decode cX3_areNeighboursFound 74 = .ok (.iload_n 3, 1) := fx_ok (d := 64) (i := 10) fDX3_areNeighboursFound_1 eX3_areNeighboursFound_51.2.2.2.2.2.2.2.2.2.2.2.2.2.2.1
theorem dX3_areNeighboursFound_75 : decode cX3_areNeighboursFound 75 = .ok (.iconst 2, 1) := fx_ok (d := 64) (i := 11) fDX3_areNeighboursFound_1 eX3_areNeighboursFound_51.2.2.2.2.2.2.2.2.2.2.2.2.2.2.2
theorem eX3_areNeighboursFound_76 : (fdecl fTX3_areNeighboursFound_1 12 = some (.invokevirtual 126, 3)) ∧ (fdecl fTX3_areNeighboursFound_1 15 = some (.iload_n 1, 1)) ∧ (fdecl fTX3_areNeighboursFound_1 16 = some (.if_icmp .ne 7, 3)) ∧ (fdecl fTX3_areNeighboursFound_1 19 = some (.iconst 1, 1)) ∧ (fdecl fTX3_areNeighboursFound_1 20 = some (.goto 4, 3)) ∧ (fdecl fTX3_areNeighboursFound_1 23 = some (.iconst 0, 1)) ∧ (fdecl fTX3_areNeighboursFound_1 24 = some (.istore 5, 2)) ∧ (fdecl fTX3_areNeighboursFound_1 26 = some (.iload_n 1, 1)) ∧ (fdecl fTX3_areNeighboursFound_1 27 = some (.iconst (-1), 1)) ∧ (fdecl fTX3_areNeighboursFound_1 28 = some (.if_icmp .eq 20, 3)) ∧ (fdecl fTX3_areNeighboursFound_1 31 = some (.aload_n 0, 1)) ∧ (fdecl fTX3_areNeighboursFound_1 32 = some (.iconst 0, 1)) ∧ (fdecl fTX3_areNeighboursFound_1 33 = some (.bipush 99, 2)) ∧ (fdecl fTX3_areNeighboursFound_1 35 = some (.aload_n 0, 1)) ∧ (fdecl fTX3_areNeighboursFound_1 36 = some (.iload_n 1, 1)) ∧ (fdecl fTX3_areNeighboursFound_1 37 = some (.invokevirtual 132, 3)) := by decide +kernel
theorem dX3_areNeighboursFound_76 : decode cX3_areNeighboursFound 76 = .ok (.invokevirtual 126, 3) := fx_ok (d := 64) (i := 12) fDX3_areNeighboursFound_1 eX3_areNeighboursFound_76.1
theorem dX3_areNeighboursFound_79 : decode cX3_areNeighboursFound 79 = .ok (.iload_n 1, 1) := fx_ok (d := 64) (i := 15) fDX3_areNeighboursFound_1 eX3_areNeighboursFound_76.2.1
theorem dX3_areNeighboursFound_80 : decode cX3_areNeighboursFound 80 = .ok (.if_icmp .ne 7, 3) := fx_ok (d := 64) (i := 16) fDX3_areNeighboursFound_1 eX3_areNeighboursFound_76.2.2.1
theorem dX3_areNeighboursFound_83 : decode cX3_areNeighboursFound 83 = .ok (.iconst 1, 1) := fx_ok (d := 64) (i := 19) fDX3_areNeighboursFound_1 eX3_areNeighboursFound_76.2.2.2.1
theorem dX3_areNeighboursFound_84 : decode cX3_areNeighboursFound 84 = .ok (.goto 4, 3) := fx_ok (d := 64) (i := 20) fDX3_areNeighboursFound_1 eX3_areNeighboursFound_76.2.2.2.2.1
theorem dX3_areNeighboursFound_87 : decode cX3_areNeighboursFound 87 = .ok (.iconst 0, 1) := fx_ok (d := 64) (i := 23) fDX3_areNeighboursFound_1 eX3_areNeighboursFound_76.2.2.2.2.2.1
theorem dX3_areNeighboursFound_88 : decode cX3_areNeighboursFound 88 = .ok (.istore 5, 2) := fx_ok (d := 64) (i := 24) fDX3_areNeighboursFound_1 eX3_areNeighboursFound_76.2.2.2.2.2.2.1
theorem dX3_areNeighboursFound_90 : decode cX3_areNeighboursFound 90 = .ok (.iload_n 1, 1) := fx_ok (d := 64) (i := 26) fDX3_areNeighboursFound_1 eX3_areNeighboursFound_76.2.2.2.2.2.2.2.1
theorem dX3_areNeighboursFound_91 : decode cX3_areNeighboursFound 91 = .ok (.iconst (-1), 1) := fx_ok (d := 64) (i := 27) fDX3_areNeighboursFound_1 eX3_areNeighboursFound_76.2.2.2.2.2.2.2.2.1
theorem dX3_areNeighboursFound_92 : decode cX3_areNeighboursFound 92 = .ok (.if_icmp .eq 20, 3) := fx_ok (d := 64) (i := 28) fDX3_areNeighboursFound_1 eX3_areNeighboursFound_76.2.2.2.2.2.2.2.2.2.1
theorem dX3_areNeighboursFound_95 : decode cX3_areNeighboursFound 95 = .ok (.aload_n 0, 1) := fx_ok (d := 64) (i := 31) fDX3_areNeighboursFound_1 eX3_areNeighboursFound_76.2.2.2.2.2.2.2.2.2.2.1
theorem dX3_areNeighboursFound_96 : decode cX3_areNeighboursFound 96 = .ok (.iconst 0, 1) := fx_ok (d := 64) (i := 32) fDX3_areNeighboursFound_1 eX3_areNeighboursFound_76.2.2.2.2.2.2.2.2.2.2.2.1
theorem dX3_areNeighboursFound_97 : decode cX3_areNeighboursFound 97 = .ok (.bipush 99, 2) := fx_ok (d := 64) (i := 33) fDX3_areNeighboursFound_1 eX3_areNeighboursFound_76.2.2.2.2.2.2.2.2.2.2.2.2.1
theorem dX3_areNeighboursFound_99 : decode cX3_areNeighboursFound 99 = .ok (.aload_n 0, 1) := fx_ok (d := 64) (i := 35) fDX3_areNeighboursFound_1 eX3_areNeighboursFound_76.2.2.2.2.2.2.2.2.2.2.2.2.2.1
theorem dX3_areNeighboursFound_100 : decode cX3_areNeighboursFound 100 = .ok (.iload_n 1, 1) := fx_ok (d := 64) (i := 36) fDX3_areNeighboursFound_1 eX3_areNeighboursFound_76.2.2.2.2.2.2.2.2.2.2.2.2.2.2.1
theorem dX3_areNeighboursFound_101 : decode cX3_areNeighboursFound 101 = .ok (.invokevirtual 132, 3) := fx_ok (d := 64) (i := 37) fDX3_areNeighboursFound_1 eX3_areNeighboursFound_76.2.2.2.2.2.2.2.2.2.2.2.2.2.2.2
theorem eX3_areNeighboursFound_104 : (fdecl fTX3_areNeighboursFound_1 40 = some (.iconst 3, 1)) ∧ (fdecl fTX3_areNeighboursFound_1 41 = some (.invokevirtual 126, 3)) ∧ (fdecl fTX3_areNeighboursFound_1 44 = some (.iload_n 2, 1)) ∧ (fdecl fTX3_areNeighboursFound_1 45 = some (.if_icmp .ne 7, 3)) ∧ (fdecl fTX3_areNeighboursFound_1 48 = some (.iconst 1, 1)) ∧ (fdecl fTX3_areNeighboursFound_1 49 = some (.goto 4, 3)) ∧ (fdecl fTX3_areNeighboursFound_1 52 = some (.iconst 0, 1)) ∧ (fdecl fTX3_areNeighboursFound_1 53 = some (.istore 6, 2)) ∧ (fdecl fTX3_areNeighboursFound_1 55 = some (.iload 4, 2)) ∧ (fdecl fTX3_areNeighboursFound_1 57 = some (.ifCond .eq 13, 3)) ∧ (fdecl fTX3_areNeighboursFound_1 60 = some (.iload 5, 2)) ∧ (fdecl fTX3_areNeighboursFound_1 62 = some (.ifCond .eq 8, 3)) ∧ (fdecl fTX3_areNeighboursFound_2 1 = some (.iload 6, 2)) ∧ (fdecl fTX3_areNeighboursFound_2 3 = some (.ifCond .ne 5, 3)) ∧ (fdecl fTX3_areNeighboursFound_2 6 = some (.iconst 0, 1)) ∧ (fdecl fTX3_areNeighboursFound_2 7 = some (.ireturn, 1)) := by decide +kernel
theorem dX3_areNeighboursFound_104 : decode cX3_areNeighboursFound 104 = .ok (.iconst 3, 1) := fx_ok (d := 64) (i := 40) fDX3_areNeighboursFound_1 eX3_areNeighboursFound_104.1
theorem dX3_areNeighboursFound_105 : decode cX3_areNeighboursFound 105 = .ok (.invokevirtual 126, 3) := fx_ok (d := 64) (i := 41) fDX3_areNeighboursFound_1 eX3_areNeighboursFound_104.2.1
theorem dX3_areNeighboursFound_108 : decode cX3_areNeighboursFound 108 = .ok (.iload_n 2, 1) := fx_ok (d := 64) (i := 44) fDX3_areNeighboursFound_1 eX3_areNeighboursFound_104.2.2.1
theorem dX3_areNeighboursFound_109 : decode cX3_areNeighboursFound 109 = .ok (.if_icmp .ne 7, 3) := fx_ok (d := 64) (i := 45) fDX3_areNeighboursFound_1 eX3_areNeighboursFound_104.2.2.2.1
theorem dX3_areNeighboursFound_112 : decode cX3_areNeighboursFound 112 = .ok (.iconst 1, 1) := fx_ok (d := 64) (i := 48) fDX3_areNeighboursFound_1 eX3_areNeighboursFound_104.2.2.2.2.1
theorem dX3_areNeighboursFound_113 : decode cX3_areNeighboursFound 113 = .ok (.goto 4, 3) := fx_ok (d := 64) (i := 49) fDX3_areNeighboursFound_1 eX3_areNeighboursFound_104.2.2.2.2.2.1
theorem dX3_areNeighboursFound_116 : decode cX3_areNeighboursFound 116 = .ok (.iconst 0, 1) := fx_ok (d := 64) (i := 52) fDX3_areNeighboursFound_1 eX3_areNeighboursFound_104.2.2.2.2.2.2.1
theorem dX3_areNeighboursFound_117 : decode cX3_areNeighboursFound 117 = .ok (.istore 6, 2) := fx_ok (d := 64) (i := 53) fDX3_areNeighboursFound_1 eX3_areNeighboursFound_104.2.2.2.2.2.2.2.1
theorem dX3_areNeighboursFound_119 : decode cX3_areNeighboursFound 119 = .ok (.iload 4, 2) := fx_ok (d := 64) (i := 55) fDX3_areNeighboursFound_1 eX3_areNeighboursFound_104.2.2.2.2.2.2.2.2.1
theorem dX3_areNeighboursFound_121 : decode cX3_areNeighboursFound 121 = .ok (.ifCond .eq 13, 3) := fx_ok (d := 64) (i := 57) fDX3_areNeighboursFound_1 eX3_areNeighboursFound_104.2.2.2.2.2.2.2.2.2.1
theorem dX3_areNeighboursFound_124 : decode cX3_areNeighboursFound 124 = .ok (.iload 5, 2) := fx_ok (d := 64) (i := 60) fDX3_areNeighboursFound_1 eX3_areNeighboursFound_104.2.2.2.2.2.2.2.2.2.2.1
theorem dX3_areNeighboursFound_126 : decode cX3_areNeighboursFound 126 = .ok (.ifCond .eq 8, 3) := fx_ok (d := 64) (i := 62) fDX3_areNeighboursFound_1 eX3_areNeighboursFound_104.2.2.2.2.2.2.2.2.2.2.2.1
theorem dX3_areNeighboursFound_129 : decode cX3_areNeighboursFound 129 = .ok (.iload 6, 2) := fx_ok (d := 128) (i := 1) fDX3_areNeighboursFound_2 eX3_areNeighboursFound_104.2.2.2.2.2.2.2.2.2.2.2.2.1
theorem dX3_areNeighboursFound_131 : decode cX3_areNeighboursFound 131 = .ok (.ifCond .ne 5, 3) := fx_ok (d := 128) (i := 3) fDX3_areNeighboursFound_2 eX3_areNeighboursFound_104.2.2.2.2.2.2.2.2.2.2.2.2.2.1
theorem dX3_areNeighboursFound_134 : decode cX3_areNeighboursFound 134 = .ok (.iconst 0, 1) := fx_ok (d := 128) (i := 6) fDX3_areNeighboursFound_2 eX3_areNeighboursFound_104.2.2.2.2.2.2.2.2.2.2.2.2.2.2.1
theorem dX3_areNeighboursFound_135 : decode cX3_areNeighboursFound 135 = .ok (.ireturn, 1) := fx_ok (d := 128) (i := 7) fDX3_areNeighboursFound_2 eX3_areNeighboursFound_104.2.2.2.2.2.2.2.2.2.2.2.2.2.2.2
theorem eX3_areNeighboursFound_136 : (fdecl fTX3_areNeighboursFound_2 8 = some (.iload_n 2, 1)) ∧ (fdecl fTX3_areNeighboursFound_2 9 = some (.istore_n 1, 1)) ∧ (fdecl fTX3_areNeighboursFound_2 13 = some (.goto (-137), 3)) ∧ (fdecl fTX3_areNeighboursFound_2 16 = some (.iconst 1, 1)) ∧ (fdecl fTX3_areNeighboursFound_2 17 = some (.ireturn, 1)) := by decide +kernel
theorem dX3_areNeighboursFound_136 : decode cX3_areNeighboursFound 136 = .ok (.iload_n 2, 1) := fx_ok (d := 128) (i := 8) fDX3_areNeighboursFound_2 eX3_areNeighboursFound_136.1
theorem dX3_areNeighboursFound_137 : decode cX3_areNeighboursFound 137 = .ok (.istore_n 1, 1) := fx_ok (d := 128) (i := 9) fDX3_areNeighboursFound_2 eX3_areNeighboursFound_136.2.1
theorem dX3_areNeighboursFound_141 : decode cX3_areNeighboursFound 141 = .ok (.goto (-137), 3) := fx_ok (d := 128) (i := 13) fDX3_areNeighboursFound_2 eX3_areNeighboursFound_136.2.2.1
theorem dX3_areNeighboursFound_144 : decode cX3_areNeighboursFound 144 = .ok (.iconst 1, 1) := fx_ok (d := 128) (i := 16) fDX3_areNeighboursFound_2 eX3_areNeighboursFound_136.2.2.2.1
theorem dX3_areNeighboursFound_145 : decode cX3_areNeighboursFound 145 = .ok (.ireturn, 1) := fx_ok (d := 128) (i := 17) fDX3_areNeighboursFound_2 eX3_areNeighboursFound_136.2.2.2.2
theorem dX3_areNeighboursFound_138 : decode cX3_areNeighboursFound 138 = .ok (.iinc 2 1, 3) := by decide +kernel
theorem eX3_mixed_0 : (fdecl cX3_mixed.data.toList 0 = some (.lload_n 0, 1)) ∧ (fdecl cX3_mixed.data.toList 1 = some (.ldc2_w 320, 3)) ∧ (fdecl cX3_mixed.data.toList 4 = some (.lmul, 1)) ∧ (fdecl cX3_mixed.data.toList 5 = some (.iload_n 2, 1)) ∧ (fdecl cX3_mixed.data.toList 6 = some (.i2l, 1)) ∧ (fdecl cX3_mixed.data.toList 7 = some (.ladd, 1)) ∧ (fdecl cX3_mixed.data.toList 8 = some (.lreturn, 1)) := by decide +kernel
theorem dX3_mixed_0 : decode cX3_mixed 0 = .ok (.lload_n 0, 1) := fx_ok0 eX3_mixed_0.1
theorem dX3_mixed_1 : decode cX3_mixed 1 = .ok (.ldc2_w 320, 3) := fx_ok0 eX3_mixed_0.2.1
theorem dX3_mixed_4 : decode cX3_mixed 4 = .ok (.lmul, 1) := fx_ok0 eX3_mixed_0.2.2.1
theorem dX3_mixed_5 : decode cX3_mixed 5 = .ok (.iload_n 2, 1) := fx_ok0 eX3_mixed_0.2.2.2.1
theorem dX3_mixed_6 : decode cX3_mixed 6 = .ok (.i2l, 1) := fx_ok0 eX3_mixed_0.2.2.2.2.1
theorem dX3_mixed_7 : decode cX3_mixed 7 = .ok (.ladd, 1) := fx_ok0 eX3_mixed_0.2.2.2.2.2.1
theorem dX3_mixed_8 : decode cX3_mixed 8 = .ok (.lreturn, 1) := fx_ok0 eX3_mixed_0.2.2.2.2.2.2
theorem eX3_digestBook_0 : (fdecl cX3_digestBook.data.toList 0 = some (.lload_n 0, 1)) ∧ (fdecl cX3_digestBook.data.toList 1 = some (.lstore_n 3, 1)) ∧ (fdecl cX3_digestBook.data.toList 2 = some (.iconst 0, 1)) ∧ (fdecl cX3_digestBook.data.toList 3 = some (.istore 5, 2)) ∧ (fdecl cX3_digestBook.data.toList 5 = some (.iload 5, 2)) ∧ (fdecl cX3_digestBook.data.toList 7 = some (.iconst 2, 1)) ∧ (fdecl cX3_digestBook.data.toList 8 = some (.if_icmp .gt 20, 3)) ∧ (fdecl cX3_digestBook.data.toList 11 = some (.lload_n 3, 1)) ∧ (fdecl cX3_digestBook.data.toList 12 = some (.aload_n 2, 1)) ∧ (fdecl cX3_digestBook.data.toList 13 = some (.iload 5, 2)) ∧ (fdecl cX3_digestBook.data.toList 15 = some (.invokestatic 145, 3)) ∧ (fdecl cX3_digestBook.data.toList 18 = some (.invokestatic 261, 3)) ∧ (fdecl cX3_digestBook.data.toList 21 = some (.lstore_n 3, 1)) ∧ (fdecl cX3_digestBook.data.toList 25 = some (.goto (-20), 3)) ∧ (fdecl cX3_digestBook.data.toList 28 = some (.iconst 0, 1)) ∧ (fdecl cX3_digestBook.data.toList 29 = some (.istore 5, 2)) := by decide +kernel
theorem dX3_digestBook_0 : decode cX3_digestBook 0 = .ok (.lload_n 0, 1) := fx_ok0 eX3_digestBook_0.1
theorem dX3_digestBook_1 : decode cX3_digestBook 1 = .ok (.lstore_n 3, 1) := fx_ok0 eX3_digestBook_0.2.1
theorem dX3_digestBook_2 : decode cX3_digestBook 2 = .ok (.iconst 0, 1) := fx_ok0 eX3_digestBook_0.2.2.1
theorem dX3_digestBook_3 : decode cX3_digestBook 3 = .ok (.istore 5, 2) := fx_ok0 eX3_digestBook_0.2.2.2.1
theorem dX3_digestBook_5 : decode cX3_digestBook 5 = .ok (.iload 5, 2) := fx_ok0 eX3_digestBook_0.2.2.2.2.1
theorem dX3_digestBook_7 : decode cX3_digestBook 7 = .ok (.iconst 2, 1) := fx_ok0 eX3_digestBook_0.2.2.2.2.2.1
theorem dX3_digestBook_8 : decode cX3_digestBook 8 = .ok (.if_icmp .gt 20, 3) := fx_ok0 eX3_digestBook_0.2.2.2.2.2.2.1
theorem dX3_digestBook_11 : decode cX3_digestBook 11 = .ok (.lload_n 3, 1) := fx_ok0 eX3_digestBook_0.2.2.2.2.2.2.2.1
theorem dX3_digestBook_12 : decode cX3_digestBook 12 = .ok (.aload_n 2, 1) := fx_ok0 eX3_digestBook_0.2.2.2.2.2.2.2.2.1
theorem dX3_digestBook_13 : decode cX3_digestBook 13 = .ok (.iload 5, 2) := fx_ok0 eX3_digestBook_0.2.2.2.2.2.2.2.2.2.1
theorem dX3_digestBook_15 : decode cX3_digestBook 15 = .ok (.invokestatic 145, 3) := fx_ok0 eX3_digestBook_0.2.2.2.2.2.2.2.2.2.2.1
theorem dX3_digestBook_18 : decode cX3_digestBook 18 = .ok (.invokestatic 261, 3) := fx_ok0 eX3_digestBook_0.2.2.2.2.2.2.2.2.2.2.2.1
theorem dX3_digestBook_21 : decode cX3_digestBook 21 = .ok (.lstore_n 3, 1) := fx_ok0 eX3_digestBook_0.2.2.2.2.2.2.2.2.2.2.2.2.1
theorem dX3_digestBook_25 : decode cX3_digestBook 25 = .ok (.goto (-20), 3) := fx_ok0 eX3_digestBook_0.2.2.2.2.2.2.2.2.2.2.2.2.2.1
theorem dX3_digestBook_28 : decode cX3_digestBook 28 = .ok (.iconst 0, 1) := fx_ok0 eX3_digestBook_0.2.2.2.2.2.2.2.2.2.2.2.2.2.2.1
theorem dX3_digestBook_29 : decode cX3_digestBook 29 = .ok (.istore 5, 2) := fx_ok0 eX3_digestBook_0.2.2.2.2.2.2.2.2.2.2.2.2.2.2.2
theorem eX3_digestBook_31 : (fdecl cX3_digestBook.data.toList 31 = some (.iload 5, 2)) ∧ (fdecl cX3_digestBook.data.toList 33 = some (.bipush 100, 2)) ∧ (fdecl cX3_digestBook.data.toList 35 = some (.if_icmp .ge 29, 3)) ∧ (fdecl cX3_digestBook.data.toList 38 = some (.aload_n 2, 1)) ∧ (fdecl cX3_digestBook.data.toList 39 = some (.iload 5, 2)) ∧ (fdecl cX3_digestBook.data.toList 41 = some (.invokevirtual 119, 3)) ∧ (fdecl cX3_digestBook.data.toList 44 = some (.ifCond .eq 14, 3)) ∧ (fdecl cX3_digestBook.data.toList 47 = some (.lload_n 3, 1)) ∧ (fdecl cX3_digestBook.data.toList 48 = some (.aload_n 2, 1)) ∧ (fdecl cX3_digestBook.data.toList 49 = some (.iload 5, 2)) ∧ (fdecl cX3_digestBook.data.toList 51 = some (.invokevirtual 129, 3)) ∧ (fdecl cX3_digestBook.data.toList 54 = some (.invokestatic 261, 3)) ∧ (fdecl cX3_digestBook.data.toList 57 = some (.lstore_n 3, 1)) ∧ (fdecl cX3_digestBook.data.toList 61 = some (.goto (-30), 3)) ∧ (fdecl cX3_digestBook.data.toList 64 = some (.lload_n 3, 1)) ∧ (fdecl cX3_digestBook.data.toList 65 = some (.lreturn, 1)) := by decide +kernel
theorem dX3_digestBook_31 : decode cX3_digestBook 31 = .ok (.iload 5, 2) := fx_ok0 eX3_digestBook_31.1
theorem dX3_digestBook_33 : decode cX3_digestBook 33 = .ok (.bipush 100, 2) := fx_ok0 eX3_digestBook_31.2.1
theorem dX3_digestBook_35 : decode cX3_digestBook 35 = .ok (.if_icmp .ge 29, 3) := fx_ok0 eX3_digestBook_31.2.2.1
theorem dX3_digestBook_38 : decode cX3_digestBook 38 = .ok (.aload_n 2, 1) := fx_ok0 eX3_digestBook_31.2.2.2.1
theorem dX3_digestBook_39 : decode cX3_digestBook 39 = .ok (.iload 5, 2) := fx_ok0 eX3_digestBook_31.2.2.2.2.1
theorem dX3_digestBook_41 : decode cX3_digestBook 41 = .ok (.invokevirtual 119, 3) := fx_ok0 eX3_digestBook_31.2.2.2.2.2.1
theorem dX3_digestBook_44 : decode cX3_digestBook 44 = .ok (.ifCond .eq 14, 3) := fx_ok0 eX3_digestBook_31.2.2.2.2.2.2.1
theorem dX3_digestBook_47 : decode cX3_digestBook 47 = .ok (.lload_n 3, 1) := fx_ok0 eX3_digestBook_31.2.2.2.2.2.2.2.1
theorem dX3_digestBook_48 : decode cX3_digestBook 48 = .ok (.aload_n 2, 1) := fx_ok0 eX3_digestBook_31.2.2.2.2.2.2.2.2.1
theorem dX3_digestBook_49 : decode cX3_digestBook 49 = .ok (.iload 5, 2) := fx_ok0 eX3_digestBook_31.2.2.2.2.2.2.2.2.2.1
theorem dX3_digestBook_51 : decode cX3_digestBook 51 = .ok (.invokevirtual 129, 3) := fx_ok0 eX3_digestBook_31.2.2.2.2.2.2.2.2.2.2.1
theorem dX3_digestBook_54 : decode cX3_digestBook 54 = .ok (.invokestatic 261, 3) := fx_ok0 eX3_digestBook_31.2.2.2.2.2.2.2.2.2.2.2.1
theorem dX3_digestBook_57 : decode cX3_digestBook 57 = .ok (.lstore_n 3, 1) := fx_ok0 eX3_digestBook_31.2.2.2.2.2.2.2.2.2.2.2.2.1
theorem dX3_digestBook_61 : decode cX3_digestBook 61 = .ok (.goto (-30), 3) := fx_ok0 eX3_digestBook_31.2.2.2.2.2.2.2.2.2.2.2.2.2.1
theorem dX3_digestBook_64 : decode cX3_digestBook 64 = .ok (.lload_n 3, 1) := fx_ok0 eX3_digestBook_31.2.2.2.2.2.2.2.2.2.2.2.2.2.2.1
theorem dX3_digestBook_65 : decode cX3_digestBook 65 = .ok (.lreturn, 1) := fx_ok0 eX3_digestBook_31.2.2.2.2.2.2.2.2.2.2.2.2.2.2.2
theorem dX3_digestBook_22 : decode cX3_digestBook 22 = .ok (.iinc 5 1, 3) := by decide +kernel
theorem dX3_digestBook_58 : decode cX3_digestBook 58 = .ok (.iinc 5 1, 3) := by decide +kernel
theorem eX3_digestView_0 : (fdecl cX3_digestView.data.toList 0 = some (.aload_n 2, 1)) ∧ (fdecl cX3_digestView.data.toList 1 = some (.getfield 178, 3)) ∧ (fdecl cX3_digestView.data.toList 4 = some (.astore_n 3, 1)) ∧ (fdecl cX3_digestView.data.toList 5 = some (.lload_n 0, 1)) ∧ (fdecl cX3_digestView.data.toList 6 = some (.aload_n 3, 1)) ∧ (fdecl cX3_digestView.data.toList 7 = some (.aload_n 2, 1)) ∧ (fdecl cX3_digestView.data.toList 8 = some (.getfield 182, 3)) ∧ (fdecl cX3_digestView.data.toList 11 = some (.aload_n 2, 1)) ∧ (fdecl cX3_digestView.data.toList 12 = some (.getfield 185, 3)) ∧ (fdecl cX3_digestView.data.toList 15 = some (.invokevirtual 188, 3)) ∧ (fdecl cX3_digestView.data.toList 18 = some (.invokestatic 261, 3)) ∧ (fdecl cX3_digestView.data.toList 21 = some (.lstore 4, 2)) ∧ (fdecl cX3_digestView.data.toList 23 = some (.lload 4, 2)) ∧ (fdecl cX3_digestView.data.toList 25 = some (.aload_n 3, 1)) ∧ (fdecl cX3_digestView.data.toList 26 = some (.aload_n 3, 1)) ∧ (fdecl cX3_digestView.data.toList 27 = some (.aload_n 2, 1)) := by decide +kernel
theorem dX3_digestView_0 : decode cX3_digestView 0 = .ok (.aload_n 2, 1) := fx_ok0 eX3_digestView_0.1
theorem dX3_digestView_1 : decode cX3_digestView 1 = .ok (.getfield 178, 3) := fx_ok0 eX3_digestView_0.2.1
theorem dX3_digestView_4 : decode cX3_digestView 4 = .ok (.astore_n 3, 1) := fx_ok0 eX3_digestView_0.2.2.1
theorem dX3_digestView_5 : decode cX3_digestView 5 = .ok (.lload_n 0, 1) := fx_ok0 eX3_digestView_0.2.2.2.1
theorem dX3_digestView_6 : decode cX3_digestView 6 = .ok (.aload_n 3, 1) := fx_ok0 eX3_digestView_0.2.2.2.2.1
theorem dX3_digestView_7 : decode cX3_digestView 7 = .ok (.aload_n 2, 1) := fx_ok0 eX3_digestView_0.2.2.2.2.2.1
theorem dX3_digestView_8 : decode cX3_digestView 8 = .ok (.getfield 182, 3) := fx_ok0 eX3_digestView_0.2.2.2.2.2.2.1
theorem dX3_digestView_11 : decode cX3_digestView 11 = .ok (.aload_n 2, 1) := fx_ok0 eX3_digestView_0.2.2.2.2.2.2.2.1
theorem dX3_digestView_12 : decode cX3_digestView 12 = .ok (.getfield 185, 3) := fx_ok0 eX3_digestView_0.2.2.2.2.2.2.2.2.1
theorem dX3_digestView_15 : decode cX3_digestView 15 = .ok (.invokevirtual 188, 3) := fx_ok0 eX3_digestView_0.2.2.2.2.2.2.2.2.2.1
theorem dX3_digestView_18 : decode cX3_digestView 18 = .ok (.invokestatic 261, 3) := fx_ok0 eX3_digestView_0.2.2.2.2.2.2.2.2.2.2.1
theorem dX3_digestView_21 : decode cX3_digestView 21 = .ok (.lstore 4, 2) := fx_ok0 eX3_digestView_0.2.2.2.2.2.2.2.2.2.2.2.1
theorem dX3_digestView_23 : decode cX3_digestView 23 = .ok (.lload 4, 2) := fx_ok0 eX3_digestView_0.2.2.2.2.2.2.2.2.2.2.2.2.1
theorem dX3_digestView_25 : decode cX3_digestView 25 = .ok (.aload_n 3, 1) := fx_ok0 eX3_digestView_0.2.2.2.2.2.2.2.2.2.2.2.2.2.1
theorem dX3_digestView_26 : decode cX3_digestView 26 = .ok (.aload_n 3, 1) := fx_ok0 eX3_digestView_0.2.2.2.2.2.2.2.2.2.2.2.2.2.2.1
theorem dX3_digestView_27 : decode cX3_digestView 27 = .ok (.aload_n 2, 1) := fx_ok0 eX3_digestView_0.2.2.2.2.2.2.2.2.2.2.2.2.2.2.2
theorem eX3_digestView_28 : (fdecl cX3_digestView.data.toList 28 = some (.getfield 182, 3)) ∧ (fdecl cX3_digestView.data.toList 31 = some (.aload_n 2, 1)) ∧ (fdecl cX3_digestView.data.toList 32 = some (.getfield 185, 3)) ∧ (fdecl cX3_digestView.data.toList 35 = some (.iconst 0, 1)) ∧ (fdecl cX3_digestView.data.toList 36 = some (.invokevirtual 135, 3)) ∧ (fdecl cX3_digestView.data.toList 39 = some (.invokevirtual 132, 3)) ∧ (fdecl cX3_digestView.data.toList 42 = some (.invokestatic 261, 3)) ∧ (fdecl cX3_digestView.data.toList 45 = some (.lstore 4, 2)) ∧ (fdecl cX3_digestView.data.toList 47 = some (.lload 4, 2)) ∧ (fdecl cX3_digestView.data.toList 49 = some (.aload_n 3, 1)) ∧ (fdecl cX3_digestView.data.toList 50 = some (.aload_n 3, 1)) ∧ (fdecl cX3_digestView.data.toList 51 = some (.aload_n 2, 1)) ∧ (fdecl cX3_digestView.data.toList 52 = some (.getfield 182, 3)) ∧ (fdecl cX3_digestView.data.toList 55 = some (.aload_n 2, 1)) ∧ (fdecl cX3_digestView.data.toList 56 = some (.getfield 185, 3)) ∧ (fdecl cX3_digestView.data.toList 59 = some (.iconst 1, 1)) := by decide +kernel
theorem dX3_digestView_28 : decode cX3_digestView 28 = .ok (.getfield 182, 3) := fx_ok0 eX3_digestView_28.1
theorem dX3_digestView_31 : decode cX3_digestView 31 = .ok (.aload_n 2, 1) := fx_ok0 eX3_digestView_28.2.1
theorem dX3_digestView_32 : decode cX3_digestView 32 = .ok (.getfield 185, 3) := fx_ok0 eX3_digestView_28.2.2.1
theorem dX3_digestView_35 : decode cX3_digestView 35 = .ok (.iconst 0, 1) := fx_ok0 eX3_digestView_28.2.2.2.1
theorem dX3_digestView_36 : decode cX3_digestView 36 = .ok (.invokevirtual 135, 3) := fx_ok0 eX3_digestView_28.2.2.2.2.1
theorem dX3_digestView_39 : decode cX3_digestView 39 = .ok (.invokevirtual 132, 3) := fx_ok0 eX3_digestView_28.2.2.2.2.2.1
theorem dX3_digestView_42 : decode cX3_digestView 42 = .ok (.invokestatic 261, 3) := fx_ok0 eX3_digestView_28.2.2.2.2.2.2.1
theorem dX3_digestView_45 : decode cX3_digestView 45 = .ok (.lstore 4, 2) := fx_ok0 eX3_digestView_28.2.2.2.2.2.2.2.1
theorem dX3_digestView_47 : decode cX3_digestView 47 = .ok (.lload 4, 2) := fx_ok0 eX3_digestView_28.2.2.2.2.2.2.2.2.1
theorem dX3_digestView_49 : decode cX3_digestView 49 = .ok (.aload_n 3, 1) := fx_ok0 eX3_digestView_28.2.2.2.2.2.2.2.2.2.1
theorem dX3_digestView_50 : decode cX3_digestView 50 = .ok (.aload_n 3, 1) := fx_ok0 eX3_digestView_28.2.2.2.2.2.2.2.2.2.2.1
theorem dX3_digestView_51 : decode cX3_digestView 51 = .ok (.aload_n 2, 1) := fx_ok0 eX3_digestView_28.2.2.2.2.2.2.2.2.2.2.2.1
theorem dX3_digestView_52 : decode cX3_digestView 52 = .ok (.getfield 182, 3) := fx_ok0 eX3_digestView_28.2.2.2.2.2.2.2.2.2.2.2.2.1
theorem dX3_digestView_55 : decode cX3_digestView 55 = .ok (.aload_n 2, 1) := fx_ok0 eX3_digestView_28.2.2.2.2.2.2.2.2.2.2.2.2.2.1
theorem dX3_digestView_56 : decode cX3_digestView 56 = .ok (.getfield 185, 3) := fx_ok0 eX3_digestView_28.2.2.2.2.2.2.2.2.2.2.2.2.2.2.1
theorem dX3_digestView_59 : decode cX3_digestView 59 = .ok (.iconst 1, 1) := fx_ok0 eX3_digestView_28.2.2.2.2.2.2.2.2.2.2.2.2.2.2.2
theorem eX3_digestView_60 : (fdecl cX3_digestView.data.toList 60 = some (.invokevirtual 135, 3)) ∧ (fdecl cX3_digestView.data.toList 63 = some (.invokevirtual 132, 3)) ∧ (fdecl cX3_digestView.data.toList 66 = some (.invokestatic 261, 3)) ∧ (fdecl cX3_digestView.data.toList 69 = some (.lstore 4, 2)) ∧ (fdecl cX3_digestView.data.toList 71 = some (.lload 4, 2)) ∧ (fdecl cX3_digestView.data.toList 73 = some (.aload_n 3, 1)) ∧ (fdecl cX3_digestView.data.toList 74 = some (.aload_n 2, 1)) ∧ (fdecl cX3_digestView.data.toList 75 = some (.getfield 182, 3)) ∧ (fdecl cX3_digestView.data.toList 78 = some (.aload_n 2, 1)) ∧ (fdecl cX3_digestView.data.toList 79 = some (.getfield 185, 3)) ∧ (fdecl cX3_digestView.data.toList 82 = some (.invokevirtual 194, 3)) ∧ (fdecl cX3_digestView.data.toList 85 = some (.invokestatic 261, 3)) ∧ (fdecl cX3_digestView.data.toList 88 = some (.lreturn, 1)) := by decide +kernel
theorem dX3_digestView_60 : decode cX3_digestView 60 = .ok (.invokevirtual 135, 3) := fx_ok0 eX3_digestView_60.1
theorem dX3_digestView_63 : decode cX3_digestView 63 = .ok (.invokevirtual 132, 3) := fx_ok0 eX3_digestView_60.2.1
theorem dX3_digestView_66 : decode cX3_digestView 66 = .ok (.invokestatic 261, 3) := fx_ok0 eX3_digestView_60.2.2.1
theorem dX3_digestView_69 : decode cX3_digestView 69 = .ok (.lstore 4, 2) := fx_ok0 eX3_digestView_60.2.2.2.1
theorem dX3_digestView_71 : decode cX3_digestView 71 = .ok (.lload 4, 2) := fx_ok0 eX3_digestView_60.2.2.2.2.1
theorem dX3_digestView_73 : decode cX3_digestView 73 = .ok (.aload_n 3, 1) := fx_ok0 eX3_digestView_60.2.2.2.2.2.1
theorem dX3_digestView_74 : decode cX3_digestView 74 = .ok (.aload_n 2, 1) := fx_ok0 eX3_digestView_60.2.2.2.2.2.2.1
theorem dX3_digestView_75 : decode cX3_digestView 75 = .ok (.getfield 182, 3) := fx_ok0 eX3_digestView_60.2.2.2.2.2.2.2.1
theorem dX3_digestView_78 : decode cX3_digestView 78 = .ok (.aload_n 2, 1) := fx_ok0 eX3_digestView_60.2.2.2.2.2.2.2.2.1
theorem dX3_digestView_79 : decode cX3_digestView 79 = .ok (.getfield 185, 3) := fx_ok0 eX3_digestView_60.2.2.2.2.2.2.2.2.2.1
theorem dX3_digestView_82 : decode cX3_digestView 82 = .ok (.invokevirtual 194, 3) := fx_ok0 eX3_digestView_60.2.2.2.2.2.2.2.2.2.2.1
theorem dX3_digestView_85 : decode cX3_digestView 85 = .ok (.invokestatic 261, 3) := fx_ok0 eX3_digestView_60.2.2.2.2.2.2.2.2.2.2.2.1
theorem dX3_digestView_88 : decode cX3_digestView 88 = .ok (.lreturn, 1) := fx_ok0 eX3_digestView_60.2.2.2.2.2.2.2.2.2.2.2.2
theorem eX3_digestShelf_0 : (fdecl cX3_digestShelf.data.toList 0 = some (.lload_n 0, 1)) ∧ (fdecl cX3_digestShelf.data.toList 1 = some (.lstore_n 3, 1)) ∧ (fdecl cX3_digestShelf.data.toList 2 = some (.iconst 0, 1)) ∧ (fdecl cX3_digestShelf.data.toList 3 = some (.istore 5, 2)) ∧ (fdecl cX3_digestShelf.data.toList 5 = some (.iload 5, 2)) ∧ (fdecl cX3_digestShelf.data.toList 7 = some (.iconst 2, 1)) ∧ (fdecl cX3_digestShelf.data.toList 8 = some (.if_icmp .gt 20, 3)) ∧ (fdecl cX3_digestShelf.data.toList 11 = some (.lload_n 3, 1)) ∧ (fdecl cX3_digestShelf.data.toList 12 = some (.aload_n 2, 1)) ∧ (fdecl cX3_digestShelf.data.toList 13 = some (.iload 5, 2)) ∧ (fdecl cX3_digestShelf.data.toList 15 = some (.invokestatic 232, 3)) ∧ (fdecl cX3_digestShelf.data.toList 18 = some (.invokestatic 261, 3)) ∧ (fdecl cX3_digestShelf.data.toList 21 = some (.lstore_n 3, 1)) ∧ (fdecl cX3_digestShelf.data.toList 25 = some (.goto (-20), 3)) ∧ (fdecl cX3_digestShelf.data.toList 28 = some (.iconst 0, 1)) ∧ (fdecl cX3_digestShelf.data.toList 29 = some (.istore 5, 2)) := by decide +kernel
theorem dX3_digestShelf_0 : decode cX3_digestShelf 0 = .ok (.lload_n 0, 1) := fx_ok0 eX3_digestShelf_0.1
theorem dX3_digestShelf_1 : decode cX3_digestShelf 1 = .ok (.lstore_n 3, 1) := fx_ok0 eX3_digestShelf_0.2.1
theorem dX3_digestShelf_2 : decode cX3_digestShelf 2 = .ok (.iconst 0, 1) := fx_ok0 eX3_digestShelf_0.2.2.1
theorem dX3_digestShelf_3 : decode cX3_digestShelf 3 = .ok (.istore 5, 2) := fx_ok0 eX3_digestShelf_0.2.2.2.1
theorem dX3_digestShelf_5 : decode cX3_digestShelf 5 = .ok (.iload 5, 2) := fx_ok0 eX3_digestShelf_0.2.2.2.2.1
theorem dX3_digestShelf_7 : decode cX3_digestShelf 7 = .ok (.iconst 2, 1) := fx_ok0 eX3_digestShelf_0.2.2.2.2.2.1
theorem dX3_digestShelf_8 : decode cX3_digestShelf 8 = .ok (.if_icmp .gt 20, 3) := fx_ok0 eX3_digestShelf_0.2.2.2.2.2.2.1
theorem dX3_digestShelf_11 : decode cX3_digestShelf 11 = .ok (.lload_n 3, 1) := fx_ok0 eX3_digestShelf_0.2.2.2.2.2.2.2.1
theorem dX3_digestShelf_12 : decode cX3_digestShelf 12 = .ok (.aload_n 2, 1) := fx_ok0 eX3_digestShelf_0.2.2.2.2.2.2.2.2.1
theorem dX3_digestShelf_13 : decode cX3_digestShelf 13 = .ok (.iload 5, 2) := fx_ok0 eX3_digestShelf_0.2.2.2.2.2.2.2.2.2.1
theorem dX3_digestShelf_15 : decode cX3_digestShelf 15 = .ok (.invokestatic 232, 3) := fx_ok0 eX3_digestShelf_0.2.2.2.2.2.2.2.2.2.2.1
theorem dX3_digestShelf_18 : decode cX3_digestShelf 18 = .ok (.invokestatic 261, 3) := fx_ok0 eX3_digestShelf_0.2.2.2.2.2.2.2.2.2.2.2.1
theorem dX3_digestShelf_21 : decode cX3_digestShelf 21 = .ok (.lstore_n 3, 1) := fx_ok0 eX3_digestShelf_0.2.2.2.2.2.2.2.2.2.2.2.2.1
theorem dX3_digestShelf_25 : decode cX3_digestShelf 25 = .ok (.goto (-20), 3) := fx_ok0 eX3_digestShelf_0.2.2.2.2.2.2.2.2.2.2.2.2.2.1
theorem dX3_digestShelf_28 : decode cX3_digestShelf 28 = .ok (.iconst 0, 1) := fx_ok0 eX3_digestShelf_0.2.2.2.2.2.2.2.2.2.2.2.2.2.2.1
theorem dX3_digestShelf_29 : decode cX3_digestShelf 29 = .ok (.istore 5, 2) := fx_ok0 eX3_digestShelf_0.2.2.2.2.2.2.2.2.2.2.2.2.2.2.2
theorem eX3_digestShelf_31 : (fdecl cX3_digestShelf.data.toList 31 = some (.iload 5, 2)) ∧ (fdecl cX3_digestShelf.data.toList 33 = some (.bipush 100, 2)) ∧ (fdecl cX3_digestShelf.data.toList 35 = some (.if_icmp .ge 29, 3)) ∧ (fdecl cX3_digestShelf.data.toList 38 = some (.aload_n 2, 1)) ∧ (fdecl cX3_digestShelf.data.toList 39 = some (.iload 5, 2)) ∧ (fdecl cX3_digestShelf.data.toList 41 = some (.invokevirtual 119, 3)) ∧ (fdecl cX3_digestShelf.data.toList 44 = some (.ifCond .eq 14, 3)) ∧ (fdecl cX3_digestShelf.data.toList 47 = some (.lload_n 3, 1)) ∧ (fdecl cX3_digestShelf.data.toList 48 = some (.aload_n 2, 1)) ∧ (fdecl cX3_digestShelf.data.toList 49 = some (.iload 5, 2)) ∧ (fdecl cX3_digestShelf.data.toList 51 = some (.invokevirtual 132, 3)) ∧ (fdecl cX3_digestShelf.data.toList 54 = some (.invokestatic 261, 3)) ∧ (fdecl cX3_digestShelf.data.toList 57 = some (.lstore_n 3, 1)) ∧ (fdecl cX3_digestShelf.data.toList 61 = some (.goto (-30), 3)) ∧ (fdecl cX3_digestShelf.data.toList 64 = some (.lload_n 3, 1)) ∧ (fdecl cX3_digestShelf.data.toList 65 = some (.lreturn, 1)) := by decide +kernel
theorem dX3_digestShelf_31 : decode cX3_digestShelf 31 = .ok (.iload 5, 2) := fx_ok0 eX3_digestShelf_31.1
theorem dX3_digestShelf_33 : decode cX3_digestShelf 33 = .ok (.bipush 100, 2) := fx_ok0 eX3_digestShelf_31.2.1
theorem dX3_digestShelf_35 : decode cX3_digestShelf 35 = .ok (.if_icmp .ge 29, 3) := fx_ok0 eX3_digestShelf_31.2.2.1
theorem dX3_digestShelf_38 : decode cX3_digestShelf 38 = .ok (.aload_n 2, 1) := fx_ok0 eX3_digestShelf_31.2.2.2.1
theorem dX3_digestShelf_39 : decode cX3_digestShelf 39 = .ok (.iload 5, 2) := fx_ok0 eX3_digestShelf_31.2.2.2.2.1
theorem dX3_digestShelf_41 : decode cX3_digestShelf 41 = .ok (.invokevirtual 119, 3) := fx_ok0 eX3_digestShelf_31.2.2.2.2.2.1
theorem dX3_digestShelf_44 : decode cX3_digestShelf 44 = .ok (.ifCond .eq 14, 3) := fx_ok0 eX3_digestShelf_31.2.2.2.2.2.2.1
theorem dX3_digestShelf_47 : decode cX3_digestShelf 47 = .ok (.lload_n 3, 1) := fx_ok0 eX3_digestShelf_31.2.2.2.2.2.2.2.1
theorem dX3_digestShelf_48 : decode cX3_digestShelf 48 = .ok (.aload_n 2, 1) := fx_ok0 eX3_digestShelf_31.2.2.2.2.2.2.2.2.1
theorem dX3_digestShelf_49 : decode cX3_digestShelf 49 = .ok (.iload 5, 2) := fx_ok0 eX3_digestShelf_31.2.2.2.2.2.2.2.2.2.1
theorem dX3_digestShelf_51 : decode cX3_digestShelf 51 = .ok (.invokevirtual 132, 3) := fx_ok0 eX3_digestShelf_31.2.2.2.2.2.2.2.2.2.2.1
theorem dX3_digestShelf_54 : decode cX3_digestShelf 54 = .ok (.invokestatic 261, 3) := fx_ok0 eX3_digestShelf_31.2.2.2.2.2.2.2.2.2.2.2.1
theorem dX3_digestShelf_57 : decode cX3_digestShelf 57 = .ok (.lstore_n 3, 1) := fx_ok0 eX3_digestShelf_31.2.2.2.2.2.2.2.2.2.2.2.2.1
theorem dX3_digestShelf_61 : decode cX3_digestShelf 61 = .ok (.goto (-30), 3) := fx_ok0 eX3_digestShelf_31.2.2.2.2.2.2.2.2.2.2.2.2.2.1
theorem dX3_digestShelf_64 : decode cX3_digestShelf 64 = .ok (.lload_n 3, 1) := fx_ok0 eX3_digestShelf_31.2.2.2.2.2.2.2.2.2.2.2.2.2.2.1
theorem dX3_digestShelf_65 : decode cX3_digestShelf 65 = .ok (.lreturn, 1) := fx_ok0 eX3_digestShelf_31.2.2.2.2.2.2.2.2.2.2.2.2.2.2.2
theorem dX3_digestShelf_22 : decode cX3_digestShelf 22 = .ok (.iinc 5 1, 3) := by decide +kernel
theorem dX3_digestShelf_58 : decode cX3_digestShelf 58 = .ok (.iinc 5 1, 3) := by decide +kernel
theorem eJ7_fill_53178_0 : (fdecl cJ7_fill_53178.data.toList 0 = some (.iconst 0, 1)) ∧ (fdecl cJ7_fill_53178.data.toList 1 = some (.istore_n 2, 1)) ∧ (fdecl cJ7_fill_53178.data.toList 2 = some (.aload_n 0, 1)) ∧ (fdecl cJ7_fill_53178.data.toList 3 = some (.arraylength, 1)) ∧ (fdecl cJ7_fill_53178.data.toList 4 = some (.istore_n 3, 1)) ∧ (fdecl cJ7_fill_53178.data.toList 5 = some (.iload_n 2, 1)) ∧ (fdecl cJ7_fill_53178.data.toList 6 = some (.iload_n 3, 1)) ∧ (fdecl cJ7_fill_53178.data.toList 7 = some (.if_icmp .ge 13, 3)) ∧ (fdecl cJ7_fill_53178.data.toList 10 = some (.aload_n 0, 1)) ∧ (fdecl cJ7_fill_53178.data.toList 11 = some (.iload_n 2, 1)) ∧ (fdecl cJ7_fill_53178.data.toList 12 = some (.iload_n 1, 1)) ∧ (fdecl cJ7_fill_53178.data.toList 13 = some (.iastore, 1)) ∧ (fdecl cJ7_fill_53178.data.toList 17 = some (.goto (-12), 3)) ∧ (fdecl cJ7_fill_53178.data.toList 20 = some (.return_, 1)) := by decide +kernel
theorem dJ7_fill_53178_0 : decode cJ7_fill_53178 0 = .ok (.iconst 0, 1) := fx_ok0 eJ7_fill_53178_0.1
theorem dJ7_fill_53178_1 : decode cJ7_fill_53178 1 = .ok (.istore_n 2, 1) := fx_ok0 eJ7_fill_53178_0.2.1
theorem dJ7_fill_53178_2 : decode cJ7_fill_53178 2 = .ok (.aload_n 0, 1) := fx_ok0 eJ7_fill_53178_0.2.2.1
theorem dJ7_fill_53178_3 : decode cJ7_fill_53178 3 = .ok (.arraylength, 1) := fx_ok0 eJ7_fill_53178_0.2.2.2.1
theorem dJ7_fill_53178_4 : decode cJ7_fill_53178 4 = .ok (.istore_n 3, 1) := fx_ok0 eJ7_fill_53178_0.2.2.2.2.1
theorem dJ7_fill_53178_5 : decode cJ7_fill_53178 5 = .ok (.iload_n 2, 1) := fx_ok0 eJ7_fill_53178_0.2.2.2.2.2.1
theorem dJ7_fill_53178_6 : decode cJ7_fill_53178 6 = .ok (.iload_n 3, 1) := fx_ok0 eJ7_fill_53178_0.2.2.2.2.2.2.1
theorem dJ7_fill_53178_7 : decode cJ7_fill_53178 7 = .ok (.if_icmp .ge 13, 3) := fx_ok0 eJ7_fill_53178_0.2.2.2.2.2.2.2.1
theorem dJ7_fill_53178_10 : decode cJ7_fill_53178 10 = .ok (.aload_n 0, 1) := fx_ok0 eJ7_fill_53178_0.2.2.2.2.2.2.2.2.1
theorem dJ7_fill_53178_11 : decode cJ7_fill_53178 11 = .ok (.iload_n 2, 1) := fx_ok0 eJ7_fill_53178_0.2.2.2.2.2.2.2.2.2.1
theorem dJ7_fill_53178_12 : decode cJ7_fill_53178 12 = .ok (.iload_n 1, 1) := fx_ok0 eJ7_fill_53178_0.2.2.2.2.2.2.2.2.2.2.1
theorem dJ7_fill_53178_13 : decode cJ7_fill_53178 13 = .ok (.iastore, 1) := fx_ok0 eJ7_fill_53178_0.2.2.2.2.2.2.2.2.2.2.2.1
theorem dJ7_fill_53178_17 : decode cJ7_fill_53178 17 = .ok (.goto (-12), 3) := fx_ok0 eJ7_fill_53178_0.2.2.2.2.2.2.2.2.2.2.2.2.1
theorem dJ7_fill_53178_20 : decode cJ7_fill_53178 20 = .ok (.return_, 1) := fx_ok0 eJ7_fill_53178_0.2.2.2.2.2.2.2.2.2.2.2.2.2
theorem dJ7_fill_53178_14 : decode cJ7_fill_53178 14 = .ok (.iinc 2 1, 3) := by decide +kernel
theorem eJ7_copyOf_9075b_0 : (fdecl cJ7_copyOf_9075b.data.toList 0 = some (.iload_n 1, 1)) ∧ (fdecl cJ7_copyOf_9075b.data.toList 1 = some (.aload_n 0, 1)) ∧ (fdecl cJ7_copyOf_9075b.data.toList 2 = some (.arraylength, 1)) ∧ (fdecl cJ7_copyOf_9075b.data.toList 3 = some (.if_icmp .ne 11, 3)) ∧ (fdecl cJ7_copyOf_9075b.data.toList 6 = some (.aload_n 0, 1)) ∧ (fdecl cJ7_copyOf_9075b.data.toList 7 = some (.invokevirtual 310, 3)) ∧ (fdecl cJ7_copyOf_9075b.data.toList 10 = some (.checkcast 311, 3)) ∧ (fdecl cJ7_copyOf_9075b.data.toList 13 = some (.areturn, 1)) ∧ (fdecl cJ7_copyOf_9075b.data.toList 14 = some (.iload_n 1, 1)) ∧ (fdecl cJ7_copyOf_9075b.data.toList 17 = some (.astore_n 2, 1)) ∧ (fdecl cJ7_copyOf_9075b.data.toList 18 = some (.aload_n 0, 1)) ∧ (fdecl cJ7_copyOf_9075b.data.toList 19 = some (.iconst 0, 1)) ∧ (fdecl cJ7_copyOf_9075b.data.toList 20 = some (.aload_n 2, 1)) ∧ (fdecl cJ7_copyOf_9075b.data.toList 21 = some (.iconst 0, 1)) ∧ (fdecl cJ7_copyOf_9075b.data.toList 22 = some (.aload_n 0, 1)) ∧ (fdecl cJ7_copyOf_9075b.data.toList 23 = some (.arraylength, 1)) := by decide +kernel
theorem dJ7_copyOf_9075b_0 : decode cJ7_copyOf_9075b 0 = .ok (.iload_n 1, 1) := fx_ok0 eJ7_copyOf_9075b_0.1
theorem dJ7_copyOf_9075b_1 : decode cJ7_copyOf_9075b 1 = .ok (.aload_n 0, 1) := fx_ok0 eJ7_copyOf_9075b_0.2.1
theorem dJ7_copyOf_9075b_2 : decode cJ7_copyOf_9075b 2 = .ok (.arraylength, 1) := fx_ok0 eJ7_copyOf_9075b_0.2.2.1
theorem dJ7_copyOf_9075b_3 : decode cJ7_copyOf_9075b 3 = .ok (.if_icmp .ne 11, 3) := fx_ok0 eJ7_copyOf_9075b_0.2.2.2.1
theorem dJ7_copyOf_9075b_6 : decode cJ7_copyOf_9075b 6 = .ok (.aload_n 0, 1) := fx_ok0 eJ7_copyOf_9075b_0.2.2.2.2.1
theorem dJ7_copyOf_9075b_7 : decode cJ7_copyOf_9075b 7 = .ok (.invokevirtual 310, 3) := fx_ok0 eJ7_copyOf_9075b_0.2.2.2.2.2.1
theorem dJ7_copyOf_9075b_10 : decode cJ7_copyOf_9075b 10 = .ok (.checkcast 311, 3) := fx_ok0 eJ7_copyOf_9075b_0.2.2.2.2.2.2.1
theorem dJ7_copyOf_9075b_13 : decode cJ7_copyOf_9075b 13 = .ok (.areturn, 1) := fx_ok0 eJ7_copyOf_9075b_0.2.2.2.2.2.2.2.1
theorem dJ7_copyOf_9075b_14 : decode cJ7_copyOf_9075b 14 = .ok (.iload_n 1, 1) := fx_ok0 eJ7_copyOf_9075b_0.2.2.2.2.2.2.2.2.1
theorem dJ7_copyOf_9075b_17 : decode cJ7_copyOf_9075b 17 = .ok (.astore_n 2, 1) := fx_ok0 eJ7_copyOf_9075b_0.2.2.2.2.2.2.2.2.2.1
theorem dJ7_copyOf_9075b_18 : decode cJ7_copyOf_9075b 18 = .ok (.aload_n 0, 1) := fx_ok0 eJ7_copyOf_9075b_0.2.2.2.2.2.2.2.2.2.2.1
theorem dJ7_copyOf_9075b_19 : decode cJ7_copyOf_9075b 19 = .ok (.iconst 0, 1) := fx_ok0 eJ7_copyOf_9075b_0.2.2.2.2.2.2.2.2.2.2.2.1
theorem dJ7_copyOf_9075b_20 : decode cJ7_copyOf_9075b 20 = .ok (.aload_n 2, 1) := fx_ok0 eJ7_copyOf_9075b_0.2.2.2.2.2.2.2.2.2.2.2.2.1
theorem dJ7_copyOf_9075b_21 : decode cJ7_copyOf_9075b 21 = .ok (.iconst 0, 1) := fx_ok0 eJ7_copyOf_9075b_0.2.2.2.2.2.2.2.2.2.2.2.2.2.1
theorem dJ7_copyOf_9075b_22 : decode cJ7_copyOf_9075b 22 = .ok (.aload_n 0, 1) := fx_ok0 eJ7_copyOf_9075b_0.2.2.2.2.2.2.2.2.2.2.2.2.2.2.1
theorem dJ7_copyOf_9075b_23 : decode cJ7_copyOf_9075b 23 = .ok (.arraylength, 1) := fx_ok0 eJ7_copyOf_9075b_0.2.2.2.2.2.2.2.2.2.2.2.2.2.2.2
theorem eJ7_copyOf_9075b_24 : (fdecl cJ7_copyOf_9075b.data.toList 24 = some (.iload_n 1, 1)) ∧ (fdecl cJ7_copyOf_9075b.data.toList 25 = some (.invokestatic 304, 3)) ∧ (fdecl cJ7_copyOf_9075b.data.toList 28 = some (.invokestatic 150, 3)) ∧ (fdecl cJ7_copyOf_9075b.data.toList 31 = some (.aload_n 2, 1)) ∧ (fdecl cJ7_copyOf_9075b.data.toList 32 = some (.areturn, 1)) := by decide +kernel
theorem dJ7_copyOf_9075b_24 : decode cJ7_copyOf_9075b 24 = .ok (.iload_n 1, 1) := fx_ok0 eJ7_copyOf_9075b_24.1
theorem dJ7_copyOf_9075b_25 : decode cJ7_copyOf_9075b 25 = .ok (.invokestatic 304, 3) := fx_ok0 eJ7_copyOf_9075b_24.2.1
theorem dJ7_copyOf_9075b_28 : decode cJ7_copyOf_9075b 28 = .ok (.invokestatic 150, 3) := fx_ok0 eJ7_copyOf_9075b_24.2.2.1
theorem dJ7_copyOf_9075b_31 : decode cJ7_copyOf_9075b 31 = .ok (.aload_n 2, 1) := fx_ok0 eJ7_copyOf_9075b_24.2.2.2.1
theorem dJ7_copyOf_9075b_32 : decode cJ7_copyOf_9075b 32 = .ok (.areturn, 1) := fx_ok0 eJ7_copyOf_9075b_24.2.2.2.2
theorem dJ7_copyOf_9075b_15 : decode cJ7_copyOf_9075b 15 = .ok (.newarray .byte, 2) := by decide +kernel
theorem eJ7_checkLength_df160_0 : (fdecl cJ7_checkLength_df160.data.toList 0 = some (.iload_n 1, 1)) ∧ (fdecl cJ7_checkLength_df160.data.toList 1 = some (.iload_n 0, 1)) ∧ (fdecl cJ7_checkLength_df160.data.toList 2 = some (.if_icmp .ge 35, 3)) ∧ (fdecl cJ7_checkLength_df160.data.toList 5 = some (.new 43, 3)) ∧ (fdecl cJ7_checkLength_df160.data.toList 8 = some (.dup, 1)) ∧ (fdecl cJ7_checkLength_df160.data.toList 9 = some (.new 45, 3)) ∧ (fdecl cJ7_checkLength_df160.data.toList 12 = some (.dup, 1)) ∧ (fdecl cJ7_checkLength_df160.data.toList 13 = some (.invokespecial 47, 3)) ∧ (fdecl cJ7_checkLength_df160.data.toList 16 = some (.iload_n 0, 1)) ∧ (fdecl cJ7_checkLength_df160.data.toList 17 = some (.invokevirtual 54, 3)) ∧ (fdecl cJ7_checkLength_df160.data.toList 20 = some (.ldc_w 337, 3)) ∧ (fdecl cJ7_checkLength_df160.data.toList 23 = some (.invokevirtual 50, 3)) ∧ (fdecl cJ7_checkLength_df160.data.toList 26 = some (.iload_n 1, 1)) ∧ (fdecl cJ7_checkLength_df160.data.toList 27 = some (.invokevirtual 54, 3)) ∧ (fdecl cJ7_checkLength_df160.data.toList 30 = some (.invokevirtual 61, 3)) ∧ (fdecl cJ7_checkLength_df160.data.toList 33 = some (.invokespecial 65, 3)) := by decide +kernel
theorem dJ7_checkLength_df160_0 : decode cJ7_checkLength_df160 0 = .ok (.iload_n 1, 1) := fx_ok0 eJ7_checkLength_df160_0.1
theorem dJ7_checkLength_df160_1 : decode cJ7_checkLength_df160 1 = .ok (.iload_n 0, 1) := fx_ok0 eJ7_checkLength_df160_0.2.1
theorem dJ7_checkLength_df160_2 : decode cJ7_checkLength_df160 2 = .ok (.if_icmp .ge 35, 3) := fx_ok0 eJ7_checkLength_df160_0.2.2.1
theorem dJ7_checkLength_df160_5 : decode cJ7_checkLength_df160 5 = .ok (.new 43, 3) := fx_ok0 eJ7_checkLength_df160_0.2.2.2.1
theorem dJ7_checkLength_df160_8 : decode cJ7_checkLength_df160 8 = .ok (.dup, 1) := fx_ok0 eJ7_checkLength_df160_0.2.2.2.2.1
theorem dJ7_checkLength_df160_9 : decode cJ7_checkLength_df160 9 = .ok (.new 45, 3) := fx_ok0 eJ7_checkLength_df160_0.2.2.2.2.2.1
theorem dJ7_checkLength_df160_12 : decode cJ7_checkLength_df160 12 = .ok (.dup, 1) := fx_ok0 eJ7_checkLength_df160_0.2.2.2.2.2.2.1
theorem dJ7_checkLength_df160_13 : decode cJ7_checkLength_df160 13 = .ok (.invokespecial 47, 3) := fx_ok0 eJ7_checkLength_df160_0.2.2.2.2.2.2.2.1
theorem dJ7_checkLength_df160_16 : decode cJ7_checkLength_df160 16 = .ok (.iload_n 0, 1) := fx_ok0 eJ7_checkLength_df160_0.2.2.2.2.2.2.2.2.1
theorem dJ7_checkLength_df160_17 : decode cJ7_checkLength_df160 17 = .ok (.invokevirtual 54, 3) := fx_ok0 eJ7_checkLength_df160_0.2.2.2.2.2.2.2.2.2.1
theorem dJ7_checkLength_df160_20 : decode cJ7_checkLength_df160 20 = .ok (.ldc_w 337, 3) := fx_ok0 eJ7_checkLength_df160_0.2.2.2.2.2.2.2.2.2.2.1
theorem dJ7_checkLength_df160_23 : decode cJ7_checkLength_df160 23 = .ok (.invokevirtual 50, 3) := fx_ok0 eJ7_checkLength_df160_0.2.2.2.2.2.2.2.2.2.2.2.1
theorem dJ7_checkLength_df160_26 : decode cJ7_checkLength_df160 26 = .ok (.iload_n 1, 1) := fx_ok0 eJ7_checkLength_df160_0.2.2.2.2.2.2.2.2.2.2.2.2.1
theorem dJ7_checkLength_df160_27 : decode cJ7_checkLength_df160 27 = .ok (.invokevirtual 54, 3) := fx_ok0 eJ7_checkLength_df160_0.2.2.2.2.2.2.2.2.2.2.2.2.2.1
theorem dJ7_checkLength_df160_30 : decode cJ7_checkLength_df160 30 = .ok (.invokevirtual 61, 3) := fx_ok0 eJ7_checkLength_df160_0.2.2.2.2.2.2.2.2.2.2.2.2.2.2.1
theorem dJ7_checkLength_df160_33 : decode cJ7_checkLength_df160 33 = .ok (.invokespecial 65, 3) := fx_ok0 eJ7_checkLength_df160_0.2.2.2.2.2.2.2.2.2.2.2.2.2.2.2
theorem eJ7_checkLength_df160_36 : (fdecl cJ7_checkLength_df160.data.toList 36 = some (.athrow, 1)) ∧ (fdecl cJ7_checkLength_df160.data.toList 37 = some (.return_, 1)) := by decide +kernel
theorem dJ7_checkLength_df160_36 : decode cJ7_checkLength_df160 36 = .ok (.athrow, 1) := fx_ok0 eJ7_checkLength_df160_36.1
theorem dJ7_checkLength_df160_37 : decode cJ7_checkLength_df160 37 = .ok (.return_, 1) := fx_ok0 eJ7_checkLength_df160_36.2
theorem eJ7_copyOfRange_39247_0 : (fdecl cJ7_copyOfRange_39247.data.toList 0 = some (.iload_n 1, 1)) ∧ (fdecl cJ7_copyOfRange_39247.data.toList 1 = some (.ifCond .ne 9, 3)) ∧ (fdecl cJ7_copyOfRange_39247.data.toList 4 = some (.iload_n 2, 1)) ∧ (fdecl cJ7_copyOfRange_39247.data.toList 5 = some (.aload_n 0, 1)) ∧ (fdecl cJ7_copyOfRange_39247.data.toList 6 = some (.arraylength, 1)) ∧ (fdecl cJ7_copyOfRange_39247.data.toList 7 = some (.if_icmp .eq 10, 3)) ∧ (fdecl cJ7_copyOfRange_39247.data.toList 10 = some (.aload_n 0, 1)) ∧ (fdecl cJ7_copyOfRange_39247.data.toList 11 = some (.iload_n 1, 1)) ∧ (fdecl cJ7_copyOfRange_39247.data.toList 12 = some (.iload_n 2, 1)) ∧ (fdecl cJ7_copyOfRange_39247.data.toList 13 = some (.invokestatic 339, 3)) ∧ (fdecl cJ7_copyOfRange_39247.data.toList 16 = some (.areturn, 1)) ∧ (fdecl cJ7_copyOfRange_39247.data.toList 17 = some (.aload_n 0, 1)) ∧ (fdecl cJ7_copyOfRange_39247.data.toList 18 = some (.invokevirtual 310, 3)) ∧ (fdecl cJ7_copyOfRange_39247.data.toList 21 = some (.checkcast 311, 3)) ∧ (fdecl cJ7_copyOfRange_39247.data.toList 24 = some (.areturn, 1)) := by decide +kernel
theorem dJ7_copyOfRange_39247_0 : decode cJ7_copyOfRange_39247 0 = .ok (.iload_n 1, 1) := fx_ok0 eJ7_copyOfRange_39247_0.1
theorem dJ7_copyOfRange_39247_1 : decode cJ7_copyOfRange_39247 1 = .ok (.ifCond .ne 9, 3) := fx_ok0 eJ7_copyOfRange_39247_0.2.1
theorem dJ7_copyOfRange_39247_4 : decode cJ7_copyOfRange_39247 4 = .ok (.iload_n 2, 1) := fx_ok0 eJ7_copyOfRange_39247_0.2.2.1
theorem dJ7_copyOfRange_39247_5 : decode cJ7_copyOfRange_39247 5 = .ok (.aload_n 0, 1) := fx_ok0 eJ7_copyOfRange_39247_0.2.2.2.1
theorem dJ7_copyOfRange_39247_6 : decode cJ7_copyOfRange_39247 6 = .ok (.arraylength, 1) := fx_ok0 eJ7_copyOfRange_39247_0.2.2.2.2.1
theorem dJ7_copyOfRange_39247_7 : decode cJ7_copyOfRange_39247 7 = .ok (.if_icmp .eq 10, 3) := fx_ok0 eJ7_copyOfRange_39247_0.2.2.2.2.2.1
theorem dJ7_copyOfRange_39247_10 : decode cJ7_copyOfRange_39247 10 = .ok (.aload_n 0, 1) := fx_ok0 eJ7_copyOfRange_39247_0.2.2.2.2.2.2.1
theorem dJ7_copyOfRange_39247_11 : decode cJ7_copyOfRange_39247 11 = .ok (.iload_n 1, 1) := fx_ok0 eJ7_copyOfRange_39247_0.2.2.2.2.2.2.2.1
theorem dJ7_copyOfRange_39247_12 : decode cJ7_copyOfRange_39247 12 = .ok (.iload_n 2, 1) := fx_ok0 eJ7_copyOfRange_39247_0.2.2.2.2.2.2.2.2.1
theorem dJ7_copyOfRange_39247_13 : decode cJ7_copyOfRange_39247 13 = .ok (.invokestatic 339, 3) := fx_ok0 eJ7_copyOfRange_39247_0.2.2.2.2.2.2.2.2.2.1
theorem dJ7_copyOfRange_39247_16 : decode cJ7_copyOfRange_39247 16 = .ok (.areturn, 1) := fx_ok0 eJ7_copyOfRange_39247_0.2.2.2.2.2.2.2.2.2.2.1
theorem dJ7_copyOfRange_39247_17 : decode cJ7_copyOfRange_39247 17 = .ok (.aload_n 0, 1) := fx_ok0 eJ7_copyOfRange_39247_0.2.2.2.2.2.2.2.2.2.2.2.1
theorem dJ7_copyOfRange_39247_18 : decode cJ7_copyOfRange_39247 18 = .ok (.invokevirtual 310, 3) := fx_ok0 eJ7_copyOfRange_39247_0.2.2.2.2.2.2.2.2.2.2.2.2.1
theorem dJ7_copyOfRange_39247_21 : decode cJ7_copyOfRange_39247 21 = .ok (.checkcast 311, 3) := fx_ok0 eJ7_copyOfRange_39247_0.2.2.2.2.2.2.2.2.2.2.2.2.2.1
theorem dJ7_copyOfRange_39247_24 : decode cJ7_copyOfRange_39247 24 = .ok (.areturn, 1) := fx_ok0 eJ7_copyOfRange_39247_0.2.2.2.2.2.2.2.2.2.2.2.2.2.2
theorem eJ7_copyOfRangeByte_39247_0 : (fdecl cJ7_copyOfRangeByte_39247.data.toList 0 = some (.iload_n 1, 1)) ∧ (fdecl cJ7_copyOfRangeByte_39247.data.toList 1 = some (.iload_n 2, 1)) ∧ (fdecl cJ7_copyOfRangeByte_39247.data.toList 2 = some (.invokestatic 343, 3)) ∧ (fdecl cJ7_copyOfRangeByte_39247.data.toList 5 = some (.iload_n 2, 1)) ∧ (fdecl cJ7_copyOfRangeByte_39247.data.toList 6 = some (.iload_n 1, 1)) ∧ (fdecl cJ7_copyOfRangeByte_39247.data.toList 7 = some (.isub, 1)) ∧ (fdecl cJ7_copyOfRangeByte_39247.data.toList 8 = some (.istore_n 3, 1)) ∧ (fdecl cJ7_copyOfRangeByte_39247.data.toList 9 = some (.iload_n 3, 1)) ∧ (fdecl cJ7_copyOfRangeByte_39247.data.toList 12 = some (.astore 4, 2)) ∧ (fdecl cJ7_copyOfRangeByte_39247.data.toList 14 = some (.aload_n 0, 1)) ∧ (fdecl cJ7_copyOfRangeByte_39247.data.toList 15 = some (.iload_n 1, 1)) ∧ (fdecl cJ7_copyOfRangeByte_39247.data.toList 16 = some (.aload 4, 2)) ∧ (fdecl cJ7_copyOfRangeByte_39247.data.toList 18 = some (.iconst 0, 1)) ∧ (fdecl cJ7_copyOfRangeByte_39247.data.toList 19 = some (.aload_n 0, 1)) ∧ (fdecl cJ7_copyOfRangeByte_39247.data.toList 20 = some (.arraylength, 1)) ∧ (fdecl cJ7_copyOfRangeByte_39247.data.toList 21 = some (.iload_n 1, 1)) := by decide +kernel
theorem dJ7_copyOfRangeByte_39247_0 : decode cJ7_copyOfRangeByte_39247 0 = .ok (.iload_n 1, 1) := fx_ok0 eJ7_copyOfRangeByte_39247_0.1
theorem dJ7_copyOfRangeByte_39247_1 : decode cJ7_copyOfRangeByte_39247 1 = .ok (.iload_n 2, 1) := fx_ok0 eJ7_copyOfRangeByte_39247_0.2.1
theorem dJ7_copyOfRangeByte_39247_2 : decode cJ7_copyOfRangeByte_39247 2 = .ok (.invokestatic 343, 3) := fx_ok0 eJ7_copyOfRangeByte_39247_0.2.2.1
theorem dJ7_copyOfRangeByte_39247_5 : decode cJ7_copyOfRangeByte_39247 5 = .ok (.iload_n 2, 1) := fx_ok0 eJ7_copyOfRangeByte_39247_0.2.2.2.1
theorem dJ7_copyOfRangeByte_39247_6 : decode cJ7_copyOfRangeByte_39247 6 = .ok (.iload_n 1, 1) := fx_ok0 eJ7_copyOfRangeByte_39247_0.2.2.2.2.1
theorem dJ7_copyOfRangeByte_39247_7 : decode cJ7_copyOfRangeByte_39247 7 = .ok (.isub, 1) := fx_ok0 eJ7_copyOfRangeByte_39247_0.2.2.2.2.2.1
theorem dJ7_copyOfRangeByte_39247_8 : decode cJ7_copyOfRangeByte_39247 8 = .ok (.istore_n 3, 1) := fx_ok0 eJ7_copyOfRangeByte_39247_0.2.2.2.2.2.2.1
theorem dJ7_copyOfRangeByte_39247_9 : decode cJ7_copyOfRangeByte_39247 9 = .ok (.iload_n 3, 1) := fx_ok0 eJ7_copyOfRangeByte_39247_0.2.2.2.2.2.2.2.1
theorem dJ7_copyOfRangeByte_39247_12 : decode cJ7_copyOfRangeByte_39247 12 = .ok (.astore 4, 2) := fx_ok0 eJ7_copyOfRangeByte_39247_0.2.2.2.2.2.2.2.2.1
theorem dJ7_copyOfRangeByte_39247_14 : decode cJ7_copyOfRangeByte_39247 14 = .ok (.aload_n 0, 1) := fx_ok0 eJ7_copyOfRangeByte_39247_0.2.2.2.2.2.2.2.2.2.1
theorem dJ7_copyOfRangeByte_39247_15 : decode cJ7_copyOfRangeByte_39247 15 = .ok (.iload_n 1, 1) := fx_ok0 eJ7_copyOfRangeByte_39247_0.2.2.2.2.2.2.2.2.2.2.1
theorem dJ7_copyOfRangeByte_39247_16 : decode cJ7_copyOfRangeByte_39247 16 = .ok (.aload 4, 2) := fx_ok0 eJ7_copyOfRangeByte_39247_0.2.2.2.2.2.2.2.2.2.2.2.1
theorem dJ7_copyOfRangeByte_39247_18 : decode cJ7_copyOfRangeByte_39247 18 = .ok (.iconst 0, 1) := fx_ok0 eJ7_copyOfRangeByte_39247_0.2.2.2.2.2.2.2.2.2.2.2.2.1
theorem dJ7_copyOfRangeByte_39247_19 : decode cJ7_copyOfRangeByte_39247 19 = .ok (.aload_n 0, 1) := fx_ok0 eJ7_copyOfRangeByte_39247_0.2.2.2.2.2.2.2.2.2.2.2.2.2.1
theorem dJ7_copyOfRangeByte_39247_20 : decode cJ7_copyOfRangeByte_39247 20 = .ok (.arraylength, 1) := fx_ok0 eJ7_copyOfRangeByte_39247_0.2.2.2.2.2.2.2.2.2.2.2.2.2.2.1
theorem dJ7_copyOfRangeByte_39247_21 : decode cJ7_copyOfRangeByte_39247 21 = .ok (.iload_n 1, 1) := fx_ok0 eJ7_copyOfRangeByte_39247_0.2.2.2.2.2.2.2.2.2.2.2.2.2.2.2
theorem eJ7_copyOfRangeByte_39247_22 : (fdecl cJ7_copyOfRangeByte_39247.data.toList 22 = some (.isub, 1)) ∧ (fdecl cJ7_copyOfRangeByte_39247.data.toList 23 = some (.iload_n 3, 1)) ∧ (fdecl cJ7_copyOfRangeByte_39247.data.toList 24 = some (.invokestatic 304, 3)) ∧ (fdecl cJ7_copyOfRangeByte_39247.data.toList 27 = some (.invokestatic 150, 3)) ∧ (fdecl cJ7_copyOfRangeByte_39247.data.toList 30 = some (.aload 4, 2)) ∧ (fdecl cJ7_copyOfRangeByte_39247.data.toList 32 = some (.areturn, 1)) := by decide +kernel
theorem dJ7_copyOfRangeByte_39247_22 : decode cJ7_copyOfRangeByte_39247 22 = .ok (.isub, 1) := fx_ok0 eJ7_copyOfRangeByte_39247_22.1
theorem dJ7_copyOfRangeByte_39247_23 : decode cJ7_copyOfRangeByte_39247 23 = .ok (.iload_n 3, 1) := fx_ok0 eJ7_copyOfRangeByte_39247_22.2.1
theorem dJ7_copyOfRangeByte_39247_24 : decode cJ7_copyOfRangeByte_39247 24 = .ok (.invokestatic 304, 3) := fx_ok0 eJ7_copyOfRangeByte_39247_22.2.2.1
theorem dJ7_copyOfRangeByte_39247_27 : decode cJ7_copyOfRangeByte_39247 27 = .ok (.invokestatic 150, 3) := fx_ok0 eJ7_copyOfRangeByte_39247_22.2.2.2.1
theorem dJ7_copyOfRangeByte_39247_30 : decode cJ7_copyOfRangeByte_39247 30 = .ok (.aload 4, 2) := fx_ok0 eJ7_copyOfRangeByte_39247_22.2.2.2.2.1
theorem dJ7_copyOfRangeByte_39247_32 : decode cJ7_copyOfRangeByte_39247 32 = .ok (.areturn, 1) := fx_ok0 eJ7_copyOfRangeByte_39247_22.2.2.2.2.2
theorem dJ7_copyOfRangeByte_39247_10 : decode cJ7_copyOfRangeByte_39247 10 = .ok (.newarray .byte, 2) := by decide +kernel
