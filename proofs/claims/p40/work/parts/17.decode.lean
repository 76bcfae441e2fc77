theorem eX4_init_0 : (fdecl cX4_init.data.toList 0 = some (.aload_n 0, 1)) ∧ (fdecl cX4_init.data.toList 1 = some (.invokespecial 1, 3)) ∧ (fdecl cX4_init.data.toList 4 = some (.return_, 1)) := by decide +kernel
theorem dX4_init_0 : decode cX4_init 0 = .ok (.aload_n 0, 1) := fx_ok0 eX4_init_0.1
theorem dX4_init_1 : decode cX4_init 1 = .ok (.invokespecial 1, 3) := fx_ok0 eX4_init_0.2.1
theorem dX4_init_4 : decode cX4_init 4 = .ok (.return_, 1) := fx_ok0 eX4_init_0.2.2
theorem eX5_init_0 : (fdecl cX5_init.data.toList 0 = some (.aload_n 0, 1)) ∧ (fdecl cX5_init.data.toList 1 = some (.invokespecial 3, 3)) ∧ (fdecl cX5_init.data.toList 4 = some (.aload_n 0, 1)) ∧ (fdecl cX5_init.data.toList 5 = some (.bipush 100, 2)) ∧ (fdecl cX5_init.data.toList 9 = some (.putfield 9, 3)) ∧ (fdecl cX5_init.data.toList 12 = some (.aload_n 0, 1)) ∧ (fdecl cX5_init.data.toList 13 = some (.iload_n 1, 1)) ∧ (fdecl cX5_init.data.toList 14 = some (.putfield 15, 3)) ∧ (fdecl cX5_init.data.toList 17 = some (.iconst 0, 1)) ∧ (fdecl cX5_init.data.toList 18 = some (.istore_n 2, 1)) ∧ (fdecl cX5_init.data.toList 19 = some (.iload_n 2, 1)) ∧ (fdecl cX5_init.data.toList 20 = some (.bipush 100, 2)) ∧ (fdecl cX5_init.data.toList 22 = some (.if_icmp .ge 16, 3)) ∧ (fdecl cX5_init.data.toList 25 = some (.aload_n 0, 1)) ∧ (fdecl cX5_init.data.toList 26 = some (.getfield 9, 3)) ∧ (fdecl cX5_init.data.toList 29 = some (.iload_n 2, 1)) := by decide +kernel
theorem dX5_init_0 : decode cX5_init 0 = .ok (.aload_n 0, 1) := fx_ok0 eX5_init_0.1
theorem dX5_init_1 : decode cX5_init 1 = .ok (.invokespecial 3, 3) := fx_ok0 eX5_init_0.2.1
theorem dX5_init_4 : decode cX5_init 4 = .ok (.aload_n 0, 1) := fx_ok0 eX5_init_0.2.2.1
theorem dX5_init_5 : decode cX5_init 5 = .ok (.bipush 100, 2) := fx_ok0 eX5_init_0.2.2.2.1
theorem dX5_init_9 : decode cX5_init 9 = .ok (.putfield 9, 3) := fx_ok0 eX5_init_0.2.2.2.2.1
theorem dX5_init_12 : decode cX5_init 12 = .ok (.aload_n 0, 1) := fx_ok0 eX5_init_0.2.2.2.2.2.1
theorem dX5_init_13 : decode cX5_init 13 = .ok (.iload_n 1, 1) := fx_ok0 eX5_init_0.2.2.2.2.2.2.1
theorem dX5_init_14 : decode cX5_init 14 = .ok (.putfield 15, 3) := fx_ok0 eX5_init_0.2.2.2.2.2.2.2.1
theorem dX5_init_17 : decode cX5_init 17 = .ok (.iconst 0, 1) := fx_ok0 eX5_init_0.2.2.2.2.2.2.2.2.1
theorem dX5_init_18 : decode cX5_init 18 = .ok (.istore_n 2, 1) := fx_ok0 eX5_init_0.2.2.2.2.2.2.2.2.2.1
theorem dX5_init_19 : decode cX5_init 19 = .ok (.iload_n 2, 1) := fx_ok0 eX5_init_0.2.2.2.2.2.2.2.2.2.2.1
theorem dX5_init_20 : decode cX5_init 20 = .ok (.bipush 100, 2) := fx_ok0 eX5_init_0.2.2.2.2.2.2.2.2.2.2.2.1
theorem dX5_init_22 : decode cX5_init 22 = .ok (.if_icmp .ge 16, 3) := fx_ok0 eX5_init_0.2.2.2.2.2.2.2.2.2.2.2.2.1
theorem dX5_init_25 : decode cX5_init 25 = .ok (.aload_n 0, 1) := fx_ok0 eX5_init_0.2.2.2.2.2.2.2.2.2.2.2.2.2.1
theorem dX5_init_26 : decode cX5_init 26 = .ok (.getfield 9, 3) := fx_ok0 eX5_init_0.2.2.2.2.2.2.2.2.2.2.2.2.2.2.1
theorem dX5_init_29 : decode cX5_init 29 = .ok (.iload_n 2, 1) := fx_ok0 eX5_init_0.2.2.2.2.2.2.2.2.2.2.2.2.2.2.2
theorem eX5_init_30 : (fdecl cX5_init.data.toList 30 = some (.iconst (-1), 1)) ∧ (fdecl cX5_init.data.toList 31 = some (.iastore, 1)) ∧ (fdecl cX5_init.data.toList 35 = some (.goto (-16), 3)) ∧ (fdecl cX5_init.data.toList 38 = some (.return_, 1)) := by decide +kernel
theorem dX5_init_30 : decode cX5_init 30 = .ok (.iconst (-1), 1) := fx_ok0 eX5_init_30.1
theorem dX5_init_31 : decode cX5_init 31 = .ok (.iastore, 1) := fx_ok0 eX5_init_30.2.1
theorem dX5_init_35 : decode cX5_init 35 = .ok (.goto (-16), 3) := fx_ok0 eX5_init_30.2.2.1
theorem dX5_init_38 : decode cX5_init 38 = .ok (.return_, 1) := fx_ok0 eX5_init_30.2.2.2
theorem dX5_init_7 : decode cX5_init 7 = .ok (.newarray .int, 2) := by decide +kernel
theorem dX5_init_32 : decode cX5_init 32 = .ok (.iinc 2 1, 3) := by decide +kernel
theorem eX5_rank_0 : (fdecl cX5_rank.data.toList 0 = some (.aload_n 0, 1)) ∧ (fdecl cX5_rank.data.toList 1 = some (.getfield 15, 3)) ∧ (fdecl cX5_rank.data.toList 4 = some (.ifCond .ne 7, 3)) ∧ (fdecl cX5_rank.data.toList 7 = some (.iload_n 1, 1)) ∧ (fdecl cX5_rank.data.toList 8 = some (.goto 30, 3)) ∧ (fdecl cX5_rank.data.toList 11 = some (.aload_n 0, 1)) ∧ (fdecl cX5_rank.data.toList 12 = some (.getfield 15, 3)) ∧ (fdecl cX5_rank.data.toList 15 = some (.iconst 1, 1)) ∧ (fdecl cX5_rank.data.toList 16 = some (.if_icmp .ne 10, 3)) ∧ (fdecl cX5_rank.data.toList 19 = some (.bipush 99, 2)) ∧ (fdecl cX5_rank.data.toList 21 = some (.iload_n 1, 1)) ∧ (fdecl cX5_rank.data.toList 22 = some (.isub, 1)) ∧ (fdecl cX5_rank.data.toList 23 = some (.goto 15, 3)) ∧ (fdecl cX5_rank.data.toList 26 = some (.iload_n 1, 1)) ∧ (fdecl cX5_rank.data.toList 27 = some (.bipush 10, 2)) ∧ (fdecl cX5_rank.data.toList 29 = some (.irem, 1)) := by decide +kernel
theorem dX5_rank_0 : decode cX5_rank 0 = .ok (.aload_n 0, 1) := fx_ok0 eX5_rank_0.1
theorem dX5_rank_1 : decode cX5_rank 1 = .ok (.getfield 15, 3) := fx_ok0 eX5_rank_0.2.1
theorem dX5_rank_4 : decode cX5_rank 4 = .ok (.ifCond .ne 7, 3) := fx_ok0 eX5_rank_0.2.2.1
theorem dX5_rank_7 : decode cX5_rank 7 = .ok (.iload_n 1, 1) := fx_ok0 eX5_rank_0.2.2.2.1
theorem dX5_rank_8 : decode cX5_rank 8 = .ok (.goto 30, 3) := fx_ok0 eX5_rank_0.2.2.2.2.1
theorem dX5_rank_11 : decode cX5_rank 11 = .ok (.aload_n 0, 1) := fx_ok0 eX5_rank_0.2.2.2.2.2.1
theorem dX5_rank_12 : decode cX5_rank 12 = .ok (.getfield 15, 3) := fx_ok0 eX5_rank_0.2.2.2.2.2.2.1
theorem dX5_rank_15 : decode cX5_rank 15 = .ok (.iconst 1, 1) := fx_ok0 eX5_rank_0.2.2.2.2.2.2.2.1
theorem dX5_rank_16 : decode cX5_rank 16 = .ok (.if_icmp .ne 10, 3) := fx_ok0 eX5_rank_0.2.2.2.2.2.2.2.2.1
theorem dX5_rank_19 : decode cX5_rank 19 = .ok (.bipush 99, 2) := fx_ok0 eX5_rank_0.2.2.2.2.2.2.2.2.2.1
theorem dX5_rank_21 : decode cX5_rank 21 = .ok (.iload_n 1, 1) := fx_ok0 eX5_rank_0.2.2.2.2.2.2.2.2.2.2.1
theorem dX5_rank_22 : decode cX5_rank 22 = .ok (.isub, 1) := fx_ok0 eX5_rank_0.2.2.2.2.2.2.2.2.2.2.2.1
theorem dX5_rank_23 : decode cX5_rank 23 = .ok (.goto 15, 3) := fx_ok0 eX5_rank_0.2.2.2.2.2.2.2.2.2.2.2.2.1
theorem dX5_rank_26 : decode cX5_rank 26 = .ok (.iload_n 1, 1) := fx_ok0 eX5_rank_0.2.2.2.2.2.2.2.2.2.2.2.2.2.1
theorem dX5_rank_27 : decode cX5_rank 27 = .ok (.bipush 10, 2) := fx_ok0 eX5_rank_0.2.2.2.2.2.2.2.2.2.2.2.2.2.2.1
theorem dX5_rank_29 : decode cX5_rank 29 = .ok (.irem, 1) := fx_ok0 eX5_rank_0.2.2.2.2.2.2.2.2.2.2.2.2.2.2.2
theorem eX5_rank_30 : (fdecl cX5_rank.data.toList 30 = some (.bipush 10, 2)) ∧ (fdecl cX5_rank.data.toList 32 = some (.imul, 1)) ∧ (fdecl cX5_rank.data.toList 33 = some (.iload_n 1, 1)) ∧ (fdecl cX5_rank.data.toList 34 = some (.bipush 10, 2)) ∧ (fdecl cX5_rank.data.toList 36 = some (.idiv, 1)) ∧ (fdecl cX5_rank.data.toList 37 = some (.iadd, 1)) ∧ (fdecl cX5_rank.data.toList 38 = some (.ireturn, 1)) := by decide +kernel
theorem dX5_rank_30 : decode cX5_rank 30 = .ok (.bipush 10, 2) := fx_ok0 eX5_rank_30.1
theorem dX5_rank_32 : decode cX5_rank 32 = .ok (.imul, 1) := fx_ok0 eX5_rank_30.2.1
theorem dX5_rank_33 : decode cX5_rank 33 = .ok (.iload_n 1, 1) := fx_ok0 eX5_rank_30.2.2.1
theorem dX5_rank_34 : decode cX5_rank 34 = .ok (.bipush 10, 2) := fx_ok0 eX5_rank_30.2.2.2.1
theorem dX5_rank_36 : decode cX5_rank 36 = .ok (.idiv, 1) := fx_ok0 eX5_rank_30.2.2.2.2.1
theorem dX5_rank_37 : decode cX5_rank 37 = .ok (.iadd, 1) := fx_ok0 eX5_rank_30.2.2.2.2.2.1
theorem dX5_rank_38 : decode cX5_rank 38 = .ok (.ireturn, 1) := fx_ok0 eX5_rank_30.2.2.2.2.2.2
theorem eX5_key_0 : (fdecl cX5_key.data.toList 0 = some (.aload_n 0, 1)) ∧ (fdecl cX5_key.data.toList 1 = some (.getfield 15, 3)) ∧ (fdecl cX5_key.data.toList 4 = some (.ifCond .ne 7, 3)) ∧ (fdecl cX5_key.data.toList 7 = some (.iload_n 1, 1)) ∧ (fdecl cX5_key.data.toList 8 = some (.goto 30, 3)) ∧ (fdecl cX5_key.data.toList 11 = some (.aload_n 0, 1)) ∧ (fdecl cX5_key.data.toList 12 = some (.getfield 15, 3)) ∧ (fdecl cX5_key.data.toList 15 = some (.iconst 1, 1)) ∧ (fdecl cX5_key.data.toList 16 = some (.if_icmp .ne 10, 3)) ∧ (fdecl cX5_key.data.toList 19 = some (.bipush 99, 2)) ∧ (fdecl cX5_key.data.toList 21 = some (.iload_n 1, 1)) ∧ (fdecl cX5_key.data.toList 22 = some (.isub, 1)) ∧ (fdecl cX5_key.data.toList 23 = some (.goto 15, 3)) ∧ (fdecl cX5_key.data.toList 26 = some (.iload_n 1, 1)) ∧ (fdecl cX5_key.data.toList 27 = some (.bipush 10, 2)) ∧ (fdecl cX5_key.data.toList 29 = some (.irem, 1)) := by decide +kernel
theorem dX5_key_0 : decode cX5_key 0 = .ok (.aload_n 0, 1) := fx_ok0 eX5_key_0.1
theorem dX5_key_1 : decode cX5_key 1 = .ok (.getfield 15, 3) := fx_ok0 eX5_key_0.2.1
theorem dX5_key_4 : decode cX5_key 4 = .ok (.ifCond .ne 7, 3) := fx_ok0 eX5_key_0.2.2.1
theorem dX5_key_7 : decode cX5_key 7 = .ok (.iload_n 1, 1) := fx_ok0 eX5_key_0.2.2.2.1
theorem dX5_key_8 : decode cX5_key 8 = .ok (.goto 30, 3) := fx_ok0 eX5_key_0.2.2.2.2.1
theorem dX5_key_11 : decode cX5_key 11 = .ok (.aload_n 0, 1) := fx_ok0 eX5_key_0.2.2.2.2.2.1
theorem dX5_key_12 : decode cX5_key 12 = .ok (.getfield 15, 3) := fx_ok0 eX5_key_0.2.2.2.2.2.2.1
theorem dX5_key_15 : decode cX5_key 15 = .ok (.iconst 1, 1) := fx_ok0 eX5_key_0.2.2.2.2.2.2.2.1
theorem dX5_key_16 : decode cX5_key 16 = .ok (.if_icmp .ne 10, 3) := fx_ok0 eX5_key_0.2.2.2.2.2.2.2.2.1
theorem dX5_key_19 : decode cX5_key 19 = .ok (.bipush 99, 2) := fx_ok0 eX5_key_0.2.2.2.2.2.2.2.2.2.1
theorem dX5_key_21 : decode cX5_key 21 = .ok (.iload_n 1, 1) := fx_ok0 eX5_key_0.2.2.2.2.2.2.2.2.2.2.1
theorem dX5_key_22 : decode cX5_key 22 = .ok (.isub, 1) := fx_ok0 eX5_key_0.2.2.2.2.2.2.2.2.2.2.2.1
theorem dX5_key_23 : decode cX5_key 23 = .ok (.goto 15, 3) := fx_ok0 eX5_key_0.2.2.2.2.2.2.2.2.2.2.2.2.1
theorem dX5_key_26 : decode cX5_key 26 = .ok (.iload_n 1, 1) := fx_ok0 eX5_key_0.2.2.2.2.2.2.2.2.2.2.2.2.2.1
theorem dX5_key_27 : decode cX5_key 27 = .ok (.bipush 10, 2) := fx_ok0 eX5_key_0.2.2.2.2.2.2.2.2.2.2.2.2.2.2.1
theorem dX5_key_29 : decode cX5_key 29 = .ok (.irem, 1) := fx_ok0 eX5_key_0.2.2.2.2.2.2.2.2.2.2.2.2.2.2.2
theorem eX5_key_30 : (fdecl cX5_key.data.toList 30 = some (.bipush 10, 2)) ∧ (fdecl cX5_key.data.toList 32 = some (.imul, 1)) ∧ (fdecl cX5_key.data.toList 33 = some (.iload_n 1, 1)) ∧ (fdecl cX5_key.data.toList 34 = some (.bipush 10, 2)) ∧ (fdecl cX5_key.data.toList 36 = some (.idiv, 1)) ∧ (fdecl cX5_key.data.toList 37 = some (.iadd, 1)) ∧ (fdecl cX5_key.data.toList 38 = some (.ireturn, 1)) := by decide +kernel
theorem dX5_key_30 : decode cX5_key 30 = .ok (.bipush 10, 2) := fx_ok0 eX5_key_30.1
theorem dX5_key_32 : decode cX5_key 32 = .ok (.imul, 1) := fx_ok0 eX5_key_30.2.1
theorem dX5_key_33 : decode cX5_key 33 = .ok (.iload_n 1, 1) := fx_ok0 eX5_key_30.2.2.1
theorem dX5_key_34 : decode cX5_key 34 = .ok (.bipush 10, 2) := fx_ok0 eX5_key_30.2.2.2.1
theorem dX5_key_36 : decode cX5_key 36 = .ok (.idiv, 1) := fx_ok0 eX5_key_30.2.2.2.2.1
theorem dX5_key_37 : decode cX5_key 37 = .ok (.iadd, 1) := fx_ok0 eX5_key_30.2.2.2.2.2.1
theorem dX5_key_38 : decode cX5_key 38 = .ok (.ireturn, 1) := fx_ok0 eX5_key_30.2.2.2.2.2.2
theorem eX5_has_0 : (fdecl cX5_has.data.toList 0 = some (.aload_n 0, 1)) ∧ (fdecl cX5_has.data.toList 1 = some (.getfield 9, 3)) ∧ (fdecl cX5_has.data.toList 4 = some (.iload_n 1, 1)) ∧ (fdecl cX5_has.data.toList 5 = some (.iaload, 1)) ∧ (fdecl cX5_has.data.toList 6 = some (.iconst (-1), 1)) ∧ (fdecl cX5_has.data.toList 7 = some (.if_icmp .eq 7, 3)) ∧ (fdecl cX5_has.data.toList 10 = some (.iconst 1, 1)) ∧ (fdecl cX5_has.data.toList 11 = some (.goto 4, 3)) ∧ (fdecl cX5_has.data.toList 14 = some (.iconst 0, 1)) ∧ (fdecl cX5_has.data.toList 15 = some (.ireturn, 1)) := by decide +kernel
theorem dX5_has_0 : decode cX5_has 0 = .ok (.aload_n 0, 1) := fx_ok0 eX5_has_0.1
theorem dX5_has_1 : decode cX5_has 1 = .ok (.getfield 9, 3) := fx_ok0 eX5_has_0.2.1
theorem dX5_has_4 : decode cX5_has 4 = .ok (.iload_n 1, 1) := fx_ok0 eX5_has_0.2.2.1
theorem dX5_has_5 : decode cX5_has 5 = .ok (.iaload, 1) := fx_ok0 eX5_has_0.2.2.2.1
theorem dX5_has_6 : decode cX5_has 6 = .ok (.iconst (-1), 1) := fx_ok0 eX5_has_0.2.2.2.2.1
theorem dX5_has_7 : decode cX5_has 7 = .ok (.if_icmp .eq 7, 3) := fx_ok0 eX5_has_0.2.2.2.2.2.1
theorem dX5_has_10 : decode cX5_has 10 = .ok (.iconst 1, 1) := fx_ok0 eX5_has_0.2.2.2.2.2.2.1
theorem dX5_has_11 : decode cX5_has 11 = .ok (.goto 4, 3) := fx_ok0 eX5_has_0.2.2.2.2.2.2.2.1
theorem dX5_has_14 : decode cX5_has 14 = .ok (.iconst 0, 1) := fx_ok0 eX5_has_0.2.2.2.2.2.2.2.2.1
theorem dX5_has_15 : decode cX5_has 15 = .ok (.ireturn, 1) := fx_ok0 eX5_has_0.2.2.2.2.2.2.2.2.2
theorem eX5_pair_0 : (fdecl cX5_pair.data.toList 0 = some (.iload_n 1, 1)) ∧ (fdecl cX5_pair.data.toList 1 = some (.bipush 100, 2)) ∧ (fdecl cX5_pair.data.toList 3 = some (.imul, 1)) ∧ (fdecl cX5_pair.data.toList 4 = some (.aload_n 0, 1)) ∧ (fdecl cX5_pair.data.toList 5 = some (.getfield 9, 3)) ∧ (fdecl cX5_pair.data.toList 8 = some (.iload_n 1, 1)) ∧ (fdecl cX5_pair.data.toList 9 = some (.iaload, 1)) ∧ (fdecl cX5_pair.data.toList 10 = some (.iadd, 1)) ∧ (fdecl cX5_pair.data.toList 11 = some (.ireturn, 1)) := by decide +kernel
theorem dX5_pair_0 : decode cX5_pair 0 = .ok (.iload_n 1, 1) := fx_ok0 eX5_pair_0.1
theorem dX5_pair_1 : decode cX5_pair 1 = .ok (.bipush 100, 2) := fx_ok0 eX5_pair_0.2.1
theorem dX5_pair_3 : decode cX5_pair 3 = .ok (.imul, 1) := fx_ok0 eX5_pair_0.2.2.1
theorem dX5_pair_4 : decode cX5_pair 4 = .ok (.aload_n 0, 1) := fx_ok0 eX5_pair_0.2.2.2.1
theorem dX5_pair_5 : decode cX5_pair 5 = .ok (.getfield 9, 3) := fx_ok0 eX5_pair_0.2.2.2.2.1
theorem dX5_pair_8 : decode cX5_pair 8 = .ok (.iload_n 1, 1) := fx_ok0 eX5_pair_0.2.2.2.2.2.1
theorem dX5_pair_9 : decode cX5_pair 9 = .ok (.iaload, 1) := fx_ok0 eX5_pair_0.2.2.2.2.2.2.1
theorem dX5_pair_10 : decode cX5_pair 10 = .ok (.iadd, 1) := fx_ok0 eX5_pair_0.2.2.2.2.2.2.2.1
theorem dX5_pair_11 : decode cX5_pair 11 = .ok (.ireturn, 1) := fx_ok0 eX5_pair_0.2.2.2.2.2.2.2.2
theorem eX5_many_0 : (fdecl cX5_many.data.toList 0 = some (.iconst 0, 1)) ∧ (fdecl cX5_many.data.toList 1 = some (.istore_n 3, 1)) ∧ (fdecl cX5_many.data.toList 2 = some (.iload_n 1, 1)) ∧ (fdecl cX5_many.data.toList 3 = some (.istore 4, 2)) ∧ (fdecl cX5_many.data.toList 5 = some (.iload 4, 2)) ∧ (fdecl cX5_many.data.toList 7 = some (.iload_n 2, 1)) ∧ (fdecl cX5_many.data.toList 8 = some (.if_icmp .gt 30, 3)) ∧ (fdecl cX5_many.data.toList 11 = some (.iload_n 3, 1)) ∧ (fdecl cX5_many.data.toList 12 = some (.aload_n 0, 1)) ∧ (fdecl cX5_many.data.toList 13 = some (.aload_n 0, 1)) ∧ (fdecl cX5_many.data.toList 14 = some (.iload 4, 2)) ∧ (fdecl cX5_many.data.toList 16 = some (.invokevirtual 19, 3)) ∧ (fdecl cX5_many.data.toList 19 = some (.invokevirtual 23, 3)) ∧ (fdecl cX5_many.data.toList 22 = some (.ifCond .eq 7, 3)) ∧ (fdecl cX5_many.data.toList 25 = some (.iconst 1, 1)) ∧ (fdecl cX5_many.data.toList 26 = some (.goto 4, 3)) := by decide +kernel
theorem dX5_many_0 : decode cX5_many 0 = .ok (.iconst 0, 1) := fx_ok0 eX5_many_0.1
theorem dX5_many_1 : decode cX5_many 1 = .ok (.istore_n 3, 1) := fx_ok0 eX5_many_0.2.1
theorem dX5_many_2 : decode cX5_many 2 = .ok (.iload_n 1, 1) := fx_ok0 eX5_many_0.2.2.1
theorem dX5_many_3 : decode cX5_many 3 = .ok (.istore 4, 2) := fx_ok0 eX5_many_0.2.2.2.1
theorem dX5_many_5 : decode cX5_many 5 = .ok (.iload 4, 2) := fx_ok0 eX5_many_0.2.2.2.2.1
theorem dX5_many_7 : decode cX5_many 7 = .ok (.iload_n 2, 1) := fx_ok0 eX5_many_0.2.2.2.2.2.1
theorem dX5_many_8 : decode cX5_many 8 = .ok (.if_icmp .gt 30, 3) := fx_ok0 eX5_many_0.2.2.2.2.2.2.1
theorem dX5_many_11 : decode cX5_many 11 = .ok (.iload_n 3, 1) := fx_ok0 eX5_many_0.2.2.2.2.2.2.2.1
theorem dX5_many_12 : decode cX5_many 12 = .ok (.aload_n 0, 1) := fx_ok0 eX5_many_0.2.2.2.2.2.2.2.2.1
theorem dX5_many_13 : decode cX5_many 13 = .ok (.aload_n 0, 1) := fx_ok0 eX5_many_0.2.2.2.2.2.2.2.2.2.1
theorem dX5_many_14 : decode cX5_many 14 = .ok (.iload 4, 2) := fx_ok0 eX5_many_0.2.2.2.2.2.2.2.2.2.2.1
theorem dX5_many_16 : decode cX5_many 16 = .ok (.invokevirtual 19, 3) := fx_ok0 eX5_many_0.2.2.2.2.2.2.2.2.2.2.2.1
theorem dX5_many_19 : decode cX5_many 19 = .ok (.invokevirtual 23, 3) := fx_ok0 eX5_many_0.2.2.2.2.2.2.2.2.2.2.2.2.1
theorem dX5_many_22 : decode cX5_many 22 = .ok (.ifCond .eq 7, 3) := fx_ok0 eX5_many_0.2.2.2.2.2.2.2.2.2.2.2.2.2.1
theorem dX5_many_25 : decode cX5_many 25 = .ok (.iconst 1, 1) := fx_ok0 eX5_many_0.2.2.2.2.2.2.2.2.2.2.2.2.2.2.1
theorem dX5_many_26 : decode cX5_many 26 = .ok (.goto 4, 3) := fx_ok0 eX5_many_0.2.2.2.2.2.2.2.2.2.2.2.2.2.2.2
theorem eX5_many_29 : (fdecl cX5_many.data.toList 29 = some (.iconst 0, 1)) ∧ (fdecl cX5_many.data.toList 30 = some (.iadd, 1)) ∧ (fdecl cX5_many.data.toList 31 = some (.istore_n 3, 1)) ∧ (fdecl cX5_many.data.toList 35 = some (.goto (-30), 3)) ∧ (fdecl cX5_many.data.toList 38 = some (.iload_n 3, 1)) ∧ (fdecl cX5_many.data.toList 39 = some (.ireturn, 1)) := by decide +kernel
theorem dX5_many_29 : decode cX5_many 29 = .ok (.iconst 0, 1) := fx_ok0 eX5_many_29.1
theorem dX5_many_30 : decode cX5_many 30 = .ok (.iadd, 1) := fx_ok0 eX5_many_29.2.1
theorem dX5_many_31 : decode cX5_many 31 = .ok (.istore_n 3, 1) := fx_ok0 eX5_many_29.2.2.1
theorem dX5_many_35 : decode cX5_many 35 = .ok (.goto (-30), 3) := fx_ok0 eX5_many_29.2.2.2.1
theorem dX5_many_38 : decode cX5_many 38 = .ok (.iload_n 3, 1) := fx_ok0 eX5_many_29.2.2.2.2.1
theorem dX5_many_39 : decode cX5_many 39 = .ok (.ireturn, 1) := fx_ok0 eX5_many_29.2.2.2.2.2
theorem dX5_many_32 : decode cX5_many 32 = .ok (.iinc 4 1, 3) := by decide +kernel
theorem eX5_first_0 : (fdecl cX5_first.data.toList 0 = some (.iload_n 1, 1)) ∧ (fdecl cX5_first.data.toList 1 = some (.istore_n 3, 1)) ∧ (fdecl cX5_first.data.toList 2 = some (.iload_n 3, 1)) ∧ (fdecl cX5_first.data.toList 3 = some (.iload_n 2, 1)) ∧ (fdecl cX5_first.data.toList 4 = some (.if_icmp .gt 27, 3)) ∧ (fdecl cX5_first.data.toList 7 = some (.aload_n 0, 1)) ∧ (fdecl cX5_first.data.toList 8 = some (.aload_n 0, 1)) ∧ (fdecl cX5_first.data.toList 9 = some (.iload_n 3, 1)) ∧ (fdecl cX5_first.data.toList 10 = some (.invokevirtual 19, 3)) ∧ (fdecl cX5_first.data.toList 13 = some (.invokevirtual 23, 3)) ∧ (fdecl cX5_first.data.toList 16 = some (.ifCond .eq 9, 3)) ∧ (fdecl cX5_first.data.toList 19 = some (.aload_n 0, 1)) ∧ (fdecl cX5_first.data.toList 20 = some (.iload_n 3, 1)) ∧ (fdecl cX5_first.data.toList 21 = some (.invokevirtual 19, 3)) ∧ (fdecl cX5_first.data.toList 24 = some (.ireturn, 1)) ∧ (fdecl cX5_first.data.toList 28 = some (.goto (-26), 3)) := by decide +kernel
theorem dX5_first_0 : decode cX5_first 0 = .ok (.iload_n 1, 1) := fx_ok0 eX5_first_0.1
theorem dX5_first_1 : decode cX5_first 1 = .ok (.istore_n 3, 1) := fx_ok0 eX5_first_0.2.1
theorem dX5_first_2 : decode cX5_first 2 = .ok (.iload_n 3, 1) := fx_ok0 eX5_first_0.2.2.1
theorem dX5_first_3 : decode cX5_first 3 = .ok (.iload_n 2, 1) := fx_ok0 eX5_first_0.2.2.2.1
theorem dX5_first_4 : decode cX5_first 4 = .ok (.if_icmp .gt 27, 3) := fx_ok0 eX5_first_0.2.2.2.2.1
theorem dX5_first_7 : decode cX5_first 7 = .ok (.aload_n 0, 1) := fx_ok0 eX5_first_0.2.2.2.2.2.1
theorem dX5_first_8 : decode cX5_first 8 = .ok (.aload_n 0, 1) := fx_ok0 eX5_first_0.2.2.2.2.2.2.1
theorem dX5_first_9 : decode cX5_first 9 = .ok (.iload_n 3, 1) := fx_ok0 eX5_first_0.2.2.2.2.2.2.2.1
theorem dX5_first_10 : decode cX5_first 10 = .ok (.invokevirtual 19, 3) := fx_ok0 eX5_first_0.2.2.2.2.2.2.2.2.1
theorem dX5_first_13 : decode cX5_first 13 = .ok (.invokevirtual 23, 3) := fx_ok0 eX5_first_0.2.2.2.2.2.2.2.2.2.1
theorem dX5_first_16 : decode cX5_first 16 = .ok (.ifCond .eq 9, 3) := fx_ok0 eX5_first_0.2.2.2.2.2.2.2.2.2.2.1
theorem dX5_first_19 : decode cX5_first 19 = .ok (.aload_n 0, 1) := fx_ok0 eX5_first_0.2.2.2.2.2.2.2.2.2.2.2.1
theorem dX5_first_20 : decode cX5_first 20 = .ok (.iload_n 3, 1) := fx_ok0 eX5_first_0.2.2.2.2.2.2.2.2.2.2.2.2.1
theorem dX5_first_21 : decode cX5_first 21 = .ok (.invokevirtual 19, 3) := fx_ok0 eX5_first_0.2.2.2.2.2.2.2.2.2.2.2.2.2.1
theorem dX5_first_24 : decode cX5_first 24 = .ok (.ireturn, 1) := fx_ok0 eX5_first_0.2.2.2.2.2.2.2.2.2.2.2.2.2.2.1
theorem dX5_first_28 : decode cX5_first 28 = .ok (.goto (-26), 3) := fx_ok0 eX5_first_0.2.2.2.2.2.2.2.2.2.2.2.2.2.2.2
theorem eX5_first_31 : (fdecl cX5_first.data.toList 31 = some (.iconst (-1), 1)) ∧ (fdecl cX5_first.data.toList 32 = some (.ireturn, 1)) := by decide +kernel
theorem dX5_first_31 : decode cX5_first 31 = .ok (.iconst (-1), 1) := fx_ok0 eX5_first_31.1
theorem dX5_first_32 : decode cX5_first 32 = .ok (.ireturn, 1) := fx_ok0 eX5_first_31.2
theorem dX5_first_25 : decode cX5_first 25 = .ok (.iinc 3 1, 3) := by decide +kernel
theorem eX5_last_0 : (fdecl cX5_last.data.toList 0 = some (.iload_n 2, 1)) ∧ (fdecl cX5_last.data.toList 1 = some (.istore_n 3, 1)) ∧ (fdecl cX5_last.data.toList 2 = some (.iload_n 3, 1)) ∧ (fdecl cX5_last.data.toList 3 = some (.iload_n 1, 1)) ∧ (fdecl cX5_last.data.toList 4 = some (.if_icmp .lt 27, 3)) ∧ (fdecl cX5_last.data.toList 7 = some (.aload_n 0, 1)) ∧ (fdecl cX5_last.data.toList 8 = some (.aload_n 0, 1)) ∧ (fdecl cX5_last.data.toList 9 = some (.iload_n 3, 1)) ∧ (fdecl cX5_last.data.toList 10 = some (.invokevirtual 19, 3)) ∧ (fdecl cX5_last.data.toList 13 = some (.invokevirtual 23, 3)) ∧ (fdecl cX5_last.data.toList 16 = some (.ifCond .eq 9, 3)) ∧ (fdecl cX5_last.data.toList 19 = some (.aload_n 0, 1)) ∧ (fdecl cX5_last.data.toList 20 = some (.iload_n 3, 1)) ∧ (fdecl cX5_last.data.toList 21 = some (.invokevirtual 19, 3)) ∧ (fdecl cX5_last.data.toList 24 = some (.ireturn, 1)) ∧ (fdecl cX5_last.data.toList 28 = some (.goto (-26), 3)) := by decide +kernel
theorem dX5_last_0 : decode cX5_last 0 = .ok (.iload_n 2, 1) := fx_ok0 eX5_last_0.1
theorem dX5_last_1 : decode cX5_last 1 = .ok (.istore_n 3, 1) := fx_ok0 eX5_last_0.2.1
theorem dX5_last_2 : decode cX5_last 2 = .ok (.iload_n 3, 1) := fx_ok0 eX5_last_0.2.2.1
theorem dX5_last_3 : decode cX5_last 3 = .ok (.iload_n 1, 1) := fx_ok0 eX5_last_0.2.2.2.1
theorem dX5_last_4 : decode cX5_last 4 = .ok (.if_icmp .lt 27, 3) := fx_ok0 eX5_last_0.2.2.2.2.1
theorem dX5_last_7 : decode cX5_last 7 = .ok (.aload_n 0, 1) := fx_ok0 eX5_last_0.2.2.2.2.2.1
theorem dX5_last_8 : decode cX5_last 8 = .ok (.aload_n 0, 1) := fx_ok0 eX5_last_0.2.2.2.2.2.2.1
theorem dX5_last_9 : decode cX5_last 9 = .ok (.iload_n 3, 1) := fx_ok0 eX5_last_0.2.2.2.2.2.2.2.1
theorem dX5_last_10 : decode cX5_last 10 = .ok (.invokevirtual 19, 3) := fx_ok0 eX5_last_0.2.2.2.2.2.2.2.2.1
theorem dX5_last_13 : decode cX5_last 13 = .ok (.invokevirtual 23, 3) := fx_ok0 eX5_last_0.2.2.2.2.2.2.2.2.2.1
theorem dX5_last_16 : decode cX5_last 16 = .ok (.ifCond .eq 9, 3) := fx_ok0 eX5_last_0.2.2.2.2.2.2.2.2.2.2.1
theorem dX5_last_19 : decode cX5_last 19 = .ok (.aload_n 0, 1) := fx_ok0 eX5_last_0.2.2.2.2.2.2.2.2.2.2.2.1
theorem dX5_last_20 : decode cX5_last 20 = .ok (.iload_n 3, 1) := fx_ok0 eX5_last_0.2.2.2.2.2.2.2.2.2.2.2.2.1
theorem dX5_last_21 : decode cX5_last 21 = .ok (.invokevirtual 19, 3) := fx_ok0 eX5_last_0.2.2.2.2.2.2.2.2.2.2.2.2.2.1
theorem dX5_last_24 : decode cX5_last 24 = .ok (.ireturn, 1) := fx_ok0 eX5_last_0.2.2.2.2.2.2.2.2.2.2.2.2.2.2.1
theorem dX5_last_28 : decode cX5_last 28 = .ok (.goto (-26), 3) := fx_ok0 eX5_last_0.2.2.2.2.2.2.2.2.2.2.2.2.2.2.2
theorem eX5_last_31 : (fdecl cX5_last.data.toList 31 = some (.iconst (-1), 1)) ∧ (fdecl cX5_last.data.toList 32 = some (.ireturn, 1)) := by decide +kernel
theorem dX5_last_31 : decode cX5_last 31 = .ok (.iconst (-1), 1) := fx_ok0 eX5_last_31.1
theorem dX5_last_32 : decode cX5_last 32 = .ok (.ireturn, 1) := fx_ok0 eX5_last_31.2
theorem dX5_last_25 : decode cX5_last 25 = .ok (.iinc 3 (-1), 3) := by decide +kernel
def fAX5_near_0 : List UInt8 := [42, 27, 182, 0, 27, 54, 5, 28, 170, 0, 0, 0, 0, 0, 0, 88, 0, 0, 0, 0, 0, 0, 0, 3, 0, 0, 0, 32, 0, 0, 0, 45, 0, 0, 0, 58, 0, 0, 0, 73, 42, 29, 21, 4, 21, 5, 184, 0, 30, 182, 0, 36, 172, 42, 29, 21, 5, 184, 0, 39, 21, 4, 182, 0]
def fAX5_near_1 : List UInt8 := [42, 172, 42, 29, 21, 4, 21, 5, 4, 100, 184, 0, 30, 182, 0, 36, 172, 42, 29, 21, 5, 4, 96, 184, 0, 39, 21, 4, 182, 0, 42, 172, 21, 5, 29, 161, 0, 22, 21, 5, 21, 4, 163, 0, 15, 42, 27, 182, 0, 23, 153, 0, 7, 27, 167, 0, 4, 2, 172]
def fTX5_near_1 : List UInt8 := fAX5_near_1
def fTX5_near_0 : List UInt8 := fAX5_near_0 ++ fTX5_near_1
theorem fDX5_near_0 : cX5_near.data.toList.drop 0 = fTX5_near_0 := eq_of_beq (by decide +kernel)
theorem fDX5_near_1 : cX5_near.data.toList.drop 64 = fTX5_near_1 := fx_nx (d := 0) (n := 64) (a := fAX5_near_0) fDX5_near_0 rfl
theorem eX5_near_0 : (fdecl fTX5_near_0 0 = some (.aload_n 0, 1)) ∧ (fdecl fTX5_near_0 1 = some (.iload_n 1, 1)) ∧ (fdecl fTX5_near_0 2 = some (.invokevirtual 27, 3)) ∧ (fdecl fTX5_near_0 5 = some (.istore 5, 2)) ∧ (fdecl fTX5_near_0 7 = some (.iload_n 2, 1)) ∧ (fdecl fTX5_near_0 40 = some (.aload_n 0, 1)) ∧ (fdecl fTX5_near_0 41 = some (.iload_n 3, 1)) ∧ (fdecl fTX5_near_0 42 = some (.iload 4, 2)) ∧ (fdecl fTX5_near_0 44 = some (.iload 5, 2)) ∧ (fdecl fTX5_near_0 46 = some (.invokestatic 30, 3)) ∧ (fdecl fTX5_near_0 49 = some (.invokevirtual 36, 3)) ∧ (fdecl fTX5_near_0 52 = some (.ireturn, 1)) ∧ (fdecl fTX5_near_0 53 = some (.aload_n 0, 1)) ∧ (fdecl fTX5_near_0 54 = some (.iload_n 3, 1)) ∧ (fdecl fTX5_near_0 55 = some (.iload 5, 2)) ∧ (fdecl fTX5_near_0 57 = some (.invokestatic 39, 3)) := by decide +kernel
theorem dX5_near_0 : decode cX5_near 0 = .ok (.aload_n 0, 1) := fx_ok (d := 0) (i := 0) fDX5_near_0 eX5_near_0.1
theorem dX5_near_1 : decode cX5_near 1 = .ok (.iload_n 1, 1) := fx_ok (d := 0) (i := 1) fDX5_near_0 eX5_near_0.2.1
theorem dX5_near_2 : decode cX5_near 2 = .ok (.invokevirtual 27, 3) := fx_ok (d := 0) (i := 2) fDX5_near_0 eX5_near_0.2.2.1
theorem dX5_near_5 : decode cX5_near 5 = .ok (.istore 5, 2) := fx_ok (d := 0) (i := 5) fDX5_near_0 eX5_near_0.2.2.2.1
theorem dX5_near_7 : decode cX5_near 7 = .ok (.iload_n 2, 1) := fx_ok (d := 0) (i := 7) fDX5_near_0 eX5_near_0.2.2.2.2.1
theorem dX5_near_40 : decode cX5_near 40 = .ok (.aload_n 0, 1) := fx_ok (d := 0) (i := 40) fDX5_near_0 eX5_near_0.2.2.2.2.2.1
theorem dX5_near_41 : decode cX5_near 41 = .ok (.iload_n 3, 1) := fx_ok (d := 0) (i := 41) fDX5_near_0 eX5_near_0.2.2.2.2.2.2.1
theorem dX5_near_42 : decode cX5_near 42 = .ok (.iload 4, 2) := fx_ok (d := 0) (i := 42) fDX5_near_0 eX5_near_0.2.2.2.2.2.2.2.1
theorem dX5_near_44 : decode cX5_near 44 = .ok (.iload 5, 2) := fx_ok (d := 0) (i := 44) fDX5_near_0 eX5_near_0.2.2.2.2.2.2.2.2.1
theorem dX5_near_46 : decode cX5_near 46 = .ok (.invokestatic 30, 3) := fx_ok (d := 0) (i := 46) fDX5_near_0 eX5_near_0.2.2.2.2.2.2.2.2.2.1
theorem dX5_near_49 : decode cX5_near 49 = .ok (.invokevirtual 36, 3) := fx_ok (d := 0) (i := 49) fDX5_near_0 eX5_near_0.2.2.2.2.2.2.2.2.2.2.1
theorem dX5_near_52 : decode cX5_near 52 = .ok (.ireturn, 1) := fx_ok (d := 0) (i := 52) fDX5_near_0 eX5_near_0.2.2.2.2.2.2.2.2.2.2.2.1
theorem dX5_near_53 : decode cX5_near 53 = .ok (.aload_n 0, 1) := fx_ok (d := 0) (i := 53) fDX5_near_0 eX5_near_0.2.2.2.2.2.2.2.2.2.2.2.2.1
theorem dX5_near_54 : decode cX5_near 54 = .ok (.iload_n 3, 1) := fx_ok (d := 0) (i := 54) fDX5_near_0 eX5_near_0.2.2.2.2.2.2.2.2.2.2.2.2.2.1
theorem dX5_near_55 : decode cX5_near 55 = .ok (.iload 5, 2) := fx_ok (d := 0) (i := 55) fDX5_near_0 eX5_near_0.2.2.2.2.2.2.2.2.2.2.2.2.2.2.1
theorem dX5_near_57 : decode cX5_near 57 = .ok (.invokestatic 39, 3) := fx_ok (d := 0) (i := 57) fDX5_near_0 eX5_near_0.2.2.2.2.2.2.2.2.2.2.2.2.2.2.2
theorem eX5_near_60 : (fdecl fTX5_near_0 60 = some (.iload 4, 2)) ∧ (fdecl fTX5_near_0 62 = some (.invokevirtual 42, 3)) ∧ (fdecl fTX5_near_1 1 = some (.ireturn, 1)) ∧ (fdecl fTX5_near_1 2 = some (.aload_n 0, 1)) ∧ (fdecl fTX5_near_1 3 = some (.iload_n 3, 1)) ∧ (fdecl fTX5_near_1 4 = some (.iload 4, 2)) ∧ (fdecl fTX5_near_1 6 = some (.iload 5, 2)) ∧ (fdecl fTX5_near_1 8 = some (.iconst 1, 1)) ∧ (fdecl fTX5_near_1 9 = some (.isub, 1)) ∧ (fdecl fTX5_near_1 10 = some (.invokestatic 30, 3)) ∧ (fdecl fTX5_near_1 13 = some (.invokevirtual 36, 3)) ∧ (fdecl fTX5_near_1 16 = some (.ireturn, 1)) ∧ (fdecl fTX5_near_1 17 = some (.aload_n 0, 1)) ∧ (fdecl fTX5_near_1 18 = some (.iload_n 3, 1)) ∧ (fdecl fTX5_near_1 19 = some (.iload 5, 2)) ∧ (fdecl fTX5_near_1 21 = some (.iconst 1, 1)) := by decide +kernel
theorem dX5_near_60 : decode cX5_near 60 = .ok (.iload 4, 2) := fx_ok (d := 0) (i := 60) fDX5_near_0 eX5_near_60.1
theorem dX5_near_62 : decode cX5_near 62 = .ok (.invokevirtual 42, 3) := fx_ok (d := 0) (i := 62) fDX5_near_0 eX5_near_60.2.1
theorem dX5_near_65 : decode cX5_near 65 = .ok (.ireturn, 1) := fx_ok (d := 64) (i := 1) fDX5_near_1 eX5_near_60.2.2.1
theorem dX5_near_66 : decode cX5_near 66 = .ok (.aload_n 0, 1) := fx_ok (d := 64) (i := 2) fDX5_near_1 eX5_near_60.2.2.2.1
theorem dX5_near_67 : decode cX5_near 67 = .ok (.iload_n 3, 1) := fx_ok (d := 64) (i := 3) fDX5_near_1 eX5_near_60.2.2.2.2.1
theorem dX5_near_68 : decode cX5_near 68 = .ok (.iload 4, 2) := fx_ok (d := 64) (i := 4) fDX5_near_1 eX5_near_60.2.2.2.2.2.1
theorem dX5_near_70 : decode cX5_near 70 = .ok (.iload 5, 2) := fx_ok (d := 64) (i := 6) fDX5_near_1 eX5_near_60.2.2.2.2.2.2.1
theorem dX5_near_72 : decode cX5_near 72 = .ok (.iconst 1, 1) := fx_ok (d := 64) (i := 8) fDX5_near_1 eX5_near_60.2.2.2.2.2.2.2.1
theorem dX5_near_73 : decode cX5_near 73 = .ok (.isub, 1) := fx_ok (d := 64) (i := 9) fDX5_near_1 eX5_near_60.2.2.2.2.2.2.2.2.1
theorem dX5_near_74 : decode cX5_near 74 = .ok (.invokestatic 30, 3) := fx_ok (d := 64) (i := 10) fDX5_near_1 eX5_near_60.2.2.2.2.2.2.2.2.2.1
theorem dX5_near_77 : decode cX5_near 77 = .ok (.invokevirtual 36, 3) := fx_ok (d := 64) (i := 13) fDX5_near_1 eX5_near_60.2.2.2.2.2.2.2.2.2.2.1
theorem dX5_near_80 : decode cX5_near 80 = .ok (.ireturn, 1) := fx_ok (d := 64) (i := 16) fDX5_near_1 eX5_near_60.2.2.2.2.2.2.2.2.2.2.2.1
theorem dX5_near_81 : decode cX5_near 81 = .ok (.aload_n 0, 1) := fx_ok (d := 64) (i := 17) fDX5_near_1 eX5_near_60.2.2.2.2.2.2.2.2.2.2.2.2.1
theorem dX5_near_82 : decode cX5_near 82 = .ok (.iload_n 3, 1) := fx_ok (d := 64) (i := 18) fDX5_near_1 eX5_near_60.2.2.2.2.2.2.2.2.2.2.2.2.2.1
theorem dX5_near_83 : decode cX5_near 83 = .ok (.iload 5, 2) := fx_ok (d := 64) (i := 19) fDX5_near_1 eX5_near_60.2.2.2.2.2.2.2.2.2.2.2.2.2.2.1
theorem dX5_near_85 : decode cX5_near 85 = .ok (.iconst 1, 1) := fx_ok (d := 64) (i := 21) fDX5_near_1 eX5_near_60.2.2.2.2.2.2.2.2.2.2.2.2.2.2.2
theorem eX5_near_86 : (fdecl fTX5_near_1 22 = some (.iadd, 1)) ∧ (fdecl fTX5_near_1 23 = some (.invokestatic 39, 3)) ∧ (fdecl fTX5_near_1 26 = some (.iload 4, 2)) ∧ (fdecl fTX5_near_1 28 = some (.invokevirtual 42, 3)) ∧ (fdecl fTX5_near_1 31 = some (.ireturn, 1)) ∧ (fdecl fTX5_near_1 32 = some (.iload 5, 2)) ∧ (fdecl fTX5_near_1 34 = some (.iload_n 3, 1)) ∧ (fdecl fTX5_near_1 35 = some (.if_icmp .lt 22, 3)) ∧ (fdecl fTX5_near_1 38 = some (.iload 5, 2)) ∧ (fdecl fTX5_near_1 40 = some (.iload 4, 2)) ∧ (fdecl fTX5_near_1 42 = some (.if_icmp .gt 15, 3)) ∧ (fdecl fTX5_near_1 45 = some (.aload_n 0, 1)) ∧ (fdecl fTX5_near_1 46 = some (.iload_n 1, 1)) ∧ (fdecl fTX5_near_1 47 = some (.invokevirtual 23, 3)) ∧ (fdecl fTX5_near_1 50 = some (.ifCond .eq 7, 3)) ∧ (fdecl fTX5_near_1 53 = some (.iload_n 1, 1)) := by decide +kernel
theorem dX5_near_86 : decode cX5_near 86 = .ok (.iadd, 1) := fx_ok (d := 64) (i := 22) fDX5_near_1 eX5_near_86.1
theorem dX5_near_87 : decode cX5_near 87 = .ok (.invokestatic 39, 3) := fx_ok (d := 64) (i := 23) fDX5_near_1 eX5_near_86.2.1
theorem dX5_near_90 : decode cX5_near 90 = .ok (.iload 4, 2) := fx_ok (d := 64) (i := 26) fDX5_near_1 eX5_near_86.2.2.1
theorem dX5_near_92 : decode cX5_near 92 = .ok (.invokevirtual 42, 3) := fx_ok (d := 64) (i := 28) fDX5_near_1 eX5_near_86.2.2.2.1
theorem dX5_near_95 : decode cX5_near 95 = .ok (.ireturn, 1) := fx_ok (d := 64) (i := 31) fDX5_near_1 eX5_near_86.2.2.2.2.1
theorem dX5_near_96 : decode cX5_near 96 = .ok (.iload 5, 2) := fx_ok (d := 64) (i := 32) fDX5_near_1 eX5_near_86.2.2.2.2.2.1
theorem dX5_near_98 : decode cX5_near 98 = .ok (.iload_n 3, 1) := fx_ok (d := 64) (i := 34) fDX5_near_1 eX5_near_86.2.2.2.2.2.2.1
theorem dX5_near_99 : decode cX5_near 99 = .ok (.if_icmp .lt 22, 3) := fx_ok (d := 64) (i := 35) fDX5_near_1 eX5_near_86.2.2.2.2.2.2.2.1
theorem dX5_near_102 : decode cX5_near 102 = .ok (.iload 5, 2) := fx_ok (d := 64) (i := 38) fDX5_near_1 eX5_near_86.2.2.2.2.2.2.2.2.1
theorem dX5_near_104 : decode cX5_near 104 = .ok (.iload 4, 2) := fx_ok (d := 64) (i := 40) fDX5_near_1 eX5_near_86.2.2.2.2.2.2.2.2.2.1
theorem dX5_near_106 : decode cX5_near 106 = .ok (.if_icmp .gt 15, 3) := fx_ok (d := 64) (i := 42) fDX5_near_1 eX5_near_86.2.2.2.2.2.2.2.2.2.2.1
theorem dX5_near_109 : decode cX5_near 109 = .ok (.aload_n 0, 1) := fx_ok (d := 64) (i := 45) fDX5_near_1 eX5_near_86.2.2.2.2.2.2.2.2.2.2.2.1
theorem dX5_near_110 : decode cX5_near 110 = .ok (.iload_n 1, 1) := fx_ok (d := 64) (i := 46) fDX5_near_1 eX5_near_86.2.2.2.2.2.2.2.2.2.2.2.2.1
theorem dX5_near_111 : decode cX5_near 111 = .ok (.invokevirtual 23, 3) := fx_ok (d := 64) (i := 47) fDX5_near_1 eX5_near_86.2.2.2.2.2.2.2.2.2.2.2.2.2.1
theorem dX5_near_114 : decode cX5_near 114 = .ok (.ifCond .eq 7, 3) := fx_ok (d := 64) (i := 50) fDX5_near_1 eX5_near_86.2.2.2.2.2.2.2.2.2.2.2.2.2.2.1
theorem dX5_near_117 : decode cX5_near 117 = .ok (.iload_n 1, 1) := fx_ok (d := 64) (i := 53) fDX5_near_1 eX5_near_86.2.2.2.2.2.2.2.2.2.2.2.2.2.2.2
theorem eX5_near_118 : (fdecl fTX5_near_1 54 = some (.goto 4, 3)) ∧ (fdecl fTX5_near_1 57 = some (.iconst (-1), 1)) ∧ (fdecl fTX5_near_1 58 = some (.ireturn, 1)) := by decide +kernel
theorem dX5_near_118 : decode cX5_near 118 = .ok (.goto 4, 3) := fx_ok (d := 64) (i := 54) fDX5_near_1 eX5_near_118.1
theorem dX5_near_121 : decode cX5_near 121 = .ok (.iconst (-1), 1) := fx_ok (d := 64) (i := 57) fDX5_near_1 eX5_near_118.2.1
theorem dX5_near_122 : decode cX5_near 122 = .ok (.ireturn, 1) := fx_ok (d := 64) (i := 58) fDX5_near_1 eX5_near_118.2.2
theorem dX5_near_8 : decode cX5_near 8 = .ok (.tableswitch 88 0 3 #[32, 45, 58, 73], 32) := by decide +kernel
theorem eX5_like_0 : (fdecl cX5_like.data.toList 0 = some (.new 10, 3)) ∧ (fdecl cX5_like.data.toList 3 = some (.dup, 1)) ∧ (fdecl cX5_like.data.toList 4 = some (.iload_n 1, 1)) ∧ (fdecl cX5_like.data.toList 5 = some (.invokespecial 45, 3)) ∧ (fdecl cX5_like.data.toList 8 = some (.astore 4, 2)) ∧ (fdecl cX5_like.data.toList 10 = some (.iload_n 2, 1)) ∧ (fdecl cX5_like.data.toList 11 = some (.istore 5, 2)) ∧ (fdecl cX5_like.data.toList 13 = some (.iload 5, 2)) ∧ (fdecl cX5_like.data.toList 15 = some (.iload_n 3, 1)) ∧ (fdecl cX5_like.data.toList 16 = some (.if_icmp .gt 32, 3)) ∧ (fdecl cX5_like.data.toList 19 = some (.aload 4, 2)) ∧ (fdecl cX5_like.data.toList 21 = some (.getfield 9, 3)) ∧ (fdecl cX5_like.data.toList 24 = some (.aload_n 0, 1)) ∧ (fdecl cX5_like.data.toList 25 = some (.iload 5, 2)) ∧ (fdecl cX5_like.data.toList 27 = some (.invokevirtual 19, 3)) ∧ (fdecl cX5_like.data.toList 30 = some (.aload_n 0, 1)) := by decide +kernel
theorem dX5_like_0 : decode cX5_like 0 = .ok (.new 10, 3) := fx_ok0 eX5_like_0.1
theorem dX5_like_3 : decode cX5_like 3 = .ok (.dup, 1) := fx_ok0 eX5_like_0.2.1
theorem dX5_like_4 : decode cX5_like 4 = .ok (.iload_n 1, 1) := fx_ok0 eX5_like_0.2.2.1
theorem dX5_like_5 : decode cX5_like 5 = .ok (.invokespecial 45, 3) := fx_ok0 eX5_like_0.2.2.2.1
theorem dX5_like_8 : decode cX5_like 8 = .ok (.astore 4, 2) := fx_ok0 eX5_like_0.2.2.2.2.1
theorem dX5_like_10 : decode cX5_like 10 = .ok (.iload_n 2, 1) := fx_ok0 eX5_like_0.2.2.2.2.2.1
theorem dX5_like_11 : decode cX5_like 11 = .ok (.istore 5, 2) := fx_ok0 eX5_like_0.2.2.2.2.2.2.1
theorem dX5_like_13 : decode cX5_like 13 = .ok (.iload 5, 2) := fx_ok0 eX5_like_0.2.2.2.2.2.2.2.1
theorem dX5_like_15 : decode cX5_like 15 = .ok (.iload_n 3, 1) := fx_ok0 eX5_like_0.2.2.2.2.2.2.2.2.1
theorem dX5_like_16 : decode cX5_like 16 = .ok (.if_icmp .gt 32, 3) := fx_ok0 eX5_like_0.2.2.2.2.2.2.2.2.2.1
theorem dX5_like_19 : decode cX5_like 19 = .ok (.aload 4, 2) := fx_ok0 eX5_like_0.2.2.2.2.2.2.2.2.2.2.1
theorem dX5_like_21 : decode cX5_like 21 = .ok (.getfield 9, 3) := fx_ok0 eX5_like_0.2.2.2.2.2.2.2.2.2.2.2.1
theorem dX5_like_24 : decode cX5_like 24 = .ok (.aload_n 0, 1) := fx_ok0 eX5_like_0.2.2.2.2.2.2.2.2.2.2.2.2.1
theorem dX5_like_25 : decode cX5_like 25 = .ok (.iload 5, 2) := fx_ok0 eX5_like_0.2.2.2.2.2.2.2.2.2.2.2.2.2.1
theorem dX5_like_27 : decode cX5_like 27 = .ok (.invokevirtual 19, 3) := fx_ok0 eX5_like_0.2.2.2.2.2.2.2.2.2.2.2.2.2.2.1
theorem dX5_like_30 : decode cX5_like 30 = .ok (.aload_n 0, 1) := fx_ok0 eX5_like_0.2.2.2.2.2.2.2.2.2.2.2.2.2.2.2
theorem eX5_like_31 : (fdecl cX5_like.data.toList 31 = some (.getfield 9, 3)) ∧ (fdecl cX5_like.data.toList 34 = some (.aload_n 0, 1)) ∧ (fdecl cX5_like.data.toList 35 = some (.iload 5, 2)) ∧ (fdecl cX5_like.data.toList 37 = some (.invokevirtual 19, 3)) ∧ (fdecl cX5_like.data.toList 40 = some (.iaload, 1)) ∧ (fdecl cX5_like.data.toList 41 = some (.iastore, 1)) ∧ (fdecl cX5_like.data.toList 45 = some (.goto (-32), 3)) ∧ (fdecl cX5_like.data.toList 48 = some (.aload 4, 2)) ∧ (fdecl cX5_like.data.toList 50 = some (.areturn, 1)) := by decide +kernel
theorem dX5_like_31 : decode cX5_like 31 = .ok (.getfield 9, 3) := fx_ok0 eX5_like_31.1
theorem dX5_like_34 : decode cX5_like 34 = .ok (.aload_n 0, 1) := fx_ok0 eX5_like_31.2.1
theorem dX5_like_35 : decode cX5_like 35 = .ok (.iload 5, 2) := fx_ok0 eX5_like_31.2.2.1
theorem dX5_like_37 : decode cX5_like 37 = .ok (.invokevirtual 19, 3) := fx_ok0 eX5_like_31.2.2.2.1
theorem dX5_like_40 : decode cX5_like 40 = .ok (.iaload, 1) := fx_ok0 eX5_like_31.2.2.2.2.1
theorem dX5_like_41 : decode cX5_like 41 = .ok (.iastore, 1) := fx_ok0 eX5_like_31.2.2.2.2.2.1
theorem dX5_like_45 : decode cX5_like 45 = .ok (.goto (-32), 3) := fx_ok0 eX5_like_31.2.2.2.2.2.2.1
theorem dX5_like_48 : decode cX5_like 48 = .ok (.aload 4, 2) := fx_ok0 eX5_like_31.2.2.2.2.2.2.2.1
theorem dX5_like_50 : decode cX5_like 50 = .ok (.areturn, 1) := fx_ok0 eX5_like_31.2.2.2.2.2.2.2.2
theorem dX5_like_42 : decode cX5_like 42 = .ok (.iinc 5 1, 3) := by decide +kernel
def fAX6_init_0 : List UInt8 := [42, 183, 0, 3, 42, 7, 189, 0, 9, 181, 0, 11, 42, 6, 189, 0, 9, 181, 0, 15, 42, 5, 189, 0, 9, 181, 0, 18, 42, 5, 188, 10, 181, 0, 21, 42, 5, 188, 10, 89, 3, 16, 99, 79, 89, 4, 16, 99, 79, 181, 0, 25, 42, 2, 181, 0, 28, 42, 7, 188, 10, 181, 0, 32]
def fAX6_init_1 : List UInt8 := [3, 60, 27, 7, 162, 0, 23, 42, 180, 0, 11, 27, 187, 0, 9, 89, 3, 183, 0, 35, 83, 132, 1, 1, 167, 255, 234, 3, 60, 27, 6, 162, 0, 23, 42, 180, 0, 15, 27, 187, 0, 9, 89, 3, 183, 0, 35, 83, 132, 1, 1, 167, 255, 234, 3, 60, 27, 5, 162, 0, 21, 42, 180, 0]
def fAX6_init_2 : List UInt8 := [18, 27, 42, 180, 0, 11, 27, 50, 83, 132, 1, 1, 167, 255, 236, 177]
def fTX6_init_2 : List UInt8 := fAX6_init_2
def fTX6_init_1 : List UInt8 := fAX6_init_1 ++ fTX6_init_2
def fTX6_init_0 : List UInt8 := fAX6_init_0 ++ fTX6_init_1
theorem fDX6_init_0 : cX6_init.data.toList.drop 0 = fTX6_init_0 := eq_of_beq (by decide +kernel)
theorem fDX6_init_1 : cX6_init.data.toList.drop 64 = fTX6_init_1 := fx_nx (d := 0) (n := 64) (a := fAX6_init_0) fDX6_init_0 rfl
theorem fDX6_init_2 : cX6_init.data.toList.drop 128 = fTX6_init_2 := fx_nx (d := 64) (n := 64) (a := fAX6_init_1) fDX6_init_1 rfl
theorem eX6_init_0 : (fdecl fTX6_init_0 0 = some (.aload_n 0, 1)) ∧ (fdecl fTX6_init_0 1 = some (.invokespecial 3, 3)) ∧ (fdecl fTX6_init_0 4 = some (.aload_n 0, 1)) ∧ (fdecl fTX6_init_0 5 = some (.iconst 4, 1)) ∧ (fdecl fTX6_init_0 6 = some (.anewarray 9, 3)) ∧ (fdecl fTX6_init_0 9 = some (.putfield 11, 3)) ∧ (fdecl fTX6_init_0 12 = some (.aload_n 0, 1)) ∧ (fdecl fTX6_init_0 13 = some (.iconst 3, 1)) ∧ (fdecl fTX6_init_0 14 = some (.anewarray 9, 3)) ∧ (fdecl fTX6_init_0 17 = some (.putfield 15, 3)) ∧ (fdecl fTX6_init_0 20 = some (.aload_n 0, 1)) ∧ (fdecl fTX6_init_0 21 = some (.iconst 2, 1)) ∧ (fdecl fTX6_init_0 22 = some (.anewarray 9, 3)) ∧ (fdecl fTX6_init_0 25 = some (.putfield 18, 3)) ∧ (fdecl fTX6_init_0 28 = some (.aload_n 0, 1)) ∧ (fdecl fTX6_init_0 29 = some (.iconst 2, 1)) := by decide +kernel
theorem dX6_init_0 : decode cX6_init 0 = .ok (.aload_n 0, 1) := fx_ok (d := 0) (i := 0) fDX6_init_0 eX6_init_0.1
theorem dX6_init_1 : decode cX6_init 1 = .ok (.invokespecial 3, 3) := fx_ok (d := 0) (i := 1) fDX6_init_0 eX6_init_0.2.1
theorem dX6_init_4 : decode cX6_init 4 = .ok (.aload_n 0, 1) := fx_ok (d := 0) (i := 4) fDX6_init_0 eX6_init_0.2.2.1
theorem dX6_init_5 : decode cX6_init 5 = .ok (.iconst 4, 1) := fx_ok (d := 0) (i := 5) fDX6_init_0 eX6_init_0.2.2.2.1
theorem dX6_init_6 : decode cX6_init 6 = .ok (.anewarray 9, 3) := fx_ok (d := 0) (i := 6) fDX6_init_0 eX6_init_0.2.2.2.2.1
theorem dX6_init_9 : decode cX6_init 9 = .ok (.putfield 11, 3) := fx_ok (d := 0) (i := 9) fDX6_init_0 eX6_init_0.2.2.2.2.2.1
theorem dX6_init_12 : decode cX6_init 12 = .ok (.aload_n 0, 1) := fx_ok (d := 0) (i := 12) fDX6_init_0 eX6_init_0.2.2.2.2.2.2.1
theorem dX6_init_13 : decode cX6_init 13 = .ok (.iconst 3, 1) := fx_ok (d := 0) (i := 13) fDX6_init_0 eX6_init_0.2.2.2.2.2.2.2.1
theorem dX6_init_14 : decode cX6_init 14 = .ok (.anewarray 9, 3) := fx_ok (d := 0) (i := 14) fDX6_init_0 eX6_init_0.2.2.2.2.2.2.2.2.1
theorem dX6_init_17 : decode cX6_init 17 = .ok (.putfield 15, 3) := fx_ok (d := 0) (i := 17) fDX6_init_0 eX6_init_0.2.2.2.2.2.2.2.2.2.1
theorem dX6_init_20 : decode cX6_init 20 = .ok (.aload_n 0, 1) := fx_ok (d := 0) (i := 20) fDX6_init_0 eX6_init_0.2.2.2.2.2.2.2.2.2.2.1
theorem dX6_init_21 : decode cX6_init 21 = .ok (.iconst 2, 1) := fx_ok (d := 0) (i := 21) fDX6_init_0 eX6_init_0.2.2.2.2.2.2.2.2.2.2.2.1
theorem dX6_init_22 : decode cX6_init 22 = .ok (.anewarray 9, 3) := fx_ok (d := 0) (i := 22) fDX6_init_0 eX6_init_0.2.2.2.2.2.2.2.2.2.2.2.2.1
theorem dX6_init_25 : decode cX6_init 25 = .ok (.putfield 18, 3) := fx_ok (d := 0) (i := 25) fDX6_init_0 eX6_init_0.2.2.2.2.2.2.2.2.2.2.2.2.2.1
theorem dX6_init_28 : decode cX6_init 28 = .ok (.aload_n 0, 1) := fx_ok (d := 0) (i := 28) fDX6_init_0 eX6_init_0.2.2.2.2.2.2.2.2.2.2.2.2.2.2.1
theorem dX6_init_29 : decode cX6_init 29 = .ok (.iconst 2, 1) := fx_ok (d := 0) (i := 29) fDX6_init_0 eX6_init_0.2.2.2.2.2.2.2.2.2.2.2.2.2.2.2
theorem eX6_init_32 : (fdecl fTX6_init_0 32 = some (.putfield 21, 3)) ∧ (fdecl fTX6_init_0 35 = some (.aload_n 0, 1)) ∧ (fdecl fTX6_init_0 36 = some (.iconst 2, 1)) ∧ (fdecl fTX6_init_0 39 = some (.dup, 1)) ∧ (fdecl fTX6_init_0 40 = some (.iconst 0, 1)) ∧ (fdecl fTX6_init_0 41 = some (.bipush 99, 2)) ∧ (fdecl fTX6_init_0 43 = some (.iastore, 1)) ∧ (fdecl fTX6_init_0 44 = some (.dup, 1)) ∧ (fdecl fTX6_init_0 45 = some (.iconst 1, 1)) ∧ (fdecl fTX6_init_0 46 = some (.bipush 99, 2)) ∧ (fdecl fTX6_init_0 48 = some (.iastore, 1)) ∧ (fdecl fTX6_init_0 49 = some (.putfield 25, 3)) ∧ (fdecl fTX6_init_0 52 = some (.aload_n 0, 1)) ∧ (fdecl fTX6_init_0 53 = some (.iconst (-1), 1)) ∧ (fdecl fTX6_init_0 54 = some (.putfield 28, 3)) ∧ (fdecl fTX6_init_0 57 = some (.aload_n 0, 1)) := by decide +kernel
theorem dX6_init_32 : decode cX6_init 32 = .ok (.putfield 21, 3) := fx_ok (d := 0) (i := 32) fDX6_init_0 eX6_init_32.1
theorem dX6_init_35 : decode cX6_init 35 = .ok (.aload_n 0, 1) := fx_ok (d := 0) (i := 35) fDX6_init_0 eX6_init_32.2.1
theorem dX6_init_36 : decode cX6_init 36 = .ok (.iconst 2, 1) := fx_ok (d := 0) (i := 36) fDX6_init_0 eX6_init_32.2.2.1
theorem dX6_init_39 : decode cX6_init 39 = .ok (.dup, 1) := fx_ok (d := 0) (i := 39) fDX6_init_0 eX6_init_32.2.2.2.1
theorem dX6_init_40 : decode cX6_init 40 = .ok (.iconst 0, 1) := fx_ok (d := 0) (i := 40) fDX6_init_0 eX6_init_32.2.2.2.2.1
theorem dX6_init_41 : decode cX6_init 41 = .ok (.bipush 99, 2) := fx_ok (d := 0) (i := 41) fDX6_init_0 eX6_init_32.2.2.2.2.2.1
theorem dX6_init_43 : decode cX6_init 43 = .ok (.iastore, 1) := fx_ok (d := 0) (i := 43) fDX6_init_0 eX6_init_32.2.2.2.2.2.2.1
theorem dX6_init_44 : decode cX6_init 44 = .ok (.dup, 1) := fx_ok (d := 0) (i := 44) fDX6_init_0 eX6_init_32.2.2.2.2.2.2.2.1
theorem dX6_init_45 : decode cX6_init 45 = .ok (.iconst 1, 1) := fx_ok (d := 0) (i := 45) fDX6_init_0 eX6_init_32.2.2.2.2.2.2.2.2.1
theorem dX6_init_46 : decode cX6_init 46 = .ok (.bipush 99, 2) := fx_ok (d := 0) (i := 46) fDX6_init_0 eX6_init_32.2.2.2.2.2.2.2.2.2.1
theorem dX6_init_48 : decode cX6_init 48 = .ok (.iastore, 1) := fx_ok (d := 0) (i := 48) fDX6_init_0 eX6_init_32.2.2.2.2.2.2.2.2.2.2.1
theorem dX6_init_49 : decode cX6_init 49 = .ok (.putfield 25, 3) := fx_ok (d := 0) (i := 49) fDX6_init_0 eX6_init_32.2.2.2.2.2.2.2.2.2.2.2.1
theorem dX6_init_52 : decode cX6_init 52 = .ok (.aload_n 0, 1) := fx_ok (d := 0) (i := 52) fDX6_init_0 eX6_init_32.2.2.2.2.2.2.2.2.2.2.2.2.1
theorem dX6_init_53 : decode cX6_init 53 = .ok (.iconst (-1), 1) := fx_ok (d := 0) (i := 53) fDX6_init_0 eX6_init_32.2.2.2.2.2.2.2.2.2.2.2.2.2.1
theorem dX6_init_54 : decode cX6_init 54 = .ok (.putfield 28, 3) := fx_ok (d := 0) (i := 54) fDX6_init_0 eX6_init_32.2.2.2.2.2.2.2.2.2.2.2.2.2.2.1
theorem dX6_init_57 : decode cX6_init 57 = .ok (.aload_n 0, 1) := fx_ok (d := 0) (i := 57) fDX6_init_0 eX6_init_32.2.2.2.2.2.2.2.2.2.2.2.2.2.2.2
theorem eX6_init_58 : (fdecl fTX6_init_0 58 = some (.iconst 4, 1)) ∧ (fdecl fTX6_init_0 61 = some (.putfield 32, 3)) ∧ (fdecl fTX6_init_1 0 = some (.iconst 0, 1)) ∧ (fdecl fTX6_init_1 1 = some (.istore_n 1, 1)) ∧ (fdecl fTX6_init_1 2 = some (.iload_n 1, 1)) ∧ (fdecl fTX6_init_1 3 = some (.iconst 4, 1)) ∧ (fdecl fTX6_init_1 4 = some (.if_icmp .ge 23, 3)) ∧ (fdecl fTX6_init_1 7 = some (.aload_n 0, 1)) ∧ (fdecl fTX6_init_1 8 = some (.getfield 11, 3)) ∧ (fdecl fTX6_init_1 11 = some (.iload_n 1, 1)) ∧ (fdecl fTX6_init_1 12 = some (.new 9, 3)) ∧ (fdecl fTX6_init_1 15 = some (.dup, 1)) ∧ (fdecl fTX6_init_1 16 = some (.iconst 0, 1)) ∧ (fdecl fTX6_init_1 17 = some (.invokespecial 35, 3)) ∧ (fdecl fTX6_init_1 20 = some (.aastore, 1)) ∧ (fdecl fTX6_init_1 24 = some (.goto (-22), 3)) := by decide +kernel
theorem dX6_init_58 : decode cX6_init 58 = .ok (.iconst 4, 1) := fx_ok (d := 0) (i := 58) fDX6_init_0 eX6_init_58.1
theorem dX6_init_61 : decode cX6_init 61 = .ok (.putfield 32, 3) := fx_ok (d := 0) (i := 61) fDX6_init_0 eX6_init_58.2.1
theorem dX6_init_64 : decode cX6_init 64 = .ok (.iconst 0, 1) := fx_ok (d := 64) (i := 0) fDX6_init_1 eX6_init_58.2.2.1
theorem dX6_init_65 : decode cX6_init 65 = .ok (.istore_n 1, 1) := fx_ok (d := 64) (i := 1) fDX6_init_1 eX6_init_58.2.2.2.1
theorem dX6_init_66 : decode cX6_init 66 = .ok (.iload_n 1, 1) := fx_ok (d := 64) (i := 2) fDX6_init_1 eX6_init_58.2.2.2.2.1
theorem dX6_init_67 : decode cX6_init 67 = .ok (.iconst 4, 1) := fx_ok (d := 64) (i := 3) fDX6_init_1 eX6_init_58.2.2.2.2.2.1
theorem dX6_init_68 : decode cX6_init 68 = .ok (.if_icmp .ge 23, 3) := fx_ok (d := 64) (i := 4) fDX6_init_1 eX6_init_58.2.2.2.2.2.2.1
theorem dX6_init_71 : decode cX6_init 71 = .ok (.aload_n 0, 1) := fx_ok (d := 64) (i := 7) fDX6_init_1 eX6_init_58.2.2.2.2.2.2.2.1
theorem dX6_init_72 : decode cX6_init 72 = .ok (.getfield 11, 3) := fx_ok (d := 64) (i := 8) fDX6_init_1 eX6_init_58.2.2.2.2.2.2.2.2.1
theorem dX6_init_75 : decode cX6_init 75 = .ok (.iload_n 1, 1) := fx_ok (d := 64) (i := 11) fDX6_init_1 eX6_init_58.2.2.2.2.2.2.2.2.2.1
theorem dX6_init_76 : decode cX6_init 76 = .ok (.new 9, 3) := fx_ok (d := 64) (i := 12) fDX6_init_1 eX6_init_58.2.2.2.2.2.2.2.2.2.2.1
theorem dX6_init_79 : decode cX6_init 79 = .ok (.dup, 1) := fx_ok (d := 64) (i := 15) fDX6_init_1 eX6_init_58.2.2.2.2.2.2.2.2.2.2.2.1
theorem dX6_init_80 : decode cX6_init 80 = .ok (.iconst 0, 1) := fx_ok (d := 64) (i := 16) fDX6_init_1 eX6_init_58.2.2.2.2.2.2.2.2.2.2.2.2.1
theorem dX6_init_81 : decode cX6_init 81 = .ok (.invokespecial 35, 3) := fx_ok (d := 64) (i := 17) fDX6_init_1 eX6_init_58.2.2.2.2.2.2.2.2.2.2.2.2.2.1
theorem dX6_init_84 : decode cX6_init 84 = .ok (.aastore, 1) := fx_ok (d := 64) (i := 20) fDX6_init_1 eX6_init_58.2.2.2.2.2.2.2.2.2.2.2.2.2.2.1
theorem dX6_init_88 : decode cX6_init 88 = .ok (.goto (-22), 3) := fx_ok (d := 64) (i := 24) fDX6_init_1 eX6_init_58.2.2.2.2.2.2.2.2.2.2.2.2.2.2.2
theorem eX6_init_91 : (fdecl fTX6_init_1 27 = some (.iconst 0, 1)) ∧ (fdecl fTX6_init_1 28 = some (.istore_n 1, 1)) ∧ (fdecl fTX6_init_1 29 = some (.iload_n 1, 1)) ∧ (fdecl fTX6_init_1 30 = some (.iconst 3, 1)) ∧ (fdecl fTX6_init_1 31 = some (.if_icmp .ge 23, 3)) ∧ (fdecl fTX6_init_1 34 = some (.aload_n 0, 1)) ∧ (fdecl fTX6_init_1 35 = some (.getfield 15, 3)) ∧ (fdecl fTX6_init_1 38 = some (.iload_n 1, 1)) ∧ (fdecl fTX6_init_1 39 = some (.new 9, 3)) ∧ (fdecl fTX6_init_1 42 = some (.dup, 1)) ∧ (fdecl fTX6_init_1 43 = some (.iconst 0, 1)) ∧ (fdecl fTX6_init_1 44 = some (.invokespecial 35, 3)) ∧ (fdecl fTX6_init_1 47 = some (.aastore, 1)) ∧ (fdecl fTX6_init_1 51 = some (.goto (-22), 3)) ∧ (fdecl fTX6_init_1 54 = some (.iconst 0, 1)) ∧ (fdecl fTX6_init_1 55 = some (.istore_n 1, 1)) := by decide +kernel
theorem dX6_init_91 : decode cX6_init 91 = .ok (.iconst 0, 1) := fx_ok (d := 64) (i := 27) fDX6_init_1 eX6_init_91.1
theorem dX6_init_92 : decode cX6_init 92 = .ok (.istore_n 1, 1) := fx_ok (d := 64) (i := 28) fDX6_init_1 eX6_init_91.2.1
theorem dX6_init_93 : decode cX6_init 93 = .ok (.iload_n 1, 1) := fx_ok (d := 64) (i := 29) fDX6_init_1 eX6_init_91.2.2.1
theorem dX6_init_94 : decode cX6_init 94 = .ok (.iconst 3, 1) := fx_ok (d := 64) (i := 30) fDX6_init_1 eX6_init_91.2.2.2.1
theorem dX6_init_95 : decode cX6_init 95 = .ok (.if_icmp .ge 23, 3) := fx_ok (d := 64) (i := 31) fDX6_init_1 eX6_init_91.2.2.2.2.1
theorem dX6_init_98 : decode cX6_init 98 = .ok (.aload_n 0, 1) := fx_ok (d := 64) (i := 34) fDX6_init_1 eX6_init_91.2.2.2.2.2.1
theorem dX6_init_99 : decode cX6_init 99 = .ok (.getfield 15, 3) := fx_ok (d := 64) (i := 35) fDX6_init_1 eX6_init_91.2.2.2.2.2.2.1
theorem dX6_init_102 : decode cX6_init 102 = .ok (.iload_n 1, 1) := fx_ok (d := 64) (i := 38) fDX6_init_1 eX6_init_91.2.2.2.2.2.2.2.1
theorem dX6_init_103 : decode cX6_init 103 = .ok (.new 9, 3) := fx_ok (d := 64) (i := 39) fDX6_init_1 eX6_init_91.2.2.2.2.2.2.2.2.1
theorem dX6_init_106 : decode cX6_init 106 = .ok (.dup, 1) := fx_ok (d := 64) (i := 42) fDX6_init_1 eX6_init_91.2.2.2.2.2.2.2.2.2.1
theorem dX6_init_107 : decode cX6_init 107 = .ok (.iconst 0, 1) := fx_ok (d := 64) (i := 43) fDX6_init_1 eX6_init_91.2.2.2.2.2.2.2.2.2.2.1
theorem dX6_init_108 : decode cX6_init 108 = .ok (.invokespecial 35, 3) := fx_ok (d := 64) (i := 44) fDX6_init_1 eX6_init_91.2.2.2.2.2.2.2.2.2.2.2.1
theorem dX6_init_111 : decode cX6_init 111 = .ok (.aastore, 1) := fx_ok (d := 64) (i := 47) fDX6_init_1 eX6_init_91.2.2.2.2.2.2.2.2.2.2.2.2.1
theorem dX6_init_115 : decode cX6_init 115 = .ok (.goto (-22), 3) := fx_ok (d := 64) (i := 51) fDX6_init_1 eX6_init_91.2.2.2.2.2.2.2.2.2.2.2.2.2.1
theorem dX6_init_118 : decode cX6_init 118 = .ok (.iconst 0, 1) := fx_ok (d := 64) (i := 54) fDX6_init_1 eX6_init_91.2.2.2.2.2.2.2.2.2.2.2.2.2.2.1
theorem dX6_init_119 : decode cX6_init 119 = .ok (.istore_n 1, 1) := fx_ok (d := 64) (i := 55) fDX6_init_1 eX6_init_91.2.2.2.2.2.2.2.2.2.2.2.2.2.2.2
theorem eX6_init_120 : (fdecl fTX6_init_1 56 = some (.iload_n 1, 1)) ∧ (fdecl fTX6_init_1 57 = some (.iconst 2, 1)) ∧ (fdecl fTX6_init_1 58 = some (.if_icmp .ge 21, 3)) ∧ (fdecl fTX6_init_1 61 = some (.aload_n 0, 1)) ∧ (fdecl fTX6_init_1 62 = some (.getfield 18, 3)) ∧ (fdecl fTX6_init_2 1 = some (.iload_n 1, 1)) ∧ (fdecl fTX6_init_2 2 = some (.aload_n 0, 1)) ∧ (fdecl fTX6_init_2 3 = some (.getfield 11, 3)) ∧ (fdecl fTX6_init_2 6 = some (.iload_n 1, 1)) ∧ (fdecl fTX6_init_2 7 = some (.aaload, 1)) ∧ (fdecl fTX6_init_2 8 = some (.aastore, 1)) ∧ (fdecl fTX6_init_2 12 = some (.goto (-20), 3)) ∧ (fdecl fTX6_init_2 15 = some (.return_, 1)) := by decide +kernel
theorem dX6_init_120 : decode cX6_init 120 = .ok (.iload_n 1, 1) := fx_ok (d := 64) (i := 56) fDX6_init_1 eX6_init_120.1
theorem dX6_init_121 : decode cX6_init 121 = .ok (.iconst 2, 1) := fx_ok (d := 64) (i := 57) fDX6_init_1 eX6_init_120.2.1
theorem dX6_init_122 : decode cX6_init 122 = .ok (.if_icmp .ge 21, 3) := fx_ok (d := 64) (i := 58) fDX6_init_1 eX6_init_120.2.2.1
theorem dX6_init_125 : decode cX6_init 125 = .ok (.aload_n 0, 1) := fx_ok (d := 64) (i := 61) fDX6_init_1 eX6_init_120.2.2.2.1
theorem dX6_init_126 : decode cX6_init 126 = .ok (.getfield 18, 3) := fx_ok (d := 64) (i := 62) fDX6_init_1 eX6_init_120.2.2.2.2.1
theorem dX6_init_129 : decode cX6_init 129 = .ok (.iload_n 1, 1) := fx_ok (d := 128) (i := 1) fDX6_init_2 eX6_init_120.2.2.2.2.2.1
theorem dX6_init_130 : decode cX6_init 130 = .ok (.aload_n 0, 1) := fx_ok (d := 128) (i := 2) fDX6_init_2 eX6_init_120.2.2.2.2.2.2.1
theorem dX6_init_131 : decode cX6_init 131 = .ok (.getfield 11, 3) := fx_ok (d := 128) (i := 3) fDX6_init_2 eX6_init_120.2.2.2.2.2.2.2.1
theorem dX6_init_134 : decode cX6_init 134 = .ok (.iload_n 1, 1) := fx_ok (d := 128) (i := 6) fDX6_init_2 eX6_init_120.2.2.2.2.2.2.2.2.1
theorem dX6_init_135 : decode cX6_init 135 = .ok (.aaload, 1) := fx_ok (d := 128) (i := 7) fDX6_init_2 eX6_init_120.2.2.2.2.2.2.2.2.2.1
theorem dX6_init_136 : decode cX6_init 136 = .ok (.aastore, 1) := fx_ok (d := 128) (i := 8) fDX6_init_2 eX6_init_120.2.2.2.2.2.2.2.2.2.2.1
theorem dX6_init_140 : decode cX6_init 140 = .ok (.goto (-20), 3) := fx_ok (d := 128) (i := 12) fDX6_init_2 eX6_init_120.2.2.2.2.2.2.2.2.2.2.2.1
theorem dX6_init_143 : decode cX6_init 143 = .ok (.return_, 1) := fx_ok (d := 128) (i := 15) fDX6_init_2 eX6_init_120.2.2.2.2.2.2.2.2.2.2.2.2
theorem dX6_init_30 : decode cX6_init 30 = .ok (.newarray .int, 2) := by decide +kernel
theorem dX6_init_37 : decode cX6_init 37 = .ok (.newarray .int, 2) := by decide +kernel
theorem dX6_init_59 : decode cX6_init 59 = .ok (.newarray .int, 2) := by decide +kernel
theorem dX6_init_85 : decode cX6_init 85 = .ok (.iinc 1 1, 3) := by decide +kernel
theorem dX6_init_112 : decode cX6_init 112 = .ok (.iinc 1 1, 3) := by decide +kernel
theorem dX6_init_137 : decode cX6_init 137 = .ok (.iinc 1 1, 3) := by decide +kernel
theorem eX6_thrown_0 : (fdecl cX6_thrown.data.toList 0 = some (.aload_n 0, 1)) ∧ (fdecl cX6_thrown.data.toList 1 = some (.getfield 38, 3)) ∧ (fdecl cX6_thrown.data.toList 4 = some (.ireturn, 1)) := by decide +kernel
theorem dX6_thrown_0 : decode cX6_thrown 0 = .ok (.aload_n 0, 1) := fx_ok0 eX6_thrown_0.1
theorem dX6_thrown_1 : decode cX6_thrown 1 = .ok (.getfield 38, 3) := fx_ok0 eX6_thrown_0.2.1
theorem dX6_thrown_4 : decode cX6_thrown 4 = .ok (.ireturn, 1) := fx_ok0 eX6_thrown_0.2.2
theorem eX6_isIn_0 : (fdecl cX6_isIn.data.toList 0 = some (.iload_n 0, 1)) ∧ (fdecl cX6_isIn.data.toList 1 = some (.iload_n 1, 1)) ∧ (fdecl cX6_isIn.data.toList 2 = some (.if_icmp .lt 12, 3)) ∧ (fdecl cX6_isIn.data.toList 5 = some (.iload_n 0, 1)) ∧ (fdecl cX6_isIn.data.toList 6 = some (.iload_n 2, 1)) ∧ (fdecl cX6_isIn.data.toList 7 = some (.if_icmp .gt 7, 3)) ∧ (fdecl cX6_isIn.data.toList 10 = some (.iconst 1, 1)) ∧ (fdecl cX6_isIn.data.toList 11 = some (.goto 4, 3)) ∧ (fdecl cX6_isIn.data.toList 14 = some (.iconst 0, 1)) ∧ (fdecl cX6_isIn.data.toList 15 = some (.ireturn, 1)) := by decide +kernel
theorem dX6_isIn_0 : decode cX6_isIn 0 = .ok (.iload_n 0, 1) := fx_ok0 eX6_isIn_0.1
theorem dX6_isIn_1 : decode cX6_isIn 1 = .ok (.iload_n 1, 1) := fx_ok0 eX6_isIn_0.2.1
theorem dX6_isIn_2 : decode cX6_isIn 2 = .ok (.if_icmp .lt 12, 3) := fx_ok0 eX6_isIn_0.2.2.1
theorem dX6_isIn_5 : decode cX6_isIn 5 = .ok (.iload_n 0, 1) := fx_ok0 eX6_isIn_0.2.2.2.1
theorem dX6_isIn_6 : decode cX6_isIn 6 = .ok (.iload_n 2, 1) := fx_ok0 eX6_isIn_0.2.2.2.2.1
theorem dX6_isIn_7 : decode cX6_isIn 7 = .ok (.if_icmp .gt 7, 3) := fx_ok0 eX6_isIn_0.2.2.2.2.2.1
theorem dX6_isIn_10 : decode cX6_isIn 10 = .ok (.iconst 1, 1) := fx_ok0 eX6_isIn_0.2.2.2.2.2.2.1
theorem dX6_isIn_11 : decode cX6_isIn 11 = .ok (.goto 4, 3) := fx_ok0 eX6_isIn_0.2.2.2.2.2.2.2.1
theorem dX6_isIn_14 : decode cX6_isIn 14 = .ok (.iconst 0, 1) := fx_ok0 eX6_isIn_0.2.2.2.2.2.2.2.2.1
theorem dX6_isIn_15 : decode cX6_isIn 15 = .ok (.ireturn, 1) := fx_ok0 eX6_isIn_0.2.2.2.2.2.2.2.2.2
theorem eX6_isKey_0 : (fdecl cX6_isKey.data.toList 0 = some (.iload_n 0, 1)) ∧ (fdecl cX6_isKey.data.toList 1 = some (.iconst 0, 1)) ∧ (fdecl cX6_isKey.data.toList 2 = some (.bipush 99, 2)) ∧ (fdecl cX6_isKey.data.toList 4 = some (.invokestatic 41, 3)) ∧ (fdecl cX6_isKey.data.toList 7 = some (.ireturn, 1)) := by decide +kernel
theorem dX6_isKey_0 : decode cX6_isKey 0 = .ok (.iload_n 0, 1) := fx_ok0 eX6_isKey_0.1
theorem dX6_isKey_1 : decode cX6_isKey 1 = .ok (.iconst 0, 1) := fx_ok0 eX6_isKey_0.2.1
theorem dX6_isKey_2 : decode cX6_isKey 2 = .ok (.bipush 99, 2) := fx_ok0 eX6_isKey_0.2.2.1
theorem dX6_isKey_4 : decode cX6_isKey 4 = .ok (.invokestatic 41, 3) := fx_ok0 eX6_isKey_0.2.2.2.1
theorem dX6_isKey_7 : decode cX6_isKey 7 = .ok (.ireturn, 1) := fx_ok0 eX6_isKey_0.2.2.2.2
theorem eX6_isBook_0 : (fdecl cX6_isBook.data.toList 0 = some (.iload_n 0, 1)) ∧ (fdecl cX6_isBook.data.toList 1 = some (.iconst 0, 1)) ∧ (fdecl cX6_isBook.data.toList 2 = some (.iconst 3, 1)) ∧ (fdecl cX6_isBook.data.toList 3 = some (.invokestatic 41, 3)) ∧ (fdecl cX6_isBook.data.toList 6 = some (.ireturn, 1)) := by decide +kernel
theorem dX6_isBook_0 : decode cX6_isBook 0 = .ok (.iload_n 0, 1) := fx_ok0 eX6_isBook_0.1
theorem dX6_isBook_1 : decode cX6_isBook 1 = .ok (.iconst 0, 1) := fx_ok0 eX6_isBook_0.2.1
theorem dX6_isBook_2 : decode cX6_isBook 2 = .ok (.iconst 3, 1) := fx_ok0 eX6_isBook_0.2.2.1
theorem dX6_isBook_3 : decode cX6_isBook 3 = .ok (.invokestatic 41, 3) := fx_ok0 eX6_isBook_0.2.2.2.1
theorem dX6_isBook_6 : decode cX6_isBook 6 = .ok (.ireturn, 1) := fx_ok0 eX6_isBook_0.2.2.2.2
theorem eX6_isView_0 : (fdecl cX6_isView.data.toList 0 = some (.iload_n 0, 1)) ∧ (fdecl cX6_isView.data.toList 1 = some (.iconst 0, 1)) ∧ (fdecl cX6_isView.data.toList 2 = some (.iconst 1, 1)) ∧ (fdecl cX6_isView.data.toList 3 = some (.invokestatic 41, 3)) ∧ (fdecl cX6_isView.data.toList 6 = some (.ireturn, 1)) := by decide +kernel
theorem dX6_isView_0 : decode cX6_isView 0 = .ok (.iload_n 0, 1) := fx_ok0 eX6_isView_0.1
theorem dX6_isView_1 : decode cX6_isView 1 = .ok (.iconst 0, 1) := fx_ok0 eX6_isView_0.2.1
theorem dX6_isView_2 : decode cX6_isView 2 = .ok (.iconst 1, 1) := fx_ok0 eX6_isView_0.2.2.1
theorem dX6_isView_3 : decode cX6_isView 3 = .ok (.invokestatic 41, 3) := fx_ok0 eX6_isView_0.2.2.2.1
theorem dX6_isView_6 : decode cX6_isView 6 = .ok (.ireturn, 1) := fx_ok0 eX6_isView_0.2.2.2.2
theorem eX6_isShelf_0 : (fdecl cX6_isShelf.data.toList 0 = some (.iload_n 0, 1)) ∧ (fdecl cX6_isShelf.data.toList 1 = some (.iconst 0, 1)) ∧ (fdecl cX6_isShelf.data.toList 2 = some (.iconst 2, 1)) ∧ (fdecl cX6_isShelf.data.toList 3 = some (.invokestatic 41, 3)) ∧ (fdecl cX6_isShelf.data.toList 6 = some (.ireturn, 1)) := by decide +kernel
theorem dX6_isShelf_0 : decode cX6_isShelf 0 = .ok (.iload_n 0, 1) := fx_ok0 eX6_isShelf_0.1
theorem dX6_isShelf_1 : decode cX6_isShelf 1 = .ok (.iconst 0, 1) := fx_ok0 eX6_isShelf_0.2.1
theorem dX6_isShelf_2 : decode cX6_isShelf 2 = .ok (.iconst 2, 1) := fx_ok0 eX6_isShelf_0.2.2.1
theorem dX6_isShelf_3 : decode cX6_isShelf 3 = .ok (.invokestatic 41, 3) := fx_ok0 eX6_isShelf_0.2.2.2.1
theorem dX6_isShelf_6 : decode cX6_isShelf 6 = .ok (.ireturn, 1) := fx_ok0 eX6_isShelf_0.2.2.2.2
theorem eX6_isLet_0 : (fdecl cX6_isLet.data.toList 0 = some (.aload_n 0, 1)) ∧ (fdecl cX6_isLet.data.toList 1 = some (.iload_n 1, 1)) ∧ (fdecl cX6_isLet.data.toList 2 = some (.ifCond .ne 7, 3)) ∧ (fdecl cX6_isLet.data.toList 5 = some (.iconst 1, 1)) ∧ (fdecl cX6_isLet.data.toList 6 = some (.goto 12, 3)) ∧ (fdecl cX6_isLet.data.toList 9 = some (.iload_n 2, 1)) ∧ (fdecl cX6_isLet.data.toList 10 = some (.ifCond .ne 7, 3)) ∧ (fdecl cX6_isLet.data.toList 13 = some (.iconst 2, 1)) ∧ (fdecl cX6_isLet.data.toList 14 = some (.goto 4, 3)) ∧ (fdecl cX6_isLet.data.toList 17 = some (.iconst 0, 1)) ∧ (fdecl cX6_isLet.data.toList 18 = some (.putfield 38, 3)) ∧ (fdecl cX6_isLet.data.toList 21 = some (.aload_n 0, 1)) ∧ (fdecl cX6_isLet.data.toList 22 = some (.getfield 38, 3)) ∧ (fdecl cX6_isLet.data.toList 25 = some (.ifCond .ne 7, 3)) ∧ (fdecl cX6_isLet.data.toList 28 = some (.iconst 1, 1)) ∧ (fdecl cX6_isLet.data.toList 29 = some (.goto 4, 3)) := by decide +kernel
theorem dX6_isLet_0 : decode cX6_isLet 0 = .ok (.aload_n 0, 1) := fx_ok0 eX6_isLet_0.1
theorem dX6_isLet_1 : decode cX6_isLet 1 = .ok (.iload_n 1, 1) := fx_ok0 eX6_isLet_0.2.1
theorem dX6_isLet_2 : decode cX6_isLet 2 = .ok (.ifCond .ne 7, 3) := fx_ok0 eX6_isLet_0.2.2.1
theorem dX6_isLet_5 : decode cX6_isLet 5 = .ok (.iconst 1, 1) := fx_ok0 eX6_isLet_0.2.2.2.1
theorem dX6_isLet_6 : decode cX6_isLet 6 = .ok (.goto 12, 3) := fx_ok0 eX6_isLet_0.2.2.2.2.1
theorem dX6_isLet_9 : decode cX6_isLet 9 = .ok (.iload_n 2, 1) := fx_ok0 eX6_isLet_0.2.2.2.2.2.1
theorem dX6_isLet_10 : decode cX6_isLet 10 = .ok (.ifCond .ne 7, 3) := fx_ok0 eX6_isLet_0.2.2.2.2.2.2.1
theorem dX6_isLet_13 : decode cX6_isLet 13 = .ok (.iconst 2, 1) := fx_ok0 eX6_isLet_0.2.2.2.2.2.2.2.1
theorem dX6_isLet_14 : decode cX6_isLet 14 = .ok (.goto 4, 3) := fx_ok0 eX6_isLet_0.2.2.2.2.2.2.2.2.1
theorem dX6_isLet_17 : decode cX6_isLet 17 = .ok (.iconst 0, 1) := fx_ok0 eX6_isLet_0.2.2.2.2.2.2.2.2.2.1
theorem dX6_isLet_18 : decode cX6_isLet 18 = .ok (.putfield 38, 3) := fx_ok0 eX6_isLet_0.2.2.2.2.2.2.2.2.2.2.1
theorem dX6_isLet_21 : decode cX6_isLet 21 = .ok (.aload_n 0, 1) := fx_ok0 eX6_isLet_0.2.2.2.2.2.2.2.2.2.2.2.1
theorem dX6_isLet_22 : decode cX6_isLet 22 = .ok (.getfield 38, 3) := fx_ok0 eX6_isLet_0.2.2.2.2.2.2.2.2.2.2.2.2.1
theorem dX6_isLet_25 : decode cX6_isLet 25 = .ok (.ifCond .ne 7, 3) := fx_ok0 eX6_isLet_0.2.2.2.2.2.2.2.2.2.2.2.2.2.1
theorem dX6_isLet_28 : decode cX6_isLet 28 = .ok (.iconst 1, 1) := fx_ok0 eX6_isLet_0.2.2.2.2.2.2.2.2.2.2.2.2.2.2.1
theorem dX6_isLet_29 : decode cX6_isLet 29 = .ok (.goto 4, 3) := fx_ok0 eX6_isLet_0.2.2.2.2.2.2.2.2.2.2.2.2.2.2.2
theorem eX6_isLet_32 : (fdecl cX6_isLet.data.toList 32 = some (.iconst 0, 1)) ∧ (fdecl cX6_isLet.data.toList 33 = some (.ireturn, 1)) := by decide +kernel
theorem dX6_isLet_32 : decode cX6_isLet 32 = .ok (.iconst 0, 1) := fx_ok0 eX6_isLet_32.1
theorem dX6_isLet_33 : decode cX6_isLet 33 = .ok (.ireturn, 1) := fx_ok0 eX6_isLet_32.2
theorem eX6_did_0 : (fdecl cX6_did.data.toList 0 = some (.aload_n 0, 1)) ∧ (fdecl cX6_did.data.toList 1 = some (.getfield 32, 3)) ∧ (fdecl cX6_did.data.toList 4 = some (.iconst 0, 1)) ∧ (fdecl cX6_did.data.toList 5 = some (.dup2, 1)) ∧ (fdecl cX6_did.data.toList 6 = some (.iaload, 1)) ∧ (fdecl cX6_did.data.toList 7 = some (.iconst 1, 1)) ∧ (fdecl cX6_did.data.toList 8 = some (.iadd, 1)) ∧ (fdecl cX6_did.data.toList 9 = some (.iastore, 1)) ∧ (fdecl cX6_did.data.toList 10 = some (.iload_n 1, 1)) ∧ (fdecl cX6_did.data.toList 11 = some (.ireturn, 1)) := by decide +kernel
theorem dX6_did_0 : decode cX6_did 0 = .ok (.aload_n 0, 1) := fx_ok0 eX6_did_0.1
theorem dX6_did_1 : decode cX6_did 1 = .ok (.getfield 32, 3) := fx_ok0 eX6_did_0.2.1
theorem dX6_did_4 : decode cX6_did 4 = .ok (.iconst 0, 1) := fx_ok0 eX6_did_0.2.2.1
theorem dX6_did_5 : decode cX6_did 5 = .ok (.dup2, 1) := fx_ok0 eX6_did_0.2.2.2.1
theorem dX6_did_6 : decode cX6_did 6 = .ok (.iaload, 1) := fx_ok0 eX6_did_0.2.2.2.2.1
theorem dX6_did_7 : decode cX6_did 7 = .ok (.iconst 1, 1) := fx_ok0 eX6_did_0.2.2.2.2.2.1
theorem dX6_did_8 : decode cX6_did 8 = .ok (.iadd, 1) := fx_ok0 eX6_did_0.2.2.2.2.2.2.1
theorem dX6_did_9 : decode cX6_did 9 = .ok (.iastore, 1) := fx_ok0 eX6_did_0.2.2.2.2.2.2.2.1
theorem dX6_did_10 : decode cX6_did 10 = .ok (.iload_n 1, 1) := fx_ok0 eX6_did_0.2.2.2.2.2.2.2.2.1
theorem dX6_did_11 : decode cX6_did 11 = .ok (.ireturn, 1) := fx_ok0 eX6_did_0.2.2.2.2.2.2.2.2.2
theorem eX6_laid_0 : (fdecl cX6_laid.data.toList 0 = some (.aload_n 0, 1)) ∧ (fdecl cX6_laid.data.toList 1 = some (.getfield 32, 3)) ∧ (fdecl cX6_laid.data.toList 4 = some (.iconst 1, 1)) ∧ (fdecl cX6_laid.data.toList 5 = some (.dup2, 1)) ∧ (fdecl cX6_laid.data.toList 6 = some (.iaload, 1)) ∧ (fdecl cX6_laid.data.toList 7 = some (.iconst 1, 1)) ∧ (fdecl cX6_laid.data.toList 8 = some (.iadd, 1)) ∧ (fdecl cX6_laid.data.toList 9 = some (.iastore, 1)) ∧ (fdecl cX6_laid.data.toList 10 = some (.iload_n 1, 1)) ∧ (fdecl cX6_laid.data.toList 11 = some (.ireturn, 1)) := by decide +kernel
theorem dX6_laid_0 : decode cX6_laid 0 = .ok (.aload_n 0, 1) := fx_ok0 eX6_laid_0.1
theorem dX6_laid_1 : decode cX6_laid 1 = .ok (.getfield 32, 3) := fx_ok0 eX6_laid_0.2.1
theorem dX6_laid_4 : decode cX6_laid 4 = .ok (.iconst 1, 1) := fx_ok0 eX6_laid_0.2.2.1
theorem dX6_laid_5 : decode cX6_laid 5 = .ok (.dup2, 1) := fx_ok0 eX6_laid_0.2.2.2.1
theorem dX6_laid_6 : decode cX6_laid 6 = .ok (.iaload, 1) := fx_ok0 eX6_laid_0.2.2.2.2.1
theorem dX6_laid_7 : decode cX6_laid 7 = .ok (.iconst 1, 1) := fx_ok0 eX6_laid_0.2.2.2.2.2.1
theorem dX6_laid_8 : decode cX6_laid 8 = .ok (.iadd, 1) := fx_ok0 eX6_laid_0.2.2.2.2.2.2.1
theorem dX6_laid_9 : decode cX6_laid 9 = .ok (.iastore, 1) := fx_ok0 eX6_laid_0.2.2.2.2.2.2.2.1
theorem dX6_laid_10 : decode cX6_laid 10 = .ok (.iload_n 1, 1) := fx_ok0 eX6_laid_0.2.2.2.2.2.2.2.2.1
theorem dX6_laid_11 : decode cX6_laid 11 = .ok (.ireturn, 1) := fx_ok0 eX6_laid_0.2.2.2.2.2.2.2.2.2
theorem eX6_refuse_0 : (fdecl cX6_refuse.data.toList 0 = some (.aload_n 0, 1)) ∧ (fdecl cX6_refuse.data.toList 1 = some (.getfield 32, 3)) ∧ (fdecl cX6_refuse.data.toList 4 = some (.iconst 2, 1)) ∧ (fdecl cX6_refuse.data.toList 5 = some (.dup2, 1)) ∧ (fdecl cX6_refuse.data.toList 6 = some (.iaload, 1)) ∧ (fdecl cX6_refuse.data.toList 7 = some (.iconst 1, 1)) ∧ (fdecl cX6_refuse.data.toList 8 = some (.iadd, 1)) ∧ (fdecl cX6_refuse.data.toList 9 = some (.iastore, 1)) ∧ (fdecl cX6_refuse.data.toList 10 = some (.bipush (-9), 2)) ∧ (fdecl cX6_refuse.data.toList 12 = some (.ireturn, 1)) := by decide +kernel
theorem dX6_refuse_0 : decode cX6_refuse 0 = .ok (.aload_n 0, 1) := fx_ok0 eX6_refuse_0.1
theorem dX6_refuse_1 : decode cX6_refuse 1 = .ok (.getfield 32, 3) := fx_ok0 eX6_refuse_0.2.1
theorem dX6_refuse_4 : decode cX6_refuse 4 = .ok (.iconst 2, 1) := fx_ok0 eX6_refuse_0.2.2.1
theorem dX6_refuse_5 : decode cX6_refuse 5 = .ok (.dup2, 1) := fx_ok0 eX6_refuse_0.2.2.2.1
theorem dX6_refuse_6 : decode cX6_refuse 6 = .ok (.iaload, 1) := fx_ok0 eX6_refuse_0.2.2.2.2.1
theorem dX6_refuse_7 : decode cX6_refuse 7 = .ok (.iconst 1, 1) := fx_ok0 eX6_refuse_0.2.2.2.2.2.1
theorem dX6_refuse_8 : decode cX6_refuse 8 = .ok (.iadd, 1) := fx_ok0 eX6_refuse_0.2.2.2.2.2.2.1
theorem dX6_refuse_9 : decode cX6_refuse 9 = .ok (.iastore, 1) := fx_ok0 eX6_refuse_0.2.2.2.2.2.2.2.1
theorem dX6_refuse_10 : decode cX6_refuse 10 = .ok (.bipush (-9), 2) := fx_ok0 eX6_refuse_0.2.2.2.2.2.2.2.2.1
theorem dX6_refuse_12 : decode cX6_refuse 12 = .ok (.ireturn, 1) := fx_ok0 eX6_refuse_0.2.2.2.2.2.2.2.2.2
theorem eX6_write_0 : (fdecl cX6_write.data.toList 0 = some (.aload_n 1, 1)) ∧ (fdecl cX6_write.data.toList 1 = some (.aload_n 0, 1)) ∧ (fdecl cX6_write.data.toList 2 = some (.getfield 45, 3)) ∧ (fdecl cX6_write.data.toList 5 = some (.if_acmp .ne 8, 3)) ∧ (fdecl cX6_write.data.toList 8 = some (.aload_n 0, 1)) ∧ (fdecl cX6_write.data.toList 9 = some (.iconst (-1), 1)) ∧ (fdecl cX6_write.data.toList 10 = some (.putfield 28, 3)) ∧ (fdecl cX6_write.data.toList 13 = some (.return_, 1)) := by decide +kernel
theorem dX6_write_0 : decode cX6_write 0 = .ok (.aload_n 1, 1) := fx_ok0 eX6_write_0.1
theorem dX6_write_1 : decode cX6_write 1 = .ok (.aload_n 0, 1) := fx_ok0 eX6_write_0.2.1
theorem dX6_write_2 : decode cX6_write 2 = .ok (.getfield 45, 3) := fx_ok0 eX6_write_0.2.2.1
theorem dX6_write_5 : decode cX6_write 5 = .ok (.if_acmp .ne 8, 3) := fx_ok0 eX6_write_0.2.2.2.1
theorem dX6_write_8 : decode cX6_write 8 = .ok (.aload_n 0, 1) := fx_ok0 eX6_write_0.2.2.2.2.1
theorem dX6_write_9 : decode cX6_write 9 = .ok (.iconst (-1), 1) := fx_ok0 eX6_write_0.2.2.2.2.2.1
theorem dX6_write_10 : decode cX6_write 10 = .ok (.putfield 28, 3) := fx_ok0 eX6_write_0.2.2.2.2.2.2.1
theorem dX6_write_13 : decode cX6_write 13 = .ok (.return_, 1) := fx_ok0 eX6_write_0.2.2.2.2.2.2.2
theorem eX6_set_0 : (fdecl cX6_set.data.toList 0 = some (.aload_n 1, 1)) ∧ (fdecl cX6_set.data.toList 1 = some (.iload_n 2, 1)) ∧ (fdecl cX6_set.data.toList 2 = some (.invokevirtual 49, 3)) ∧ (fdecl cX6_set.data.toList 5 = some (.iload_n 3, 1)) ∧ (fdecl cX6_set.data.toList 6 = some (.iconst (-1), 1)) ∧ (fdecl cX6_set.data.toList 7 = some (.if_icmp .eq 7, 3)) ∧ (fdecl cX6_set.data.toList 10 = some (.iconst 1, 1)) ∧ (fdecl cX6_set.data.toList 11 = some (.goto 4, 3)) ∧ (fdecl cX6_set.data.toList 14 = some (.iconst 0, 1)) ∧ (fdecl cX6_set.data.toList 15 = some (.if_icmp .eq 7, 3)) ∧ (fdecl cX6_set.data.toList 18 = some (.iconst 1, 1)) ∧ (fdecl cX6_set.data.toList 19 = some (.goto 4, 3)) ∧ (fdecl cX6_set.data.toList 22 = some (.iconst 0, 1)) ∧ (fdecl cX6_set.data.toList 23 = some (.istore 4, 2)) ∧ (fdecl cX6_set.data.toList 25 = some (.aload_n 1, 1)) ∧ (fdecl cX6_set.data.toList 26 = some (.getfield 53, 3)) := by decide +kernel
theorem dX6_set_0 : decode cX6_set 0 = .ok (.aload_n 1, 1) := fx_ok0 eX6_set_0.1
theorem dX6_set_1 : decode cX6_set 1 = .ok (.iload_n 2, 1) := fx_ok0 eX6_set_0.2.1
theorem dX6_set_2 : decode cX6_set 2 = .ok (.invokevirtual 49, 3) := fx_ok0 eX6_set_0.2.2.1
theorem dX6_set_5 : decode cX6_set 5 = .ok (.iload_n 3, 1) := fx_ok0 eX6_set_0.2.2.2.1
theorem dX6_set_6 : decode cX6_set 6 = .ok (.iconst (-1), 1) := fx_ok0 eX6_set_0.2.2.2.2.1
theorem dX6_set_7 : decode cX6_set 7 = .ok (.if_icmp .eq 7, 3) := fx_ok0 eX6_set_0.2.2.2.2.2.1
theorem dX6_set_10 : decode cX6_set 10 = .ok (.iconst 1, 1) := fx_ok0 eX6_set_0.2.2.2.2.2.2.1
theorem dX6_set_11 : decode cX6_set 11 = .ok (.goto 4, 3) := fx_ok0 eX6_set_0.2.2.2.2.2.2.2.1
theorem dX6_set_14 : decode cX6_set 14 = .ok (.iconst 0, 1) := fx_ok0 eX6_set_0.2.2.2.2.2.2.2.2.1
theorem dX6_set_15 : decode cX6_set 15 = .ok (.if_icmp .eq 7, 3) := fx_ok0 eX6_set_0.2.2.2.2.2.2.2.2.2.1
theorem dX6_set_18 : decode cX6_set 18 = .ok (.iconst 1, 1) := fx_ok0 eX6_set_0.2.2.2.2.2.2.2.2.2.2.1
theorem dX6_set_19 : decode cX6_set 19 = .ok (.goto 4, 3) := fx_ok0 eX6_set_0.2.2.2.2.2.2.2.2.2.2.2.1
theorem dX6_set_22 : decode cX6_set 22 = .ok (.iconst 0, 1) := fx_ok0 eX6_set_0.2.2.2.2.2.2.2.2.2.2.2.2.1
theorem dX6_set_23 : decode cX6_set 23 = .ok (.istore 4, 2) := fx_ok0 eX6_set_0.2.2.2.2.2.2.2.2.2.2.2.2.2.1
theorem dX6_set_25 : decode cX6_set 25 = .ok (.aload_n 1, 1) := fx_ok0 eX6_set_0.2.2.2.2.2.2.2.2.2.2.2.2.2.2.1
theorem dX6_set_26 : decode cX6_set 26 = .ok (.getfield 53, 3) := fx_ok0 eX6_set_0.2.2.2.2.2.2.2.2.2.2.2.2.2.2.2
theorem eX6_set_29 : (fdecl cX6_set.data.toList 29 = some (.iload_n 2, 1)) ∧ (fdecl cX6_set.data.toList 30 = some (.iload_n 3, 1)) ∧ (fdecl cX6_set.data.toList 31 = some (.iastore, 1)) ∧ (fdecl cX6_set.data.toList 32 = some (.iload 4, 2)) ∧ (fdecl cX6_set.data.toList 34 = some (.ifCond .eq 16, 3)) ∧ (fdecl cX6_set.data.toList 37 = some (.aload_n 1, 1)) ∧ (fdecl cX6_set.data.toList 38 = some (.aload_n 0, 1)) ∧ (fdecl cX6_set.data.toList 39 = some (.getfield 45, 3)) ∧ (fdecl cX6_set.data.toList 42 = some (.if_acmp .ne 8, 3)) ∧ (fdecl cX6_set.data.toList 45 = some (.aload_n 0, 1)) ∧ (fdecl cX6_set.data.toList 46 = some (.iconst 1, 1)) ∧ (fdecl cX6_set.data.toList 47 = some (.putfield 56, 3)) ∧ (fdecl cX6_set.data.toList 50 = some (.iload 4, 2)) ∧ (fdecl cX6_set.data.toList 52 = some (.ifCond .eq 7, 3)) ∧ (fdecl cX6_set.data.toList 55 = some (.iconst 1, 1)) ∧ (fdecl cX6_set.data.toList 56 = some (.goto 4, 3)) := by decide +kernel
theorem dX6_set_29 : decode cX6_set 29 = .ok (.iload_n 2, 1) := fx_ok0 eX6_set_29.1
theorem dX6_set_30 : decode cX6_set 30 = .ok (.iload_n 3, 1) := fx_ok0 eX6_set_29.2.1
theorem dX6_set_31 : decode cX6_set 31 = .ok (.iastore, 1) := fx_ok0 eX6_set_29.2.2.1
theorem dX6_set_32 : decode cX6_set 32 = .ok (.iload 4, 2) := fx_ok0 eX6_set_29.2.2.2.1
theorem dX6_set_34 : decode cX6_set 34 = .ok (.ifCond .eq 16, 3) := fx_ok0 eX6_set_29.2.2.2.2.1
theorem dX6_set_37 : decode cX6_set 37 = .ok (.aload_n 1, 1) := fx_ok0 eX6_set_29.2.2.2.2.2.1
theorem dX6_set_38 : decode cX6_set 38 = .ok (.aload_n 0, 1) := fx_ok0 eX6_set_29.2.2.2.2.2.2.1
theorem dX6_set_39 : decode cX6_set 39 = .ok (.getfield 45, 3) := fx_ok0 eX6_set_29.2.2.2.2.2.2.2.1
theorem dX6_set_42 : decode cX6_set 42 = .ok (.if_acmp .ne 8, 3) := fx_ok0 eX6_set_29.2.2.2.2.2.2.2.2.1
theorem dX6_set_45 : decode cX6_set 45 = .ok (.aload_n 0, 1) := fx_ok0 eX6_set_29.2.2.2.2.2.2.2.2.2.1
theorem dX6_set_46 : decode cX6_set 46 = .ok (.iconst 1, 1) := fx_ok0 eX6_set_29.2.2.2.2.2.2.2.2.2.2.1
theorem dX6_set_47 : decode cX6_set 47 = .ok (.putfield 56, 3) := fx_ok0 eX6_set_29.2.2.2.2.2.2.2.2.2.2.2.1
theorem dX6_set_50 : decode cX6_set 50 = .ok (.iload 4, 2) := fx_ok0 eX6_set_29.2.2.2.2.2.2.2.2.2.2.2.2.1
theorem dX6_set_52 : decode cX6_set 52 = .ok (.ifCond .eq 7, 3) := fx_ok0 eX6_set_29.2.2.2.2.2.2.2.2.2.2.2.2.2.1
theorem dX6_set_55 : decode cX6_set 55 = .ok (.iconst 1, 1) := fx_ok0 eX6_set_29.2.2.2.2.2.2.2.2.2.2.2.2.2.2.1
theorem dX6_set_56 : decode cX6_set 56 = .ok (.goto 4, 3) := fx_ok0 eX6_set_29.2.2.2.2.2.2.2.2.2.2.2.2.2.2.2
theorem eX6_set_59 : (fdecl cX6_set.data.toList 59 = some (.iconst 0, 1)) ∧ (fdecl cX6_set.data.toList 60 = some (.ireturn, 1)) := by decide +kernel
theorem dX6_set_59 : decode cX6_set 59 = .ok (.iconst 0, 1) := fx_ok0 eX6_set_59.1
theorem dX6_set_60 : decode cX6_set 60 = .ok (.ireturn, 1) := fx_ok0 eX6_set_59.2
theorem eX6_freshBook_0 : (fdecl cX6_freshBook.data.toList 0 = some (.aload_n 0, 1)) ∧ (fdecl cX6_freshBook.data.toList 1 = some (.iload_n 1, 1)) ∧ (fdecl cX6_freshBook.data.toList 2 = some (.invokestatic 60, 3)) ∧ (fdecl cX6_freshBook.data.toList 5 = some (.iload_n 2, 1)) ∧ (fdecl cX6_freshBook.data.toList 6 = some (.iconst 0, 1)) ∧ (fdecl cX6_freshBook.data.toList 7 = some (.iconst 2, 1)) ∧ (fdecl cX6_freshBook.data.toList 8 = some (.invokestatic 41, 3)) ∧ (fdecl cX6_freshBook.data.toList 11 = some (.invokevirtual 63, 3)) ∧ (fdecl cX6_freshBook.data.toList 14 = some (.ifCond .ne 5, 3)) ∧ (fdecl cX6_freshBook.data.toList 17 = some (.iconst 0, 1)) ∧ (fdecl cX6_freshBook.data.toList 18 = some (.ireturn, 1)) ∧ (fdecl cX6_freshBook.data.toList 19 = some (.aload_n 0, 1)) ∧ (fdecl cX6_freshBook.data.toList 20 = some (.getfield 11, 3)) ∧ (fdecl cX6_freshBook.data.toList 23 = some (.iload_n 1, 1)) ∧ (fdecl cX6_freshBook.data.toList 24 = some (.aaload, 1)) ∧ (fdecl cX6_freshBook.data.toList 25 = some (.iconst 0, 1)) := by decide +kernel
theorem dX6_freshBook_0 : decode cX6_freshBook 0 = .ok (.aload_n 0, 1) := fx_ok0 eX6_freshBook_0.1
theorem dX6_freshBook_1 : decode cX6_freshBook 1 = .ok (.iload_n 1, 1) := fx_ok0 eX6_freshBook_0.2.1
theorem dX6_freshBook_2 : decode cX6_freshBook 2 = .ok (.invokestatic 60, 3) := fx_ok0 eX6_freshBook_0.2.2.1
theorem dX6_freshBook_5 : decode cX6_freshBook 5 = .ok (.iload_n 2, 1) := fx_ok0 eX6_freshBook_0.2.2.2.1
theorem dX6_freshBook_6 : decode cX6_freshBook 6 = .ok (.iconst 0, 1) := fx_ok0 eX6_freshBook_0.2.2.2.2.1
theorem dX6_freshBook_7 : decode cX6_freshBook 7 = .ok (.iconst 2, 1) := fx_ok0 eX6_freshBook_0.2.2.2.2.2.1
theorem dX6_freshBook_8 : decode cX6_freshBook 8 = .ok (.invokestatic 41, 3) := fx_ok0 eX6_freshBook_0.2.2.2.2.2.2.1
theorem dX6_freshBook_11 : decode cX6_freshBook 11 = .ok (.invokevirtual 63, 3) := fx_ok0 eX6_freshBook_0.2.2.2.2.2.2.2.1
theorem dX6_freshBook_14 : decode cX6_freshBook 14 = .ok (.ifCond .ne 5, 3) := fx_ok0 eX6_freshBook_0.2.2.2.2.2.2.2.2.1
theorem dX6_freshBook_17 : decode cX6_freshBook 17 = .ok (.iconst 0, 1) := fx_ok0 eX6_freshBook_0.2.2.2.2.2.2.2.2.2.1
theorem dX6_freshBook_18 : decode cX6_freshBook 18 = .ok (.ireturn, 1) := fx_ok0 eX6_freshBook_0.2.2.2.2.2.2.2.2.2.2.1
theorem dX6_freshBook_19 : decode cX6_freshBook 19 = .ok (.aload_n 0, 1) := fx_ok0 eX6_freshBook_0.2.2.2.2.2.2.2.2.2.2.2.1
theorem dX6_freshBook_20 : decode cX6_freshBook 20 = .ok (.getfield 11, 3) := fx_ok0 eX6_freshBook_0.2.2.2.2.2.2.2.2.2.2.2.2.1
theorem dX6_freshBook_23 : decode cX6_freshBook 23 = .ok (.iload_n 1, 1) := fx_ok0 eX6_freshBook_0.2.2.2.2.2.2.2.2.2.2.2.2.2.1
theorem dX6_freshBook_24 : decode cX6_freshBook 24 = .ok (.aaload, 1) := fx_ok0 eX6_freshBook_0.2.2.2.2.2.2.2.2.2.2.2.2.2.2.1
theorem dX6_freshBook_25 : decode cX6_freshBook 25 = .ok (.iconst 0, 1) := fx_ok0 eX6_freshBook_0.2.2.2.2.2.2.2.2.2.2.2.2.2.2.2
theorem eX6_freshBook_26 : (fdecl cX6_freshBook.data.toList 26 = some (.bipush 99, 2)) ∧ (fdecl cX6_freshBook.data.toList 28 = some (.invokevirtual 67, 3)) ∧ (fdecl cX6_freshBook.data.toList 31 = some (.istore_n 3, 1)) ∧ (fdecl cX6_freshBook.data.toList 32 = some (.aload_n 0, 1)) ∧ (fdecl cX6_freshBook.data.toList 33 = some (.getfield 11, 3)) ∧ (fdecl cX6_freshBook.data.toList 36 = some (.iload_n 1, 1)) ∧ (fdecl cX6_freshBook.data.toList 37 = some (.new 9, 3)) ∧ (fdecl cX6_freshBook.data.toList 40 = some (.dup, 1)) ∧ (fdecl cX6_freshBook.data.toList 41 = some (.iload_n 2, 1)) ∧ (fdecl cX6_freshBook.data.toList 42 = some (.invokespecial 35, 3)) ∧ (fdecl cX6_freshBook.data.toList 45 = some (.aastore, 1)) ∧ (fdecl cX6_freshBook.data.toList 46 = some (.aload_n 0, 1)) ∧ (fdecl cX6_freshBook.data.toList 47 = some (.iload_n 3, 1)) ∧ (fdecl cX6_freshBook.data.toList 48 = some (.invokevirtual 71, 3)) ∧ (fdecl cX6_freshBook.data.toList 51 = some (.ireturn, 1)) := by decide +kernel
theorem dX6_freshBook_26 : decode cX6_freshBook 26 = .ok (.bipush 99, 2) := fx_ok0 eX6_freshBook_26.1
theorem dX6_freshBook_28 : decode cX6_freshBook 28 = .ok (.invokevirtual 67, 3) := fx_ok0 eX6_freshBook_26.2.1
theorem dX6_freshBook_31 : decode cX6_freshBook 31 = .ok (.istore_n 3, 1) := fx_ok0 eX6_freshBook_26.2.2.1
theorem dX6_freshBook_32 : decode cX6_freshBook 32 = .ok (.aload_n 0, 1) := fx_ok0 eX6_freshBook_26.2.2.2.1
theorem dX6_freshBook_33 : decode cX6_freshBook 33 = .ok (.getfield 11, 3) := fx_ok0 eX6_freshBook_26.2.2.2.2.1
theorem dX6_freshBook_36 : decode cX6_freshBook 36 = .ok (.iload_n 1, 1) := fx_ok0 eX6_freshBook_26.2.2.2.2.2.1
theorem dX6_freshBook_37 : decode cX6_freshBook 37 = .ok (.new 9, 3) := fx_ok0 eX6_freshBook_26.2.2.2.2.2.2.1
theorem dX6_freshBook_40 : decode cX6_freshBook 40 = .ok (.dup, 1) := fx_ok0 eX6_freshBook_26.2.2.2.2.2.2.2.1
theorem dX6_freshBook_41 : decode cX6_freshBook 41 = .ok (.iload_n 2, 1) := fx_ok0 eX6_freshBook_26.2.2.2.2.2.2.2.2.1
theorem dX6_freshBook_42 : decode cX6_freshBook 42 = .ok (.invokespecial 35, 3) := fx_ok0 eX6_freshBook_26.2.2.2.2.2.2.2.2.2.1
theorem dX6_freshBook_45 : decode cX6_freshBook 45 = .ok (.aastore, 1) := fx_ok0 eX6_freshBook_26.2.2.2.2.2.2.2.2.2.2.1
theorem dX6_freshBook_46 : decode cX6_freshBook 46 = .ok (.aload_n 0, 1) := fx_ok0 eX6_freshBook_26.2.2.2.2.2.2.2.2.2.2.2.1
theorem dX6_freshBook_47 : decode cX6_freshBook 47 = .ok (.iload_n 3, 1) := fx_ok0 eX6_freshBook_26.2.2.2.2.2.2.2.2.2.2.2.2.1
theorem dX6_freshBook_48 : decode cX6_freshBook 48 = .ok (.invokevirtual 71, 3) := fx_ok0 eX6_freshBook_26.2.2.2.2.2.2.2.2.2.2.2.2.2.1
theorem dX6_freshBook_51 : decode cX6_freshBook 51 = .ok (.ireturn, 1) := fx_ok0 eX6_freshBook_26.2.2.2.2.2.2.2.2.2.2.2.2.2.2
theorem eX6_built_0 : (fdecl cX6_built.data.toList 0 = some (.aload_n 0, 1)) ∧ (fdecl cX6_built.data.toList 1 = some (.iload_n 1, 1)) ∧ (fdecl cX6_built.data.toList 2 = some (.iconst 4, 1)) ∧ (fdecl cX6_built.data.toList 3 = some (.if_icmp .ge 10, 3)) ∧ (fdecl cX6_built.data.toList 6 = some (.aload_n 0, 1)) ∧ (fdecl cX6_built.data.toList 7 = some (.getfield 75, 3)) ∧ (fdecl cX6_built.data.toList 10 = some (.goto 6, 3)) ∧ (fdecl cX6_built.data.toList 13 = some (.iload_n 1, 1)) ∧ (fdecl cX6_built.data.toList 14 = some (.iconst 4, 1)) ∧ (fdecl cX6_built.data.toList 15 = some (.isub, 1)) ∧ (fdecl cX6_built.data.toList 16 = some (.iconst 0, 1)) ∧ (fdecl cX6_built.data.toList 17 = some (.bipush 99, 2)) ∧ (fdecl cX6_built.data.toList 19 = some (.invokevirtual 78, 3)) ∧ (fdecl cX6_built.data.toList 22 = some (.areturn, 1)) := by decide +kernel
theorem dX6_built_0 : decode cX6_built 0 = .ok (.aload_n 0, 1) := fx_ok0 eX6_built_0.1
theorem dX6_built_1 : decode cX6_built 1 = .ok (.iload_n 1, 1) := fx_ok0 eX6_built_0.2.1
theorem dX6_built_2 : decode cX6_built 2 = .ok (.iconst 4, 1) := fx_ok0 eX6_built_0.2.2.1
theorem dX6_built_3 : decode cX6_built 3 = .ok (.if_icmp .ge 10, 3) := fx_ok0 eX6_built_0.2.2.2.1
theorem dX6_built_6 : decode cX6_built 6 = .ok (.aload_n 0, 1) := fx_ok0 eX6_built_0.2.2.2.2.1
theorem dX6_built_7 : decode cX6_built 7 = .ok (.getfield 75, 3) := fx_ok0 eX6_built_0.2.2.2.2.2.1
theorem dX6_built_10 : decode cX6_built 10 = .ok (.goto 6, 3) := fx_ok0 eX6_built_0.2.2.2.2.2.2.1
theorem dX6_built_13 : decode cX6_built 13 = .ok (.iload_n 1, 1) := fx_ok0 eX6_built_0.2.2.2.2.2.2.2.1
theorem dX6_built_14 : decode cX6_built 14 = .ok (.iconst 4, 1) := fx_ok0 eX6_built_0.2.2.2.2.2.2.2.2.1
theorem dX6_built_15 : decode cX6_built 15 = .ok (.isub, 1) := fx_ok0 eX6_built_0.2.2.2.2.2.2.2.2.2.1
theorem dX6_built_16 : decode cX6_built 16 = .ok (.iconst 0, 1) := fx_ok0 eX6_built_0.2.2.2.2.2.2.2.2.2.2.1
theorem dX6_built_17 : decode cX6_built 17 = .ok (.bipush 99, 2) := fx_ok0 eX6_built_0.2.2.2.2.2.2.2.2.2.2.2.1
theorem dX6_built_19 : decode cX6_built 19 = .ok (.invokevirtual 78, 3) := fx_ok0 eX6_built_0.2.2.2.2.2.2.2.2.2.2.2.2.1
theorem dX6_built_22 : decode cX6_built 22 = .ok (.areturn, 1) := fx_ok0 eX6_built_0.2.2.2.2.2.2.2.2.2.2.2.2.2
theorem eX6_buildBook_0 : (fdecl cX6_buildBook.data.toList 0 = some (.aload_n 0, 1)) ∧ (fdecl cX6_buildBook.data.toList 1 = some (.iload_n 1, 1)) ∧ (fdecl cX6_buildBook.data.toList 2 = some (.invokestatic 60, 3)) ∧ (fdecl cX6_buildBook.data.toList 5 = some (.ifCond .eq 14, 3)) ∧ (fdecl cX6_buildBook.data.toList 8 = some (.iload_n 2, 1)) ∧ (fdecl cX6_buildBook.data.toList 9 = some (.invokestatic 60, 3)) ∧ (fdecl cX6_buildBook.data.toList 12 = some (.ifCond .eq 7, 3)) ∧ (fdecl cX6_buildBook.data.toList 15 = some (.iconst 1, 1)) ∧ (fdecl cX6_buildBook.data.toList 16 = some (.goto 4, 3)) ∧ (fdecl cX6_buildBook.data.toList 19 = some (.iconst 0, 1)) ∧ (fdecl cX6_buildBook.data.toList 20 = some (.iload_n 3, 1)) ∧ (fdecl cX6_buildBook.data.toList 21 = some (.iconst 0, 1)) ∧ (fdecl cX6_buildBook.data.toList 22 = some (.bipush 6, 2)) ∧ (fdecl cX6_buildBook.data.toList 24 = some (.invokestatic 41, 3)) ∧ (fdecl cX6_buildBook.data.toList 27 = some (.invokevirtual 63, 3)) ∧ (fdecl cX6_buildBook.data.toList 30 = some (.ifCond .ne 5, 3)) := by decide +kernel
theorem dX6_buildBook_0 : decode cX6_buildBook 0 = .ok (.aload_n 0, 1) := fx_ok0 eX6_buildBook_0.1
theorem dX6_buildBook_1 : decode cX6_buildBook 1 = .ok (.iload_n 1, 1) := fx_ok0 eX6_buildBook_0.2.1
theorem dX6_buildBook_2 : decode cX6_buildBook 2 = .ok (.invokestatic 60, 3) := fx_ok0 eX6_buildBook_0.2.2.1
theorem dX6_buildBook_5 : decode cX6_buildBook 5 = .ok (.ifCond .eq 14, 3) := fx_ok0 eX6_buildBook_0.2.2.2.1
theorem dX6_buildBook_8 : decode cX6_buildBook 8 = .ok (.iload_n 2, 1) := fx_ok0 eX6_buildBook_0.2.2.2.2.1
theorem dX6_buildBook_9 : decode cX6_buildBook 9 = .ok (.invokestatic 60, 3) := fx_ok0 eX6_buildBook_0.2.2.2.2.2.1
theorem dX6_buildBook_12 : decode cX6_buildBook 12 = .ok (.ifCond .eq 7, 3) := fx_ok0 eX6_buildBook_0.2.2.2.2.2.2.1
theorem dX6_buildBook_15 : decode cX6_buildBook 15 = .ok (.iconst 1, 1) := fx_ok0 eX6_buildBook_0.2.2.2.2.2.2.2.1
theorem dX6_buildBook_16 : decode cX6_buildBook 16 = .ok (.goto 4, 3) := fx_ok0 eX6_buildBook_0.2.2.2.2.2.2.2.2.1
theorem dX6_buildBook_19 : decode cX6_buildBook 19 = .ok (.iconst 0, 1) := fx_ok0 eX6_buildBook_0.2.2.2.2.2.2.2.2.2.1
theorem dX6_buildBook_20 : decode cX6_buildBook 20 = .ok (.iload_n 3, 1) := fx_ok0 eX6_buildBook_0.2.2.2.2.2.2.2.2.2.2.1
theorem dX6_buildBook_21 : decode cX6_buildBook 21 = .ok (.iconst 0, 1) := fx_ok0 eX6_buildBook_0.2.2.2.2.2.2.2.2.2.2.2.1
theorem dX6_buildBook_22 : decode cX6_buildBook 22 = .ok (.bipush 6, 2) := fx_ok0 eX6_buildBook_0.2.2.2.2.2.2.2.2.2.2.2.2.1
theorem dX6_buildBook_24 : decode cX6_buildBook 24 = .ok (.invokestatic 41, 3) := fx_ok0 eX6_buildBook_0.2.2.2.2.2.2.2.2.2.2.2.2.2.1
theorem dX6_buildBook_27 : decode cX6_buildBook 27 = .ok (.invokevirtual 63, 3) := fx_ok0 eX6_buildBook_0.2.2.2.2.2.2.2.2.2.2.2.2.2.2.1
theorem dX6_buildBook_30 : decode cX6_buildBook 30 = .ok (.ifCond .ne 5, 3) := fx_ok0 eX6_buildBook_0.2.2.2.2.2.2.2.2.2.2.2.2.2.2.2
theorem eX6_buildBook_33 : (fdecl cX6_buildBook.data.toList 33 = some (.iconst 0, 1)) ∧ (fdecl cX6_buildBook.data.toList 34 = some (.ireturn, 1)) ∧ (fdecl cX6_buildBook.data.toList 35 = some (.aload_n 0, 1)) ∧ (fdecl cX6_buildBook.data.toList 36 = some (.getfield 11, 3)) ∧ (fdecl cX6_buildBook.data.toList 39 = some (.iload_n 1, 1)) ∧ (fdecl cX6_buildBook.data.toList 40 = some (.aload_n 0, 1)) ∧ (fdecl cX6_buildBook.data.toList 41 = some (.getfield 11, 3)) ∧ (fdecl cX6_buildBook.data.toList 44 = some (.iload_n 2, 1)) ∧ (fdecl cX6_buildBook.data.toList 45 = some (.aaload, 1)) ∧ (fdecl cX6_buildBook.data.toList 46 = some (.iload_n 3, 1)) ∧ (fdecl cX6_buildBook.data.toList 47 = some (.invokestatic 82, 3)) ∧ (fdecl cX6_buildBook.data.toList 50 = some (.aastore, 1)) ∧ (fdecl cX6_buildBook.data.toList 51 = some (.aload_n 0, 1)) ∧ (fdecl cX6_buildBook.data.toList 52 = some (.aload_n 0, 1)) ∧ (fdecl cX6_buildBook.data.toList 53 = some (.getfield 11, 3)) ∧ (fdecl cX6_buildBook.data.toList 56 = some (.iload_n 1, 1)) := by decide +kernel
theorem dX6_buildBook_33 : decode cX6_buildBook 33 = .ok (.iconst 0, 1) := fx_ok0 eX6_buildBook_33.1
theorem dX6_buildBook_34 : decode cX6_buildBook 34 = .ok (.ireturn, 1) := fx_ok0 eX6_buildBook_33.2.1
theorem dX6_buildBook_35 : decode cX6_buildBook 35 = .ok (.aload_n 0, 1) := fx_ok0 eX6_buildBook_33.2.2.1
theorem dX6_buildBook_36 : decode cX6_buildBook 36 = .ok (.getfield 11, 3) := fx_ok0 eX6_buildBook_33.2.2.2.1
theorem dX6_buildBook_39 : decode cX6_buildBook 39 = .ok (.iload_n 1, 1) := fx_ok0 eX6_buildBook_33.2.2.2.2.1
theorem dX6_buildBook_40 : decode cX6_buildBook 40 = .ok (.aload_n 0, 1) := fx_ok0 eX6_buildBook_33.2.2.2.2.2.1
theorem dX6_buildBook_41 : decode cX6_buildBook 41 = .ok (.getfield 11, 3) := fx_ok0 eX6_buildBook_33.2.2.2.2.2.2.1
theorem dX6_buildBook_44 : decode cX6_buildBook 44 = .ok (.iload_n 2, 1) := fx_ok0 eX6_buildBook_33.2.2.2.2.2.2.2.1
theorem dX6_buildBook_45 : decode cX6_buildBook 45 = .ok (.aaload, 1) := fx_ok0 eX6_buildBook_33.2.2.2.2.2.2.2.2.1
theorem dX6_buildBook_46 : decode cX6_buildBook 46 = .ok (.iload_n 3, 1) := fx_ok0 eX6_buildBook_33.2.2.2.2.2.2.2.2.2.1
theorem dX6_buildBook_47 : decode cX6_buildBook 47 = .ok (.invokestatic 82, 3) := fx_ok0 eX6_buildBook_33.2.2.2.2.2.2.2.2.2.2.1
theorem dX6_buildBook_50 : decode cX6_buildBook 50 = .ok (.aastore, 1) := fx_ok0 eX6_buildBook_33.2.2.2.2.2.2.2.2.2.2.2.1
theorem dX6_buildBook_51 : decode cX6_buildBook 51 = .ok (.aload_n 0, 1) := fx_ok0 eX6_buildBook_33.2.2.2.2.2.2.2.2.2.2.2.2.1
theorem dX6_buildBook_52 : decode cX6_buildBook 52 = .ok (.aload_n 0, 1) := fx_ok0 eX6_buildBook_33.2.2.2.2.2.2.2.2.2.2.2.2.2.1
theorem dX6_buildBook_53 : decode cX6_buildBook 53 = .ok (.getfield 11, 3) := fx_ok0 eX6_buildBook_33.2.2.2.2.2.2.2.2.2.2.2.2.2.2.1
theorem dX6_buildBook_56 : decode cX6_buildBook 56 = .ok (.iload_n 1, 1) := fx_ok0 eX6_buildBook_33.2.2.2.2.2.2.2.2.2.2.2.2.2.2.2
theorem eX6_buildBook_57 : (fdecl cX6_buildBook.data.toList 57 = some (.aaload, 1)) ∧ (fdecl cX6_buildBook.data.toList 58 = some (.iconst 0, 1)) ∧ (fdecl cX6_buildBook.data.toList 59 = some (.bipush 99, 2)) ∧ (fdecl cX6_buildBook.data.toList 61 = some (.invokevirtual 67, 3)) ∧ (fdecl cX6_buildBook.data.toList 64 = some (.invokevirtual 71, 3)) ∧ (fdecl cX6_buildBook.data.toList 67 = some (.ireturn, 1)) := by decide +kernel
theorem dX6_buildBook_57 : decode cX6_buildBook 57 = .ok (.aaload, 1) := fx_ok0 eX6_buildBook_57.1
theorem dX6_buildBook_58 : decode cX6_buildBook 58 = .ok (.iconst 0, 1) := fx_ok0 eX6_buildBook_57.2.1
theorem dX6_buildBook_59 : decode cX6_buildBook 59 = .ok (.bipush 99, 2) := fx_ok0 eX6_buildBook_57.2.2.1
theorem dX6_buildBook_61 : decode cX6_buildBook 61 = .ok (.invokevirtual 67, 3) := fx_ok0 eX6_buildBook_57.2.2.2.1
theorem dX6_buildBook_64 : decode cX6_buildBook 64 = .ok (.invokevirtual 71, 3) := fx_ok0 eX6_buildBook_57.2.2.2.2.1
theorem dX6_buildBook_67 : decode cX6_buildBook 67 = .ok (.ireturn, 1) := fx_ok0 eX6_buildBook_57.2.2.2.2.2
def fAX6_splitBook_0 : List UInt8 := [42, 27, 184, 0, 60, 153, 0, 14, 29, 184, 0, 60, 153, 0, 7, 4, 167, 0, 4, 3, 28, 184, 0, 86, 182, 0, 63, 154, 0, 5, 3, 172, 27, 29, 160, 0, 8, 42, 182, 0, 89, 172, 42, 180, 0, 11, 27, 50, 58, 4, 25, 4, 28, 182, 0, 93, 54, 5, 42, 180, 0, 11, 29, 25]
def fAX6_splitBook_1 : List UInt8 := [4, 25, 4, 180, 0, 75, 21, 5, 16, 99, 182, 0, 78, 83, 42, 25, 4, 182, 0, 96, 3, 54, 6, 21, 5, 54, 7, 21, 7, 16, 99, 163, 0, 28, 21, 6, 42, 25, 4, 25, 4, 21, 7, 182, 0, 100, 2, 182, 0, 103, 96, 54, 6, 132, 7, 1, 167, 255, 227, 42, 21, 6, 182, 0]
def fAX6_splitBook_2 : List UInt8 := [71, 172]
def fTX6_splitBook_2 : List UInt8 := fAX6_splitBook_2
def fTX6_splitBook_1 : List UInt8 := fAX6_splitBook_1 ++ fTX6_splitBook_2
def fTX6_splitBook_0 : List UInt8 := fAX6_splitBook_0 ++ fTX6_splitBook_1
theorem fDX6_splitBook_0 : cX6_splitBook.data.toList.drop 0 = fTX6_splitBook_0 := eq_of_beq (by decide +kernel)
theorem fDX6_splitBook_1 : cX6_splitBook.data.toList.drop 64 = fTX6_splitBook_1 := fx_nx (d := 0) (n := 64) (a := fAX6_splitBook_0) fDX6_splitBook_0 rfl
theorem fDX6_splitBook_2 : cX6_splitBook.data.toList.drop 128 = fTX6_splitBook_2 := fx_nx (d := 64) (n := 64) (a := fAX6_splitBook_1) fDX6_splitBook_1 rfl
theorem eX6_splitBook_0 : (fdecl fTX6_splitBook_0 0 = some (.aload_n 0, 1)) ∧ (fdecl fTX6_splitBook_0 1 = some (.iload_n 1, 1)) ∧ (fdecl fTX6_splitBook_0 2 = some (.invokestatic 60, 3)) ∧ (fdecl fTX6_splitBook_0 5 = some (.ifCond .eq 14, 3)) ∧ (fdecl fTX6_splitBook_0 8 = some (.iload_n 3, 1)) ∧ (fdecl fTX6_splitBook_0 9 = some (.invokestatic 60, 3)) ∧ (fdecl fTX6_splitBook_0 12 = some (.ifCond .eq 7, 3)) ∧ (fdecl fTX6_splitBook_0 15 = some (.iconst 1, 1)) ∧ (fdecl fTX6_splitBook_0 16 = some (.goto 4, 3)) ∧ (fdecl fTX6_splitBook_0 19 = some (.iconst 0, 1)) ∧ (fdecl fTX6_splitBook_0 20 = some (.iload_n 2, 1)) ∧ (fdecl fTX6_splitBook_0 21 = some (.invokestatic 86, 3)) ∧ (fdecl fTX6_splitBook_0 24 = some (.invokevirtual 63, 3)) ∧ (fdecl fTX6_splitBook_0 27 = some (.ifCond .ne 5, 3)) ∧ (fdecl fTX6_splitBook_0 30 = some (.iconst 0, 1)) ∧ (fdecl fTX6_splitBook_0 31 = some (.ireturn, 1)) := by decide +kernel
theorem dX6_splitBook_0 : decode cX6_splitBook 0 = .ok (.aload_n 0, 1) := fx_ok (d := 0) (i := 0) fDX6_splitBook_0 eX6_splitBook_0.1
theorem dX6_splitBook_1 : decode cX6_splitBook 1 = .ok (.iload_n 1, 1) := fx_ok (d := 0) (i := 1) fDX6_splitBook_0 eX6_splitBook_0.2.1
theorem dX6_splitBook_2 : decode cX6_splitBook 2 = .ok (.invokestatic 60, 3) := fx_ok (d := 0) (i := 2) fDX6_splitBook_0 eX6_splitBook_0.2.2.1
theorem dX6_splitBook_5 : decode cX6_splitBook 5 = .ok (.ifCond .eq 14, 3) := fx_ok (d := 0) (i := 5) fDX6_splitBook_0 eX6_splitBook_0.2.2.2.1
theorem dX6_splitBook_8 : decode cX6_splitBook 8 = .ok (.iload_n 3, 1) := fx_ok (d := 0) (i := 8) fDX6_splitBook_0 eX6_splitBook_0.2.2.2.2.1
theorem dX6_splitBook_9 : decode cX6_splitBook 9 = .ok (.invokestatic 60, 3) := fx_ok (d := 0) (i := 9) fDX6_splitBook_0 eX6_splitBook_0.2.2.2.2.2.1
theorem dX6_splitBook_12 : decode cX6_splitBook 12 = .ok (.ifCond .eq 7, 3) := fx_ok (d := 0) (i := 12) fDX6_splitBook_0 eX6_splitBook_0.2.2.2.2.2.2.1
theorem dX6_splitBook_15 : decode cX6_splitBook 15 = .ok (.iconst 1, 1) := fx_ok (d := 0) (i := 15) fDX6_splitBook_0 eX6_splitBook_0.2.2.2.2.2.2.2.1
theorem dX6_splitBook_16 : decode cX6_splitBook 16 = .ok (.goto 4, 3) := fx_ok (d := 0) (i := 16) fDX6_splitBook_0 eX6_splitBook_0.2.2.2.2.2.2.2.2.1
theorem dX6_splitBook_19 : decode cX6_splitBook 19 = .ok (.iconst 0, 1) := fx_ok (d := 0) (i := 19) fDX6_splitBook_0 eX6_splitBook_0.2.2.2.2.2.2.2.2.2.1
theorem dX6_splitBook_20 : decode cX6_splitBook 20 = .ok (.iload_n 2, 1) := fx_ok (d := 0) (i := 20) fDX6_splitBook_0 eX6_splitBook_0.2.2.2.2.2.2.2.2.2.2.1
theorem dX6_splitBook_21 : decode cX6_splitBook 21 = .ok (.invokestatic 86, 3) := fx_ok (d := 0) (i := 21) fDX6_splitBook_0 eX6_splitBook_0.2.2.2.2.2.2.2.2.2.2.2.1
theorem dX6_splitBook_24 : decode cX6_splitBook 24 = .ok (.invokevirtual 63, 3) := fx_ok (d := 0) (i := 24) fDX6_splitBook_0 eX6_splitBook_0.2.2.2.2.2.2.2.2.2.2.2.2.1
theorem dX6_splitBook_27 : decode cX6_splitBook 27 = .ok (.ifCond .ne 5, 3) := fx_ok (d := 0) (i := 27) fDX6_splitBook_0 eX6_splitBook_0.2.2.2.2.2.2.2.2.2.2.2.2.2.1
theorem dX6_splitBook_30 : decode cX6_splitBook 30 = .ok (.iconst 0, 1) := fx_ok (d := 0) (i := 30) fDX6_splitBook_0 eX6_splitBook_0.2.2.2.2.2.2.2.2.2.2.2.2.2.2.1
theorem dX6_splitBook_31 : decode cX6_splitBook 31 = .ok (.ireturn, 1) := fx_ok (d := 0) (i := 31) fDX6_splitBook_0 eX6_splitBook_0.2.2.2.2.2.2.2.2.2.2.2.2.2.2.2
theorem eX6_splitBook_32 : (fdecl fTX6_splitBook_0 32 = some (.iload_n 1, 1)) ∧ (fdecl fTX6_splitBook_0 33 = some (.iload_n 3, 1)) ∧ (fdecl fTX6_splitBook_0 34 = some (.if_icmp .ne 8, 3)) ∧ (fdecl fTX6_splitBook_0 37 = some (.aload_n 0, 1)) ∧ (fdecl fTX6_splitBook_0 38 = some (.invokevirtual 89, 3)) ∧ (fdecl fTX6_splitBook_0 41 = some (.ireturn, 1)) ∧ (fdecl fTX6_splitBook_0 42 = some (.aload_n 0, 1)) ∧ (fdecl fTX6_splitBook_0 43 = some (.getfield 11, 3)) ∧ (fdecl fTX6_splitBook_0 46 = some (.iload_n 1, 1)) ∧ (fdecl fTX6_splitBook_0 47 = some (.aaload, 1)) ∧ (fdecl fTX6_splitBook_0 48 = some (.astore 4, 2)) ∧ (fdecl fTX6_splitBook_0 50 = some (.aload 4, 2)) ∧ (fdecl fTX6_splitBook_0 52 = some (.iload_n 2, 1)) ∧ (fdecl fTX6_splitBook_0 53 = some (.invokevirtual 93, 3)) ∧ (fdecl fTX6_splitBook_0 56 = some (.istore 5, 2)) ∧ (fdecl fTX6_splitBook_0 58 = some (.aload_n 0, 1)) := by decide +kernel
theorem dX6_splitBook_32 : decode cX6_splitBook 32 = .ok (.iload_n 1, 1) := fx_ok (d := 0) (i := 32) fDX6_splitBook_0 eX6_splitBook_32.1
theorem dX6_splitBook_33 : decode cX6_splitBook 33 = .ok (.iload_n 3, 1) := fx_ok (d := 0) (i := 33) fDX6_splitBook_0 eX6_splitBook_32.2.1
theorem dX6_splitBook_34 : decode cX6_splitBook 34 = .ok (.if_icmp .ne 8, 3) := fx_ok (d := 0) (i := 34) fDX6_splitBook_0 eX6_splitBook_32.2.2.1
theorem dX6_splitBook_37 : decode cX6_splitBook 37 = .ok (.aload_n 0, 1) := fx_ok (d := 0) (i := 37) fDX6_splitBook_0 eX6_splitBook_32.2.2.2.1
theorem dX6_splitBook_38 : decode cX6_splitBook 38 = .ok (.invokevirtual 89, 3) := fx_ok (d := 0) (i := 38) fDX6_splitBook_0 eX6_splitBook_32.2.2.2.2.1
theorem dX6_splitBook_41 : decode cX6_splitBook 41 = .ok (.ireturn, 1) := fx_ok (d := 0) (i := 41) fDX6_splitBook_0 eX6_splitBook_32.2.2.2.2.2.1
theorem dX6_splitBook_42 : decode cX6_splitBook 42 = .ok (.aload_n 0, 1) := fx_ok (d := 0) (i := 42) fDX6_splitBook_0 eX6_splitBook_32.2.2.2.2.2.2.1
theorem dX6_splitBook_43 : decode cX6_splitBook 43 = .ok (.getfield 11, 3) := fx_ok (d := 0) (i := 43) fDX6_splitBook_0 eX6_splitBook_32.2.2.2.2.2.2.2.1
theorem dX6_splitBook_46 : decode cX6_splitBook 46 = .ok (.iload_n 1, 1) := fx_ok (d := 0) (i := 46) fDX6_splitBook_0 eX6_splitBook_32.2.2.2.2.2.2.2.2.1
theorem dX6_splitBook_47 : decode cX6_splitBook 47 = .ok (.aaload, 1) := fx_ok (d := 0) (i := 47) fDX6_splitBook_0 eX6_splitBook_32.2.2.2.2.2.2.2.2.2.1
theorem dX6_splitBook_48 : decode cX6_splitBook 48 = .ok (.astore 4, 2) := fx_ok (d := 0) (i := 48) fDX6_splitBook_0 eX6_splitBook_32.2.2.2.2.2.2.2.2.2.2.1
theorem dX6_splitBook_50 : decode cX6_splitBook 50 = .ok (.aload 4, 2) := fx_ok (d := 0) (i := 50) fDX6_splitBook_0 eX6_splitBook_32.2.2.2.2.2.2.2.2.2.2.2.1
theorem dX6_splitBook_52 : decode cX6_splitBook 52 = .ok (.iload_n 2, 1) := fx_ok (d := 0) (i := 52) fDX6_splitBook_0 eX6_splitBook_32.2.2.2.2.2.2.2.2.2.2.2.2.1
theorem dX6_splitBook_53 : decode cX6_splitBook 53 = .ok (.invokevirtual 93, 3) := fx_ok (d := 0) (i := 53) fDX6_splitBook_0 eX6_splitBook_32.2.2.2.2.2.2.2.2.2.2.2.2.2.1
theorem dX6_splitBook_56 : decode cX6_splitBook 56 = .ok (.istore 5, 2) := fx_ok (d := 0) (i := 56) fDX6_splitBook_0 eX6_splitBook_32.2.2.2.2.2.2.2.2.2.2.2.2.2.2.1
theorem dX6_splitBook_58 : decode cX6_splitBook 58 = .ok (.aload_n 0, 1) := fx_ok (d := 0) (i := 58) fDX6_splitBook_0 eX6_splitBook_32.2.2.2.2.2.2.2.2.2.2.2.2.2.2.2
theorem eX6_splitBook_59 : (fdecl fTX6_splitBook_0 59 = some (.getfield 11, 3)) ∧ (fdecl fTX6_splitBook_0 62 = some (.iload_n 3, 1)) ∧ (fdecl fTX6_splitBook_0 63 = some (.aload 4, 2)) ∧ (fdecl fTX6_splitBook_1 1 = some (.aload 4, 2)) ∧ (fdecl fTX6_splitBook_1 3 = some (.getfield 75, 3)) ∧ (fdecl fTX6_splitBook_1 6 = some (.iload 5, 2)) ∧ (fdecl fTX6_splitBook_1 8 = some (.bipush 99, 2)) ∧ (fdecl fTX6_splitBook_1 10 = some (.invokevirtual 78, 3)) ∧ (fdecl fTX6_splitBook_1 13 = some (.aastore, 1)) ∧ (fdecl fTX6_splitBook_1 14 = some (.aload_n 0, 1)) ∧ (fdecl fTX6_splitBook_1 15 = some (.aload 4, 2)) ∧ (fdecl fTX6_splitBook_1 17 = some (.invokevirtual 96, 3)) ∧ (fdecl fTX6_splitBook_1 20 = some (.iconst 0, 1)) ∧ (fdecl fTX6_splitBook_1 21 = some (.istore 6, 2)) ∧ (fdecl fTX6_splitBook_1 23 = some (.iload 5, 2)) ∧ (fdecl fTX6_splitBook_1 25 = some (.istore 7, 2)) := by decide +kernel
theorem dX6_splitBook_59 : decode cX6_splitBook 59 = .ok (.getfield 11, 3) := fx_ok (d := 0) (i := 59) fDX6_splitBook_0 eX6_splitBook_59.1
theorem dX6_splitBook_62 : decode cX6_splitBook 62 = .ok (.iload_n 3, 1) := fx_ok (d := 0) (i := 62) fDX6_splitBook_0 eX6_splitBook_59.2.1
theorem dX6_splitBook_63 : decode cX6_splitBook 63 = .ok (.aload 4, 2) := fx_ok (d := 0) (i := 63) fDX6_splitBook_0 eX6_splitBook_59.2.2.1
theorem dX6_splitBook_65 : decode cX6_splitBook 65 = .ok (.aload 4, 2) := fx_ok (d := 64) (i := 1) fDX6_splitBook_1 eX6_splitBook_59.2.2.2.1
theorem dX6_splitBook_67 : decode cX6_splitBook 67 = .ok (.getfield 75, 3) := fx_ok (d := 64) (i := 3) fDX6_splitBook_1 eX6_splitBook_59.2.2.2.2.1
theorem dX6_splitBook_70 : decode cX6_splitBook 70 = .ok (.iload 5, 2) := fx_ok (d := 64) (i := 6) fDX6_splitBook_1 eX6_splitBook_59.2.2.2.2.2.1
theorem dX6_splitBook_72 : decode cX6_splitBook 72 = .ok (.bipush 99, 2) := fx_ok (d := 64) (i := 8) fDX6_splitBook_1 eX6_splitBook_59.2.2.2.2.2.2.1
theorem dX6_splitBook_74 : decode cX6_splitBook 74 = .ok (.invokevirtual 78, 3) := fx_ok (d := 64) (i := 10) fDX6_splitBook_1 eX6_splitBook_59.2.2.2.2.2.2.2.1
theorem dX6_splitBook_77 : decode cX6_splitBook 77 = .ok (.aastore, 1) := fx_ok (d := 64) (i := 13) fDX6_splitBook_1 eX6_splitBook_59.2.2.2.2.2.2.2.2.1
theorem dX6_splitBook_78 : decode cX6_splitBook 78 = .ok (.aload_n 0, 1) := fx_ok (d := 64) (i := 14) fDX6_splitBook_1 eX6_splitBook_59.2.2.2.2.2.2.2.2.2.1
theorem dX6_splitBook_79 : decode cX6_splitBook 79 = .ok (.aload 4, 2) := fx_ok (d := 64) (i := 15) fDX6_splitBook_1 eX6_splitBook_59.2.2.2.2.2.2.2.2.2.2.1
theorem dX6_splitBook_81 : decode cX6_splitBook 81 = .ok (.invokevirtual 96, 3) := fx_ok (d := 64) (i := 17) fDX6_splitBook_1 eX6_splitBook_59.2.2.2.2.2.2.2.2.2.2.2.1
theorem dX6_splitBook_84 : decode cX6_splitBook 84 = .ok (.iconst 0, 1) := fx_ok (d := 64) (i := 20) fDX6_splitBook_1 eX6_splitBook_59.2.2.2.2.2.2.2.2.2.2.2.2.1
theorem dX6_splitBook_85 : decode cX6_splitBook 85 = .ok (.istore 6, 2) := fx_ok (d := 64) (i := 21) fDX6_splitBook_1 eX6_splitBook_59.2.2.2.2.2.2.2.2.2.2.2.2.2.1
theorem dX6_splitBook_87 : decode cX6_splitBook 87 = .ok (.iload 5, 2) := fx_ok (d := 64) (i := 23) fDX6_splitBook_1 eX6_splitBook_59.2.2.2.2.2.2.2.2.2.2.2.2.2.2.1
theorem dX6_splitBook_89 : decode cX6_splitBook 89 = .ok (.istore 7, 2) := fx_ok (d := 64) (i := 25) fDX6_splitBook_1 eX6_splitBook_59.2.2.2.2.2.2.2.2.2.2.2.2.2.2.2
theorem eX6_splitBook_91 : (fdecl fTX6_splitBook_1 27 = some (.iload 7, 2)) ∧ (fdecl fTX6_splitBook_1 29 = some (.bipush 99, 2)) ∧ (fdecl fTX6_splitBook_1 31 = some (.if_icmp .gt 28, 3)) ∧ (fdecl fTX6_splitBook_1 34 = some (.iload 6, 2)) ∧ (fdecl fTX6_splitBook_1 36 = some (.aload_n 0, 1)) ∧ (fdecl fTX6_splitBook_1 37 = some (.aload 4, 2)) ∧ (fdecl fTX6_splitBook_1 39 = some (.aload 4, 2)) ∧ (fdecl fTX6_splitBook_1 41 = some (.iload 7, 2)) ∧ (fdecl fTX6_splitBook_1 43 = some (.invokevirtual 100, 3)) ∧ (fdecl fTX6_splitBook_1 46 = some (.iconst (-1), 1)) ∧ (fdecl fTX6_splitBook_1 47 = some (.invokevirtual 103, 3)) ∧ (fdecl fTX6_splitBook_1 50 = some (.iadd, 1)) ∧ (fdecl fTX6_splitBook_1 51 = some (.istore 6, 2)) ∧ (fdecl fTX6_splitBook_1 56 = some (.goto (-29), 3)) ∧ (fdecl fTX6_splitBook_1 59 = some (.aload_n 0, 1)) ∧ (fdecl fTX6_splitBook_1 60 = some (.iload 6, 2)) := by decide +kernel
theorem dX6_splitBook_91 : decode cX6_splitBook 91 = .ok (.iload 7, 2) := fx_ok (d := 64) (i := 27) fDX6_splitBook_1 eX6_splitBook_91.1
theorem dX6_splitBook_93 : decode cX6_splitBook 93 = .ok (.bipush 99, 2) := fx_ok (d := 64) (i := 29) fDX6_splitBook_1 eX6_splitBook_91.2.1
theorem dX6_splitBook_95 : decode cX6_splitBook 95 = .ok (.if_icmp .gt 28, 3) := fx_ok (d := 64) (i := 31) fDX6_splitBook_1 eX6_splitBook_91.2.2.1
theorem dX6_splitBook_98 : decode cX6_splitBook 98 = .ok (.iload 6, 2) := fx_ok (d := 64) (i := 34) fDX6_splitBook_1 eX6_splitBook_91.2.2.2.1
theorem dX6_splitBook_100 : decode cX6_splitBook 100 = .ok (.aload_n 0, 1) := fx_ok (d := 64) (i := 36) fDX6_splitBook_1 eX6_splitBook_91.2.2.2.2.1
theorem dX6_splitBook_101 : decode cX6_splitBook 101 = .ok (.aload 4, 2) := fx_ok (d := 64) (i := 37) fDX6_splitBook_1 eX6_splitBook_91.2.2.2.2.2.1
theorem dX6_splitBook_103 : decode cX6_splitBook 103 = .ok (.aload 4, 2) := fx_ok (d := 64) (i := 39) fDX6_splitBook_1 eX6_splitBook_91.2.2.2.2.2.2.1
theorem dX6_splitBook_105 : decode cX6_splitBook 105 = .ok (.iload 7, 2) := fx_ok (d := 64) (i := 41) fDX6_splitBook_1 eX6_splitBook_91.2.2.2.2.2.2.2.1
theorem dX6_splitBook_107 : decode cX6_splitBook 107 = .ok (.invokevirtual 100, 3) := fx_ok (d := 64) (i := 43) fDX6_splitBook_1 eX6_splitBook_91.2.2.2.2.2.2.2.2.1
theorem dX6_splitBook_110 : decode cX6_splitBook 110 = .ok (.iconst (-1), 1) := fx_ok (d := 64) (i := 46) fDX6_splitBook_1 eX6_splitBook_91.2.2.2.2.2.2.2.2.2.1
theorem dX6_splitBook_111 : decode cX6_splitBook 111 = .ok (.invokevirtual 103, 3) := fx_ok (d := 64) (i := 47) fDX6_splitBook_1 eX6_splitBook_91.2.2.2.2.2.2.2.2.2.2.1
theorem dX6_splitBook_114 : decode cX6_splitBook 114 = .ok (.iadd, 1) := fx_ok (d := 64) (i := 50) fDX6_splitBook_1 eX6_splitBook_91.2.2.2.2.2.2.2.2.2.2.2.1
theorem dX6_splitBook_115 : decode cX6_splitBook 115 = .ok (.istore 6, 2) := fx_ok (d := 64) (i := 51) fDX6_splitBook_1 eX6_splitBook_91.2.2.2.2.2.2.2.2.2.2.2.2.1
theorem dX6_splitBook_120 : decode cX6_splitBook 120 = .ok (.goto (-29), 3) := fx_ok (d := 64) (i := 56) fDX6_splitBook_1 eX6_splitBook_91.2.2.2.2.2.2.2.2.2.2.2.2.2.1
theorem dX6_splitBook_123 : decode cX6_splitBook 123 = .ok (.aload_n 0, 1) := fx_ok (d := 64) (i := 59) fDX6_splitBook_1 eX6_splitBook_91.2.2.2.2.2.2.2.2.2.2.2.2.2.2.1
theorem dX6_splitBook_124 : decode cX6_splitBook 124 = .ok (.iload 6, 2) := fx_ok (d := 64) (i := 60) fDX6_splitBook_1 eX6_splitBook_91.2.2.2.2.2.2.2.2.2.2.2.2.2.2.2
theorem eX6_splitBook_126 : (fdecl fTX6_splitBook_1 62 = some (.invokevirtual 71, 3)) ∧ (fdecl fTX6_splitBook_2 1 = some (.ireturn, 1)) := by decide +kernel
theorem dX6_splitBook_126 : decode cX6_splitBook 126 = .ok (.invokevirtual 71, 3) := fx_ok (d := 64) (i := 62) fDX6_splitBook_1 eX6_splitBook_126.1
theorem dX6_splitBook_129 : decode cX6_splitBook 129 = .ok (.ireturn, 1) := fx_ok (d := 128) (i := 1) fDX6_splitBook_2 eX6_splitBook_126.2
theorem dX6_splitBook_117 : decode cX6_splitBook 117 = .ok (.iinc 7 1, 3) := by decide +kernel
def fAX6_fill_0 : List UInt8 := [42, 27, 184, 0, 60, 28, 184, 0, 86, 153, 0, 36, 29, 184, 0, 86, 153, 0, 29, 21, 4, 3, 16, 100, 184, 0, 41, 153, 0, 18, 21, 5, 2, 16, 99, 184, 0, 41, 153, 0, 7, 4, 167, 0, 4, 3, 182, 0, 63, 154, 0, 5, 3, 172, 42, 42, 180, 0, 11, 27, 50, 182, 0, 96]
def fAX6_fill_1 : List UInt8 := [3, 54, 6, 3, 54, 7, 21, 7, 21, 4, 162, 0, 51, 21, 6, 42, 42, 180, 0, 11, 27, 50, 28, 21, 7, 29, 104, 96, 16, 100, 112, 21, 5, 2, 160, 0, 7, 2, 167, 0, 11, 21, 5, 21, 7, 96, 16, 100, 112, 182, 0, 103, 96, 54, 6, 132, 7, 1, 167, 255, 204, 42, 21, 6]
def fAX6_fill_2 : List UInt8 := [182, 0, 71, 172]
def fTX6_fill_2 : List UInt8 := fAX6_fill_2
def fTX6_fill_1 : List UInt8 := fAX6_fill_1 ++ fTX6_fill_2
def fTX6_fill_0 : List UInt8 := fAX6_fill_0 ++ fTX6_fill_1
theorem fDX6_fill_0 : cX6_fill.data.toList.drop 0 = fTX6_fill_0 := eq_of_beq (by decide +kernel)
theorem fDX6_fill_1 : cX6_fill.data.toList.drop 64 = fTX6_fill_1 := fx_nx (d := 0) (n := 64) (a := fAX6_fill_0) fDX6_fill_0 rfl
theorem fDX6_fill_2 : cX6_fill.data.toList.drop 128 = fTX6_fill_2 := fx_nx (d := 64) (n := 64) (a := fAX6_fill_1) fDX6_fill_1 rfl
theorem eX6_fill_0 : (fdecl fTX6_fill_0 0 = some (.aload_n 0, 1)) ∧ (fdecl fTX6_fill_0 1 = some (.iload_n 1, 1)) ∧ (fdecl fTX6_fill_0 2 = some (.invokestatic 60, 3)) ∧ (fdecl fTX6_fill_0 5 = some (.iload_n 2, 1)) ∧ (fdecl fTX6_fill_0 6 = some (.invokestatic 86, 3)) ∧ (fdecl fTX6_fill_0 9 = some (.ifCond .eq 36, 3)) ∧ (fdecl fTX6_fill_0 12 = some (.iload_n 3, 1)) ∧ (fdecl fTX6_fill_0 13 = some (.invokestatic 86, 3)) ∧ (fdecl fTX6_fill_0 16 = some (.ifCond .eq 29, 3)) ∧ (fdecl fTX6_fill_0 19 = some (.iload 4, 2)) ∧ (fdecl fTX6_fill_0 21 = some (.iconst 0, 1)) ∧ (fdecl fTX6_fill_0 22 = some (.bipush 100, 2)) ∧ (fdecl fTX6_fill_0 24 = some (.invokestatic 41, 3)) ∧ (fdecl fTX6_fill_0 27 = some (.ifCond .eq 18, 3)) ∧ (fdecl fTX6_fill_0 30 = some (.iload 5, 2)) ∧ (fdecl fTX6_fill_0 32 = some (.iconst (-1), 1)) := by decide +kernel
theorem dX6_fill_0 : decode cX6_fill 0 = .ok (.aload_n 0, 1) := fx_ok (d := 0) (i := 0) fDX6_fill_0 eX6_fill_0.1
theorem dX6_fill_1 : decode cX6_fill 1 = .ok (.iload_n 1, 1) := fx_ok (d := 0) (i := 1) fDX6_fill_0 eX6_fill_0.2.1
theorem dX6_fill_2 : decode cX6_fill 2 = .ok (.invokestatic 60, 3) := fx_ok (d := 0) (i := 2) fDX6_fill_0 eX6_fill_0.2.2.1
theorem dX6_fill_5 : decode cX6_fill 5 = .ok (.iload_n 2, 1) := fx_ok (d := 0) (i := 5) fDX6_fill_0 eX6_fill_0.2.2.2.1
theorem dX6_fill_6 : decode cX6_fill 6 = .ok (.invokestatic 86, 3) := fx_ok (d := 0) (i := 6) fDX6_fill_0 eX6_fill_0.2.2.2.2.1
theorem dX6_fill_9 : decode cX6_fill 9 = .ok (.ifCond .eq 36, 3) := fx_ok (d := 0) (i := 9) fDX6_fill_0 eX6_fill_0.2.2.2.2.2.1
theorem dX6_fill_12 : decode cX6_fill 12 = .ok (.iload_n 3, 1) := fx_ok (d := 0) (i := 12) fDX6_fill_0 eX6_fill_0.2.2.2.2.2.2.1
theorem dX6_fill_13 : decode cX6_fill 13 = .ok (.invokestatic 86, 3) := fx_ok (d := 0) (i := 13) fDX6_fill_0 eX6_fill_0.2.2.2.2.2.2.2.1
theorem dX6_fill_16 : decode cX6_fill 16 = .ok (.ifCond .eq 29, 3) := fx_ok (d := 0) (i := 16) fDX6_fill_0 eX6_fill_0.2.2.2.2.2.2.2.2.1
theorem dX6_fill_19 : decode cX6_fill 19 = .ok (.iload 4, 2) := fx_ok (d := 0) (i := 19) fDX6_fill_0 eX6_fill_0.2.2.2.2.2.2.2.2.2.1
theorem dX6_fill_21 : decode cX6_fill 21 = .ok (.iconst 0, 1) := fx_ok (d := 0) (i := 21) fDX6_fill_0 eX6_fill_0.2.2.2.2.2.2.2.2.2.2.1
theorem dX6_fill_22 : decode cX6_fill 22 = .ok (.bipush 100, 2) := fx_ok (d := 0) (i := 22) fDX6_fill_0 eX6_fill_0.2.2.2.2.2.2.2.2.2.2.2.1
theorem dX6_fill_24 : decode cX6_fill 24 = .ok (.invokestatic 41, 3) := fx_ok (d := 0) (i := 24) fDX6_fill_0 eX6_fill_0.2.2.2.2.2.2.2.2.2.2.2.2.1
theorem dX6_fill_27 : decode cX6_fill 27 = .ok (.ifCond .eq 18, 3) := fx_ok (d := 0) (i := 27) fDX6_fill_0 eX6_fill_0.2.2.2.2.2.2.2.2.2.2.2.2.2.1
theorem dX6_fill_30 : decode cX6_fill 30 = .ok (.iload 5, 2) := fx_ok (d := 0) (i := 30) fDX6_fill_0 eX6_fill_0.2.2.2.2.2.2.2.2.2.2.2.2.2.2.1
theorem dX6_fill_32 : decode cX6_fill 32 = .ok (.iconst (-1), 1) := fx_ok (d := 0) (i := 32) fDX6_fill_0 eX6_fill_0.2.2.2.2.2.2.2.2.2.2.2.2.2.2.2
theorem eX6_fill_33 : (fdecl fTX6_fill_0 33 = some (.bipush 99, 2)) ∧ (fdecl fTX6_fill_0 35 = some (.invokestatic 41, 3)) ∧ (fdecl fTX6_fill_0 38 = some (.ifCond .eq 7, 3)) ∧ (fdecl fTX6_fill_0 41 = some (.iconst 1, 1)) ∧ (fdecl fTX6_fill_0 42 = some (.goto 4, 3)) ∧ (fdecl fTX6_fill_0 45 = some (.iconst 0, 1)) ∧ (fdecl fTX6_fill_0 46 = some (.invokevirtual 63, 3)) ∧ (fdecl fTX6_fill_0 49 = some (.ifCond .ne 5, 3)) ∧ (fdecl fTX6_fill_0 52 = some (.iconst 0, 1)) ∧ (fdecl fTX6_fill_0 53 = some (.ireturn, 1)) ∧ (fdecl fTX6_fill_0 54 = some (.aload_n 0, 1)) ∧ (fdecl fTX6_fill_0 55 = some (.aload_n 0, 1)) ∧ (fdecl fTX6_fill_0 56 = some (.getfield 11, 3)) ∧ (fdecl fTX6_fill_0 59 = some (.iload_n 1, 1)) ∧ (fdecl fTX6_fill_0 60 = some (.aaload, 1)) ∧ (fdecl fTX6_fill_0 61 = some (.invokevirtual 96, 3)) := by decide +kernel
theorem dX6_fill_33 : decode cX6_fill 33 = .ok (.bipush 99, 2) := fx_ok (d := 0) (i := 33) fDX6_fill_0 eX6_fill_33.1
theorem dX6_fill_35 : decode cX6_fill 35 = .ok (.invokestatic 41, 3) := fx_ok (d := 0) (i := 35) fDX6_fill_0 eX6_fill_33.2.1
theorem dX6_fill_38 : decode cX6_fill 38 = .ok (.ifCond .eq 7, 3) := fx_ok (d := 0) (i := 38) fDX6_fill_0 eX6_fill_33.2.2.1
theorem dX6_fill_41 : decode cX6_fill 41 = .ok (.iconst 1, 1) := fx_ok (d := 0) (i := 41) fDX6_fill_0 eX6_fill_33.2.2.2.1
theorem dX6_fill_42 : decode cX6_fill 42 = .ok (.goto 4, 3) := fx_ok (d := 0) (i := 42) fDX6_fill_0 eX6_fill_33.2.2.2.2.1
theorem dX6_fill_45 : decode cX6_fill 45 = .ok (.iconst 0, 1) := fx_ok (d := 0) (i := 45) fDX6_fill_0 eX6_fill_33.2.2.2.2.2.1
theorem dX6_fill_46 : decode cX6_fill 46 = .ok (.invokevirtual 63, 3) := fx_ok (d := 0) (i := 46) fDX6_fill_0 eX6_fill_33.2.2.2.2.2.2.1
theorem dX6_fill_49 : decode cX6_fill 49 = .ok (.ifCond .ne 5, 3) := fx_ok (d := 0) (i := 49) fDX6_fill_0 eX6_fill_33.2.2.2.2.2.2.2.1
theorem dX6_fill_52 : decode cX6_fill 52 = .ok (.iconst 0, 1) := fx_ok (d := 0) (i := 52) fDX6_fill_0 eX6_fill_33.2.2.2.2.2.2.2.2.1
theorem dX6_fill_53 : decode cX6_fill 53 = .ok (.ireturn, 1) := fx_ok (d := 0) (i := 53) fDX6_fill_0 eX6_fill_33.2.2.2.2.2.2.2.2.2.1
theorem dX6_fill_54 : decode cX6_fill 54 = .ok (.aload_n 0, 1) := fx_ok (d := 0) (i := 54) fDX6_fill_0 eX6_fill_33.2.2.2.2.2.2.2.2.2.2.1
theorem dX6_fill_55 : decode cX6_fill 55 = .ok (.aload_n 0, 1) := fx_ok (d := 0) (i := 55) fDX6_fill_0 eX6_fill_33.2.2.2.2.2.2.2.2.2.2.2.1
theorem dX6_fill_56 : decode cX6_fill 56 = .ok (.getfield 11, 3) := fx_ok (d := 0) (i := 56) fDX6_fill_0 eX6_fill_33.2.2.2.2.2.2.2.2.2.2.2.2.1
theorem dX6_fill_59 : decode cX6_fill 59 = .ok (.iload_n 1, 1) := fx_ok (d := 0) (i := 59) fDX6_fill_0 eX6_fill_33.2.2.2.2.2.2.2.2.2.2.2.2.2.1
theorem dX6_fill_60 : decode cX6_fill 60 = .ok (.aaload, 1) := fx_ok (d := 0) (i := 60) fDX6_fill_0 eX6_fill_33.2.2.2.2.2.2.2.2.2.2.2.2.2.2.1
theorem dX6_fill_61 : decode cX6_fill 61 = .ok (.invokevirtual 96, 3) := fx_ok (d := 0) (i := 61) fDX6_fill_0 eX6_fill_33.2.2.2.2.2.2.2.2.2.2.2.2.2.2.2
theorem eX6_fill_64 : (fdecl fTX6_fill_1 0 = some (.iconst 0, 1)) ∧ (fdecl fTX6_fill_1 1 = some (.istore 6, 2)) ∧ (fdecl fTX6_fill_1 3 = some (.iconst 0, 1)) ∧ (fdecl fTX6_fill_1 4 = some (.istore 7, 2)) ∧ (fdecl fTX6_fill_1 6 = some (.iload 7, 2)) ∧ (fdecl fTX6_fill_1 8 = some (.iload 4, 2)) ∧ (fdecl fTX6_fill_1 10 = some (.if_icmp .ge 51, 3)) ∧ (fdecl fTX6_fill_1 13 = some (.iload 6, 2)) ∧ (fdecl fTX6_fill_1 15 = some (.aload_n 0, 1)) ∧ (fdecl fTX6_fill_1 16 = some (.aload_n 0, 1)) ∧ (fdecl fTX6_fill_1 17 = some (.getfield 11, 3)) ∧ (fdecl fTX6_fill_1 20 = some (.iload_n 1, 1)) ∧ (fdecl fTX6_fill_1 21 = some (.aaload, 1)) ∧ (fdecl fTX6_fill_1 22 = some (.iload_n 2, 1)) ∧ (fdecl fTX6_fill_1 23 = some (.iload 7, 2)) ∧ (fdecl fTX6_fill_1 25 = some (.iload_n 3, 1)) := by decide +kernel
theorem dX6_fill_64 : decode cX6_fill 64 = .ok (.iconst 0, 1) := fx_ok (d := 64) (i := 0) fDX6_fill_1 eX6_fill_64.1
theorem dX6_fill_65 : decode cX6_fill 65 = .ok (.istore 6, 2) := fx_ok (d := 64) (i := 1) fDX6_fill_1 eX6_fill_64.2.1
theorem dX6_fill_67 : decode cX6_fill 67 = .ok (.iconst 0, 1) := fx_ok (d := 64) (i := 3) fDX6_fill_1 eX6_fill_64.2.2.1
theorem dX6_fill_68 : decode cX6_fill 68 = .ok (.istore 7, 2) := fx_ok (d := 64) (i := 4) fDX6_fill_1 eX6_fill_64.2.2.2.1
theorem dX6_fill_70 : decode cX6_fill 70 = .ok (.iload 7, 2) := fx_ok (d := 64) (i := 6) fDX6_fill_1 eX6_fill_64.2.2.2.2.1
theorem dX6_fill_72 : decode cX6_fill 72 = .ok (.iload 4, 2) := fx_ok (d := 64) (i := 8) fDX6_fill_1 eX6_fill_64.2.2.2.2.2.1
theorem dX6_fill_74 : decode cX6_fill 74 = .ok (.if_icmp .ge 51, 3) := fx_ok (d := 64) (i := 10) fDX6_fill_1 eX6_fill_64.2.2.2.2.2.2.1
theorem dX6_fill_77 : decode cX6_fill 77 = .ok (.iload 6, 2) := fx_ok (d := 64) (i := 13) fDX6_fill_1 eX6_fill_64.2.2.2.2.2.2.2.1
theorem dX6_fill_79 : decode cX6_fill 79 = .ok (.aload_n 0, 1) := fx_ok (d := 64) (i := 15) fDX6_fill_1 eX6_fill_64.2.2.2.2.2.2.2.2.1
theorem dX6_fill_80 : decode cX6_fill 80 = .ok (.aload_n 0, 1) := fx_ok (d := 64) (i := 16) fDX6_fill_1 eX6_fill_64.2.2.2.2.2.2.2.2.2.1
theorem dX6_fill_81 : decode cX6_fill 81 = .ok (.getfield 11, 3) := fx_ok (d := 64) (i := 17) fDX6_fill_1 eX6_fill_64.2.2.2.2.2.2.2.2.2.2.1
theorem dX6_fill_84 : decode cX6_fill 84 = .ok (.iload_n 1, 1) := fx_ok (d := 64) (i := 20) fDX6_fill_1 eX6_fill_64.2.2.2.2.2.2.2.2.2.2.2.1
theorem dX6_fill_85 : decode cX6_fill 85 = .ok (.aaload, 1) := fx_ok (d := 64) (i := 21) fDX6_fill_1 eX6_fill_64.2.2.2.2.2.2.2.2.2.2.2.2.1
theorem dX6_fill_86 : decode cX6_fill 86 = .ok (.iload_n 2, 1) := fx_ok (d := 64) (i := 22) fDX6_fill_1 eX6_fill_64.2.2.2.2.2.2.2.2.2.2.2.2.2.1
theorem dX6_fill_87 : decode cX6_fill 87 = .ok (.iload 7, 2) := fx_ok (d := 64) (i := 23) fDX6_fill_1 eX6_fill_64.2.2.2.2.2.2.2.2.2.2.2.2.2.2.1
theorem dX6_fill_89 : decode cX6_fill 89 = .ok (.iload_n 3, 1) := fx_ok (d := 64) (i := 25) fDX6_fill_1 eX6_fill_64.2.2.2.2.2.2.2.2.2.2.2.2.2.2.2
theorem eX6_fill_90 : (fdecl fTX6_fill_1 26 = some (.imul, 1)) ∧ (fdecl fTX6_fill_1 27 = some (.iadd, 1)) ∧ (fdecl fTX6_fill_1 28 = some (.bipush 100, 2)) ∧ (fdecl fTX6_fill_1 30 = some (.irem, 1)) ∧ (fdecl fTX6_fill_1 31 = some (.iload 5, 2)) ∧ (fdecl fTX6_fill_1 33 = some (.iconst (-1), 1)) ∧ (fdecl fTX6_fill_1 34 = some (.if_icmp .ne 7, 3)) ∧ (fdecl fTX6_fill_1 37 = some (.iconst (-1), 1)) ∧ (fdecl fTX6_fill_1 38 = some (.goto 11, 3)) ∧ (fdecl fTX6_fill_1 41 = some (.iload 5, 2)) ∧ (fdecl fTX6_fill_1 43 = some (.iload 7, 2)) ∧ (fdecl fTX6_fill_1 45 = some (.iadd, 1)) ∧ (fdecl fTX6_fill_1 46 = some (.bipush 100, 2)) ∧ (fdecl fTX6_fill_1 48 = some (.irem, 1)) ∧ (fdecl fTX6_fill_1 49 = some (.invokevirtual 103, 3)) ∧ (fdecl fTX6_fill_1 52 = some (.iadd, 1)) := by decide +kernel
theorem dX6_fill_90 : decode cX6_fill 90 = .ok (.imul, 1) := fx_ok (d := 64) (i := 26) fDX6_fill_1 eX6_fill_90.1
theorem dX6_fill_91 : decode cX6_fill 91 = .ok (.iadd, 1) := fx_ok (d := 64) (i := 27) fDX6_fill_1 eX6_fill_90.2.1
theorem dX6_fill_92 : decode cX6_fill 92 = .ok (.bipush 100, 2) := fx_ok (d := 64) (i := 28) fDX6_fill_1 eX6_fill_90.2.2.1
theorem dX6_fill_94 : decode cX6_fill 94 = .ok (.irem, 1) := fx_ok (d := 64) (i := 30) fDX6_fill_1 eX6_fill_90.2.2.2.1
theorem dX6_fill_95 : decode cX6_fill 95 = .ok (.iload 5, 2) := fx_ok (d := 64) (i := 31) fDX6_fill_1 eX6_fill_90.2.2.2.2.1
theorem dX6_fill_97 : decode cX6_fill 97 = .ok (.iconst (-1), 1) := fx_ok (d := 64) (i := 33) fDX6_fill_1 eX6_fill_90.2.2.2.2.2.1
theorem dX6_fill_98 : decode cX6_fill 98 = .ok (.if_icmp .ne 7, 3) := fx_ok (d := 64) (i := 34) fDX6_fill_1 eX6_fill_90.2.2.2.2.2.2.1
theorem dX6_fill_101 : decode cX6_fill 101 = .ok (.iconst (-1), 1) := fx_ok (d := 64) (i := 37) fDX6_fill_1 eX6_fill_90.2.2.2.2.2.2.2.1
theorem dX6_fill_102 : decode cX6_fill 102 = .ok (.goto 11, 3) := fx_ok (d := 64) (i := 38) fDX6_fill_1 eX6_fill_90.2.2.2.2.2.2.2.2.1
theorem dX6_fill_105 : decode cX6_fill 105 = .ok (.iload 5, 2) := fx_ok (d := 64) (i := 41) fDX6_fill_1 eX6_fill_90.2.2.2.2.2.2.2.2.2.1
theorem dX6_fill_107 : decode cX6_fill 107 = .ok (.iload 7, 2) := fx_ok (d := 64) (i := 43) fDX6_fill_1 eX6_fill_90.2.2.2.2.2.2.2.2.2.2.1
theorem dX6_fill_109 : decode cX6_fill 109 = .ok (.iadd, 1) := fx_ok (d := 64) (i := 45) fDX6_fill_1 eX6_fill_90.2.2.2.2.2.2.2.2.2.2.2.1
theorem dX6_fill_110 : decode cX6_fill 110 = .ok (.bipush 100, 2) := fx_ok (d := 64) (i := 46) fDX6_fill_1 eX6_fill_90.2.2.2.2.2.2.2.2.2.2.2.2.1
theorem dX6_fill_112 : decode cX6_fill 112 = .ok (.irem, 1) := fx_ok (d := 64) (i := 48) fDX6_fill_1 eX6_fill_90.2.2.2.2.2.2.2.2.2.2.2.2.2.1
theorem dX6_fill_113 : decode cX6_fill 113 = .ok (.invokevirtual 103, 3) := fx_ok (d := 64) (i := 49) fDX6_fill_1 eX6_fill_90.2.2.2.2.2.2.2.2.2.2.2.2.2.2.1
theorem dX6_fill_116 : decode cX6_fill 116 = .ok (.iadd, 1) := fx_ok (d := 64) (i := 52) fDX6_fill_1 eX6_fill_90.2.2.2.2.2.2.2.2.2.2.2.2.2.2.2
theorem eX6_fill_117 : (fdecl fTX6_fill_1 53 = some (.istore 6, 2)) ∧ (fdecl fTX6_fill_1 58 = some (.goto (-52), 3)) ∧ (fdecl fTX6_fill_1 61 = some (.aload_n 0, 1)) ∧ (fdecl fTX6_fill_1 62 = some (.iload 6, 2)) ∧ (fdecl fTX6_fill_2 0 = some (.invokevirtual 71, 3)) ∧ (fdecl fTX6_fill_2 3 = some (.ireturn, 1)) := by decide +kernel
theorem dX6_fill_117 : decode cX6_fill 117 = .ok (.istore 6, 2) := fx_ok (d := 64) (i := 53) fDX6_fill_1 eX6_fill_117.1
theorem dX6_fill_122 : decode cX6_fill 122 = .ok (.goto (-52), 3) := fx_ok (d := 64) (i := 58) fDX6_fill_1 eX6_fill_117.2.1
theorem dX6_fill_125 : decode cX6_fill 125 = .ok (.aload_n 0, 1) := fx_ok (d := 64) (i := 61) fDX6_fill_1 eX6_fill_117.2.2.1
theorem dX6_fill_126 : decode cX6_fill 126 = .ok (.iload 6, 2) := fx_ok (d := 64) (i := 62) fDX6_fill_1 eX6_fill_117.2.2.2.1
theorem dX6_fill_128 : decode cX6_fill 128 = .ok (.invokevirtual 71, 3) := fx_ok (d := 128) (i := 0) fDX6_fill_2 eX6_fill_117.2.2.2.2.1
theorem dX6_fill_131 : decode cX6_fill 131 = .ok (.ireturn, 1) := fx_ok (d := 128) (i := 3) fDX6_fill_2 eX6_fill_117.2.2.2.2.2
theorem dX6_fill_119 : decode cX6_fill 119 = .ok (.iinc 7 1, 3) := by decide +kernel
def fAX6_pour_0 : List UInt8 := [42, 27, 184, 0, 60, 153, 0, 14, 28, 184, 0, 60, 153, 0, 7, 4, 167, 0, 4, 3, 4, 182, 0, 63, 154, 0, 5, 3, 172, 27, 28, 160, 0, 8, 42, 182, 0, 89, 172, 42, 42, 180, 0, 11, 27, 50, 182, 0, 96, 3, 62, 3, 54, 4, 21, 4, 16, 100, 162, 0, 50, 42, 180, 0]
def fAX6_pour_1 : List UInt8 := [11, 28, 50, 21, 4, 182, 0, 49, 153, 0, 30, 29, 42, 42, 180, 0, 11, 27, 50, 21, 4, 42, 180, 0, 11, 28, 50, 180, 0, 53, 21, 4, 46, 182, 0, 103, 96, 62, 132, 4, 1, 167, 255, 205, 42, 29, 182, 0, 71, 172]
def fTX6_pour_1 : List UInt8 := fAX6_pour_1
def fTX6_pour_0 : List UInt8 := fAX6_pour_0 ++ fTX6_pour_1
theorem fDX6_pour_0 : cX6_pour.data.toList.drop 0 = fTX6_pour_0 := eq_of_beq (by decide +kernel)
theorem fDX6_pour_1 : cX6_pour.data.toList.drop 64 = fTX6_pour_1 := fx_nx (d := 0) (n := 64) (a := fAX6_pour_0) fDX6_pour_0 rfl
theorem eX6_pour_0 : (fdecl fTX6_pour_0 0 = some (.aload_n 0, 1)) ∧ (fdecl fTX6_pour_0 1 = some (.iload_n 1, 1)) ∧ (fdecl fTX6_pour_0 2 = some (.invokestatic 60, 3)) ∧ (fdecl fTX6_pour_0 5 = some (.ifCond .eq 14, 3)) ∧ (fdecl fTX6_pour_0 8 = some (.iload_n 2, 1)) ∧ (fdecl fTX6_pour_0 9 = some (.invokestatic 60, 3)) ∧ (fdecl fTX6_pour_0 12 = some (.ifCond .eq 7, 3)) ∧ (fdecl fTX6_pour_0 15 = some (.iconst 1, 1)) ∧ (fdecl fTX6_pour_0 16 = some (.goto 4, 3)) ∧ (fdecl fTX6_pour_0 19 = some (.iconst 0, 1)) ∧ (fdecl fTX6_pour_0 20 = some (.iconst 1, 1)) ∧ (fdecl fTX6_pour_0 21 = some (.invokevirtual 63, 3)) ∧ (fdecl fTX6_pour_0 24 = some (.ifCond .ne 5, 3)) ∧ (fdecl fTX6_pour_0 27 = some (.iconst 0, 1)) ∧ (fdecl fTX6_pour_0 28 = some (.ireturn, 1)) ∧ (fdecl fTX6_pour_0 29 = some (.iload_n 1, 1)) := by decide +kernel
theorem dX6_pour_0 : decode cX6_pour 0 = .ok (.aload_n 0, 1) := fx_ok (d := 0) (i := 0) fDX6_pour_0 eX6_pour_0.1
theorem dX6_pour_1 : decode cX6_pour 1 = .ok (.iload_n 1, 1) := fx_ok (d := 0) (i := 1) fDX6_pour_0 eX6_pour_0.2.1
theorem dX6_pour_2 : decode cX6_pour 2 = .ok (.invokestatic 60, 3) := fx_ok (d := 0) (i := 2) fDX6_pour_0 eX6_pour_0.2.2.1
theorem dX6_pour_5 : decode cX6_pour 5 = .ok (.ifCond .eq 14, 3) := fx_ok (d := 0) (i := 5) fDX6_pour_0 eX6_pour_0.2.2.2.1
theorem dX6_pour_8 : decode cX6_pour 8 = .ok (.iload_n 2, 1) := fx_ok (d := 0) (i := 8) fDX6_pour_0 eX6_pour_0.2.2.2.2.1
theorem dX6_pour_9 : decode cX6_pour 9 = .ok (.invokestatic 60, 3) := fx_ok (d := 0) (i := 9) fDX6_pour_0 eX6_pour_0.2.2.2.2.2.1
theorem dX6_pour_12 : decode cX6_pour 12 = .ok (.ifCond .eq 7, 3) := fx_ok (d := 0) (i := 12) fDX6_pour_0 eX6_pour_0.2.2.2.2.2.2.1
theorem dX6_pour_15 : decode cX6_pour 15 = .ok (.iconst 1, 1) := fx_ok (d := 0) (i := 15) fDX6_pour_0 eX6_pour_0.2.2.2.2.2.2.2.1
theorem dX6_pour_16 : decode cX6_pour 16 = .ok (.goto 4, 3) := fx_ok (d := 0) (i := 16) fDX6_pour_0 eX6_pour_0.2.2.2.2.2.2.2.2.1
theorem dX6_pour_19 : decode cX6_pour 19 = .ok (.iconst 0, 1) := fx_ok (d := 0) (i := 19) fDX6_pour_0 eX6_pour_0.2.2.2.2.2.2.2.2.2.1
theorem dX6_pour_20 : decode cX6_pour 20 = .ok (.iconst 1, 1) := fx_ok (d := 0) (i := 20) fDX6_pour_0 eX6_pour_0.2.2.2.2.2.2.2.2.2.2.1
theorem dX6_pour_21 : decode cX6_pour 21 = .ok (.invokevirtual 63, 3) := fx_ok (d := 0) (i := 21) fDX6_pour_0 eX6_pour_0.2.2.2.2.2.2.2.2.2.2.2.1
theorem dX6_pour_24 : decode cX6_pour 24 = .ok (.ifCond .ne 5, 3) := fx_ok (d := 0) (i := 24) fDX6_pour_0 eX6_pour_0.2.2.2.2.2.2.2.2.2.2.2.2.1
theorem dX6_pour_27 : decode cX6_pour 27 = .ok (.iconst 0, 1) := fx_ok (d := 0) (i := 27) fDX6_pour_0 eX6_pour_0.2.2.2.2.2.2.2.2.2.2.2.2.2.1
theorem dX6_pour_28 : decode cX6_pour 28 = .ok (.ireturn, 1) := fx_ok (d := 0) (i := 28) fDX6_pour_0 eX6_pour_0.2.2.2.2.2.2.2.2.2.2.2.2.2.2.1
theorem dX6_pour_29 : decode cX6_pour 29 = .ok (.iload_n 1, 1) := fx_ok (d := 0) (i := 29) fDX6_pour_0 eX6_pour_0.2.2.2.2.2.2.2.2.2.2.2.2.2.2.2
theorem eX6_pour_30 : (fdecl fTX6_pour_0 30 = some (.iload_n 2, 1)) ∧ (fdecl fTX6_pour_0 31 = some (.if_icmp .ne 8, 3)) ∧ (fdecl fTX6_pour_0 34 = some (.aload_n 0, 1)) ∧ (fdecl fTX6_pour_0 35 = some (.invokevirtual 89, 3)) ∧ (fdecl fTX6_pour_0 38 = some (.ireturn, 1)) ∧ (fdecl fTX6_pour_0 39 = some (.aload_n 0, 1)) ∧ (fdecl fTX6_pour_0 40 = some (.aload_n 0, 1)) ∧ (fdecl fTX6_pour_0 41 = some (.getfield 11, 3)) ∧ (fdecl fTX6_pour_0 44 = some (.iload_n 1, 1)) ∧ (fdecl fTX6_pour_0 45 = some (.aaload, 1)) ∧ (fdecl fTX6_pour_0 46 = some (.invokevirtual 96, 3)) ∧ (fdecl fTX6_pour_0 49 = some (.iconst 0, 1)) ∧ (fdecl fTX6_pour_0 50 = some (.istore_n 3, 1)) ∧ (fdecl fTX6_pour_0 51 = some (.iconst 0, 1)) ∧ (fdecl fTX6_pour_0 52 = some (.istore 4, 2)) ∧ (fdecl fTX6_pour_0 54 = some (.iload 4, 2)) := by decide +kernel
theorem dX6_pour_30 : decode cX6_pour 30 = .ok (.iload_n 2, 1) := fx_ok (d := 0) (i := 30) fDX6_pour_0 eX6_pour_30.1
theorem dX6_pour_31 : decode cX6_pour 31 = .ok (.if_icmp .ne 8, 3) := fx_ok (d := 0) (i := 31) fDX6_pour_0 eX6_pour_30.2.1
theorem dX6_pour_34 : decode cX6_pour 34 = .ok (.aload_n 0, 1) := fx_ok (d := 0) (i := 34) fDX6_pour_0 eX6_pour_30.2.2.1
theorem dX6_pour_35 : decode cX6_pour 35 = .ok (.invokevirtual 89, 3) := fx_ok (d := 0) (i := 35) fDX6_pour_0 eX6_pour_30.2.2.2.1
theorem dX6_pour_38 : decode cX6_pour 38 = .ok (.ireturn, 1) := fx_ok (d := 0) (i := 38) fDX6_pour_0 eX6_pour_30.2.2.2.2.1
theorem dX6_pour_39 : decode cX6_pour 39 = .ok (.aload_n 0, 1) := fx_ok (d := 0) (i := 39) fDX6_pour_0 eX6_pour_30.2.2.2.2.2.1
theorem dX6_pour_40 : decode cX6_pour 40 = .ok (.aload_n 0, 1) := fx_ok (d := 0) (i := 40) fDX6_pour_0 eX6_pour_30.2.2.2.2.2.2.1
theorem dX6_pour_41 : decode cX6_pour 41 = .ok (.getfield 11, 3) := fx_ok (d := 0) (i := 41) fDX6_pour_0 eX6_pour_30.2.2.2.2.2.2.2.1
theorem dX6_pour_44 : decode cX6_pour 44 = .ok (.iload_n 1, 1) := fx_ok (d := 0) (i := 44) fDX6_pour_0 eX6_pour_30.2.2.2.2.2.2.2.2.1
theorem dX6_pour_45 : decode cX6_pour 45 = .ok (.aaload, 1) := fx_ok (d := 0) (i := 45) fDX6_pour_0 eX6_pour_30.2.2.2.2.2.2.2.2.2.1
theorem dX6_pour_46 : decode cX6_pour 46 = .ok (.invokevirtual 96, 3) := fx_ok (d := 0) (i := 46) fDX6_pour_0 eX6_pour_30.2.2.2.2.2.2.2.2.2.2.1
theorem dX6_pour_49 : decode cX6_pour 49 = .ok (.iconst 0, 1) := fx_ok (d := 0) (i := 49) fDX6_pour_0 eX6_pour_30.2.2.2.2.2.2.2.2.2.2.2.1
theorem dX6_pour_50 : decode cX6_pour 50 = .ok (.istore_n 3, 1) := fx_ok (d := 0) (i := 50) fDX6_pour_0 eX6_pour_30.2.2.2.2.2.2.2.2.2.2.2.2.1
theorem dX6_pour_51 : decode cX6_pour 51 = .ok (.iconst 0, 1) := fx_ok (d := 0) (i := 51) fDX6_pour_0 eX6_pour_30.2.2.2.2.2.2.2.2.2.2.2.2.2.1
theorem dX6_pour_52 : decode cX6_pour 52 = .ok (.istore 4, 2) := fx_ok (d := 0) (i := 52) fDX6_pour_0 eX6_pour_30.2.2.2.2.2.2.2.2.2.2.2.2.2.2.1
theorem dX6_pour_54 : decode cX6_pour 54 = .ok (.iload 4, 2) := fx_ok (d := 0) (i := 54) fDX6_pour_0 eX6_pour_30.2.2.2.2.2.2.2.2.2.2.2.2.2.2.2
theorem eX6_pour_56 : (fdecl fTX6_pour_0 56 = some (.bipush 100, 2)) ∧ (fdecl fTX6_pour_0 58 = some (.if_icmp .ge 50, 3)) ∧ (fdecl fTX6_pour_0 61 = some (.aload_n 0, 1)) ∧ (fdecl fTX6_pour_0 62 = some (.getfield 11, 3)) ∧ (fdecl fTX6_pour_1 1 = some (.iload_n 2, 1)) ∧ (fdecl fTX6_pour_1 2 = some (.aaload, 1)) ∧ (fdecl fTX6_pour_1 3 = some (.iload 4, 2)) ∧ (fdecl fTX6_pour_1 5 = some (.invokevirtual 49, 3)) ∧ (fdecl fTX6_pour_1 8 = some (.ifCond .eq 30, 3)) ∧ (fdecl fTX6_pour_1 11 = some (.iload_n 3, 1)) ∧ (fdecl fTX6_pour_1 12 = some (.aload_n 0, 1)) ∧ (fdecl fTX6_pour_1 13 = some (.aload_n 0, 1)) ∧ (fdecl fTX6_pour_1 14 = some (.getfield 11, 3)) ∧ (fdecl fTX6_pour_1 17 = some (.iload_n 1, 1)) ∧ (fdecl fTX6_pour_1 18 = some (.aaload, 1)) ∧ (fdecl fTX6_pour_1 19 = some (.iload 4, 2)) := by decide +kernel
theorem dX6_pour_56 : decode cX6_pour 56 = .ok (.bipush 100, 2) := fx_ok (d := 0) (i := 56) fDX6_pour_0 eX6_pour_56.1
theorem dX6_pour_58 : decode cX6_pour 58 = .ok (.if_icmp .ge 50, 3) := fx_ok (d := 0) (i := 58) fDX6_pour_0 eX6_pour_56.2.1
theorem dX6_pour_61 : decode cX6_pour 61 = .ok (.aload_n 0, 1) := fx_ok (d := 0) (i := 61) fDX6_pour_0 eX6_pour_56.2.2.1
theorem dX6_pour_62 : decode cX6_pour 62 = .ok (.getfield 11, 3) := fx_ok (d := 0) (i := 62) fDX6_pour_0 eX6_pour_56.2.2.2.1
theorem dX6_pour_65 : decode cX6_pour 65 = .ok (.iload_n 2, 1) := fx_ok (d := 64) (i := 1) fDX6_pour_1 eX6_pour_56.2.2.2.2.1
theorem dX6_pour_66 : decode cX6_pour 66 = .ok (.aaload, 1) := fx_ok (d := 64) (i := 2) fDX6_pour_1 eX6_pour_56.2.2.2.2.2.1
theorem dX6_pour_67 : decode cX6_pour 67 = .ok (.iload 4, 2) := fx_ok (d := 64) (i := 3) fDX6_pour_1 eX6_pour_56.2.2.2.2.2.2.1
theorem dX6_pour_69 : decode cX6_pour 69 = .ok (.invokevirtual 49, 3) := fx_ok (d := 64) (i := 5) fDX6_pour_1 eX6_pour_56.2.2.2.2.2.2.2.1
theorem dX6_pour_72 : decode cX6_pour 72 = .ok (.ifCond .eq 30, 3) := fx_ok (d := 64) (i := 8) fDX6_pour_1 eX6_pour_56.2.2.2.2.2.2.2.2.1
theorem dX6_pour_75 : decode cX6_pour 75 = .ok (.iload_n 3, 1) := fx_ok (d := 64) (i := 11) fDX6_pour_1 eX6_pour_56.2.2.2.2.2.2.2.2.2.1
theorem dX6_pour_76 : decode cX6_pour 76 = .ok (.aload_n 0, 1) := fx_ok (d := 64) (i := 12) fDX6_pour_1 eX6_pour_56.2.2.2.2.2.2.2.2.2.2.1
theorem dX6_pour_77 : decode cX6_pour 77 = .ok (.aload_n 0, 1) := fx_ok (d := 64) (i := 13) fDX6_pour_1 eX6_pour_56.2.2.2.2.2.2.2.2.2.2.2.1
theorem dX6_pour_78 : decode cX6_pour 78 = .ok (.getfield 11, 3) := fx_ok (d := 64) (i := 14) fDX6_pour_1 eX6_pour_56.2.2.2.2.2.2.2.2.2.2.2.2.1
theorem dX6_pour_81 : decode cX6_pour 81 = .ok (.iload_n 1, 1) := fx_ok (d := 64) (i := 17) fDX6_pour_1 eX6_pour_56.2.2.2.2.2.2.2.2.2.2.2.2.2.1
theorem dX6_pour_82 : decode cX6_pour 82 = .ok (.aaload, 1) := fx_ok (d := 64) (i := 18) fDX6_pour_1 eX6_pour_56.2.2.2.2.2.2.2.2.2.2.2.2.2.2.1
theorem dX6_pour_83 : decode cX6_pour 83 = .ok (.iload 4, 2) := fx_ok (d := 64) (i := 19) fDX6_pour_1 eX6_pour_56.2.2.2.2.2.2.2.2.2.2.2.2.2.2.2
theorem eX6_pour_85 : (fdecl fTX6_pour_1 21 = some (.aload_n 0, 1)) ∧ (fdecl fTX6_pour_1 22 = some (.getfield 11, 3)) ∧ (fdecl fTX6_pour_1 25 = some (.iload_n 2, 1)) ∧ (fdecl fTX6_pour_1 26 = some (.aaload, 1)) ∧ (fdecl fTX6_pour_1 27 = some (.getfield 53, 3)) ∧ (fdecl fTX6_pour_1 30 = some (.iload 4, 2)) ∧ (fdecl fTX6_pour_1 32 = some (.iaload, 1)) ∧ (fdecl fTX6_pour_1 33 = some (.invokevirtual 103, 3)) ∧ (fdecl fTX6_pour_1 36 = some (.iadd, 1)) ∧ (fdecl fTX6_pour_1 37 = some (.istore_n 3, 1)) ∧ (fdecl fTX6_pour_1 41 = some (.goto (-51), 3)) ∧ (fdecl fTX6_pour_1 44 = some (.aload_n 0, 1)) ∧ (fdecl fTX6_pour_1 45 = some (.iload_n 3, 1)) ∧ (fdecl fTX6_pour_1 46 = some (.invokevirtual 71, 3)) ∧ (fdecl fTX6_pour_1 49 = some (.ireturn, 1)) := by decide +kernel
theorem dX6_pour_85 : decode cX6_pour 85 = .ok (.aload_n 0, 1) := fx_ok (d := 64) (i := 21) fDX6_pour_1 eX6_pour_85.1
theorem dX6_pour_86 : decode cX6_pour 86 = .ok (.getfield 11, 3) := fx_ok (d := 64) (i := 22) fDX6_pour_1 eX6_pour_85.2.1
theorem dX6_pour_89 : decode cX6_pour 89 = .ok (.iload_n 2, 1) := fx_ok (d := 64) (i := 25) fDX6_pour_1 eX6_pour_85.2.2.1
theorem dX6_pour_90 : decode cX6_pour 90 = .ok (.aaload, 1) := fx_ok (d := 64) (i := 26) fDX6_pour_1 eX6_pour_85.2.2.2.1
theorem dX6_pour_91 : decode cX6_pour 91 = .ok (.getfield 53, 3) := fx_ok (d := 64) (i := 27) fDX6_pour_1 eX6_pour_85.2.2.2.2.1
theorem dX6_pour_94 : decode cX6_pour 94 = .ok (.iload 4, 2) := fx_ok (d := 64) (i := 30) fDX6_pour_1 eX6_pour_85.2.2.2.2.2.1
theorem dX6_pour_96 : decode cX6_pour 96 = .ok (.iaload, 1) := fx_ok (d := 64) (i := 32) fDX6_pour_1 eX6_pour_85.2.2.2.2.2.2.1
theorem dX6_pour_97 : decode cX6_pour 97 = .ok (.invokevirtual 103, 3) := fx_ok (d := 64) (i := 33) fDX6_pour_1 eX6_pour_85.2.2.2.2.2.2.2.1
theorem dX6_pour_100 : decode cX6_pour 100 = .ok (.iadd, 1) := fx_ok (d := 64) (i := 36) fDX6_pour_1 eX6_pour_85.2.2.2.2.2.2.2.2.1
theorem dX6_pour_101 : decode cX6_pour 101 = .ok (.istore_n 3, 1) := fx_ok (d := 64) (i := 37) fDX6_pour_1 eX6_pour_85.2.2.2.2.2.2.2.2.2.1
theorem dX6_pour_105 : decode cX6_pour 105 = .ok (.goto (-51), 3) := fx_ok (d := 64) (i := 41) fDX6_pour_1 eX6_pour_85.2.2.2.2.2.2.2.2.2.2.1
theorem dX6_pour_108 : decode cX6_pour 108 = .ok (.aload_n 0, 1) := fx_ok (d := 64) (i := 44) fDX6_pour_1 eX6_pour_85.2.2.2.2.2.2.2.2.2.2.2.1
theorem dX6_pour_109 : decode cX6_pour 109 = .ok (.iload_n 3, 1) := fx_ok (d := 64) (i := 45) fDX6_pour_1 eX6_pour_85.2.2.2.2.2.2.2.2.2.2.2.2.1
theorem dX6_pour_110 : decode cX6_pour 110 = .ok (.invokevirtual 71, 3) := fx_ok (d := 64) (i := 46) fDX6_pour_1 eX6_pour_85.2.2.2.2.2.2.2.2.2.2.2.2.2.1
theorem dX6_pour_113 : decode cX6_pour 113 = .ok (.ireturn, 1) := fx_ok (d := 64) (i := 49) fDX6_pour_1 eX6_pour_85.2.2.2.2.2.2.2.2.2.2.2.2.2.2
theorem dX6_pour_102 : decode cX6_pour 102 = .ok (.iinc 4 1, 3) := by decide +kernel
def fAX6_keep_0 : List UInt8 := [42, 27, 184, 0, 60, 153, 0, 14, 28, 184, 0, 60, 153, 0, 7, 4, 167, 0, 4, 3, 4, 182, 0, 63, 154, 0, 5, 3, 172, 27, 28, 160, 0, 8, 42, 182, 0, 89, 172, 42, 42, 180, 0, 11, 27, 50, 182, 0, 96, 3, 54, 4, 3, 54, 5, 21, 5, 16, 100, 162, 0, 42, 42, 180]
def fAX6_keep_1 : List UInt8 := [0, 11, 28, 50, 21, 5, 182, 0, 49, 29, 159, 0, 21, 21, 4, 42, 42, 180, 0, 11, 27, 50, 21, 5, 2, 182, 0, 103, 96, 54, 4, 132, 5, 1, 167, 255, 213, 42, 21, 4, 182, 0, 71, 172]
def fTX6_keep_1 : List UInt8 := fAX6_keep_1
def fTX6_keep_0 : List UInt8 := fAX6_keep_0 ++ fTX6_keep_1
theorem fDX6_keep_0 : cX6_keep.data.toList.drop 0 = fTX6_keep_0 := eq_of_beq (by decide +kernel)
theorem fDX6_keep_1 : cX6_keep.data.toList.drop 64 = fTX6_keep_1 := fx_nx (d := 0) (n := 64) (a := fAX6_keep_0) fDX6_keep_0 rfl
theorem eX6_keep_0 : (fdecl fTX6_keep_0 0 = some (.aload_n 0, 1)) ∧ (fdecl fTX6_keep_0 1 = some (.iload_n 1, 1)) ∧ (fdecl fTX6_keep_0 2 = some (.invokestatic 60, 3)) ∧ (fdecl fTX6_keep_0 5 = some (.ifCond .eq 14, 3)) ∧ (fdecl fTX6_keep_0 8 = some (.iload_n 2, 1)) ∧ (fdecl fTX6_keep_0 9 = some (.invokestatic 60, 3)) ∧ (fdecl fTX6_keep_0 12 = some (.ifCond .eq 7, 3)) ∧ (fdecl fTX6_keep_0 15 = some (.iconst 1, 1)) ∧ (fdecl fTX6_keep_0 16 = some (.goto 4, 3)) ∧ (fdecl fTX6_keep_0 19 = some (.iconst 0, 1)) ∧ (fdecl fTX6_keep_0 20 = some (.iconst 1, 1)) ∧ (fdecl fTX6_keep_0 21 = some (.invokevirtual 63, 3)) ∧ (fdecl fTX6_keep_0 24 = some (.ifCond .ne 5, 3)) ∧ (fdecl fTX6_keep_0 27 = some (.iconst 0, 1)) ∧ (fdecl fTX6_keep_0 28 = some (.ireturn, 1)) ∧ (fdecl fTX6_keep_0 29 = some (.iload_n 1, 1)) := by decide +kernel
theorem dX6_keep_0 : decode cX6_keep 0 = .ok (.aload_n 0, 1) := fx_ok (d := 0) (i := 0) fDX6_keep_0 eX6_keep_0.1
theorem dX6_keep_1 : decode cX6_keep 1 = .ok (.iload_n 1, 1) := fx_ok (d := 0) (i := 1) fDX6_keep_0 eX6_keep_0.2.1
theorem dX6_keep_2 : decode cX6_keep 2 = .ok (.invokestatic 60, 3) := fx_ok (d := 0) (i := 2) fDX6_keep_0 eX6_keep_0.2.2.1
theorem dX6_keep_5 : decode cX6_keep 5 = .ok (.ifCond .eq 14, 3) := fx_ok (d := 0) (i := 5) fDX6_keep_0 eX6_keep_0.2.2.2.1
theorem dX6_keep_8 : decode cX6_keep 8 = .ok (.iload_n 2, 1) := fx_ok (d := 0) (i := 8) fDX6_keep_0 eX6_keep_0.2.2.2.2.1
theorem dX6_keep_9 : decode cX6_keep 9 = .ok (.invokestatic 60, 3) := fx_ok (d := 0) (i := 9) fDX6_keep_0 eX6_keep_0.2.2.2.2.2.1
theorem dX6_keep_12 : decode cX6_keep 12 = .ok (.ifCond .eq 7, 3) := fx_ok (d := 0) (i := 12) fDX6_keep_0 eX6_keep_0.2.2.2.2.2.2.1
theorem dX6_keep_15 : decode cX6_keep 15 = .ok (.iconst 1, 1) := fx_ok (d := 0) (i := 15) fDX6_keep_0 eX6_keep_0.2.2.2.2.2.2.2.1
theorem dX6_keep_16 : decode cX6_keep 16 = .ok (.goto 4, 3) := fx_ok (d := 0) (i := 16) fDX6_keep_0 eX6_keep_0.2.2.2.2.2.2.2.2.1
theorem dX6_keep_19 : decode cX6_keep 19 = .ok (.iconst 0, 1) := fx_ok (d := 0) (i := 19) fDX6_keep_0 eX6_keep_0.2.2.2.2.2.2.2.2.2.1
theorem dX6_keep_20 : decode cX6_keep 20 = .ok (.iconst 1, 1) := fx_ok (d := 0) (i := 20) fDX6_keep_0 eX6_keep_0.2.2.2.2.2.2.2.2.2.2.1
theorem dX6_keep_21 : decode cX6_keep 21 = .ok (.invokevirtual 63, 3) := fx_ok (d := 0) (i := 21) fDX6_keep_0 eX6_keep_0.2.2.2.2.2.2.2.2.2.2.2.1
theorem dX6_keep_24 : decode cX6_keep 24 = .ok (.ifCond .ne 5, 3) := fx_ok (d := 0) (i := 24) fDX6_keep_0 eX6_keep_0.2.2.2.2.2.2.2.2.2.2.2.2.1
theorem dX6_keep_27 : decode cX6_keep 27 = .ok (.iconst 0, 1) := fx_ok (d := 0) (i := 27) fDX6_keep_0 eX6_keep_0.2.2.2.2.2.2.2.2.2.2.2.2.2.1
theorem dX6_keep_28 : decode cX6_keep 28 = .ok (.ireturn, 1) := fx_ok (d := 0) (i := 28) fDX6_keep_0 eX6_keep_0.2.2.2.2.2.2.2.2.2.2.2.2.2.2.1
theorem dX6_keep_29 : decode cX6_keep 29 = .ok (.iload_n 1, 1) := fx_ok (d := 0) (i := 29) fDX6_keep_0 eX6_keep_0.2.2.2.2.2.2.2.2.2.2.2.2.2.2.2
theorem eX6_keep_30 : (fdecl fTX6_keep_0 30 = some (.iload_n 2, 1)) ∧ (fdecl fTX6_keep_0 31 = some (.if_icmp .ne 8, 3)) ∧ (fdecl fTX6_keep_0 34 = some (.aload_n 0, 1)) ∧ (fdecl fTX6_keep_0 35 = some (.invokevirtual 89, 3)) ∧ (fdecl fTX6_keep_0 38 = some (.ireturn, 1)) ∧ (fdecl fTX6_keep_0 39 = some (.aload_n 0, 1)) ∧ (fdecl fTX6_keep_0 40 = some (.aload_n 0, 1)) ∧ (fdecl fTX6_keep_0 41 = some (.getfield 11, 3)) ∧ (fdecl fTX6_keep_0 44 = some (.iload_n 1, 1)) ∧ (fdecl fTX6_keep_0 45 = some (.aaload, 1)) ∧ (fdecl fTX6_keep_0 46 = some (.invokevirtual 96, 3)) ∧ (fdecl fTX6_keep_0 49 = some (.iconst 0, 1)) ∧ (fdecl fTX6_keep_0 50 = some (.istore 4, 2)) ∧ (fdecl fTX6_keep_0 52 = some (.iconst 0, 1)) ∧ (fdecl fTX6_keep_0 53 = some (.istore 5, 2)) ∧ (fdecl fTX6_keep_0 55 = some (.iload 5, 2)) := by decide +kernel
theorem dX6_keep_30 : decode cX6_keep 30 = .ok (.iload_n 2, 1) := fx_ok (d := 0) (i := 30) fDX6_keep_0 eX6_keep_30.1
theorem dX6_keep_31 : decode cX6_keep 31 = .ok (.if_icmp .ne 8, 3) := fx_ok (d := 0) (i := 31) fDX6_keep_0 eX6_keep_30.2.1
theorem dX6_keep_34 : decode cX6_keep 34 = .ok (.aload_n 0, 1) := fx_ok (d := 0) (i := 34) fDX6_keep_0 eX6_keep_30.2.2.1
theorem dX6_keep_35 : decode cX6_keep 35 = .ok (.invokevirtual 89, 3) := fx_ok (d := 0) (i := 35) fDX6_keep_0 eX6_keep_30.2.2.2.1
theorem dX6_keep_38 : decode cX6_keep 38 = .ok (.ireturn, 1) := fx_ok (d := 0) (i := 38) fDX6_keep_0 eX6_keep_30.2.2.2.2.1
theorem dX6_keep_39 : decode cX6_keep 39 = .ok (.aload_n 0, 1) := fx_ok (d := 0) (i := 39) fDX6_keep_0 eX6_keep_30.2.2.2.2.2.1
theorem dX6_keep_40 : decode cX6_keep 40 = .ok (.aload_n 0, 1) := fx_ok (d := 0) (i := 40) fDX6_keep_0 eX6_keep_30.2.2.2.2.2.2.1
theorem dX6_keep_41 : decode cX6_keep 41 = .ok (.getfield 11, 3) := fx_ok (d := 0) (i := 41) fDX6_keep_0 eX6_keep_30.2.2.2.2.2.2.2.1
theorem dX6_keep_44 : decode cX6_keep 44 = .ok (.iload_n 1, 1) := fx_ok (d := 0) (i := 44) fDX6_keep_0 eX6_keep_30.2.2.2.2.2.2.2.2.1
theorem dX6_keep_45 : decode cX6_keep 45 = .ok (.aaload, 1) := fx_ok (d := 0) (i := 45) fDX6_keep_0 eX6_keep_30.2.2.2.2.2.2.2.2.2.1
theorem dX6_keep_46 : decode cX6_keep 46 = .ok (.invokevirtual 96, 3) := fx_ok (d := 0) (i := 46) fDX6_keep_0 eX6_keep_30.2.2.2.2.2.2.2.2.2.2.1
theorem dX6_keep_49 : decode cX6_keep 49 = .ok (.iconst 0, 1) := fx_ok (d := 0) (i := 49) fDX6_keep_0 eX6_keep_30.2.2.2.2.2.2.2.2.2.2.2.1
theorem dX6_keep_50 : decode cX6_keep 50 = .ok (.istore 4, 2) := fx_ok (d := 0) (i := 50) fDX6_keep_0 eX6_keep_30.2.2.2.2.2.2.2.2.2.2.2.2.1
theorem dX6_keep_52 : decode cX6_keep 52 = .ok (.iconst 0, 1) := fx_ok (d := 0) (i := 52) fDX6_keep_0 eX6_keep_30.2.2.2.2.2.2.2.2.2.2.2.2.2.1
theorem dX6_keep_53 : decode cX6_keep 53 = .ok (.istore 5, 2) := fx_ok (d := 0) (i := 53) fDX6_keep_0 eX6_keep_30.2.2.2.2.2.2.2.2.2.2.2.2.2.2.1
theorem dX6_keep_55 : decode cX6_keep 55 = .ok (.iload 5, 2) := fx_ok (d := 0) (i := 55) fDX6_keep_0 eX6_keep_30.2.2.2.2.2.2.2.2.2.2.2.2.2.2.2
theorem eX6_keep_57 : (fdecl fTX6_keep_0 57 = some (.bipush 100, 2)) ∧ (fdecl fTX6_keep_0 59 = some (.if_icmp .ge 42, 3)) ∧ (fdecl fTX6_keep_0 62 = some (.aload_n 0, 1)) ∧ (fdecl fTX6_keep_0 63 = some (.getfield 11, 3)) ∧ (fdecl fTX6_keep_1 2 = some (.iload_n 2, 1)) ∧ (fdecl fTX6_keep_1 3 = some (.aaload, 1)) ∧ (fdecl fTX6_keep_1 4 = some (.iload 5, 2)) ∧ (fdecl fTX6_keep_1 6 = some (.invokevirtual 49, 3)) ∧ (fdecl fTX6_keep_1 9 = some (.iload_n 3, 1)) ∧ (fdecl fTX6_keep_1 10 = some (.if_icmp .eq 21, 3)) ∧ (fdecl fTX6_keep_1 13 = some (.iload 4, 2)) ∧ (fdecl fTX6_keep_1 15 = some (.aload_n 0, 1)) ∧ (fdecl fTX6_keep_1 16 = some (.aload_n 0, 1)) ∧ (fdecl fTX6_keep_1 17 = some (.getfield 11, 3)) ∧ (fdecl fTX6_keep_1 20 = some (.iload_n 1, 1)) ∧ (fdecl fTX6_keep_1 21 = some (.aaload, 1)) := by decide +kernel
theorem dX6_keep_57 : decode cX6_keep 57 = .ok (.bipush 100, 2) := fx_ok (d := 0) (i := 57) fDX6_keep_0 eX6_keep_57.1
theorem dX6_keep_59 : decode cX6_keep 59 = .ok (.if_icmp .ge 42, 3) := fx_ok (d := 0) (i := 59) fDX6_keep_0 eX6_keep_57.2.1
theorem dX6_keep_62 : decode cX6_keep 62 = .ok (.aload_n 0, 1) := fx_ok (d := 0) (i := 62) fDX6_keep_0 eX6_keep_57.2.2.1
theorem dX6_keep_63 : decode cX6_keep 63 = .ok (.getfield 11, 3) := fx_ok (d := 0) (i := 63) fDX6_keep_0 eX6_keep_57.2.2.2.1
theorem dX6_keep_66 : decode cX6_keep 66 = .ok (.iload_n 2, 1) := fx_ok (d := 64) (i := 2) fDX6_keep_1 eX6_keep_57.2.2.2.2.1
theorem dX6_keep_67 : decode cX6_keep 67 = .ok (.aaload, 1) := fx_ok (d := 64) (i := 3) fDX6_keep_1 eX6_keep_57.2.2.2.2.2.1
theorem dX6_keep_68 : decode cX6_keep 68 = .ok (.iload 5, 2) := fx_ok (d := 64) (i := 4) fDX6_keep_1 eX6_keep_57.2.2.2.2.2.2.1
theorem dX6_keep_70 : decode cX6_keep 70 = .ok (.invokevirtual 49, 3) := fx_ok (d := 64) (i := 6) fDX6_keep_1 eX6_keep_57.2.2.2.2.2.2.2.1
theorem dX6_keep_73 : decode cX6_keep 73 = .ok (.iload_n 3, 1) := fx_ok (d := 64) (i := 9) fDX6_keep_1 eX6_keep_57.2.2.2.2.2.2.2.2.1
theorem dX6_keep_74 : decode cX6_keep 74 = .ok (.if_icmp .eq 21, 3) := fx_ok (d := 64) (i := 10) fDX6_keep_1 eX6_keep_57.2.2.2.2.2.2.2.2.2.1
theorem dX6_keep_77 : decode cX6_keep 77 = .ok (.iload 4, 2) := fx_ok (d := 64) (i := 13) fDX6_keep_1 eX6_keep_57.2.2.2.2.2.2.2.2.2.2.1
theorem dX6_keep_79 : decode cX6_keep 79 = .ok (.aload_n 0, 1) := fx_ok (d := 64) (i := 15) fDX6_keep_1 eX6_keep_57.2.2.2.2.2.2.2.2.2.2.2.1
theorem dX6_keep_80 : decode cX6_keep 80 = .ok (.aload_n 0, 1) := fx_ok (d := 64) (i := 16) fDX6_keep_1 eX6_keep_57.2.2.2.2.2.2.2.2.2.2.2.2.1
theorem dX6_keep_81 : decode cX6_keep 81 = .ok (.getfield 11, 3) := fx_ok (d := 64) (i := 17) fDX6_keep_1 eX6_keep_57.2.2.2.2.2.2.2.2.2.2.2.2.2.1
theorem dX6_keep_84 : decode cX6_keep 84 = .ok (.iload_n 1, 1) := fx_ok (d := 64) (i := 20) fDX6_keep_1 eX6_keep_57.2.2.2.2.2.2.2.2.2.2.2.2.2.2.1
theorem dX6_keep_85 : decode cX6_keep 85 = .ok (.aaload, 1) := fx_ok (d := 64) (i := 21) fDX6_keep_1 eX6_keep_57.2.2.2.2.2.2.2.2.2.2.2.2.2.2.2
theorem eX6_keep_86 : (fdecl fTX6_keep_1 22 = some (.iload 5, 2)) ∧ (fdecl fTX6_keep_1 24 = some (.iconst (-1), 1)) ∧ (fdecl fTX6_keep_1 25 = some (.invokevirtual 103, 3)) ∧ (fdecl fTX6_keep_1 28 = some (.iadd, 1)) ∧ (fdecl fTX6_keep_1 29 = some (.istore 4, 2)) ∧ (fdecl fTX6_keep_1 34 = some (.goto (-43), 3)) ∧ (fdecl fTX6_keep_1 37 = some (.aload_n 0, 1)) ∧ (fdecl fTX6_keep_1 38 = some (.iload 4, 2)) ∧ (fdecl fTX6_keep_1 40 = some (.invokevirtual 71, 3)) ∧ (fdecl fTX6_keep_1 43 = some (.ireturn, 1)) := by decide +kernel
theorem dX6_keep_86 : decode cX6_keep 86 = .ok (.iload 5, 2) := fx_ok (d := 64) (i := 22) fDX6_keep_1 eX6_keep_86.1
theorem dX6_keep_88 : decode cX6_keep 88 = .ok (.iconst (-1), 1) := fx_ok (d := 64) (i := 24) fDX6_keep_1 eX6_keep_86.2.1
theorem dX6_keep_89 : decode cX6_keep 89 = .ok (.invokevirtual 103, 3) := fx_ok (d := 64) (i := 25) fDX6_keep_1 eX6_keep_86.2.2.1
theorem dX6_keep_92 : decode cX6_keep 92 = .ok (.iadd, 1) := fx_ok (d := 64) (i := 28) fDX6_keep_1 eX6_keep_86.2.2.2.1
theorem dX6_keep_93 : decode cX6_keep 93 = .ok (.istore 4, 2) := fx_ok (d := 64) (i := 29) fDX6_keep_1 eX6_keep_86.2.2.2.2.1
theorem dX6_keep_98 : decode cX6_keep 98 = .ok (.goto (-43), 3) := fx_ok (d := 64) (i := 34) fDX6_keep_1 eX6_keep_86.2.2.2.2.2.1
theorem dX6_keep_101 : decode cX6_keep 101 = .ok (.aload_n 0, 1) := fx_ok (d := 64) (i := 37) fDX6_keep_1 eX6_keep_86.2.2.2.2.2.2.1
theorem dX6_keep_102 : decode cX6_keep 102 = .ok (.iload 4, 2) := fx_ok (d := 64) (i := 38) fDX6_keep_1 eX6_keep_86.2.2.2.2.2.2.2.1
theorem dX6_keep_104 : decode cX6_keep 104 = .ok (.invokevirtual 71, 3) := fx_ok (d := 64) (i := 40) fDX6_keep_1 eX6_keep_86.2.2.2.2.2.2.2.2.1
theorem dX6_keep_107 : decode cX6_keep 107 = .ok (.ireturn, 1) := fx_ok (d := 64) (i := 43) fDX6_keep_1 eX6_keep_86.2.2.2.2.2.2.2.2.2
theorem dX6_keep_95 : decode cX6_keep 95 = .ok (.iinc 5 1, 3) := by decide +kernel
theorem eX6_change_0 : (fdecl cX6_change.data.toList 0 = some (.aload_n 0, 1)) ∧ (fdecl cX6_change.data.toList 1 = some (.aload_n 1, 1)) ∧ (fdecl cX6_change.data.toList 2 = some (.invokevirtual 96, 3)) ∧ (fdecl cX6_change.data.toList 5 = some (.aload_n 1, 1)) ∧ (fdecl cX6_change.data.toList 6 = some (.getfield 53, 3)) ∧ (fdecl cX6_change.data.toList 9 = some (.iload_n 2, 1)) ∧ (fdecl cX6_change.data.toList 10 = some (.iaload, 1)) ∧ (fdecl cX6_change.data.toList 11 = some (.istore 5, 2)) ∧ (fdecl cX6_change.data.toList 13 = some (.iload_n 3, 1)) ∧ (fdecl cX6_change.data.toList 14 = some (.ifCond .eq 12, 3)) ∧ (fdecl cX6_change.data.toList 17 = some (.aload_n 0, 1)) ∧ (fdecl cX6_change.data.toList 18 = some (.aload_n 1, 1)) ∧ (fdecl cX6_change.data.toList 19 = some (.iload_n 2, 1)) ∧ (fdecl cX6_change.data.toList 20 = some (.iload 4, 2)) ∧ (fdecl cX6_change.data.toList 22 = some (.invokevirtual 103, 3)) ∧ (fdecl cX6_change.data.toList 25 = some (.pop, 1)) := by decide +kernel
theorem dX6_change_0 : decode cX6_change 0 = .ok (.aload_n 0, 1) := fx_ok0 eX6_change_0.1
theorem dX6_change_1 : decode cX6_change 1 = .ok (.aload_n 1, 1) := fx_ok0 eX6_change_0.2.1
theorem dX6_change_2 : decode cX6_change 2 = .ok (.invokevirtual 96, 3) := fx_ok0 eX6_change_0.2.2.1
theorem dX6_change_5 : decode cX6_change 5 = .ok (.aload_n 1, 1) := fx_ok0 eX6_change_0.2.2.2.1
theorem dX6_change_6 : decode cX6_change 6 = .ok (.getfield 53, 3) := fx_ok0 eX6_change_0.2.2.2.2.1
theorem dX6_change_9 : decode cX6_change 9 = .ok (.iload_n 2, 1) := fx_ok0 eX6_change_0.2.2.2.2.2.1
theorem dX6_change_10 : decode cX6_change 10 = .ok (.iaload, 1) := fx_ok0 eX6_change_0.2.2.2.2.2.2.1
theorem dX6_change_11 : decode cX6_change 11 = .ok (.istore 5, 2) := fx_ok0 eX6_change_0.2.2.2.2.2.2.2.1
theorem dX6_change_13 : decode cX6_change 13 = .ok (.iload_n 3, 1) := fx_ok0 eX6_change_0.2.2.2.2.2.2.2.2.1
theorem dX6_change_14 : decode cX6_change 14 = .ok (.ifCond .eq 12, 3) := fx_ok0 eX6_change_0.2.2.2.2.2.2.2.2.2.1
theorem dX6_change_17 : decode cX6_change 17 = .ok (.aload_n 0, 1) := fx_ok0 eX6_change_0.2.2.2.2.2.2.2.2.2.2.1
theorem dX6_change_18 : decode cX6_change 18 = .ok (.aload_n 1, 1) := fx_ok0 eX6_change_0.2.2.2.2.2.2.2.2.2.2.2.1
theorem dX6_change_19 : decode cX6_change 19 = .ok (.iload_n 2, 1) := fx_ok0 eX6_change_0.2.2.2.2.2.2.2.2.2.2.2.2.1
theorem dX6_change_20 : decode cX6_change 20 = .ok (.iload 4, 2) := fx_ok0 eX6_change_0.2.2.2.2.2.2.2.2.2.2.2.2.2.1
theorem dX6_change_22 : decode cX6_change 22 = .ok (.invokevirtual 103, 3) := fx_ok0 eX6_change_0.2.2.2.2.2.2.2.2.2.2.2.2.2.2.1
theorem dX6_change_25 : decode cX6_change 25 = .ok (.pop, 1) := fx_ok0 eX6_change_0.2.2.2.2.2.2.2.2.2.2.2.2.2.2.2
theorem eX6_change_26 : (fdecl cX6_change.data.toList 26 = some (.aload_n 0, 1)) ∧ (fdecl cX6_change.data.toList 27 = some (.iload 5, 2)) ∧ (fdecl cX6_change.data.toList 29 = some (.invokevirtual 71, 3)) ∧ (fdecl cX6_change.data.toList 32 = some (.ireturn, 1)) := by decide +kernel
theorem dX6_change_26 : decode cX6_change 26 = .ok (.aload_n 0, 1) := fx_ok0 eX6_change_26.1
theorem dX6_change_27 : decode cX6_change 27 = .ok (.iload 5, 2) := fx_ok0 eX6_change_26.2.1
theorem dX6_change_29 : decode cX6_change 29 = .ok (.invokevirtual 71, 3) := fx_ok0 eX6_change_26.2.2.1
theorem dX6_change_32 : decode cX6_change 32 = .ok (.ireturn, 1) := fx_ok0 eX6_change_26.2.2.2
theorem eX6_put_0 : (fdecl cX6_put.data.toList 0 = some (.aload_n 0, 1)) ∧ (fdecl cX6_put.data.toList 1 = some (.iload_n 1, 1)) ∧ (fdecl cX6_put.data.toList 2 = some (.invokestatic 60, 3)) ∧ (fdecl cX6_put.data.toList 5 = some (.iload_n 2, 1)) ∧ (fdecl cX6_put.data.toList 6 = some (.invokestatic 86, 3)) ∧ (fdecl cX6_put.data.toList 9 = some (.ifCond .eq 24, 3)) ∧ (fdecl cX6_put.data.toList 12 = some (.iload_n 3, 1)) ∧ (fdecl cX6_put.data.toList 13 = some (.invokestatic 86, 3)) ∧ (fdecl cX6_put.data.toList 16 = some (.ifCond .eq 17, 3)) ∧ (fdecl cX6_put.data.toList 19 = some (.iload 4, 2)) ∧ (fdecl cX6_put.data.toList 21 = some (.iconst 0, 1)) ∧ (fdecl cX6_put.data.toList 22 = some (.iconst 2, 1)) ∧ (fdecl cX6_put.data.toList 23 = some (.invokestatic 41, 3)) ∧ (fdecl cX6_put.data.toList 26 = some (.ifCond .eq 7, 3)) ∧ (fdecl cX6_put.data.toList 29 = some (.iconst 1, 1)) ∧ (fdecl cX6_put.data.toList 30 = some (.goto 4, 3)) := by decide +kernel
theorem dX6_put_0 : decode cX6_put 0 = .ok (.aload_n 0, 1) := fx_ok0 eX6_put_0.1
theorem dX6_put_1 : decode cX6_put 1 = .ok (.iload_n 1, 1) := fx_ok0 eX6_put_0.2.1
theorem dX6_put_2 : decode cX6_put 2 = .ok (.invokestatic 60, 3) := fx_ok0 eX6_put_0.2.2.1
theorem dX6_put_5 : decode cX6_put 5 = .ok (.iload_n 2, 1) := fx_ok0 eX6_put_0.2.2.2.1
theorem dX6_put_6 : decode cX6_put 6 = .ok (.invokestatic 86, 3) := fx_ok0 eX6_put_0.2.2.2.2.1
theorem dX6_put_9 : decode cX6_put 9 = .ok (.ifCond .eq 24, 3) := fx_ok0 eX6_put_0.2.2.2.2.2.1
theorem dX6_put_12 : decode cX6_put 12 = .ok (.iload_n 3, 1) := fx_ok0 eX6_put_0.2.2.2.2.2.2.1
theorem dX6_put_13 : decode cX6_put 13 = .ok (.invokestatic 86, 3) := fx_ok0 eX6_put_0.2.2.2.2.2.2.2.1
theorem dX6_put_16 : decode cX6_put 16 = .ok (.ifCond .eq 17, 3) := fx_ok0 eX6_put_0.2.2.2.2.2.2.2.2.1
theorem dX6_put_19 : decode cX6_put 19 = .ok (.iload 4, 2) := fx_ok0 eX6_put_0.2.2.2.2.2.2.2.2.2.1
theorem dX6_put_21 : decode cX6_put 21 = .ok (.iconst 0, 1) := fx_ok0 eX6_put_0.2.2.2.2.2.2.2.2.2.2.1
theorem dX6_put_22 : decode cX6_put 22 = .ok (.iconst 2, 1) := fx_ok0 eX6_put_0.2.2.2.2.2.2.2.2.2.2.2.1
theorem dX6_put_23 : decode cX6_put 23 = .ok (.invokestatic 41, 3) := fx_ok0 eX6_put_0.2.2.2.2.2.2.2.2.2.2.2.2.1
theorem dX6_put_26 : decode cX6_put 26 = .ok (.ifCond .eq 7, 3) := fx_ok0 eX6_put_0.2.2.2.2.2.2.2.2.2.2.2.2.2.1
theorem dX6_put_29 : decode cX6_put 29 = .ok (.iconst 1, 1) := fx_ok0 eX6_put_0.2.2.2.2.2.2.2.2.2.2.2.2.2.2.1
theorem dX6_put_30 : decode cX6_put 30 = .ok (.goto 4, 3) := fx_ok0 eX6_put_0.2.2.2.2.2.2.2.2.2.2.2.2.2.2.2
theorem eX6_put_33 : (fdecl cX6_put.data.toList 33 = some (.iconst 0, 1)) ∧ (fdecl cX6_put.data.toList 34 = some (.invokevirtual 63, 3)) ∧ (fdecl cX6_put.data.toList 37 = some (.ifCond .ne 5, 3)) ∧ (fdecl cX6_put.data.toList 40 = some (.iconst 0, 1)) ∧ (fdecl cX6_put.data.toList 41 = some (.ireturn, 1)) ∧ (fdecl cX6_put.data.toList 42 = some (.aload_n 0, 1)) ∧ (fdecl cX6_put.data.toList 43 = some (.aload_n 0, 1)) ∧ (fdecl cX6_put.data.toList 44 = some (.getfield 11, 3)) ∧ (fdecl cX6_put.data.toList 47 = some (.iload_n 1, 1)) ∧ (fdecl cX6_put.data.toList 48 = some (.aaload, 1)) ∧ (fdecl cX6_put.data.toList 49 = some (.iload_n 2, 1)) ∧ (fdecl cX6_put.data.toList 50 = some (.iload 4, 2)) ∧ (fdecl cX6_put.data.toList 52 = some (.ifCond .eq 27, 3)) ∧ (fdecl cX6_put.data.toList 55 = some (.aload_n 0, 1)) ∧ (fdecl cX6_put.data.toList 56 = some (.getfield 11, 3)) ∧ (fdecl cX6_put.data.toList 59 = some (.iload_n 1, 1)) := by decide +kernel
theorem dX6_put_33 : decode cX6_put 33 = .ok (.iconst 0, 1) := fx_ok0 eX6_put_33.1
theorem dX6_put_34 : decode cX6_put 34 = .ok (.invokevirtual 63, 3) := fx_ok0 eX6_put_33.2.1
theorem dX6_put_37 : decode cX6_put 37 = .ok (.ifCond .ne 5, 3) := fx_ok0 eX6_put_33.2.2.1
theorem dX6_put_40 : decode cX6_put 40 = .ok (.iconst 0, 1) := fx_ok0 eX6_put_33.2.2.2.1
theorem dX6_put_41 : decode cX6_put 41 = .ok (.ireturn, 1) := fx_ok0 eX6_put_33.2.2.2.2.1
theorem dX6_put_42 : decode cX6_put 42 = .ok (.aload_n 0, 1) := fx_ok0 eX6_put_33.2.2.2.2.2.1
theorem dX6_put_43 : decode cX6_put 43 = .ok (.aload_n 0, 1) := fx_ok0 eX6_put_33.2.2.2.2.2.2.1
theorem dX6_put_44 : decode cX6_put 44 = .ok (.getfield 11, 3) := fx_ok0 eX6_put_33.2.2.2.2.2.2.2.1
theorem dX6_put_47 : decode cX6_put 47 = .ok (.iload_n 1, 1) := fx_ok0 eX6_put_33.2.2.2.2.2.2.2.2.1
theorem dX6_put_48 : decode cX6_put 48 = .ok (.aaload, 1) := fx_ok0 eX6_put_33.2.2.2.2.2.2.2.2.2.1
theorem dX6_put_49 : decode cX6_put 49 = .ok (.iload_n 2, 1) := fx_ok0 eX6_put_33.2.2.2.2.2.2.2.2.2.2.1
theorem dX6_put_50 : decode cX6_put 50 = .ok (.iload 4, 2) := fx_ok0 eX6_put_33.2.2.2.2.2.2.2.2.2.2.2.1
theorem dX6_put_52 : decode cX6_put 52 = .ok (.ifCond .eq 27, 3) := fx_ok0 eX6_put_33.2.2.2.2.2.2.2.2.2.2.2.2.1
theorem dX6_put_55 : decode cX6_put 55 = .ok (.aload_n 0, 1) := fx_ok0 eX6_put_33.2.2.2.2.2.2.2.2.2.2.2.2.2.1
theorem dX6_put_56 : decode cX6_put 56 = .ok (.getfield 11, 3) := fx_ok0 eX6_put_33.2.2.2.2.2.2.2.2.2.2.2.2.2.2.1
theorem dX6_put_59 : decode cX6_put 59 = .ok (.iload_n 1, 1) := fx_ok0 eX6_put_33.2.2.2.2.2.2.2.2.2.2.2.2.2.2.2
theorem eX6_put_60 : (fdecl cX6_put.data.toList 60 = some (.aaload, 1)) ∧ (fdecl cX6_put.data.toList 61 = some (.iload_n 2, 1)) ∧ (fdecl cX6_put.data.toList 62 = some (.invokevirtual 49, 3)) ∧ (fdecl cX6_put.data.toList 65 = some (.iload 4, 2)) ∧ (fdecl cX6_put.data.toList 67 = some (.iconst 2, 1)) ∧ (fdecl cX6_put.data.toList 68 = some (.if_icmp .ne 7, 3)) ∧ (fdecl cX6_put.data.toList 71 = some (.iconst 1, 1)) ∧ (fdecl cX6_put.data.toList 72 = some (.goto 4, 3)) ∧ (fdecl cX6_put.data.toList 75 = some (.iconst 0, 1)) ∧ (fdecl cX6_put.data.toList 76 = some (.if_icmp .ne 7, 3)) ∧ (fdecl cX6_put.data.toList 79 = some (.iconst 1, 1)) ∧ (fdecl cX6_put.data.toList 80 = some (.goto 4, 3)) ∧ (fdecl cX6_put.data.toList 83 = some (.iconst 0, 1)) ∧ (fdecl cX6_put.data.toList 84 = some (.iload_n 3, 1)) ∧ (fdecl cX6_put.data.toList 85 = some (.invokevirtual 107, 3)) ∧ (fdecl cX6_put.data.toList 88 = some (.ireturn, 1)) := by decide +kernel
theorem dX6_put_60 : decode cX6_put 60 = .ok (.aaload, 1) := fx_ok0 eX6_put_60.1
theorem dX6_put_61 : decode cX6_put 61 = .ok (.iload_n 2, 1) := fx_ok0 eX6_put_60.2.1
theorem dX6_put_62 : decode cX6_put 62 = .ok (.invokevirtual 49, 3) := fx_ok0 eX6_put_60.2.2.1
theorem dX6_put_65 : decode cX6_put 65 = .ok (.iload 4, 2) := fx_ok0 eX6_put_60.2.2.2.1
theorem dX6_put_67 : decode cX6_put 67 = .ok (.iconst 2, 1) := fx_ok0 eX6_put_60.2.2.2.2.1
theorem dX6_put_68 : decode cX6_put 68 = .ok (.if_icmp .ne 7, 3) := fx_ok0 eX6_put_60.2.2.2.2.2.1
theorem dX6_put_71 : decode cX6_put 71 = .ok (.iconst 1, 1) := fx_ok0 eX6_put_60.2.2.2.2.2.2.1
theorem dX6_put_72 : decode cX6_put 72 = .ok (.goto 4, 3) := fx_ok0 eX6_put_60.2.2.2.2.2.2.2.1
theorem dX6_put_75 : decode cX6_put 75 = .ok (.iconst 0, 1) := fx_ok0 eX6_put_60.2.2.2.2.2.2.2.2.1
theorem dX6_put_76 : decode cX6_put 76 = .ok (.if_icmp .ne 7, 3) := fx_ok0 eX6_put_60.2.2.2.2.2.2.2.2.2.1
theorem dX6_put_79 : decode cX6_put 79 = .ok (.iconst 1, 1) := fx_ok0 eX6_put_60.2.2.2.2.2.2.2.2.2.2.1
theorem dX6_put_80 : decode cX6_put 80 = .ok (.goto 4, 3) := fx_ok0 eX6_put_60.2.2.2.2.2.2.2.2.2.2.2.1
theorem dX6_put_83 : decode cX6_put 83 = .ok (.iconst 0, 1) := fx_ok0 eX6_put_60.2.2.2.2.2.2.2.2.2.2.2.2.1
theorem dX6_put_84 : decode cX6_put 84 = .ok (.iload_n 3, 1) := fx_ok0 eX6_put_60.2.2.2.2.2.2.2.2.2.2.2.2.2.1
theorem dX6_put_85 : decode cX6_put 85 = .ok (.invokevirtual 107, 3) := fx_ok0 eX6_put_60.2.2.2.2.2.2.2.2.2.2.2.2.2.2.1
theorem dX6_put_88 : decode cX6_put 88 = .ok (.ireturn, 1) := fx_ok0 eX6_put_60.2.2.2.2.2.2.2.2.2.2.2.2.2.2.2
theorem eX6_exchange_0 : (fdecl cX6_exchange.data.toList 0 = some (.aload_n 0, 1)) ∧ (fdecl cX6_exchange.data.toList 1 = some (.iload_n 1, 1)) ∧ (fdecl cX6_exchange.data.toList 2 = some (.invokestatic 60, 3)) ∧ (fdecl cX6_exchange.data.toList 5 = some (.iload_n 2, 1)) ∧ (fdecl cX6_exchange.data.toList 6 = some (.invokestatic 86, 3)) ∧ (fdecl cX6_exchange.data.toList 9 = some (.ifCond .eq 25, 3)) ∧ (fdecl cX6_exchange.data.toList 12 = some (.iload_n 3, 1)) ∧ (fdecl cX6_exchange.data.toList 13 = some (.invokestatic 86, 3)) ∧ (fdecl cX6_exchange.data.toList 16 = some (.ifCond .eq 18, 3)) ∧ (fdecl cX6_exchange.data.toList 19 = some (.iload 4, 2)) ∧ (fdecl cX6_exchange.data.toList 21 = some (.iconst (-1), 1)) ∧ (fdecl cX6_exchange.data.toList 22 = some (.bipush 99, 2)) ∧ (fdecl cX6_exchange.data.toList 24 = some (.invokestatic 41, 3)) ∧ (fdecl cX6_exchange.data.toList 27 = some (.ifCond .eq 7, 3)) ∧ (fdecl cX6_exchange.data.toList 30 = some (.iconst 1, 1)) ∧ (fdecl cX6_exchange.data.toList 31 = some (.goto 4, 3)) := by decide +kernel
theorem dX6_exchange_0 : decode cX6_exchange 0 = .ok (.aload_n 0, 1) := fx_ok0 eX6_exchange_0.1
theorem dX6_exchange_1 : decode cX6_exchange 1 = .ok (.iload_n 1, 1) := fx_ok0 eX6_exchange_0.2.1
theorem dX6_exchange_2 : decode cX6_exchange 2 = .ok (.invokestatic 60, 3) := fx_ok0 eX6_exchange_0.2.2.1
theorem dX6_exchange_5 : decode cX6_exchange 5 = .ok (.iload_n 2, 1) := fx_ok0 eX6_exchange_0.2.2.2.1
theorem dX6_exchange_6 : decode cX6_exchange 6 = .ok (.invokestatic 86, 3) := fx_ok0 eX6_exchange_0.2.2.2.2.1
theorem dX6_exchange_9 : decode cX6_exchange 9 = .ok (.ifCond .eq 25, 3) := fx_ok0 eX6_exchange_0.2.2.2.2.2.1
theorem dX6_exchange_12 : decode cX6_exchange 12 = .ok (.iload_n 3, 1) := fx_ok0 eX6_exchange_0.2.2.2.2.2.2.1
theorem dX6_exchange_13 : decode cX6_exchange 13 = .ok (.invokestatic 86, 3) := fx_ok0 eX6_exchange_0.2.2.2.2.2.2.2.1
theorem dX6_exchange_16 : decode cX6_exchange 16 = .ok (.ifCond .eq 18, 3) := fx_ok0 eX6_exchange_0.2.2.2.2.2.2.2.2.1
theorem dX6_exchange_19 : decode cX6_exchange 19 = .ok (.iload 4, 2) := fx_ok0 eX6_exchange_0.2.2.2.2.2.2.2.2.2.1
theorem dX6_exchange_21 : decode cX6_exchange 21 = .ok (.iconst (-1), 1) := fx_ok0 eX6_exchange_0.2.2.2.2.2.2.2.2.2.2.1
theorem dX6_exchange_22 : decode cX6_exchange 22 = .ok (.bipush 99, 2) := fx_ok0 eX6_exchange_0.2.2.2.2.2.2.2.2.2.2.2.1
theorem dX6_exchange_24 : decode cX6_exchange 24 = .ok (.invokestatic 41, 3) := fx_ok0 eX6_exchange_0.2.2.2.2.2.2.2.2.2.2.2.2.1
theorem dX6_exchange_27 : decode cX6_exchange 27 = .ok (.ifCond .eq 7, 3) := fx_ok0 eX6_exchange_0.2.2.2.2.2.2.2.2.2.2.2.2.2.1
theorem dX6_exchange_30 : decode cX6_exchange 30 = .ok (.iconst 1, 1) := fx_ok0 eX6_exchange_0.2.2.2.2.2.2.2.2.2.2.2.2.2.2.1
theorem dX6_exchange_31 : decode cX6_exchange 31 = .ok (.goto 4, 3) := fx_ok0 eX6_exchange_0.2.2.2.2.2.2.2.2.2.2.2.2.2.2.2
theorem eX6_exchange_34 : (fdecl cX6_exchange.data.toList 34 = some (.iconst 0, 1)) ∧ (fdecl cX6_exchange.data.toList 35 = some (.invokevirtual 63, 3)) ∧ (fdecl cX6_exchange.data.toList 38 = some (.ifCond .ne 5, 3)) ∧ (fdecl cX6_exchange.data.toList 41 = some (.iconst 0, 1)) ∧ (fdecl cX6_exchange.data.toList 42 = some (.ireturn, 1)) ∧ (fdecl cX6_exchange.data.toList 43 = some (.aload_n 0, 1)) ∧ (fdecl cX6_exchange.data.toList 44 = some (.aload_n 0, 1)) ∧ (fdecl cX6_exchange.data.toList 45 = some (.getfield 11, 3)) ∧ (fdecl cX6_exchange.data.toList 48 = some (.iload_n 1, 1)) ∧ (fdecl cX6_exchange.data.toList 49 = some (.aaload, 1)) ∧ (fdecl cX6_exchange.data.toList 50 = some (.iload_n 2, 1)) ∧ (fdecl cX6_exchange.data.toList 51 = some (.aload_n 0, 1)) ∧ (fdecl cX6_exchange.data.toList 52 = some (.getfield 11, 3)) ∧ (fdecl cX6_exchange.data.toList 55 = some (.iload_n 1, 1)) ∧ (fdecl cX6_exchange.data.toList 56 = some (.aaload, 1)) ∧ (fdecl cX6_exchange.data.toList 57 = some (.getfield 53, 3)) := by decide +kernel
theorem dX6_exchange_34 : decode cX6_exchange 34 = .ok (.iconst 0, 1) := fx_ok0 eX6_exchange_34.1
theorem dX6_exchange_35 : decode cX6_exchange 35 = .ok (.invokevirtual 63, 3) := fx_ok0 eX6_exchange_34.2.1
theorem dX6_exchange_38 : decode cX6_exchange 38 = .ok (.ifCond .ne 5, 3) := fx_ok0 eX6_exchange_34.2.2.1
theorem dX6_exchange_41 : decode cX6_exchange 41 = .ok (.iconst 0, 1) := fx_ok0 eX6_exchange_34.2.2.2.1
theorem dX6_exchange_42 : decode cX6_exchange 42 = .ok (.ireturn, 1) := fx_ok0 eX6_exchange_34.2.2.2.2.1
theorem dX6_exchange_43 : decode cX6_exchange 43 = .ok (.aload_n 0, 1) := fx_ok0 eX6_exchange_34.2.2.2.2.2.1
theorem dX6_exchange_44 : decode cX6_exchange 44 = .ok (.aload_n 0, 1) := fx_ok0 eX6_exchange_34.2.2.2.2.2.2.1
theorem dX6_exchange_45 : decode cX6_exchange 45 = .ok (.getfield 11, 3) := fx_ok0 eX6_exchange_34.2.2.2.2.2.2.2.1
theorem dX6_exchange_48 : decode cX6_exchange 48 = .ok (.iload_n 1, 1) := fx_ok0 eX6_exchange_34.2.2.2.2.2.2.2.2.1
theorem dX6_exchange_49 : decode cX6_exchange 49 = .ok (.aaload, 1) := fx_ok0 eX6_exchange_34.2.2.2.2.2.2.2.2.2.1
theorem dX6_exchange_50 : decode cX6_exchange 50 = .ok (.iload_n 2, 1) := fx_ok0 eX6_exchange_34.2.2.2.2.2.2.2.2.2.2.1
theorem dX6_exchange_51 : decode cX6_exchange 51 = .ok (.aload_n 0, 1) := fx_ok0 eX6_exchange_34.2.2.2.2.2.2.2.2.2.2.2.1
theorem dX6_exchange_52 : decode cX6_exchange 52 = .ok (.getfield 11, 3) := fx_ok0 eX6_exchange_34.2.2.2.2.2.2.2.2.2.2.2.2.1
theorem dX6_exchange_55 : decode cX6_exchange 55 = .ok (.iload_n 1, 1) := fx_ok0 eX6_exchange_34.2.2.2.2.2.2.2.2.2.2.2.2.2.1
theorem dX6_exchange_56 : decode cX6_exchange 56 = .ok (.aaload, 1) := fx_ok0 eX6_exchange_34.2.2.2.2.2.2.2.2.2.2.2.2.2.2.1
theorem dX6_exchange_57 : decode cX6_exchange 57 = .ok (.getfield 53, 3) := fx_ok0 eX6_exchange_34.2.2.2.2.2.2.2.2.2.2.2.2.2.2.2
theorem eX6_exchange_60 : (fdecl cX6_exchange.data.toList 60 = some (.iload_n 2, 1)) ∧ (fdecl cX6_exchange.data.toList 61 = some (.iaload, 1)) ∧ (fdecl cX6_exchange.data.toList 62 = some (.iload_n 3, 1)) ∧ (fdecl cX6_exchange.data.toList 63 = some (.if_icmp .ne 7, 3)) ∧ (fdecl cX6_exchange.data.toList 66 = some (.iconst 1, 1)) ∧ (fdecl cX6_exchange.data.toList 67 = some (.goto 4, 3)) ∧ (fdecl cX6_exchange.data.toList 70 = some (.iconst 0, 1)) ∧ (fdecl cX6_exchange.data.toList 71 = some (.iload 4, 2)) ∧ (fdecl cX6_exchange.data.toList 73 = some (.invokevirtual 107, 3)) ∧ (fdecl cX6_exchange.data.toList 76 = some (.iload_n 3, 1)) ∧ (fdecl cX6_exchange.data.toList 77 = some (.if_icmp .ne 7, 3)) ∧ (fdecl cX6_exchange.data.toList 80 = some (.iconst 1, 1)) ∧ (fdecl cX6_exchange.data.toList 81 = some (.goto 4, 3)) ∧ (fdecl cX6_exchange.data.toList 84 = some (.iconst 0, 1)) ∧ (fdecl cX6_exchange.data.toList 85 = some (.ireturn, 1)) := by decide +kernel
theorem dX6_exchange_60 : decode cX6_exchange 60 = .ok (.iload_n 2, 1) := fx_ok0 eX6_exchange_60.1
theorem dX6_exchange_61 : decode cX6_exchange 61 = .ok (.iaload, 1) := fx_ok0 eX6_exchange_60.2.1
theorem dX6_exchange_62 : decode cX6_exchange 62 = .ok (.iload_n 3, 1) := fx_ok0 eX6_exchange_60.2.2.1
theorem dX6_exchange_63 : decode cX6_exchange 63 = .ok (.if_icmp .ne 7, 3) := fx_ok0 eX6_exchange_60.2.2.2.1
theorem dX6_exchange_66 : decode cX6_exchange 66 = .ok (.iconst 1, 1) := fx_ok0 eX6_exchange_60.2.2.2.2.1
theorem dX6_exchange_67 : decode cX6_exchange 67 = .ok (.goto 4, 3) := fx_ok0 eX6_exchange_60.2.2.2.2.2.1
theorem dX6_exchange_70 : decode cX6_exchange 70 = .ok (.iconst 0, 1) := fx_ok0 eX6_exchange_60.2.2.2.2.2.2.1
theorem dX6_exchange_71 : decode cX6_exchange 71 = .ok (.iload 4, 2) := fx_ok0 eX6_exchange_60.2.2.2.2.2.2.2.1
theorem dX6_exchange_73 : decode cX6_exchange 73 = .ok (.invokevirtual 107, 3) := fx_ok0 eX6_exchange_60.2.2.2.2.2.2.2.2.1
theorem dX6_exchange_76 : decode cX6_exchange 76 = .ok (.iload_n 3, 1) := fx_ok0 eX6_exchange_60.2.2.2.2.2.2.2.2.2.1
theorem dX6_exchange_77 : decode cX6_exchange 77 = .ok (.if_icmp .ne 7, 3) := fx_ok0 eX6_exchange_60.2.2.2.2.2.2.2.2.2.2.1
theorem dX6_exchange_80 : decode cX6_exchange 80 = .ok (.iconst 1, 1) := fx_ok0 eX6_exchange_60.2.2.2.2.2.2.2.2.2.2.2.1
theorem dX6_exchange_81 : decode cX6_exchange 81 = .ok (.goto 4, 3) := fx_ok0 eX6_exchange_60.2.2.2.2.2.2.2.2.2.2.2.2.1
theorem dX6_exchange_84 : decode cX6_exchange 84 = .ok (.iconst 0, 1) := fx_ok0 eX6_exchange_60.2.2.2.2.2.2.2.2.2.2.2.2.2.1
theorem dX6_exchange_85 : decode cX6_exchange 85 = .ok (.ireturn, 1) := fx_ok0 eX6_exchange_60.2.2.2.2.2.2.2.2.2.2.2.2.2.2
theorem eX6_take_0 : (fdecl cX6_take.data.toList 0 = some (.aload_n 0, 1)) ∧ (fdecl cX6_take.data.toList 1 = some (.iload_n 1, 1)) ∧ (fdecl cX6_take.data.toList 2 = some (.invokestatic 60, 3)) ∧ (fdecl cX6_take.data.toList 5 = some (.iload_n 2, 1)) ∧ (fdecl cX6_take.data.toList 6 = some (.invokestatic 86, 3)) ∧ (fdecl cX6_take.data.toList 9 = some (.invokevirtual 63, 3)) ∧ (fdecl cX6_take.data.toList 12 = some (.ifCond .eq 19, 3)) ∧ (fdecl cX6_take.data.toList 15 = some (.aload_n 0, 1)) ∧ (fdecl cX6_take.data.toList 16 = some (.aload_n 0, 1)) ∧ (fdecl cX6_take.data.toList 17 = some (.getfield 11, 3)) ∧ (fdecl cX6_take.data.toList 20 = some (.iload_n 1, 1)) ∧ (fdecl cX6_take.data.toList 21 = some (.aaload, 1)) ∧ (fdecl cX6_take.data.toList 22 = some (.iload_n 2, 1)) ∧ (fdecl cX6_take.data.toList 23 = some (.iconst 1, 1)) ∧ (fdecl cX6_take.data.toList 24 = some (.iconst (-1), 1)) ∧ (fdecl cX6_take.data.toList 25 = some (.invokevirtual 107, 3)) := by decide +kernel
theorem dX6_take_0 : decode cX6_take 0 = .ok (.aload_n 0, 1) := fx_ok0 eX6_take_0.1
theorem dX6_take_1 : decode cX6_take 1 = .ok (.iload_n 1, 1) := fx_ok0 eX6_take_0.2.1
theorem dX6_take_2 : decode cX6_take 2 = .ok (.invokestatic 60, 3) := fx_ok0 eX6_take_0.2.2.1
theorem dX6_take_5 : decode cX6_take 5 = .ok (.iload_n 2, 1) := fx_ok0 eX6_take_0.2.2.2.1
theorem dX6_take_6 : decode cX6_take 6 = .ok (.invokestatic 86, 3) := fx_ok0 eX6_take_0.2.2.2.2.1
theorem dX6_take_9 : decode cX6_take 9 = .ok (.invokevirtual 63, 3) := fx_ok0 eX6_take_0.2.2.2.2.2.1
theorem dX6_take_12 : decode cX6_take 12 = .ok (.ifCond .eq 19, 3) := fx_ok0 eX6_take_0.2.2.2.2.2.2.1
theorem dX6_take_15 : decode cX6_take 15 = .ok (.aload_n 0, 1) := fx_ok0 eX6_take_0.2.2.2.2.2.2.2.1
theorem dX6_take_16 : decode cX6_take 16 = .ok (.aload_n 0, 1) := fx_ok0 eX6_take_0.2.2.2.2.2.2.2.2.1
theorem dX6_take_17 : decode cX6_take 17 = .ok (.getfield 11, 3) := fx_ok0 eX6_take_0.2.2.2.2.2.2.2.2.2.1
theorem dX6_take_20 : decode cX6_take 20 = .ok (.iload_n 1, 1) := fx_ok0 eX6_take_0.2.2.2.2.2.2.2.2.2.2.1
theorem dX6_take_21 : decode cX6_take 21 = .ok (.aaload, 1) := fx_ok0 eX6_take_0.2.2.2.2.2.2.2.2.2.2.2.1
theorem dX6_take_22 : decode cX6_take 22 = .ok (.iload_n 2, 1) := fx_ok0 eX6_take_0.2.2.2.2.2.2.2.2.2.2.2.2.1
theorem dX6_take_23 : decode cX6_take 23 = .ok (.iconst 1, 1) := fx_ok0 eX6_take_0.2.2.2.2.2.2.2.2.2.2.2.2.2.1
theorem dX6_take_24 : decode cX6_take 24 = .ok (.iconst (-1), 1) := fx_ok0 eX6_take_0.2.2.2.2.2.2.2.2.2.2.2.2.2.2.1
theorem dX6_take_25 : decode cX6_take 25 = .ok (.invokevirtual 107, 3) := fx_ok0 eX6_take_0.2.2.2.2.2.2.2.2.2.2.2.2.2.2.2
theorem eX6_take_28 : (fdecl cX6_take.data.toList 28 = some (.goto 4, 3)) ∧ (fdecl cX6_take.data.toList 31 = some (.iconst 0, 1)) ∧ (fdecl cX6_take.data.toList 32 = some (.ireturn, 1)) := by decide +kernel
theorem dX6_take_28 : decode cX6_take 28 = .ok (.goto 4, 3) := fx_ok0 eX6_take_28.1
theorem dX6_take_31 : decode cX6_take 31 = .ok (.iconst 0, 1) := fx_ok0 eX6_take_28.2.1
theorem dX6_take_32 : decode cX6_take 32 = .ok (.ireturn, 1) := fx_ok0 eX6_take_28.2.2
def fAX6_dropped_0 : List UInt8 := [42, 43, 182, 0, 96, 28, 5, 160, 0, 42, 3, 54, 5, 29, 54, 6, 21, 6, 21, 4, 163, 0, 26, 21, 5, 42, 43, 43, 21, 6, 182, 0, 100, 2, 182, 0, 103, 96, 54, 5, 132, 6, 1, 167, 255, 229, 21, 5, 172, 28, 154, 0, 13, 43, 29, 21, 4, 182, 0, 111, 167, 0, 10, 43]
def fAX6_dropped_1 : List UInt8 := [29, 21, 4, 182, 0, 114, 54, 5, 21, 5, 2, 160, 0, 5, 2, 172, 43, 21, 5, 182, 0, 117, 54, 6, 42, 43, 21, 5, 2, 182, 0, 103, 87, 21, 6, 172]
def fTX6_dropped_1 : List UInt8 := fAX6_dropped_1
def fTX6_dropped_0 : List UInt8 := fAX6_dropped_0 ++ fTX6_dropped_1
theorem fDX6_dropped_0 : cX6_dropped.data.toList.drop 0 = fTX6_dropped_0 := eq_of_beq (by decide +kernel)
theorem fDX6_dropped_1 : cX6_dropped.data.toList.drop 64 = fTX6_dropped_1 := fx_nx (d := 0) (n := 64) (a := fAX6_dropped_0) fDX6_dropped_0 rfl
theorem eX6_dropped_0 : (fdecl fTX6_dropped_0 0 = some (.aload_n 0, 1)) ∧ (fdecl fTX6_dropped_0 1 = some (.aload_n 1, 1)) ∧ (fdecl fTX6_dropped_0 2 = some (.invokevirtual 96, 3)) ∧ (fdecl fTX6_dropped_0 5 = some (.iload_n 2, 1)) ∧ (fdecl fTX6_dropped_0 6 = some (.iconst 2, 1)) ∧ (fdecl fTX6_dropped_0 7 = some (.if_icmp .ne 42, 3)) ∧ (fdecl fTX6_dropped_0 10 = some (.iconst 0, 1)) ∧ (fdecl fTX6_dropped_0 11 = some (.istore 5, 2)) ∧ (fdecl fTX6_dropped_0 13 = some (.iload_n 3, 1)) ∧ (fdecl fTX6_dropped_0 14 = some (.istore 6, 2)) ∧ (fdecl fTX6_dropped_0 16 = some (.iload 6, 2)) ∧ (fdecl fTX6_dropped_0 18 = some (.iload 4, 2)) ∧ (fdecl fTX6_dropped_0 20 = some (.if_icmp .gt 26, 3)) ∧ (fdecl fTX6_dropped_0 23 = some (.iload 5, 2)) ∧ (fdecl fTX6_dropped_0 25 = some (.aload_n 0, 1)) ∧ (fdecl fTX6_dropped_0 26 = some (.aload_n 1, 1)) := by decide +kernel
theorem dX6_dropped_0 : decode cX6_dropped 0 = .ok (.aload_n 0, 1) := fx_ok (d := 0) (i := 0) fDX6_dropped_0 eX6_dropped_0.1
theorem dX6_dropped_1 : decode cX6_dropped 1 = .ok (.aload_n 1, 1) := fx_ok (d := 0) (i := 1) fDX6_dropped_0 eX6_dropped_0.2.1
theorem dX6_dropped_2 : decode cX6_dropped 2 = .ok (.invokevirtual 96, 3) := fx_ok (d := 0) (i := 2) fDX6_dropped_0 eX6_dropped_0.2.2.1
theorem dX6_dropped_5 : decode cX6_dropped 5 = .ok (.iload_n 2, 1) := fx_ok (d := 0) (i := 5) fDX6_dropped_0 eX6_dropped_0.2.2.2.1
theorem dX6_dropped_6 : decode cX6_dropped 6 = .ok (.iconst 2, 1) := fx_ok (d := 0) (i := 6) fDX6_dropped_0 eX6_dropped_0.2.2.2.2.1
theorem dX6_dropped_7 : decode cX6_dropped 7 = .ok (.if_icmp .ne 42, 3) := fx_ok (d := 0) (i := 7) fDX6_dropped_0 eX6_dropped_0.2.2.2.2.2.1
theorem dX6_dropped_10 : decode cX6_dropped 10 = .ok (.iconst 0, 1) := fx_ok (d := 0) (i := 10) fDX6_dropped_0 eX6_dropped_0.2.2.2.2.2.2.1
theorem dX6_dropped_11 : decode cX6_dropped 11 = .ok (.istore 5, 2) := fx_ok (d := 0) (i := 11) fDX6_dropped_0 eX6_dropped_0.2.2.2.2.2.2.2.1
theorem dX6_dropped_13 : decode cX6_dropped 13 = .ok (.iload_n 3, 1) := fx_ok (d := 0) (i := 13) fDX6_dropped_0 eX6_dropped_0.2.2.2.2.2.2.2.2.1
theorem dX6_dropped_14 : decode cX6_dropped 14 = .ok (.istore 6, 2) := fx_ok (d := 0) (i := 14) fDX6_dropped_0 eX6_dropped_0.2.2.2.2.2.2.2.2.2.1
theorem dX6_dropped_16 : decode cX6_dropped 16 = .ok (.iload 6, 2) := fx_ok (d := 0) (i := 16) fDX6_dropped_0 eX6_dropped_0.2.2.2.2.2.2.2.2.2.2.1
theorem dX6_dropped_18 : decode cX6_dropped 18 = .ok (.iload 4, 2) := fx_ok (d := 0) (i := 18) fDX6_dropped_0 eX6_dropped_0.2.2.2.2.2.2.2.2.2.2.2.1
theorem dX6_dropped_20 : decode cX6_dropped 20 = .ok (.if_icmp .gt 26, 3) := fx_ok (d := 0) (i := 20) fDX6_dropped_0 eX6_dropped_0.2.2.2.2.2.2.2.2.2.2.2.2.1
theorem dX6_dropped_23 : decode cX6_dropped 23 = .ok (.iload 5, 2) := fx_ok (d := 0) (i := 23) fDX6_dropped_0 eX6_dropped_0.2.2.2.2.2.2.2.2.2.2.2.2.2.1
theorem dX6_dropped_25 : decode cX6_dropped 25 = .ok (.aload_n 0, 1) := fx_ok (d := 0) (i := 25) fDX6_dropped_0 eX6_dropped_0.2.2.2.2.2.2.2.2.2.2.2.2.2.2.1
theorem dX6_dropped_26 : decode cX6_dropped 26 = .ok (.aload_n 1, 1) := fx_ok (d := 0) (i := 26) fDX6_dropped_0 eX6_dropped_0.2.2.2.2.2.2.2.2.2.2.2.2.2.2.2
theorem eX6_dropped_27 : (fdecl fTX6_dropped_0 27 = some (.aload_n 1, 1)) ∧ (fdecl fTX6_dropped_0 28 = some (.iload 6, 2)) ∧ (fdecl fTX6_dropped_0 30 = some (.invokevirtual 100, 3)) ∧ (fdecl fTX6_dropped_0 33 = some (.iconst (-1), 1)) ∧ (fdecl fTX6_dropped_0 34 = some (.invokevirtual 103, 3)) ∧ (fdecl fTX6_dropped_0 37 = some (.iadd, 1)) ∧ (fdecl fTX6_dropped_0 38 = some (.istore 5, 2)) ∧ (fdecl fTX6_dropped_0 43 = some (.goto (-27), 3)) ∧ (fdecl fTX6_dropped_0 46 = some (.iload 5, 2)) ∧ (fdecl fTX6_dropped_0 48 = some (.ireturn, 1)) ∧ (fdecl fTX6_dropped_0 49 = some (.iload_n 2, 1)) ∧ (fdecl fTX6_dropped_0 50 = some (.ifCond .ne 13, 3)) ∧ (fdecl fTX6_dropped_0 53 = some (.aload_n 1, 1)) ∧ (fdecl fTX6_dropped_0 54 = some (.iload_n 3, 1)) ∧ (fdecl fTX6_dropped_0 55 = some (.iload 4, 2)) ∧ (fdecl fTX6_dropped_0 57 = some (.invokevirtual 111, 3)) := by decide +kernel
theorem dX6_dropped_27 : decode cX6_dropped 27 = .ok (.aload_n 1, 1) := fx_ok (d := 0) (i := 27) fDX6_dropped_0 eX6_dropped_27.1
theorem dX6_dropped_28 : decode cX6_dropped 28 = .ok (.iload 6, 2) := fx_ok (d := 0) (i := 28) fDX6_dropped_0 eX6_dropped_27.2.1
theorem dX6_dropped_30 : decode cX6_dropped 30 = .ok (.invokevirtual 100, 3) := fx_ok (d := 0) (i := 30) fDX6_dropped_0 eX6_dropped_27.2.2.1
theorem dX6_dropped_33 : decode cX6_dropped 33 = .ok (.iconst (-1), 1) := fx_ok (d := 0) (i := 33) fDX6_dropped_0 eX6_dropped_27.2.2.2.1
theorem dX6_dropped_34 : decode cX6_dropped 34 = .ok (.invokevirtual 103, 3) := fx_ok (d := 0) (i := 34) fDX6_dropped_0 eX6_dropped_27.2.2.2.2.1
theorem dX6_dropped_37 : decode cX6_dropped 37 = .ok (.iadd, 1) := fx_ok (d := 0) (i := 37) fDX6_dropped_0 eX6_dropped_27.2.2.2.2.2.1
theorem dX6_dropped_38 : decode cX6_dropped 38 = .ok (.istore 5, 2) := fx_ok (d := 0) (i := 38) fDX6_dropped_0 eX6_dropped_27.2.2.2.2.2.2.1
theorem dX6_dropped_43 : decode cX6_dropped 43 = .ok (.goto (-27), 3) := fx_ok (d := 0) (i := 43) fDX6_dropped_0 eX6_dropped_27.2.2.2.2.2.2.2.1
theorem dX6_dropped_46 : decode cX6_dropped 46 = .ok (.iload 5, 2) := fx_ok (d := 0) (i := 46) fDX6_dropped_0 eX6_dropped_27.2.2.2.2.2.2.2.2.1
theorem dX6_dropped_48 : decode cX6_dropped 48 = .ok (.ireturn, 1) := fx_ok (d := 0) (i := 48) fDX6_dropped_0 eX6_dropped_27.2.2.2.2.2.2.2.2.2.1
theorem dX6_dropped_49 : decode cX6_dropped 49 = .ok (.iload_n 2, 1) := fx_ok (d := 0) (i := 49) fDX6_dropped_0 eX6_dropped_27.2.2.2.2.2.2.2.2.2.2.1
theorem dX6_dropped_50 : decode cX6_dropped 50 = .ok (.ifCond .ne 13, 3) := fx_ok (d := 0) (i := 50) fDX6_dropped_0 eX6_dropped_27.2.2.2.2.2.2.2.2.2.2.2.1
theorem dX6_dropped_53 : decode cX6_dropped 53 = .ok (.aload_n 1, 1) := fx_ok (d := 0) (i := 53) fDX6_dropped_0 eX6_dropped_27.2.2.2.2.2.2.2.2.2.2.2.2.1
theorem dX6_dropped_54 : decode cX6_dropped 54 = .ok (.iload_n 3, 1) := fx_ok (d := 0) (i := 54) fDX6_dropped_0 eX6_dropped_27.2.2.2.2.2.2.2.2.2.2.2.2.2.1
theorem dX6_dropped_55 : decode cX6_dropped 55 = .ok (.iload 4, 2) := fx_ok (d := 0) (i := 55) fDX6_dropped_0 eX6_dropped_27.2.2.2.2.2.2.2.2.2.2.2.2.2.2.1
theorem dX6_dropped_57 : decode cX6_dropped 57 = .ok (.invokevirtual 111, 3) := fx_ok (d := 0) (i := 57) fDX6_dropped_0 eX6_dropped_27.2.2.2.2.2.2.2.2.2.2.2.2.2.2.2
theorem eX6_dropped_60 : (fdecl fTX6_dropped_0 60 = some (.goto 10, 3)) ∧ (fdecl fTX6_dropped_0 63 = some (.aload_n 1, 1)) ∧ (fdecl fTX6_dropped_1 0 = some (.iload_n 3, 1)) ∧ (fdecl fTX6_dropped_1 1 = some (.iload 4, 2)) ∧ (fdecl fTX6_dropped_1 3 = some (.invokevirtual 114, 3)) ∧ (fdecl fTX6_dropped_1 6 = some (.istore 5, 2)) ∧ (fdecl fTX6_dropped_1 8 = some (.iload 5, 2)) ∧ (fdecl fTX6_dropped_1 10 = some (.iconst (-1), 1)) ∧ (fdecl fTX6_dropped_1 11 = some (.if_icmp .ne 5, 3)) ∧ (fdecl fTX6_dropped_1 14 = some (.iconst (-1), 1)) ∧ (fdecl fTX6_dropped_1 15 = some (.ireturn, 1)) ∧ (fdecl fTX6_dropped_1 16 = some (.aload_n 1, 1)) ∧ (fdecl fTX6_dropped_1 17 = some (.iload 5, 2)) ∧ (fdecl fTX6_dropped_1 19 = some (.invokevirtual 117, 3)) ∧ (fdecl fTX6_dropped_1 22 = some (.istore 6, 2)) ∧ (fdecl fTX6_dropped_1 24 = some (.aload_n 0, 1)) := by decide +kernel
theorem dX6_dropped_60 : decode cX6_dropped 60 = .ok (.goto 10, 3) := fx_ok (d := 0) (i := 60) fDX6_dropped_0 eX6_dropped_60.1
theorem dX6_dropped_63 : decode cX6_dropped 63 = .ok (.aload_n 1, 1) := fx_ok (d := 0) (i := 63) fDX6_dropped_0 eX6_dropped_60.2.1
theorem dX6_dropped_64 : decode cX6_dropped 64 = .ok (.iload_n 3, 1) := fx_ok (d := 64) (i := 0) fDX6_dropped_1 eX6_dropped_60.2.2.1
theorem dX6_dropped_65 : decode cX6_dropped 65 = .ok (.iload 4, 2) := fx_ok (d := 64) (i := 1) fDX6_dropped_1 eX6_dropped_60.2.2.2.1
theorem dX6_dropped_67 : decode cX6_dropped 67 = .ok (.invokevirtual 114, 3) := fx_ok (d := 64) (i := 3) fDX6_dropped_1 eX6_dropped_60.2.2.2.2.1
theorem dX6_dropped_70 : decode cX6_dropped 70 = .ok (.istore 5, 2) := fx_ok (d := 64) (i := 6) fDX6_dropped_1 eX6_dropped_60.2.2.2.2.2.1
theorem dX6_dropped_72 : decode cX6_dropped 72 = .ok (.iload 5, 2) := fx_ok (d := 64) (i := 8) fDX6_dropped_1 eX6_dropped_60.2.2.2.2.2.2.1
theorem dX6_dropped_74 : decode cX6_dropped 74 = .ok (.iconst (-1), 1) := fx_ok (d := 64) (i := 10) fDX6_dropped_1 eX6_dropped_60.2.2.2.2.2.2.2.1
theorem dX6_dropped_75 : decode cX6_dropped 75 = .ok (.if_icmp .ne 5, 3) := fx_ok (d := 64) (i := 11) fDX6_dropped_1 eX6_dropped_60.2.2.2.2.2.2.2.2.1
theorem dX6_dropped_78 : decode cX6_dropped 78 = .ok (.iconst (-1), 1) := fx_ok (d := 64) (i := 14) fDX6_dropped_1 eX6_dropped_60.2.2.2.2.2.2.2.2.2.1
theorem dX6_dropped_79 : decode cX6_dropped 79 = .ok (.ireturn, 1) := fx_ok (d := 64) (i := 15) fDX6_dropped_1 eX6_dropped_60.2.2.2.2.2.2.2.2.2.2.1
theorem dX6_dropped_80 : decode cX6_dropped 80 = .ok (.aload_n 1, 1) := fx_ok (d := 64) (i := 16) fDX6_dropped_1 eX6_dropped_60.2.2.2.2.2.2.2.2.2.2.2.1
theorem dX6_dropped_81 : decode cX6_dropped 81 = .ok (.iload 5, 2) := fx_ok (d := 64) (i := 17) fDX6_dropped_1 eX6_dropped_60.2.2.2.2.2.2.2.2.2.2.2.2.1
theorem dX6_dropped_83 : decode cX6_dropped 83 = .ok (.invokevirtual 117, 3) := fx_ok (d := 64) (i := 19) fDX6_dropped_1 eX6_dropped_60.2.2.2.2.2.2.2.2.2.2.2.2.2.1
theorem dX6_dropped_86 : decode cX6_dropped 86 = .ok (.istore 6, 2) := fx_ok (d := 64) (i := 22) fDX6_dropped_1 eX6_dropped_60.2.2.2.2.2.2.2.2.2.2.2.2.2.2.1
theorem dX6_dropped_88 : decode cX6_dropped 88 = .ok (.aload_n 0, 1) := fx_ok (d := 64) (i := 24) fDX6_dropped_1 eX6_dropped_60.2.2.2.2.2.2.2.2.2.2.2.2.2.2.2
theorem eX6_dropped_89 : (fdecl fTX6_dropped_1 25 = some (.aload_n 1, 1)) ∧ (fdecl fTX6_dropped_1 26 = some (.iload 5, 2)) ∧ (fdecl fTX6_dropped_1 28 = some (.iconst (-1), 1)) ∧ (fdecl fTX6_dropped_1 29 = some (.invokevirtual 103, 3)) ∧ (fdecl fTX6_dropped_1 32 = some (.pop, 1)) ∧ (fdecl fTX6_dropped_1 33 = some (.iload 6, 2)) ∧ (fdecl fTX6_dropped_1 35 = some (.ireturn, 1)) := by decide +kernel
theorem dX6_dropped_89 : decode cX6_dropped 89 = .ok (.aload_n 1, 1) := fx_ok (d := 64) (i := 25) fDX6_dropped_1 eX6_dropped_89.1
theorem dX6_dropped_90 : decode cX6_dropped 90 = .ok (.iload 5, 2) := fx_ok (d := 64) (i := 26) fDX6_dropped_1 eX6_dropped_89.2.1
theorem dX6_dropped_92 : decode cX6_dropped 92 = .ok (.iconst (-1), 1) := fx_ok (d := 64) (i := 28) fDX6_dropped_1 eX6_dropped_89.2.2.1
theorem dX6_dropped_93 : decode cX6_dropped 93 = .ok (.invokevirtual 103, 3) := fx_ok (d := 64) (i := 29) fDX6_dropped_1 eX6_dropped_89.2.2.2.1
theorem dX6_dropped_96 : decode cX6_dropped 96 = .ok (.pop, 1) := fx_ok (d := 64) (i := 32) fDX6_dropped_1 eX6_dropped_89.2.2.2.2.1
theorem dX6_dropped_97 : decode cX6_dropped 97 = .ok (.iload 6, 2) := fx_ok (d := 64) (i := 33) fDX6_dropped_1 eX6_dropped_89.2.2.2.2.2.1
theorem dX6_dropped_99 : decode cX6_dropped 99 = .ok (.ireturn, 1) := fx_ok (d := 64) (i := 35) fDX6_dropped_1 eX6_dropped_89.2.2.2.2.2.2
theorem dX6_dropped_40 : decode cX6_dropped 40 = .ok (.iinc 6 1, 3) := by decide +kernel
theorem eX6_drop_0 : (fdecl cX6_drop.data.toList 0 = some (.aload_n 0, 1)) ∧ (fdecl cX6_drop.data.toList 1 = some (.iload_n 1, 1)) ∧ (fdecl cX6_drop.data.toList 2 = some (.invokestatic 60, 3)) ∧ (fdecl cX6_drop.data.toList 5 = some (.iload_n 2, 1)) ∧ (fdecl cX6_drop.data.toList 6 = some (.iconst 0, 1)) ∧ (fdecl cX6_drop.data.toList 7 = some (.iconst 2, 1)) ∧ (fdecl cX6_drop.data.toList 8 = some (.invokestatic 41, 3)) ∧ (fdecl cX6_drop.data.toList 11 = some (.invokevirtual 63, 3)) ∧ (fdecl cX6_drop.data.toList 14 = some (.ifCond .eq 24, 3)) ∧ (fdecl cX6_drop.data.toList 17 = some (.aload_n 0, 1)) ∧ (fdecl cX6_drop.data.toList 18 = some (.aload_n 0, 1)) ∧ (fdecl cX6_drop.data.toList 19 = some (.aload_n 0, 1)) ∧ (fdecl cX6_drop.data.toList 20 = some (.getfield 11, 3)) ∧ (fdecl cX6_drop.data.toList 23 = some (.iload_n 1, 1)) ∧ (fdecl cX6_drop.data.toList 24 = some (.aaload, 1)) ∧ (fdecl cX6_drop.data.toList 25 = some (.iload_n 2, 1)) := by decide +kernel
theorem dX6_drop_0 : decode cX6_drop 0 = .ok (.aload_n 0, 1) := fx_ok0 eX6_drop_0.1
theorem dX6_drop_1 : decode cX6_drop 1 = .ok (.iload_n 1, 1) := fx_ok0 eX6_drop_0.2.1
theorem dX6_drop_2 : decode cX6_drop 2 = .ok (.invokestatic 60, 3) := fx_ok0 eX6_drop_0.2.2.1
theorem dX6_drop_5 : decode cX6_drop 5 = .ok (.iload_n 2, 1) := fx_ok0 eX6_drop_0.2.2.2.1
theorem dX6_drop_6 : decode cX6_drop 6 = .ok (.iconst 0, 1) := fx_ok0 eX6_drop_0.2.2.2.2.1
theorem dX6_drop_7 : decode cX6_drop 7 = .ok (.iconst 2, 1) := fx_ok0 eX6_drop_0.2.2.2.2.2.1
theorem dX6_drop_8 : decode cX6_drop 8 = .ok (.invokestatic 41, 3) := fx_ok0 eX6_drop_0.2.2.2.2.2.2.1
theorem dX6_drop_11 : decode cX6_drop 11 = .ok (.invokevirtual 63, 3) := fx_ok0 eX6_drop_0.2.2.2.2.2.2.2.1
theorem dX6_drop_14 : decode cX6_drop 14 = .ok (.ifCond .eq 24, 3) := fx_ok0 eX6_drop_0.2.2.2.2.2.2.2.2.1
theorem dX6_drop_17 : decode cX6_drop 17 = .ok (.aload_n 0, 1) := fx_ok0 eX6_drop_0.2.2.2.2.2.2.2.2.2.1
theorem dX6_drop_18 : decode cX6_drop 18 = .ok (.aload_n 0, 1) := fx_ok0 eX6_drop_0.2.2.2.2.2.2.2.2.2.2.1
theorem dX6_drop_19 : decode cX6_drop 19 = .ok (.aload_n 0, 1) := fx_ok0 eX6_drop_0.2.2.2.2.2.2.2.2.2.2.2.1
theorem dX6_drop_20 : decode cX6_drop 20 = .ok (.getfield 11, 3) := fx_ok0 eX6_drop_0.2.2.2.2.2.2.2.2.2.2.2.2.1
theorem dX6_drop_23 : decode cX6_drop 23 = .ok (.iload_n 1, 1) := fx_ok0 eX6_drop_0.2.2.2.2.2.2.2.2.2.2.2.2.2.1
theorem dX6_drop_24 : decode cX6_drop 24 = .ok (.aaload, 1) := fx_ok0 eX6_drop_0.2.2.2.2.2.2.2.2.2.2.2.2.2.2.1
theorem dX6_drop_25 : decode cX6_drop 25 = .ok (.iload_n 2, 1) := fx_ok0 eX6_drop_0.2.2.2.2.2.2.2.2.2.2.2.2.2.2.2
theorem eX6_drop_26 : (fdecl cX6_drop.data.toList 26 = some (.iconst 0, 1)) ∧ (fdecl cX6_drop.data.toList 27 = some (.bipush 99, 2)) ∧ (fdecl cX6_drop.data.toList 29 = some (.invokevirtual 120, 3)) ∧ (fdecl cX6_drop.data.toList 32 = some (.invokevirtual 71, 3)) ∧ (fdecl cX6_drop.data.toList 35 = some (.goto 4, 3)) ∧ (fdecl cX6_drop.data.toList 38 = some (.iconst 0, 1)) ∧ (fdecl cX6_drop.data.toList 39 = some (.ireturn, 1)) := by decide +kernel
theorem dX6_drop_26 : decode cX6_drop 26 = .ok (.iconst 0, 1) := fx_ok0 eX6_drop_26.1
theorem dX6_drop_27 : decode cX6_drop 27 = .ok (.bipush 99, 2) := fx_ok0 eX6_drop_26.2.1
theorem dX6_drop_29 : decode cX6_drop 29 = .ok (.invokevirtual 120, 3) := fx_ok0 eX6_drop_26.2.2.1
theorem dX6_drop_32 : decode cX6_drop 32 = .ok (.invokevirtual 71, 3) := fx_ok0 eX6_drop_26.2.2.2.1
theorem dX6_drop_35 : decode cX6_drop 35 = .ok (.goto 4, 3) := fx_ok0 eX6_drop_26.2.2.2.2.1
theorem dX6_drop_38 : decode cX6_drop 38 = .ok (.iconst 0, 1) := fx_ok0 eX6_drop_26.2.2.2.2.2.1
theorem dX6_drop_39 : decode cX6_drop 39 = .ok (.ireturn, 1) := fx_ok0 eX6_drop_26.2.2.2.2.2.2
theorem eX6_has_0 : (fdecl cX6_has.data.toList 0 = some (.aload_n 0, 1)) ∧ (fdecl cX6_has.data.toList 1 = some (.iload_n 1, 1)) ∧ (fdecl cX6_has.data.toList 2 = some (.invokestatic 60, 3)) ∧ (fdecl cX6_has.data.toList 5 = some (.iload_n 3, 1)) ∧ (fdecl cX6_has.data.toList 6 = some (.invokestatic 86, 3)) ∧ (fdecl cX6_has.data.toList 9 = some (.invokevirtual 63, 3)) ∧ (fdecl cX6_has.data.toList 12 = some (.ifCond .ne 5, 3)) ∧ (fdecl cX6_has.data.toList 15 = some (.iconst 0, 1)) ∧ (fdecl cX6_has.data.toList 16 = some (.ireturn, 1)) ∧ (fdecl cX6_has.data.toList 17 = some (.iload_n 2, 1)) ∧ (fdecl cX6_has.data.toList 18 = some (.ifCond .eq 20, 3)) ∧ (fdecl cX6_has.data.toList 21 = some (.aload_n 0, 1)) ∧ (fdecl cX6_has.data.toList 22 = some (.getfield 11, 3)) ∧ (fdecl cX6_has.data.toList 25 = some (.iload_n 1, 1)) ∧ (fdecl cX6_has.data.toList 26 = some (.aaload, 1)) ∧ (fdecl cX6_has.data.toList 27 = some (.iload_n 3, 1)) := by decide +kernel
theorem dX6_has_0 : decode cX6_has 0 = .ok (.aload_n 0, 1) := fx_ok0 eX6_has_0.1
theorem dX6_has_1 : decode cX6_has 1 = .ok (.iload_n 1, 1) := fx_ok0 eX6_has_0.2.1
theorem dX6_has_2 : decode cX6_has 2 = .ok (.invokestatic 60, 3) := fx_ok0 eX6_has_0.2.2.1
theorem dX6_has_5 : decode cX6_has 5 = .ok (.iload_n 3, 1) := fx_ok0 eX6_has_0.2.2.2.1
theorem dX6_has_6 : decode cX6_has 6 = .ok (.invokestatic 86, 3) := fx_ok0 eX6_has_0.2.2.2.2.1
theorem dX6_has_9 : decode cX6_has 9 = .ok (.invokevirtual 63, 3) := fx_ok0 eX6_has_0.2.2.2.2.2.1
theorem dX6_has_12 : decode cX6_has 12 = .ok (.ifCond .ne 5, 3) := fx_ok0 eX6_has_0.2.2.2.2.2.2.1
theorem dX6_has_15 : decode cX6_has 15 = .ok (.iconst 0, 1) := fx_ok0 eX6_has_0.2.2.2.2.2.2.2.1
theorem dX6_has_16 : decode cX6_has 16 = .ok (.ireturn, 1) := fx_ok0 eX6_has_0.2.2.2.2.2.2.2.2.1
theorem dX6_has_17 : decode cX6_has 17 = .ok (.iload_n 2, 1) := fx_ok0 eX6_has_0.2.2.2.2.2.2.2.2.2.1
theorem dX6_has_18 : decode cX6_has 18 = .ok (.ifCond .eq 20, 3) := fx_ok0 eX6_has_0.2.2.2.2.2.2.2.2.2.2.1
theorem dX6_has_21 : decode cX6_has 21 = .ok (.aload_n 0, 1) := fx_ok0 eX6_has_0.2.2.2.2.2.2.2.2.2.2.2.1
theorem dX6_has_22 : decode cX6_has 22 = .ok (.getfield 11, 3) := fx_ok0 eX6_has_0.2.2.2.2.2.2.2.2.2.2.2.2.1
theorem dX6_has_25 : decode cX6_has 25 = .ok (.iload_n 1, 1) := fx_ok0 eX6_has_0.2.2.2.2.2.2.2.2.2.2.2.2.2.1
theorem dX6_has_26 : decode cX6_has 26 = .ok (.aaload, 1) := fx_ok0 eX6_has_0.2.2.2.2.2.2.2.2.2.2.2.2.2.2.1
theorem dX6_has_27 : decode cX6_has 27 = .ok (.iload_n 3, 1) := fx_ok0 eX6_has_0.2.2.2.2.2.2.2.2.2.2.2.2.2.2.2
theorem eX6_has_28 : (fdecl cX6_has.data.toList 28 = some (.invokevirtual 49, 3)) ∧ (fdecl cX6_has.data.toList 31 = some (.ifCond .eq 7, 3)) ∧ (fdecl cX6_has.data.toList 34 = some (.iconst 1, 1)) ∧ (fdecl cX6_has.data.toList 35 = some (.goto 4, 3)) ∧ (fdecl cX6_has.data.toList 38 = some (.iconst 0, 1)) ∧ (fdecl cX6_has.data.toList 39 = some (.istore 4, 2)) ∧ (fdecl cX6_has.data.toList 41 = some (.iconst 0, 1)) ∧ (fdecl cX6_has.data.toList 42 = some (.istore 5, 2)) ∧ (fdecl cX6_has.data.toList 44 = some (.iload 5, 2)) ∧ (fdecl cX6_has.data.toList 46 = some (.bipush 100, 2)) ∧ (fdecl cX6_has.data.toList 48 = some (.if_icmp .ge 41, 3)) ∧ (fdecl cX6_has.data.toList 51 = some (.iload_n 2, 1)) ∧ (fdecl cX6_has.data.toList 52 = some (.ifCond .ne 37, 3)) ∧ (fdecl cX6_has.data.toList 55 = some (.iload 4, 2)) ∧ (fdecl cX6_has.data.toList 57 = some (.ifCond .ne 19, 3)) ∧ (fdecl cX6_has.data.toList 60 = some (.aload_n 0, 1)) := by decide +kernel
theorem dX6_has_28 : decode cX6_has 28 = .ok (.invokevirtual 49, 3) := fx_ok0 eX6_has_28.1
theorem dX6_has_31 : decode cX6_has 31 = .ok (.ifCond .eq 7, 3) := fx_ok0 eX6_has_28.2.1
theorem dX6_has_34 : decode cX6_has 34 = .ok (.iconst 1, 1) := fx_ok0 eX6_has_28.2.2.1
theorem dX6_has_35 : decode cX6_has 35 = .ok (.goto 4, 3) := fx_ok0 eX6_has_28.2.2.2.1
theorem dX6_has_38 : decode cX6_has 38 = .ok (.iconst 0, 1) := fx_ok0 eX6_has_28.2.2.2.2.1
theorem dX6_has_39 : decode cX6_has 39 = .ok (.istore 4, 2) := fx_ok0 eX6_has_28.2.2.2.2.2.1
theorem dX6_has_41 : decode cX6_has 41 = .ok (.iconst 0, 1) := fx_ok0 eX6_has_28.2.2.2.2.2.2.1
theorem dX6_has_42 : decode cX6_has 42 = .ok (.istore 5, 2) := fx_ok0 eX6_has_28.2.2.2.2.2.2.2.1
theorem dX6_has_44 : decode cX6_has 44 = .ok (.iload 5, 2) := fx_ok0 eX6_has_28.2.2.2.2.2.2.2.2.1
theorem dX6_has_46 : decode cX6_has 46 = .ok (.bipush 100, 2) := fx_ok0 eX6_has_28.2.2.2.2.2.2.2.2.2.1
theorem dX6_has_48 : decode cX6_has 48 = .ok (.if_icmp .ge 41, 3) := fx_ok0 eX6_has_28.2.2.2.2.2.2.2.2.2.2.1
theorem dX6_has_51 : decode cX6_has 51 = .ok (.iload_n 2, 1) := fx_ok0 eX6_has_28.2.2.2.2.2.2.2.2.2.2.2.1
theorem dX6_has_52 : decode cX6_has 52 = .ok (.ifCond .ne 37, 3) := fx_ok0 eX6_has_28.2.2.2.2.2.2.2.2.2.2.2.2.1
theorem dX6_has_55 : decode cX6_has 55 = .ok (.iload 4, 2) := fx_ok0 eX6_has_28.2.2.2.2.2.2.2.2.2.2.2.2.2.1
theorem dX6_has_57 : decode cX6_has 57 = .ok (.ifCond .ne 19, 3) := fx_ok0 eX6_has_28.2.2.2.2.2.2.2.2.2.2.2.2.2.2.1
theorem dX6_has_60 : decode cX6_has 60 = .ok (.aload_n 0, 1) := fx_ok0 eX6_has_28.2.2.2.2.2.2.2.2.2.2.2.2.2.2.2
theorem eX6_has_61 : (fdecl cX6_has.data.toList 61 = some (.getfield 11, 3)) ∧ (fdecl cX6_has.data.toList 64 = some (.iload_n 1, 1)) ∧ (fdecl cX6_has.data.toList 65 = some (.aaload, 1)) ∧ (fdecl cX6_has.data.toList 66 = some (.getfield 53, 3)) ∧ (fdecl cX6_has.data.toList 69 = some (.iload 5, 2)) ∧ (fdecl cX6_has.data.toList 71 = some (.iaload, 1)) ∧ (fdecl cX6_has.data.toList 72 = some (.iload_n 3, 1)) ∧ (fdecl cX6_has.data.toList 73 = some (.if_icmp .ne 7, 3)) ∧ (fdecl cX6_has.data.toList 76 = some (.iconst 1, 1)) ∧ (fdecl cX6_has.data.toList 77 = some (.goto 4, 3)) ∧ (fdecl cX6_has.data.toList 80 = some (.iconst 0, 1)) ∧ (fdecl cX6_has.data.toList 81 = some (.istore 4, 2)) ∧ (fdecl cX6_has.data.toList 86 = some (.goto (-42), 3)) ∧ (fdecl cX6_has.data.toList 89 = some (.iload 4, 2)) ∧ (fdecl cX6_has.data.toList 91 = some (.ireturn, 1)) := by decide +kernel
theorem dX6_has_61 : decode cX6_has 61 = .ok (.getfield 11, 3) := fx_ok0 eX6_has_61.1
theorem dX6_has_64 : decode cX6_has 64 = .ok (.iload_n 1, 1) := fx_ok0 eX6_has_61.2.1
theorem dX6_has_65 : decode cX6_has 65 = .ok (.aaload, 1) := fx_ok0 eX6_has_61.2.2.1
theorem dX6_has_66 : decode cX6_has 66 = .ok (.getfield 53, 3) := fx_ok0 eX6_has_61.2.2.2.1
theorem dX6_has_69 : decode cX6_has 69 = .ok (.iload 5, 2) := fx_ok0 eX6_has_61.2.2.2.2.1
theorem dX6_has_71 : decode cX6_has 71 = .ok (.iaload, 1) := fx_ok0 eX6_has_61.2.2.2.2.2.1
theorem dX6_has_72 : decode cX6_has 72 = .ok (.iload_n 3, 1) := fx_ok0 eX6_has_61.2.2.2.2.2.2.1
theorem dX6_has_73 : decode cX6_has 73 = .ok (.if_icmp .ne 7, 3) := fx_ok0 eX6_has_61.2.2.2.2.2.2.2.1
theorem dX6_has_76 : decode cX6_has 76 = .ok (.iconst 1, 1) := fx_ok0 eX6_has_61.2.2.2.2.2.2.2.2.1
theorem dX6_has_77 : decode cX6_has 77 = .ok (.goto 4, 3) := fx_ok0 eX6_has_61.2.2.2.2.2.2.2.2.2.1
theorem dX6_has_80 : decode cX6_has 80 = .ok (.iconst 0, 1) := fx_ok0 eX6_has_61.2.2.2.2.2.2.2.2.2.2.1
theorem dX6_has_81 : decode cX6_has 81 = .ok (.istore 4, 2) := fx_ok0 eX6_has_61.2.2.2.2.2.2.2.2.2.2.2.1
theorem dX6_has_86 : decode cX6_has 86 = .ok (.goto (-42), 3) := fx_ok0 eX6_has_61.2.2.2.2.2.2.2.2.2.2.2.2.1
theorem dX6_has_89 : decode cX6_has 89 = .ok (.iload 4, 2) := fx_ok0 eX6_has_61.2.2.2.2.2.2.2.2.2.2.2.2.2.1
theorem dX6_has_91 : decode cX6_has 91 = .ok (.ireturn, 1) := fx_ok0 eX6_has_61.2.2.2.2.2.2.2.2.2.2.2.2.2.2
theorem dX6_has_83 : decode cX6_has 83 = .ok (.iinc 5 1, 3) := by decide +kernel
theorem eX6_told_0 : (fdecl cX6_told.data.toList 0 = some (.iload_n 1, 1)) ∧ (fdecl cX6_told.data.toList 1 = some (.iconst (-1), 1)) ∧ (fdecl cX6_told.data.toList 2 = some (.if_icmp .ne 7, 3)) ∧ (fdecl cX6_told.data.toList 5 = some (.iconst (-1), 1)) ∧ (fdecl cX6_told.data.toList 6 = some (.goto 16, 3)) ∧ (fdecl cX6_told.data.toList 9 = some (.iload_n 2, 1)) ∧ (fdecl cX6_told.data.toList 10 = some (.ifCond .eq 11, 3)) ∧ (fdecl cX6_told.data.toList 13 = some (.aload_n 0, 1)) ∧ (fdecl cX6_told.data.toList 14 = some (.iload_n 1, 1)) ∧ (fdecl cX6_told.data.toList 15 = some (.invokevirtual 117, 3)) ∧ (fdecl cX6_told.data.toList 18 = some (.goto 4, 3)) ∧ (fdecl cX6_told.data.toList 21 = some (.iload_n 1, 1)) ∧ (fdecl cX6_told.data.toList 22 = some (.ireturn, 1)) := by decide +kernel
theorem dX6_told_0 : decode cX6_told 0 = .ok (.iload_n 1, 1) := fx_ok0 eX6_told_0.1
theorem dX6_told_1 : decode cX6_told 1 = .ok (.iconst (-1), 1) := fx_ok0 eX6_told_0.2.1
theorem dX6_told_2 : decode cX6_told 2 = .ok (.if_icmp .ne 7, 3) := fx_ok0 eX6_told_0.2.2.1
theorem dX6_told_5 : decode cX6_told 5 = .ok (.iconst (-1), 1) := fx_ok0 eX6_told_0.2.2.2.1
theorem dX6_told_6 : decode cX6_told 6 = .ok (.goto 16, 3) := fx_ok0 eX6_told_0.2.2.2.2.1
theorem dX6_told_9 : decode cX6_told 9 = .ok (.iload_n 2, 1) := fx_ok0 eX6_told_0.2.2.2.2.2.1
theorem dX6_told_10 : decode cX6_told 10 = .ok (.ifCond .eq 11, 3) := fx_ok0 eX6_told_0.2.2.2.2.2.2.1
theorem dX6_told_13 : decode cX6_told 13 = .ok (.aload_n 0, 1) := fx_ok0 eX6_told_0.2.2.2.2.2.2.2.1
theorem dX6_told_14 : decode cX6_told 14 = .ok (.iload_n 1, 1) := fx_ok0 eX6_told_0.2.2.2.2.2.2.2.2.1
theorem dX6_told_15 : decode cX6_told 15 = .ok (.invokevirtual 117, 3) := fx_ok0 eX6_told_0.2.2.2.2.2.2.2.2.2.1
theorem dX6_told_18 : decode cX6_told 18 = .ok (.goto 4, 3) := fx_ok0 eX6_told_0.2.2.2.2.2.2.2.2.2.2.1
theorem dX6_told_21 : decode cX6_told 21 = .ok (.iload_n 1, 1) := fx_ok0 eX6_told_0.2.2.2.2.2.2.2.2.2.2.2.1
theorem dX6_told_22 : decode cX6_told 22 = .ok (.ireturn, 1) := fx_ok0 eX6_told_0.2.2.2.2.2.2.2.2.2.2.2.2
theorem eX6_near_0 : (fdecl cX6_near.data.toList 0 = some (.aload_n 0, 1)) ∧ (fdecl cX6_near.data.toList 1 = some (.iload_n 1, 1)) ∧ (fdecl cX6_near.data.toList 2 = some (.invokestatic 60, 3)) ∧ (fdecl cX6_near.data.toList 5 = some (.iload_n 2, 1)) ∧ (fdecl cX6_near.data.toList 6 = some (.invokestatic 86, 3)) ∧ (fdecl cX6_near.data.toList 9 = some (.ifCond .eq 16, 3)) ∧ (fdecl cX6_near.data.toList 12 = some (.iload_n 3, 1)) ∧ (fdecl cX6_near.data.toList 13 = some (.iconst 0, 1)) ∧ (fdecl cX6_near.data.toList 14 = some (.iconst 4, 1)) ∧ (fdecl cX6_near.data.toList 15 = some (.invokestatic 41, 3)) ∧ (fdecl cX6_near.data.toList 18 = some (.ifCond .eq 7, 3)) ∧ (fdecl cX6_near.data.toList 21 = some (.iconst 1, 1)) ∧ (fdecl cX6_near.data.toList 22 = some (.goto 4, 3)) ∧ (fdecl cX6_near.data.toList 25 = some (.iconst 0, 1)) ∧ (fdecl cX6_near.data.toList 26 = some (.invokevirtual 63, 3)) ∧ (fdecl cX6_near.data.toList 29 = some (.ifCond .eq 31, 3)) := by decide +kernel
theorem dX6_near_0 : decode cX6_near 0 = .ok (.aload_n 0, 1) := fx_ok0 eX6_near_0.1
theorem dX6_near_1 : decode cX6_near 1 = .ok (.iload_n 1, 1) := fx_ok0 eX6_near_0.2.1
theorem dX6_near_2 : decode cX6_near 2 = .ok (.invokestatic 60, 3) := fx_ok0 eX6_near_0.2.2.1
theorem dX6_near_5 : decode cX6_near 5 = .ok (.iload_n 2, 1) := fx_ok0 eX6_near_0.2.2.2.1
theorem dX6_near_6 : decode cX6_near 6 = .ok (.invokestatic 86, 3) := fx_ok0 eX6_near_0.2.2.2.2.1
theorem dX6_near_9 : decode cX6_near 9 = .ok (.ifCond .eq 16, 3) := fx_ok0 eX6_near_0.2.2.2.2.2.1
theorem dX6_near_12 : decode cX6_near 12 = .ok (.iload_n 3, 1) := fx_ok0 eX6_near_0.2.2.2.2.2.2.1
theorem dX6_near_13 : decode cX6_near 13 = .ok (.iconst 0, 1) := fx_ok0 eX6_near_0.2.2.2.2.2.2.2.1
theorem dX6_near_14 : decode cX6_near 14 = .ok (.iconst 4, 1) := fx_ok0 eX6_near_0.2.2.2.2.2.2.2.2.1
theorem dX6_near_15 : decode cX6_near 15 = .ok (.invokestatic 41, 3) := fx_ok0 eX6_near_0.2.2.2.2.2.2.2.2.2.1
theorem dX6_near_18 : decode cX6_near 18 = .ok (.ifCond .eq 7, 3) := fx_ok0 eX6_near_0.2.2.2.2.2.2.2.2.2.2.1
theorem dX6_near_21 : decode cX6_near 21 = .ok (.iconst 1, 1) := fx_ok0 eX6_near_0.2.2.2.2.2.2.2.2.2.2.2.1
theorem dX6_near_22 : decode cX6_near 22 = .ok (.goto 4, 3) := fx_ok0 eX6_near_0.2.2.2.2.2.2.2.2.2.2.2.2.1
theorem dX6_near_25 : decode cX6_near 25 = .ok (.iconst 0, 1) := fx_ok0 eX6_near_0.2.2.2.2.2.2.2.2.2.2.2.2.2.1
theorem dX6_near_26 : decode cX6_near 26 = .ok (.invokevirtual 63, 3) := fx_ok0 eX6_near_0.2.2.2.2.2.2.2.2.2.2.2.2.2.2.1
theorem dX6_near_29 : decode cX6_near 29 = .ok (.ifCond .eq 31, 3) := fx_ok0 eX6_near_0.2.2.2.2.2.2.2.2.2.2.2.2.2.2.2
theorem eX6_near_32 : (fdecl cX6_near.data.toList 32 = some (.aload_n 0, 1)) ∧ (fdecl cX6_near.data.toList 33 = some (.getfield 11, 3)) ∧ (fdecl cX6_near.data.toList 36 = some (.iload_n 1, 1)) ∧ (fdecl cX6_near.data.toList 37 = some (.aaload, 1)) ∧ (fdecl cX6_near.data.toList 38 = some (.aload_n 0, 1)) ∧ (fdecl cX6_near.data.toList 39 = some (.getfield 11, 3)) ∧ (fdecl cX6_near.data.toList 42 = some (.iload_n 1, 1)) ∧ (fdecl cX6_near.data.toList 43 = some (.aaload, 1)) ∧ (fdecl cX6_near.data.toList 44 = some (.iload_n 2, 1)) ∧ (fdecl cX6_near.data.toList 45 = some (.iload_n 3, 1)) ∧ (fdecl cX6_near.data.toList 46 = some (.iconst 0, 1)) ∧ (fdecl cX6_near.data.toList 47 = some (.bipush 99, 2)) ∧ (fdecl cX6_near.data.toList 49 = some (.invokevirtual 124, 3)) ∧ (fdecl cX6_near.data.toList 52 = some (.iload 4, 2)) ∧ (fdecl cX6_near.data.toList 54 = some (.invokestatic 128, 3)) ∧ (fdecl cX6_near.data.toList 57 = some (.goto 4, 3)) := by decide +kernel
theorem dX6_near_32 : decode cX6_near 32 = .ok (.aload_n 0, 1) := fx_ok0 eX6_near_32.1
theorem dX6_near_33 : decode cX6_near 33 = .ok (.getfield 11, 3) := fx_ok0 eX6_near_32.2.1
theorem dX6_near_36 : decode cX6_near 36 = .ok (.iload_n 1, 1) := fx_ok0 eX6_near_32.2.2.1
theorem dX6_near_37 : decode cX6_near 37 = .ok (.aaload, 1) := fx_ok0 eX6_near_32.2.2.2.1
theorem dX6_near_38 : decode cX6_near 38 = .ok (.aload_n 0, 1) := fx_ok0 eX6_near_32.2.2.2.2.1
theorem dX6_near_39 : decode cX6_near 39 = .ok (.getfield 11, 3) := fx_ok0 eX6_near_32.2.2.2.2.2.1
theorem dX6_near_42 : decode cX6_near 42 = .ok (.iload_n 1, 1) := fx_ok0 eX6_near_32.2.2.2.2.2.2.1
theorem dX6_near_43 : decode cX6_near 43 = .ok (.aaload, 1) := fx_ok0 eX6_near_32.2.2.2.2.2.2.2.1
theorem dX6_near_44 : decode cX6_near 44 = .ok (.iload_n 2, 1) := fx_ok0 eX6_near_32.2.2.2.2.2.2.2.2.1
theorem dX6_near_45 : decode cX6_near 45 = .ok (.iload_n 3, 1) := fx_ok0 eX6_near_32.2.2.2.2.2.2.2.2.2.1
theorem dX6_near_46 : decode cX6_near 46 = .ok (.iconst 0, 1) := fx_ok0 eX6_near_32.2.2.2.2.2.2.2.2.2.2.1
theorem dX6_near_47 : decode cX6_near 47 = .ok (.bipush 99, 2) := fx_ok0 eX6_near_32.2.2.2.2.2.2.2.2.2.2.2.1
theorem dX6_near_49 : decode cX6_near 49 = .ok (.invokevirtual 124, 3) := fx_ok0 eX6_near_32.2.2.2.2.2.2.2.2.2.2.2.2.1
theorem dX6_near_52 : decode cX6_near 52 = .ok (.iload 4, 2) := fx_ok0 eX6_near_32.2.2.2.2.2.2.2.2.2.2.2.2.2.1
theorem dX6_near_54 : decode cX6_near 54 = .ok (.invokestatic 128, 3) := fx_ok0 eX6_near_32.2.2.2.2.2.2.2.2.2.2.2.2.2.2.1
theorem dX6_near_57 : decode cX6_near 57 = .ok (.goto 4, 3) := fx_ok0 eX6_near_32.2.2.2.2.2.2.2.2.2.2.2.2.2.2.2
theorem eX6_near_60 : (fdecl cX6_near.data.toList 60 = some (.iconst 0, 1)) ∧ (fdecl cX6_near.data.toList 61 = some (.ireturn, 1)) := by decide +kernel
theorem dX6_near_60 : decode cX6_near 60 = .ok (.iconst 0, 1) := fx_ok0 eX6_near_60.1
theorem dX6_near_61 : decode cX6_near 61 = .ok (.ireturn, 1) := fx_ok0 eX6_near_60.2
theorem eX6_end_0 : (fdecl cX6_end.data.toList 0 = some (.aload_n 0, 1)) ∧ (fdecl cX6_end.data.toList 1 = some (.iload_n 1, 1)) ∧ (fdecl cX6_end.data.toList 2 = some (.invokestatic 60, 3)) ∧ (fdecl cX6_end.data.toList 5 = some (.iconst 1, 1)) ∧ (fdecl cX6_end.data.toList 6 = some (.invokevirtual 63, 3)) ∧ (fdecl cX6_end.data.toList 9 = some (.ifCond .ne 5, 3)) ∧ (fdecl cX6_end.data.toList 12 = some (.iconst 0, 1)) ∧ (fdecl cX6_end.data.toList 13 = some (.ireturn, 1)) ∧ (fdecl cX6_end.data.toList 14 = some (.iload_n 2, 1)) ∧ (fdecl cX6_end.data.toList 15 = some (.ifCond .eq 18, 3)) ∧ (fdecl cX6_end.data.toList 18 = some (.aload_n 0, 1)) ∧ (fdecl cX6_end.data.toList 19 = some (.getfield 11, 3)) ∧ (fdecl cX6_end.data.toList 22 = some (.iload_n 1, 1)) ∧ (fdecl cX6_end.data.toList 23 = some (.aaload, 1)) ∧ (fdecl cX6_end.data.toList 24 = some (.iconst 0, 1)) ∧ (fdecl cX6_end.data.toList 25 = some (.bipush 99, 2)) := by decide +kernel
theorem dX6_end_0 : decode cX6_end 0 = .ok (.aload_n 0, 1) := fx_ok0 eX6_end_0.1
theorem dX6_end_1 : decode cX6_end 1 = .ok (.iload_n 1, 1) := fx_ok0 eX6_end_0.2.1
theorem dX6_end_2 : decode cX6_end 2 = .ok (.invokestatic 60, 3) := fx_ok0 eX6_end_0.2.2.1
theorem dX6_end_5 : decode cX6_end 5 = .ok (.iconst 1, 1) := fx_ok0 eX6_end_0.2.2.2.1
theorem dX6_end_6 : decode cX6_end 6 = .ok (.invokevirtual 63, 3) := fx_ok0 eX6_end_0.2.2.2.2.1
theorem dX6_end_9 : decode cX6_end 9 = .ok (.ifCond .ne 5, 3) := fx_ok0 eX6_end_0.2.2.2.2.2.1
theorem dX6_end_12 : decode cX6_end 12 = .ok (.iconst 0, 1) := fx_ok0 eX6_end_0.2.2.2.2.2.2.1
theorem dX6_end_13 : decode cX6_end 13 = .ok (.ireturn, 1) := fx_ok0 eX6_end_0.2.2.2.2.2.2.2.1
theorem dX6_end_14 : decode cX6_end 14 = .ok (.iload_n 2, 1) := fx_ok0 eX6_end_0.2.2.2.2.2.2.2.2.1
theorem dX6_end_15 : decode cX6_end 15 = .ok (.ifCond .eq 18, 3) := fx_ok0 eX6_end_0.2.2.2.2.2.2.2.2.2.1
theorem dX6_end_18 : decode cX6_end 18 = .ok (.aload_n 0, 1) := fx_ok0 eX6_end_0.2.2.2.2.2.2.2.2.2.2.1
theorem dX6_end_19 : decode cX6_end 19 = .ok (.getfield 11, 3) := fx_ok0 eX6_end_0.2.2.2.2.2.2.2.2.2.2.2.1
theorem dX6_end_22 : decode cX6_end 22 = .ok (.iload_n 1, 1) := fx_ok0 eX6_end_0.2.2.2.2.2.2.2.2.2.2.2.2.1
theorem dX6_end_23 : decode cX6_end 23 = .ok (.aaload, 1) := fx_ok0 eX6_end_0.2.2.2.2.2.2.2.2.2.2.2.2.2.1
theorem dX6_end_24 : decode cX6_end 24 = .ok (.iconst 0, 1) := fx_ok0 eX6_end_0.2.2.2.2.2.2.2.2.2.2.2.2.2.2.1
theorem dX6_end_25 : decode cX6_end 25 = .ok (.bipush 99, 2) := fx_ok0 eX6_end_0.2.2.2.2.2.2.2.2.2.2.2.2.2.2.2
theorem eX6_end_27 : (fdecl cX6_end.data.toList 27 = some (.invokevirtual 114, 3)) ∧ (fdecl cX6_end.data.toList 30 = some (.goto 15, 3)) ∧ (fdecl cX6_end.data.toList 33 = some (.aload_n 0, 1)) ∧ (fdecl cX6_end.data.toList 34 = some (.getfield 11, 3)) ∧ (fdecl cX6_end.data.toList 37 = some (.iload_n 1, 1)) ∧ (fdecl cX6_end.data.toList 38 = some (.aaload, 1)) ∧ (fdecl cX6_end.data.toList 39 = some (.iconst 0, 1)) ∧ (fdecl cX6_end.data.toList 40 = some (.bipush 99, 2)) ∧ (fdecl cX6_end.data.toList 42 = some (.invokevirtual 111, 3)) ∧ (fdecl cX6_end.data.toList 45 = some (.istore 4, 2)) ∧ (fdecl cX6_end.data.toList 47 = some (.iload 4, 2)) ∧ (fdecl cX6_end.data.toList 49 = some (.iconst (-1), 1)) ∧ (fdecl cX6_end.data.toList 50 = some (.if_icmp .ne 14, 3)) ∧ (fdecl cX6_end.data.toList 53 = some (.iload_n 3, 1)) ∧ (fdecl cX6_end.data.toList 54 = some (.ifCond .ne 10, 3)) ∧ (fdecl cX6_end.data.toList 57 = some (.aload_n 0, 1)) := by decide +kernel
theorem dX6_end_27 : decode cX6_end 27 = .ok (.invokevirtual 114, 3) := fx_ok0 eX6_end_27.1
theorem dX6_end_30 : decode cX6_end 30 = .ok (.goto 15, 3) := fx_ok0 eX6_end_27.2.1
theorem dX6_end_33 : decode cX6_end 33 = .ok (.aload_n 0, 1) := fx_ok0 eX6_end_27.2.2.1
theorem dX6_end_34 : decode cX6_end 34 = .ok (.getfield 11, 3) := fx_ok0 eX6_end_27.2.2.2.1
theorem dX6_end_37 : decode cX6_end 37 = .ok (.iload_n 1, 1) := fx_ok0 eX6_end_27.2.2.2.2.1
theorem dX6_end_38 : decode cX6_end 38 = .ok (.aaload, 1) := fx_ok0 eX6_end_27.2.2.2.2.2.1
theorem dX6_end_39 : decode cX6_end 39 = .ok (.iconst 0, 1) := fx_ok0 eX6_end_27.2.2.2.2.2.2.1
theorem dX6_end_40 : decode cX6_end 40 = .ok (.bipush 99, 2) := fx_ok0 eX6_end_27.2.2.2.2.2.2.2.1
theorem dX6_end_42 : decode cX6_end 42 = .ok (.invokevirtual 111, 3) := fx_ok0 eX6_end_27.2.2.2.2.2.2.2.2.1
theorem dX6_end_45 : decode cX6_end 45 = .ok (.istore 4, 2) := fx_ok0 eX6_end_27.2.2.2.2.2.2.2.2.2.1
theorem dX6_end_47 : decode cX6_end 47 = .ok (.iload 4, 2) := fx_ok0 eX6_end_27.2.2.2.2.2.2.2.2.2.2.1
theorem dX6_end_49 : decode cX6_end 49 = .ok (.iconst (-1), 1) := fx_ok0 eX6_end_27.2.2.2.2.2.2.2.2.2.2.2.1
theorem dX6_end_50 : decode cX6_end 50 = .ok (.if_icmp .ne 14, 3) := fx_ok0 eX6_end_27.2.2.2.2.2.2.2.2.2.2.2.2.1
theorem dX6_end_53 : decode cX6_end 53 = .ok (.iload_n 3, 1) := fx_ok0 eX6_end_27.2.2.2.2.2.2.2.2.2.2.2.2.2.1
theorem dX6_end_54 : decode cX6_end 54 = .ok (.ifCond .ne 10, 3) := fx_ok0 eX6_end_27.2.2.2.2.2.2.2.2.2.2.2.2.2.2.1
theorem dX6_end_57 : decode cX6_end 57 = .ok (.aload_n 0, 1) := fx_ok0 eX6_end_27.2.2.2.2.2.2.2.2.2.2.2.2.2.2.2
theorem eX6_end_58 : (fdecl cX6_end.data.toList 58 = some (.invokevirtual 89, 3)) ∧ (fdecl cX6_end.data.toList 61 = some (.goto 15, 3)) ∧ (fdecl cX6_end.data.toList 64 = some (.aload_n 0, 1)) ∧ (fdecl cX6_end.data.toList 65 = some (.getfield 11, 3)) ∧ (fdecl cX6_end.data.toList 68 = some (.iload_n 1, 1)) ∧ (fdecl cX6_end.data.toList 69 = some (.aaload, 1)) ∧ (fdecl cX6_end.data.toList 70 = some (.iload 4, 2)) ∧ (fdecl cX6_end.data.toList 72 = some (.iload_n 3, 1)) ∧ (fdecl cX6_end.data.toList 73 = some (.invokestatic 128, 3)) ∧ (fdecl cX6_end.data.toList 76 = some (.ireturn, 1)) := by decide +kernel
theorem dX6_end_58 : decode cX6_end 58 = .ok (.invokevirtual 89, 3) := fx_ok0 eX6_end_58.1
theorem dX6_end_61 : decode cX6_end 61 = .ok (.goto 15, 3) := fx_ok0 eX6_end_58.2.1
theorem dX6_end_64 : decode cX6_end 64 = .ok (.aload_n 0, 1) := fx_ok0 eX6_end_58.2.2.1
theorem dX6_end_65 : decode cX6_end 65 = .ok (.getfield 11, 3) := fx_ok0 eX6_end_58.2.2.2.1
theorem dX6_end_68 : decode cX6_end 68 = .ok (.iload_n 1, 1) := fx_ok0 eX6_end_58.2.2.2.2.1
theorem dX6_end_69 : decode cX6_end 69 = .ok (.aaload, 1) := fx_ok0 eX6_end_58.2.2.2.2.2.1
theorem dX6_end_70 : decode cX6_end 70 = .ok (.iload 4, 2) := fx_ok0 eX6_end_58.2.2.2.2.2.2.1
theorem dX6_end_72 : decode cX6_end 72 = .ok (.iload_n 3, 1) := fx_ok0 eX6_end_58.2.2.2.2.2.2.2.1
theorem dX6_end_73 : decode cX6_end 73 = .ok (.invokestatic 128, 3) := fx_ok0 eX6_end_58.2.2.2.2.2.2.2.2.1
theorem dX6_end_76 : decode cX6_end 76 = .ok (.ireturn, 1) := fx_ok0 eX6_end_58.2.2.2.2.2.2.2.2.2
theorem eX6_keyAt_0 : (fdecl cX6_keyAt.data.toList 0 = some (.aload_n 0, 1)) ∧ (fdecl cX6_keyAt.data.toList 1 = some (.iload_n 1, 1)) ∧ (fdecl cX6_keyAt.data.toList 2 = some (.invokestatic 60, 3)) ∧ (fdecl cX6_keyAt.data.toList 5 = some (.iload_n 2, 1)) ∧ (fdecl cX6_keyAt.data.toList 6 = some (.iconst 0, 1)) ∧ (fdecl cX6_keyAt.data.toList 7 = some (.bipush 99, 2)) ∧ (fdecl cX6_keyAt.data.toList 9 = some (.invokestatic 41, 3)) ∧ (fdecl cX6_keyAt.data.toList 12 = some (.invokevirtual 63, 3)) ∧ (fdecl cX6_keyAt.data.toList 15 = some (.ifCond .ne 5, 3)) ∧ (fdecl cX6_keyAt.data.toList 18 = some (.iconst 0, 1)) ∧ (fdecl cX6_keyAt.data.toList 19 = some (.ireturn, 1)) ∧ (fdecl cX6_keyAt.data.toList 20 = some (.iload_n 2, 1)) ∧ (fdecl cX6_keyAt.data.toList 21 = some (.istore 4, 2)) ∧ (fdecl cX6_keyAt.data.toList 23 = some (.iconst 0, 1)) ∧ (fdecl cX6_keyAt.data.toList 24 = some (.istore 5, 2)) ∧ (fdecl cX6_keyAt.data.toList 26 = some (.iload 5, 2)) := by decide +kernel
theorem dX6_keyAt_0 : decode cX6_keyAt 0 = .ok (.aload_n 0, 1) := fx_ok0 eX6_keyAt_0.1
theorem dX6_keyAt_1 : decode cX6_keyAt 1 = .ok (.iload_n 1, 1) := fx_ok0 eX6_keyAt_0.2.1
theorem dX6_keyAt_2 : decode cX6_keyAt 2 = .ok (.invokestatic 60, 3) := fx_ok0 eX6_keyAt_0.2.2.1
theorem dX6_keyAt_5 : decode cX6_keyAt 5 = .ok (.iload_n 2, 1) := fx_ok0 eX6_keyAt_0.2.2.2.1
theorem dX6_keyAt_6 : decode cX6_keyAt 6 = .ok (.iconst 0, 1) := fx_ok0 eX6_keyAt_0.2.2.2.2.1
theorem dX6_keyAt_7 : decode cX6_keyAt 7 = .ok (.bipush 99, 2) := fx_ok0 eX6_keyAt_0.2.2.2.2.2.1
theorem dX6_keyAt_9 : decode cX6_keyAt 9 = .ok (.invokestatic 41, 3) := fx_ok0 eX6_keyAt_0.2.2.2.2.2.2.1
theorem dX6_keyAt_12 : decode cX6_keyAt 12 = .ok (.invokevirtual 63, 3) := fx_ok0 eX6_keyAt_0.2.2.2.2.2.2.2.1
theorem dX6_keyAt_15 : decode cX6_keyAt 15 = .ok (.ifCond .ne 5, 3) := fx_ok0 eX6_keyAt_0.2.2.2.2.2.2.2.2.1
theorem dX6_keyAt_18 : decode cX6_keyAt 18 = .ok (.iconst 0, 1) := fx_ok0 eX6_keyAt_0.2.2.2.2.2.2.2.2.2.1
theorem dX6_keyAt_19 : decode cX6_keyAt 19 = .ok (.ireturn, 1) := fx_ok0 eX6_keyAt_0.2.2.2.2.2.2.2.2.2.2.1
theorem dX6_keyAt_20 : decode cX6_keyAt 20 = .ok (.iload_n 2, 1) := fx_ok0 eX6_keyAt_0.2.2.2.2.2.2.2.2.2.2.2.1
theorem dX6_keyAt_21 : decode cX6_keyAt 21 = .ok (.istore 4, 2) := fx_ok0 eX6_keyAt_0.2.2.2.2.2.2.2.2.2.2.2.2.1
theorem dX6_keyAt_23 : decode cX6_keyAt 23 = .ok (.iconst 0, 1) := fx_ok0 eX6_keyAt_0.2.2.2.2.2.2.2.2.2.2.2.2.2.1
theorem dX6_keyAt_24 : decode cX6_keyAt 24 = .ok (.istore 5, 2) := fx_ok0 eX6_keyAt_0.2.2.2.2.2.2.2.2.2.2.2.2.2.2.1
theorem dX6_keyAt_26 : decode cX6_keyAt 26 = .ok (.iload 5, 2) := fx_ok0 eX6_keyAt_0.2.2.2.2.2.2.2.2.2.2.2.2.2.2.2
theorem eX6_keyAt_28 : (fdecl cX6_keyAt.data.toList 28 = some (.bipush 100, 2)) ∧ (fdecl cX6_keyAt.data.toList 30 = some (.if_icmp .ge 59, 3)) ∧ (fdecl cX6_keyAt.data.toList 33 = some (.aload_n 0, 1)) ∧ (fdecl cX6_keyAt.data.toList 34 = some (.getfield 11, 3)) ∧ (fdecl cX6_keyAt.data.toList 37 = some (.iload_n 1, 1)) ∧ (fdecl cX6_keyAt.data.toList 38 = some (.aaload, 1)) ∧ (fdecl cX6_keyAt.data.toList 39 = some (.iload_n 3, 1)) ∧ (fdecl cX6_keyAt.data.toList 40 = some (.ifCond .eq 11, 3)) ∧ (fdecl cX6_keyAt.data.toList 43 = some (.bipush 99, 2)) ∧ (fdecl cX6_keyAt.data.toList 45 = some (.iload 5, 2)) ∧ (fdecl cX6_keyAt.data.toList 47 = some (.isub, 1)) ∧ (fdecl cX6_keyAt.data.toList 48 = some (.goto 5, 3)) ∧ (fdecl cX6_keyAt.data.toList 51 = some (.iload 5, 2)) ∧ (fdecl cX6_keyAt.data.toList 53 = some (.invokevirtual 100, 3)) ∧ (fdecl cX6_keyAt.data.toList 56 = some (.istore 6, 2)) ∧ (fdecl cX6_keyAt.data.toList 58 = some (.aload_n 0, 1)) := by decide +kernel
theorem dX6_keyAt_28 : decode cX6_keyAt 28 = .ok (.bipush 100, 2) := fx_ok0 eX6_keyAt_28.1
theorem dX6_keyAt_30 : decode cX6_keyAt 30 = .ok (.if_icmp .ge 59, 3) := fx_ok0 eX6_keyAt_28.2.1
theorem dX6_keyAt_33 : decode cX6_keyAt 33 = .ok (.aload_n 0, 1) := fx_ok0 eX6_keyAt_28.2.2.1
theorem dX6_keyAt_34 : decode cX6_keyAt 34 = .ok (.getfield 11, 3) := fx_ok0 eX6_keyAt_28.2.2.2.1
theorem dX6_keyAt_37 : decode cX6_keyAt 37 = .ok (.iload_n 1, 1) := fx_ok0 eX6_keyAt_28.2.2.2.2.1
theorem dX6_keyAt_38 : decode cX6_keyAt 38 = .ok (.aaload, 1) := fx_ok0 eX6_keyAt_28.2.2.2.2.2.1
theorem dX6_keyAt_39 : decode cX6_keyAt 39 = .ok (.iload_n 3, 1) := fx_ok0 eX6_keyAt_28.2.2.2.2.2.2.1
theorem dX6_keyAt_40 : decode cX6_keyAt 40 = .ok (.ifCond .eq 11, 3) := fx_ok0 eX6_keyAt_28.2.2.2.2.2.2.2.1
theorem dX6_keyAt_43 : decode cX6_keyAt 43 = .ok (.bipush 99, 2) := fx_ok0 eX6_keyAt_28.2.2.2.2.2.2.2.2.1
theorem dX6_keyAt_45 : decode cX6_keyAt 45 = .ok (.iload 5, 2) := fx_ok0 eX6_keyAt_28.2.2.2.2.2.2.2.2.2.1
theorem dX6_keyAt_47 : decode cX6_keyAt 47 = .ok (.isub, 1) := fx_ok0 eX6_keyAt_28.2.2.2.2.2.2.2.2.2.2.1
theorem dX6_keyAt_48 : decode cX6_keyAt 48 = .ok (.goto 5, 3) := fx_ok0 eX6_keyAt_28.2.2.2.2.2.2.2.2.2.2.2.1
theorem dX6_keyAt_51 : decode cX6_keyAt 51 = .ok (.iload 5, 2) := fx_ok0 eX6_keyAt_28.2.2.2.2.2.2.2.2.2.2.2.2.1
theorem dX6_keyAt_53 : decode cX6_keyAt 53 = .ok (.invokevirtual 100, 3) := fx_ok0 eX6_keyAt_28.2.2.2.2.2.2.2.2.2.2.2.2.2.1
theorem dX6_keyAt_56 : decode cX6_keyAt 56 = .ok (.istore 6, 2) := fx_ok0 eX6_keyAt_28.2.2.2.2.2.2.2.2.2.2.2.2.2.2.1
theorem dX6_keyAt_58 : decode cX6_keyAt 58 = .ok (.aload_n 0, 1) := fx_ok0 eX6_keyAt_28.2.2.2.2.2.2.2.2.2.2.2.2.2.2.2
theorem eX6_keyAt_59 : (fdecl cX6_keyAt.data.toList 59 = some (.getfield 11, 3)) ∧ (fdecl cX6_keyAt.data.toList 62 = some (.iload_n 1, 1)) ∧ (fdecl cX6_keyAt.data.toList 63 = some (.aaload, 1)) ∧ (fdecl cX6_keyAt.data.toList 64 = some (.iload 6, 2)) ∧ (fdecl cX6_keyAt.data.toList 66 = some (.invokevirtual 49, 3)) ∧ (fdecl cX6_keyAt.data.toList 69 = some (.ifCond .eq 14, 3)) ∧ (fdecl cX6_keyAt.data.toList 72 = some (.iload 4, 2)) ∧ (fdecl cX6_keyAt.data.toList 77 = some (.ifCond .ne 6, 3)) ∧ (fdecl cX6_keyAt.data.toList 80 = some (.iload 6, 2)) ∧ (fdecl cX6_keyAt.data.toList 82 = some (.ireturn, 1)) ∧ (fdecl cX6_keyAt.data.toList 86 = some (.goto (-60), 3)) ∧ (fdecl cX6_keyAt.data.toList 89 = some (.iconst (-1), 1)) ∧ (fdecl cX6_keyAt.data.toList 90 = some (.ireturn, 1)) := by decide +kernel
theorem dX6_keyAt_59 : decode cX6_keyAt 59 = .ok (.getfield 11, 3) := fx_ok0 eX6_keyAt_59.1
theorem dX6_keyAt_62 : decode cX6_keyAt 62 = .ok (.iload_n 1, 1) := fx_ok0 eX6_keyAt_59.2.1
theorem dX6_keyAt_63 : decode cX6_keyAt 63 = .ok (.aaload, 1) := fx_ok0 eX6_keyAt_59.2.2.1
theorem dX6_keyAt_64 : decode cX6_keyAt 64 = .ok (.iload 6, 2) := fx_ok0 eX6_keyAt_59.2.2.2.1
theorem dX6_keyAt_66 : decode cX6_keyAt 66 = .ok (.invokevirtual 49, 3) := fx_ok0 eX6_keyAt_59.2.2.2.2.1
theorem dX6_keyAt_69 : decode cX6_keyAt 69 = .ok (.ifCond .eq 14, 3) := fx_ok0 eX6_keyAt_59.2.2.2.2.2.1
theorem dX6_keyAt_72 : decode cX6_keyAt 72 = .ok (.iload 4, 2) := fx_ok0 eX6_keyAt_59.2.2.2.2.2.2.1
theorem dX6_keyAt_77 : decode cX6_keyAt 77 = .ok (.ifCond .ne 6, 3) := fx_ok0 eX6_keyAt_59.2.2.2.2.2.2.2.1
theorem dX6_keyAt_80 : decode cX6_keyAt 80 = .ok (.iload 6, 2) := fx_ok0 eX6_keyAt_59.2.2.2.2.2.2.2.2.1
theorem dX6_keyAt_82 : decode cX6_keyAt 82 = .ok (.ireturn, 1) := fx_ok0 eX6_keyAt_59.2.2.2.2.2.2.2.2.2.1
theorem dX6_keyAt_86 : decode cX6_keyAt 86 = .ok (.goto (-60), 3) := fx_ok0 eX6_keyAt_59.2.2.2.2.2.2.2.2.2.2.1
theorem dX6_keyAt_89 : decode cX6_keyAt 89 = .ok (.iconst (-1), 1) := fx_ok0 eX6_keyAt_59.2.2.2.2.2.2.2.2.2.2.2.1
theorem dX6_keyAt_90 : decode cX6_keyAt 90 = .ok (.ireturn, 1) := fx_ok0 eX6_keyAt_59.2.2.2.2.2.2.2.2.2.2.2.2
theorem dX6_keyAt_74 : decode cX6_keyAt 74 = .ok (.iinc 4 (-1), 3) := by decide +kernel
theorem dX6_keyAt_83 : decode cX6_keyAt 83 = .ok (.iinc 5 1, 3) := by decide +kernel
theorem eX6_hash_0 : (fdecl cX6_hash.data.toList 0 = some (.iconst 0, 1)) ∧ (fdecl cX6_hash.data.toList 1 = some (.istore_n 1, 1)) ∧ (fdecl cX6_hash.data.toList 2 = some (.iconst 0, 1)) ∧ (fdecl cX6_hash.data.toList 3 = some (.istore_n 2, 1)) ∧ (fdecl cX6_hash.data.toList 4 = some (.iload_n 2, 1)) ∧ (fdecl cX6_hash.data.toList 5 = some (.bipush 100, 2)) ∧ (fdecl cX6_hash.data.toList 7 = some (.if_icmp .ge 32, 3)) ∧ (fdecl cX6_hash.data.toList 10 = some (.iload_n 1, 1)) ∧ (fdecl cX6_hash.data.toList 11 = some (.aload_n 0, 1)) ∧ (fdecl cX6_hash.data.toList 12 = some (.iload_n 2, 1)) ∧ (fdecl cX6_hash.data.toList 13 = some (.invokevirtual 49, 3)) ∧ (fdecl cX6_hash.data.toList 16 = some (.ifCond .eq 14, 3)) ∧ (fdecl cX6_hash.data.toList 19 = some (.iload_n 2, 1)) ∧ (fdecl cX6_hash.data.toList 20 = some (.aload_n 0, 1)) ∧ (fdecl cX6_hash.data.toList 21 = some (.getfield 53, 3)) ∧ (fdecl cX6_hash.data.toList 24 = some (.iload_n 2, 1)) := by decide +kernel
theorem dX6_hash_0 : decode cX6_hash 0 = .ok (.iconst 0, 1) := fx_ok0 eX6_hash_0.1
theorem dX6_hash_1 : decode cX6_hash 1 = .ok (.istore_n 1, 1) := fx_ok0 eX6_hash_0.2.1
theorem dX6_hash_2 : decode cX6_hash 2 = .ok (.iconst 0, 1) := fx_ok0 eX6_hash_0.2.2.1
theorem dX6_hash_3 : decode cX6_hash 3 = .ok (.istore_n 2, 1) := fx_ok0 eX6_hash_0.2.2.2.1
theorem dX6_hash_4 : decode cX6_hash 4 = .ok (.iload_n 2, 1) := fx_ok0 eX6_hash_0.2.2.2.2.1
theorem dX6_hash_5 : decode cX6_hash 5 = .ok (.bipush 100, 2) := fx_ok0 eX6_hash_0.2.2.2.2.2.1
theorem dX6_hash_7 : decode cX6_hash 7 = .ok (.if_icmp .ge 32, 3) := fx_ok0 eX6_hash_0.2.2.2.2.2.2.1
theorem dX6_hash_10 : decode cX6_hash 10 = .ok (.iload_n 1, 1) := fx_ok0 eX6_hash_0.2.2.2.2.2.2.2.1
theorem dX6_hash_11 : decode cX6_hash 11 = .ok (.aload_n 0, 1) := fx_ok0 eX6_hash_0.2.2.2.2.2.2.2.2.1
theorem dX6_hash_12 : decode cX6_hash 12 = .ok (.iload_n 2, 1) := fx_ok0 eX6_hash_0.2.2.2.2.2.2.2.2.2.1
theorem dX6_hash_13 : decode cX6_hash 13 = .ok (.invokevirtual 49, 3) := fx_ok0 eX6_hash_0.2.2.2.2.2.2.2.2.2.2.1
theorem dX6_hash_16 : decode cX6_hash 16 = .ok (.ifCond .eq 14, 3) := fx_ok0 eX6_hash_0.2.2.2.2.2.2.2.2.2.2.2.1
theorem dX6_hash_19 : decode cX6_hash 19 = .ok (.iload_n 2, 1) := fx_ok0 eX6_hash_0.2.2.2.2.2.2.2.2.2.2.2.2.1
theorem dX6_hash_20 : decode cX6_hash 20 = .ok (.aload_n 0, 1) := fx_ok0 eX6_hash_0.2.2.2.2.2.2.2.2.2.2.2.2.2.1
theorem dX6_hash_21 : decode cX6_hash 21 = .ok (.getfield 53, 3) := fx_ok0 eX6_hash_0.2.2.2.2.2.2.2.2.2.2.2.2.2.2.1
theorem dX6_hash_24 : decode cX6_hash 24 = .ok (.iload_n 2, 1) := fx_ok0 eX6_hash_0.2.2.2.2.2.2.2.2.2.2.2.2.2.2.2
theorem eX6_hash_25 : (fdecl cX6_hash.data.toList 25 = some (.iaload, 1)) ∧ (fdecl cX6_hash.data.toList 26 = some (.ixor, 1)) ∧ (fdecl cX6_hash.data.toList 27 = some (.goto 4, 3)) ∧ (fdecl cX6_hash.data.toList 30 = some (.iconst 0, 1)) ∧ (fdecl cX6_hash.data.toList 31 = some (.iadd, 1)) ∧ (fdecl cX6_hash.data.toList 32 = some (.istore_n 1, 1)) ∧ (fdecl cX6_hash.data.toList 36 = some (.goto (-32), 3)) ∧ (fdecl cX6_hash.data.toList 39 = some (.iload_n 1, 1)) ∧ (fdecl cX6_hash.data.toList 40 = some (.ireturn, 1)) := by decide +kernel
theorem dX6_hash_25 : decode cX6_hash 25 = .ok (.iaload, 1) := fx_ok0 eX6_hash_25.1
theorem dX6_hash_26 : decode cX6_hash 26 = .ok (.ixor, 1) := fx_ok0 eX6_hash_25.2.1
theorem dX6_hash_27 : decode cX6_hash 27 = .ok (.goto 4, 3) := fx_ok0 eX6_hash_25.2.2.1
theorem dX6_hash_30 : decode cX6_hash 30 = .ok (.iconst 0, 1) := fx_ok0 eX6_hash_25.2.2.2.1
theorem dX6_hash_31 : decode cX6_hash 31 = .ok (.iadd, 1) := fx_ok0 eX6_hash_25.2.2.2.2.1
theorem dX6_hash_32 : decode cX6_hash 32 = .ok (.istore_n 1, 1) := fx_ok0 eX6_hash_25.2.2.2.2.2.1
theorem dX6_hash_36 : decode cX6_hash 36 = .ok (.goto (-32), 3) := fx_ok0 eX6_hash_25.2.2.2.2.2.2.1
theorem dX6_hash_39 : decode cX6_hash 39 = .ok (.iload_n 1, 1) := fx_ok0 eX6_hash_25.2.2.2.2.2.2.2.1
theorem dX6_hash_40 : decode cX6_hash 40 = .ok (.ireturn, 1) := fx_ok0 eX6_hash_25.2.2.2.2.2.2.2.2
theorem dX6_hash_33 : decode cX6_hash 33 = .ok (.iinc 2 1, 3) := by decide +kernel
theorem eX6_tellBook_0 : (fdecl cX6_tellBook.data.toList 0 = some (.aload_n 0, 1)) ∧ (fdecl cX6_tellBook.data.toList 1 = some (.iload_n 1, 1)) ∧ (fdecl cX6_tellBook.data.toList 2 = some (.invokestatic 60, 3)) ∧ (fdecl cX6_tellBook.data.toList 5 = some (.iload_n 2, 1)) ∧ (fdecl cX6_tellBook.data.toList 6 = some (.iconst 0, 1)) ∧ (fdecl cX6_tellBook.data.toList 7 = some (.iconst 3, 1)) ∧ (fdecl cX6_tellBook.data.toList 8 = some (.invokestatic 41, 3)) ∧ (fdecl cX6_tellBook.data.toList 11 = some (.invokevirtual 63, 3)) ∧ (fdecl cX6_tellBook.data.toList 14 = some (.ifCond .ne 5, 3)) ∧ (fdecl cX6_tellBook.data.toList 17 = some (.iconst 0, 1)) ∧ (fdecl cX6_tellBook.data.toList 18 = some (.ireturn, 1)) ∧ (fdecl cX6_tellBook.data.toList 19 = some (.aload_n 0, 1)) ∧ (fdecl cX6_tellBook.data.toList 20 = some (.getfield 11, 3)) ∧ (fdecl cX6_tellBook.data.toList 23 = some (.iload_n 1, 1)) ∧ (fdecl cX6_tellBook.data.toList 24 = some (.aaload, 1)) ∧ (fdecl cX6_tellBook.data.toList 25 = some (.iconst 0, 1)) := by decide +kernel
theorem dX6_tellBook_0 : decode cX6_tellBook 0 = .ok (.aload_n 0, 1) := fx_ok0 eX6_tellBook_0.1
theorem dX6_tellBook_1 : decode cX6_tellBook 1 = .ok (.iload_n 1, 1) := fx_ok0 eX6_tellBook_0.2.1
theorem dX6_tellBook_2 : decode cX6_tellBook 2 = .ok (.invokestatic 60, 3) := fx_ok0 eX6_tellBook_0.2.2.1
theorem dX6_tellBook_5 : decode cX6_tellBook 5 = .ok (.iload_n 2, 1) := fx_ok0 eX6_tellBook_0.2.2.2.1
theorem dX6_tellBook_6 : decode cX6_tellBook 6 = .ok (.iconst 0, 1) := fx_ok0 eX6_tellBook_0.2.2.2.2.1
theorem dX6_tellBook_7 : decode cX6_tellBook 7 = .ok (.iconst 3, 1) := fx_ok0 eX6_tellBook_0.2.2.2.2.2.1
theorem dX6_tellBook_8 : decode cX6_tellBook 8 = .ok (.invokestatic 41, 3) := fx_ok0 eX6_tellBook_0.2.2.2.2.2.2.1
theorem dX6_tellBook_11 : decode cX6_tellBook 11 = .ok (.invokevirtual 63, 3) := fx_ok0 eX6_tellBook_0.2.2.2.2.2.2.2.1
theorem dX6_tellBook_14 : decode cX6_tellBook 14 = .ok (.ifCond .ne 5, 3) := fx_ok0 eX6_tellBook_0.2.2.2.2.2.2.2.2.1
theorem dX6_tellBook_17 : decode cX6_tellBook 17 = .ok (.iconst 0, 1) := fx_ok0 eX6_tellBook_0.2.2.2.2.2.2.2.2.2.1
theorem dX6_tellBook_18 : decode cX6_tellBook 18 = .ok (.ireturn, 1) := fx_ok0 eX6_tellBook_0.2.2.2.2.2.2.2.2.2.2.1
theorem dX6_tellBook_19 : decode cX6_tellBook 19 = .ok (.aload_n 0, 1) := fx_ok0 eX6_tellBook_0.2.2.2.2.2.2.2.2.2.2.2.1
theorem dX6_tellBook_20 : decode cX6_tellBook 20 = .ok (.getfield 11, 3) := fx_ok0 eX6_tellBook_0.2.2.2.2.2.2.2.2.2.2.2.2.1
theorem dX6_tellBook_23 : decode cX6_tellBook 23 = .ok (.iload_n 1, 1) := fx_ok0 eX6_tellBook_0.2.2.2.2.2.2.2.2.2.2.2.2.2.1
theorem dX6_tellBook_24 : decode cX6_tellBook 24 = .ok (.aaload, 1) := fx_ok0 eX6_tellBook_0.2.2.2.2.2.2.2.2.2.2.2.2.2.2.1
theorem dX6_tellBook_25 : decode cX6_tellBook 25 = .ok (.iconst 0, 1) := fx_ok0 eX6_tellBook_0.2.2.2.2.2.2.2.2.2.2.2.2.2.2.2
theorem eX6_tellBook_26 : (fdecl cX6_tellBook.data.toList 26 = some (.bipush 99, 2)) ∧ (fdecl cX6_tellBook.data.toList 28 = some (.invokevirtual 67, 3)) ∧ (fdecl cX6_tellBook.data.toList 31 = some (.istore_n 3, 1)) ∧ (fdecl cX6_tellBook.data.toList 32 = some (.iload_n 2, 1)) ∧ (fdecl cX6_tellBook.data.toList 33 = some (.ifCond .ne 7, 3)) ∧ (fdecl cX6_tellBook.data.toList 36 = some (.iload_n 3, 1)) ∧ (fdecl cX6_tellBook.data.toList 37 = some (.goto 46, 3)) ∧ (fdecl cX6_tellBook.data.toList 40 = some (.iload_n 2, 1)) ∧ (fdecl cX6_tellBook.data.toList 41 = some (.iconst 1, 1)) ∧ (fdecl cX6_tellBook.data.toList 42 = some (.if_icmp .ne 15, 3)) ∧ (fdecl cX6_tellBook.data.toList 45 = some (.aload_n 0, 1)) ∧ (fdecl cX6_tellBook.data.toList 46 = some (.getfield 11, 3)) ∧ (fdecl cX6_tellBook.data.toList 49 = some (.iload_n 1, 1)) ∧ (fdecl cX6_tellBook.data.toList 50 = some (.aaload, 1)) ∧ (fdecl cX6_tellBook.data.toList 51 = some (.getfield 75, 3)) ∧ (fdecl cX6_tellBook.data.toList 54 = some (.goto 29, 3)) := by decide +kernel
theorem dX6_tellBook_26 : decode cX6_tellBook 26 = .ok (.bipush 99, 2) := fx_ok0 eX6_tellBook_26.1
theorem dX6_tellBook_28 : decode cX6_tellBook 28 = .ok (.invokevirtual 67, 3) := fx_ok0 eX6_tellBook_26.2.1
theorem dX6_tellBook_31 : decode cX6_tellBook 31 = .ok (.istore_n 3, 1) := fx_ok0 eX6_tellBook_26.2.2.1
theorem dX6_tellBook_32 : decode cX6_tellBook 32 = .ok (.iload_n 2, 1) := fx_ok0 eX6_tellBook_26.2.2.2.1
theorem dX6_tellBook_33 : decode cX6_tellBook 33 = .ok (.ifCond .ne 7, 3) := fx_ok0 eX6_tellBook_26.2.2.2.2.1
theorem dX6_tellBook_36 : decode cX6_tellBook 36 = .ok (.iload_n 3, 1) := fx_ok0 eX6_tellBook_26.2.2.2.2.2.1
theorem dX6_tellBook_37 : decode cX6_tellBook 37 = .ok (.goto 46, 3) := fx_ok0 eX6_tellBook_26.2.2.2.2.2.2.1
theorem dX6_tellBook_40 : decode cX6_tellBook 40 = .ok (.iload_n 2, 1) := fx_ok0 eX6_tellBook_26.2.2.2.2.2.2.2.1
theorem dX6_tellBook_41 : decode cX6_tellBook 41 = .ok (.iconst 1, 1) := fx_ok0 eX6_tellBook_26.2.2.2.2.2.2.2.2.1
theorem dX6_tellBook_42 : decode cX6_tellBook 42 = .ok (.if_icmp .ne 15, 3) := fx_ok0 eX6_tellBook_26.2.2.2.2.2.2.2.2.2.1
theorem dX6_tellBook_45 : decode cX6_tellBook 45 = .ok (.aload_n 0, 1) := fx_ok0 eX6_tellBook_26.2.2.2.2.2.2.2.2.2.2.1
theorem dX6_tellBook_46 : decode cX6_tellBook 46 = .ok (.getfield 11, 3) := fx_ok0 eX6_tellBook_26.2.2.2.2.2.2.2.2.2.2.2.1
theorem dX6_tellBook_49 : decode cX6_tellBook 49 = .ok (.iload_n 1, 1) := fx_ok0 eX6_tellBook_26.2.2.2.2.2.2.2.2.2.2.2.2.1
theorem dX6_tellBook_50 : decode cX6_tellBook 50 = .ok (.aaload, 1) := fx_ok0 eX6_tellBook_26.2.2.2.2.2.2.2.2.2.2.2.2.2.1
theorem dX6_tellBook_51 : decode cX6_tellBook 51 = .ok (.getfield 75, 3) := fx_ok0 eX6_tellBook_26.2.2.2.2.2.2.2.2.2.2.2.2.2.2.1
theorem dX6_tellBook_54 : decode cX6_tellBook 54 = .ok (.goto 29, 3) := fx_ok0 eX6_tellBook_26.2.2.2.2.2.2.2.2.2.2.2.2.2.2.2
theorem eX6_tellBook_57 : (fdecl cX6_tellBook.data.toList 57 = some (.iload_n 2, 1)) ∧ (fdecl cX6_tellBook.data.toList 58 = some (.iconst 2, 1)) ∧ (fdecl cX6_tellBook.data.toList 59 = some (.if_icmp .ne 15, 3)) ∧ (fdecl cX6_tellBook.data.toList 62 = some (.aload_n 0, 1)) ∧ (fdecl cX6_tellBook.data.toList 63 = some (.getfield 11, 3)) ∧ (fdecl cX6_tellBook.data.toList 66 = some (.iload_n 1, 1)) ∧ (fdecl cX6_tellBook.data.toList 67 = some (.aaload, 1)) ∧ (fdecl cX6_tellBook.data.toList 68 = some (.invokestatic 131, 3)) ∧ (fdecl cX6_tellBook.data.toList 71 = some (.goto 12, 3)) ∧ (fdecl cX6_tellBook.data.toList 74 = some (.iload_n 3, 1)) ∧ (fdecl cX6_tellBook.data.toList 75 = some (.ifCond .ne 7, 3)) ∧ (fdecl cX6_tellBook.data.toList 78 = some (.iconst 1, 1)) ∧ (fdecl cX6_tellBook.data.toList 79 = some (.goto 4, 3)) ∧ (fdecl cX6_tellBook.data.toList 82 = some (.iconst 0, 1)) ∧ (fdecl cX6_tellBook.data.toList 83 = some (.ireturn, 1)) := by decide +kernel
theorem dX6_tellBook_57 : decode cX6_tellBook 57 = .ok (.iload_n 2, 1) := fx_ok0 eX6_tellBook_57.1
theorem dX6_tellBook_58 : decode cX6_tellBook 58 = .ok (.iconst 2, 1) := fx_ok0 eX6_tellBook_57.2.1
theorem dX6_tellBook_59 : decode cX6_tellBook 59 = .ok (.if_icmp .ne 15, 3) := fx_ok0 eX6_tellBook_57.2.2.1
theorem dX6_tellBook_62 : decode cX6_tellBook 62 = .ok (.aload_n 0, 1) := fx_ok0 eX6_tellBook_57.2.2.2.1
theorem dX6_tellBook_63 : decode cX6_tellBook 63 = .ok (.getfield 11, 3) := fx_ok0 eX6_tellBook_57.2.2.2.2.1
theorem dX6_tellBook_66 : decode cX6_tellBook 66 = .ok (.iload_n 1, 1) := fx_ok0 eX6_tellBook_57.2.2.2.2.2.1
theorem dX6_tellBook_67 : decode cX6_tellBook 67 = .ok (.aaload, 1) := fx_ok0 eX6_tellBook_57.2.2.2.2.2.2.1
theorem dX6_tellBook_68 : decode cX6_tellBook 68 = .ok (.invokestatic 131, 3) := fx_ok0 eX6_tellBook_57.2.2.2.2.2.2.2.1
theorem dX6_tellBook_71 : decode cX6_tellBook 71 = .ok (.goto 12, 3) := fx_ok0 eX6_tellBook_57.2.2.2.2.2.2.2.2.1
theorem dX6_tellBook_74 : decode cX6_tellBook 74 = .ok (.iload_n 3, 1) := fx_ok0 eX6_tellBook_57.2.2.2.2.2.2.2.2.2.1
theorem dX6_tellBook_75 : decode cX6_tellBook 75 = .ok (.ifCond .ne 7, 3) := fx_ok0 eX6_tellBook_57.2.2.2.2.2.2.2.2.2.2.1
theorem dX6_tellBook_78 : decode cX6_tellBook 78 = .ok (.iconst 1, 1) := fx_ok0 eX6_tellBook_57.2.2.2.2.2.2.2.2.2.2.2.1
theorem dX6_tellBook_79 : decode cX6_tellBook 79 = .ok (.goto 4, 3) := fx_ok0 eX6_tellBook_57.2.2.2.2.2.2.2.2.2.2.2.2.1
theorem dX6_tellBook_82 : decode cX6_tellBook 82 = .ok (.iconst 0, 1) := fx_ok0 eX6_tellBook_57.2.2.2.2.2.2.2.2.2.2.2.2.2.1
theorem dX6_tellBook_83 : decode cX6_tellBook 83 = .ok (.ireturn, 1) := fx_ok0 eX6_tellBook_57.2.2.2.2.2.2.2.2.2.2.2.2.2.2
def fAX6_bookText_0 : List UInt8 := [42, 27, 184, 0, 60, 4, 182, 0, 63, 154, 0, 6, 18, 135, 176, 187, 0, 137, 89, 18, 139, 183, 0, 141, 77, 3, 62, 29, 16, 100, 162, 0, 80, 42, 180, 0, 11, 27, 50, 29, 182, 0, 100, 54, 4, 42, 180, 0, 11, 27, 50, 21, 4, 182, 0, 49, 154, 0, 6, 167, 0, 45, 44, 182]
def fAX6_bookText_1 : List UInt8 := [0, 144, 4, 164, 0, 10, 44, 18, 147, 182, 0, 149, 87, 44, 21, 4, 182, 0, 153, 18, 156, 182, 0, 149, 42, 180, 0, 11, 27, 50, 180, 0, 53, 21, 4, 46, 182, 0, 153, 87, 132, 3, 1, 167, 255, 176, 44, 18, 158, 182, 0, 149, 182, 0, 160, 176]
def fTX6_bookText_1 : List UInt8 := fAX6_bookText_1
def fTX6_bookText_0 : List UInt8 := fAX6_bookText_0 ++ fTX6_bookText_1
theorem fDX6_bookText_0 : cX6_bookText.data.toList.drop 0 = fTX6_bookText_0 := eq_of_beq (by decide +kernel)
theorem fDX6_bookText_1 : cX6_bookText.data.toList.drop 64 = fTX6_bookText_1 := fx_nx (d := 0) (n := 64) (a := fAX6_bookText_0) fDX6_bookText_0 rfl
theorem eX6_bookText_0 : (fdecl fTX6_bookText_0 0 = some (.aload_n 0, 1)) ∧ (fdecl fTX6_bookText_0 1 = some (.iload_n 1, 1)) ∧ (fdecl fTX6_bookText_0 2 = some (.invokestatic 60, 3)) ∧ (fdecl fTX6_bookText_0 5 = some (.iconst 1, 1)) ∧ (fdecl fTX6_bookText_0 6 = some (.invokevirtual 63, 3)) ∧ (fdecl fTX6_bookText_0 9 = some (.ifCond .ne 6, 3)) ∧ (fdecl fTX6_bookText_0 12 = some (.ldc 135, 2)) ∧ (fdecl fTX6_bookText_0 14 = some (.areturn, 1)) ∧ (fdecl fTX6_bookText_0 15 = some (.new 137, 3)) ∧ (fdecl fTX6_bookText_0 18 = some (.dup, 1)) ∧ (fdecl fTX6_bookText_0 19 = some (.ldc 139, 2)) ∧ (fdecl fTX6_bookText_0 21 = some (.invokespecial 141, 3)) ∧ (fdecl fTX6_bookText_0 24 = some (.astore_n 2, 1)) ∧ (fdecl fTX6_bookText_0 25 = some (.iconst 0, 1)) ∧ (fdecl fTX6_bookText_0 26 = some (.istore_n 3, 1)) ∧ (fdecl fTX6_bookText_0 27 = some (.iload_n 3, 1)) := by decide +kernel
theorem dX6_bookText_0 : decode cX6_bookText 0 = .ok (.aload_n 0, 1) := fx_ok (d := 0) (i := 0) fDX6_bookText_0 eX6_bookText_0.1
theorem dX6_bookText_1 : decode cX6_bookText 1 = .ok (.iload_n 1, 1) := fx_ok (d := 0) (i := 1) fDX6_bookText_0 eX6_bookText_0.2.1
theorem dX6_bookText_2 : decode cX6_bookText 2 = .ok (.invokestatic 60, 3) := fx_ok (d := 0) (i := 2) fDX6_bookText_0 eX6_bookText_0.2.2.1
theorem dX6_bookText_5 : decode cX6_bookText 5 = .ok (.iconst 1, 1) := fx_ok (d := 0) (i := 5) fDX6_bookText_0 eX6_bookText_0.2.2.2.1
theorem dX6_bookText_6 : decode cX6_bookText 6 = .ok (.invokevirtual 63, 3) := fx_ok (d := 0) (i := 6) fDX6_bookText_0 eX6_bookText_0.2.2.2.2.1
theorem dX6_bookText_9 : decode cX6_bookText 9 = .ok (.ifCond .ne 6, 3) := fx_ok (d := 0) (i := 9) fDX6_bookText_0 eX6_bookText_0.2.2.2.2.2.1
theorem dX6_bookText_12 : decode cX6_bookText 12 = .ok (.ldc 135, 2) := fx_ok (d := 0) (i := 12) fDX6_bookText_0 eX6_bookText_0.2.2.2.2.2.2.1
theorem dX6_bookText_14 : decode cX6_bookText 14 = .ok (.areturn, 1) := fx_ok (d := 0) (i := 14) fDX6_bookText_0 eX6_bookText_0.2.2.2.2.2.2.2.1
theorem dX6_bookText_15 : decode cX6_bookText 15 = .ok (.new 137, 3) := fx_ok (d := 0) (i := 15) fDX6_bookText_0 eX6_bookText_0.2.2.2.2.2.2.2.2.1
theorem dX6_bookText_18 : decode cX6_bookText 18 = .ok (.dup, 1) := fx_ok (d := 0) (i := 18) fDX6_bookText_0 eX6_bookText_0.2.2.2.2.2.2.2.2.2.1
theorem dX6_bookText_19 : decode cX6_bookText 19 = .ok (.ldc 139, 2) := fx_ok (d := 0) (i := 19) fDX6_bookText_0 eX6_bookText_0.2.2.2.2.2.2.2.2.2.2.1
theorem dX6_bookText_21 : decode cX6_bookText 21 = .ok (.invokespecial 141, 3) := fx_ok (d := 0) (i := 21) fDX6_bookText_0 eX6_bookText_0.2.2.2.2.2.2.2.2.2.2.2.1
theorem dX6_bookText_24 : decode cX6_bookText 24 = .ok (.astore_n 2, 1) := fx_ok (d := 0) (i := 24) fDX6_bookText_0 eX6_bookText_0.2.2.2.2.2.2.2.2.2.2.2.2.1
theorem dX6_bookText_25 : decode cX6_bookText 25 = .ok (.iconst 0, 1) := fx_ok (d := 0) (i := 25) fDX6_bookText_0 eX6_bookText_0.2.2.2.2.2.2.2.2.2.2.2.2.2.1
theorem dX6_bookText_26 : decode cX6_bookText 26 = .ok (.istore_n 3, 1) := fx_ok (d := 0) (i := 26) fDX6_bookText_0 eX6_bookText_0.2.2.2.2.2.2.2.2.2.2.2.2.2.2.1
theorem dX6_bookText_27 : decode cX6_bookText 27 = .ok (.iload_n 3, 1) := fx_ok (d := 0) (i := 27) fDX6_bookText_0 eX6_bookText_0.2.2.2.2.2.2.2.2.2.2.2.2.2.2.2
theorem eX6_bookText_28 : (fdecl fTX6_bookText_0 28 = some (.bipush 100, 2)) ∧ (fdecl fTX6_bookText_0 30 = some (.if_icmp .ge 80, 3)) ∧ (fdecl fTX6_bookText_0 33 = some (.aload_n 0, 1)) ∧ (fdecl fTX6_bookText_0 34 = some (.getfield 11, 3)) ∧ (fdecl fTX6_bookText_0 37 = some (.iload_n 1, 1)) ∧ (fdecl fTX6_bookText_0 38 = some (.aaload, 1)) ∧ (fdecl fTX6_bookText_0 39 = some (.iload_n 3, 1)) ∧ (fdecl fTX6_bookText_0 40 = some (.invokevirtual 100, 3)) ∧ (fdecl fTX6_bookText_0 43 = some (.istore 4, 2)) ∧ (fdecl fTX6_bookText_0 45 = some (.aload_n 0, 1)) ∧ (fdecl fTX6_bookText_0 46 = some (.getfield 11, 3)) ∧ (fdecl fTX6_bookText_0 49 = some (.iload_n 1, 1)) ∧ (fdecl fTX6_bookText_0 50 = some (.aaload, 1)) ∧ (fdecl fTX6_bookText_0 51 = some (.iload 4, 2)) ∧ (fdecl fTX6_bookText_0 53 = some (.invokevirtual 49, 3)) ∧ (fdecl fTX6_bookText_0 56 = some (.ifCond .ne 6, 3)) := by decide +kernel
theorem dX6_bookText_28 : decode cX6_bookText 28 = .ok (.bipush 100, 2) := fx_ok (d := 0) (i := 28) fDX6_bookText_0 eX6_bookText_28.1
theorem dX6_bookText_30 : decode cX6_bookText 30 = .ok (.if_icmp .ge 80, 3) := fx_ok (d := 0) (i := 30) fDX6_bookText_0 eX6_bookText_28.2.1
theorem dX6_bookText_33 : decode cX6_bookText 33 = .ok (.aload_n 0, 1) := fx_ok (d := 0) (i := 33) fDX6_bookText_0 eX6_bookText_28.2.2.1
theorem dX6_bookText_34 : decode cX6_bookText 34 = .ok (.getfield 11, 3) := fx_ok (d := 0) (i := 34) fDX6_bookText_0 eX6_bookText_28.2.2.2.1
theorem dX6_bookText_37 : decode cX6_bookText 37 = .ok (.iload_n 1, 1) := fx_ok (d := 0) (i := 37) fDX6_bookText_0 eX6_bookText_28.2.2.2.2.1
theorem dX6_bookText_38 : decode cX6_bookText 38 = .ok (.aaload, 1) := fx_ok (d := 0) (i := 38) fDX6_bookText_0 eX6_bookText_28.2.2.2.2.2.1
theorem dX6_bookText_39 : decode cX6_bookText 39 = .ok (.iload_n 3, 1) := fx_ok (d := 0) (i := 39) fDX6_bookText_0 eX6_bookText_28.2.2.2.2.2.2.1
theorem dX6_bookText_40 : decode cX6_bookText 40 = .ok (.invokevirtual 100, 3) := fx_ok (d := 0) (i := 40) fDX6_bookText_0 eX6_bookText_28.2.2.2.2.2.2.2.1
theorem dX6_bookText_43 : decode cX6_bookText 43 = .ok (.istore 4, 2) := fx_ok (d := 0) (i := 43) fDX6_bookText_0 eX6_bookText_28.2.2.2.2.2.2.2.2.1
theorem dX6_bookText_45 : decode cX6_bookText 45 = .ok (.aload_n 0, 1) := fx_ok (d := 0) (i := 45) fDX6_bookText_0 eX6_bookText_28.2.2.2.2.2.2.2.2.2.1
theorem dX6_bookText_46 : decode cX6_bookText 46 = .ok (.getfield 11, 3) := fx_ok (d := 0) (i := 46) fDX6_bookText_0 eX6_bookText_28.2.2.2.2.2.2.2.2.2.2.1
theorem dX6_bookText_49 : decode cX6_bookText 49 = .ok (.iload_n 1, 1) := fx_ok (d := 0) (i := 49) fDX6_bookText_0 eX6_bookText_28.2.2.2.2.2.2.2.2.2.2.2.1
theorem dX6_bookText_50 : decode cX6_bookText 50 = .ok (.aaload, 1) := fx_ok (d := 0) (i := 50) fDX6_bookText_0 eX6_bookText_28.2.2.2.2.2.2.2.2.2.2.2.2.1
theorem dX6_bookText_51 : decode cX6_bookText 51 = .ok (.iload 4, 2) := fx_ok (d := 0) (i := 51) fDX6_bookText_0 eX6_bookText_28.2.2.2.2.2.2.2.2.2.2.2.2.2.1
theorem dX6_bookText_53 : decode cX6_bookText 53 = .ok (.invokevirtual 49, 3) := fx_ok (d := 0) (i := 53) fDX6_bookText_0 eX6_bookText_28.2.2.2.2.2.2.2.2.2.2.2.2.2.2.1
theorem dX6_bookText_56 : decode cX6_bookText 56 = .ok (.ifCond .ne 6, 3) := fx_ok (d := 0) (i := 56) fDX6_bookText_0 eX6_bookText_28.2.2.2.2.2.2.2.2.2.2.2.2.2.2.2
theorem eX6_bookText_59 : (fdecl fTX6_bookText_0 59 = some (.goto 45, 3)) ∧ (fdecl fTX6_bookText_0 62 = some (.aload_n 2, 1)) ∧ (fdecl fTX6_bookText_0 63 = some (.invokevirtual 144, 3)) ∧ (fdecl fTX6_bookText_1 2 = some (.iconst 1, 1)) ∧ (fdecl fTX6_bookText_1 3 = some (.if_icmp .le 10, 3)) ∧ (fdecl fTX6_bookText_1 6 = some (.aload_n 2, 1)) ∧ (fdecl fTX6_bookText_1 7 = some (.ldc 147, 2)) ∧ (fdecl fTX6_bookText_1 9 = some (.invokevirtual 149, 3)) ∧ (fdecl fTX6_bookText_1 12 = some (.pop, 1)) ∧ (fdecl fTX6_bookText_1 13 = some (.aload_n 2, 1)) ∧ (fdecl fTX6_bookText_1 14 = some (.iload 4, 2)) ∧ (fdecl fTX6_bookText_1 16 = some (.invokevirtual 153, 3)) ∧ (fdecl fTX6_bookText_1 19 = some (.ldc 156, 2)) ∧ (fdecl fTX6_bookText_1 21 = some (.invokevirtual 149, 3)) ∧ (fdecl fTX6_bookText_1 24 = some (.aload_n 0, 1)) ∧ (fdecl fTX6_bookText_1 25 = some (.getfield 11, 3)) := by decide +kernel
theorem dX6_bookText_59 : decode cX6_bookText 59 = .ok (.goto 45, 3) := fx_ok (d := 0) (i := 59) fDX6_bookText_0 eX6_bookText_59.1
theorem dX6_bookText_62 : decode cX6_bookText 62 = .ok (.aload_n 2, 1) := fx_ok (d := 0) (i := 62) fDX6_bookText_0 eX6_bookText_59.2.1
theorem dX6_bookText_63 : decode cX6_bookText 63 = .ok (.invokevirtual 144, 3) := fx_ok (d := 0) (i := 63) fDX6_bookText_0 eX6_bookText_59.2.2.1
theorem dX6_bookText_66 : decode cX6_bookText 66 = .ok (.iconst 1, 1) := fx_ok (d := 64) (i := 2) fDX6_bookText_1 eX6_bookText_59.2.2.2.1
theorem dX6_bookText_67 : decode cX6_bookText 67 = .ok (.if_icmp .le 10, 3) := fx_ok (d := 64) (i := 3) fDX6_bookText_1 eX6_bookText_59.2.2.2.2.1
theorem dX6_bookText_70 : decode cX6_bookText 70 = .ok (.aload_n 2, 1) := fx_ok (d := 64) (i := 6) fDX6_bookText_1 eX6_bookText_59.2.2.2.2.2.1
theorem dX6_bookText_71 : decode cX6_bookText 71 = .ok (.ldc 147, 2) := fx_ok (d := 64) (i := 7) fDX6_bookText_1 eX6_bookText_59.2.2.2.2.2.2.1
theorem dX6_bookText_73 : decode cX6_bookText 73 = .ok (.invokevirtual 149, 3) := fx_ok (d := 64) (i := 9) fDX6_bookText_1 eX6_bookText_59.2.2.2.2.2.2.2.1
theorem dX6_bookText_76 : decode cX6_bookText 76 = .ok (.pop, 1) := fx_ok (d := 64) (i := 12) fDX6_bookText_1 eX6_bookText_59.2.2.2.2.2.2.2.2.1
theorem dX6_bookText_77 : decode cX6_bookText 77 = .ok (.aload_n 2, 1) := fx_ok (d := 64) (i := 13) fDX6_bookText_1 eX6_bookText_59.2.2.2.2.2.2.2.2.2.1
theorem dX6_bookText_78 : decode cX6_bookText 78 = .ok (.iload 4, 2) := fx_ok (d := 64) (i := 14) fDX6_bookText_1 eX6_bookText_59.2.2.2.2.2.2.2.2.2.2.1
theorem dX6_bookText_80 : decode cX6_bookText 80 = .ok (.invokevirtual 153, 3) := fx_ok (d := 64) (i := 16) fDX6_bookText_1 eX6_bookText_59.2.2.2.2.2.2.2.2.2.2.2.1
theorem dX6_bookText_83 : decode cX6_bookText 83 = .ok (.ldc 156, 2) := fx_ok (d := 64) (i := 19) fDX6_bookText_1 eX6_bookText_59.2.2.2.2.2.2.2.2.2.2.2.2.1
theorem dX6_bookText_85 : decode cX6_bookText 85 = .ok (.invokevirtual 149, 3) := fx_ok (d := 64) (i := 21) fDX6_bookText_1 eX6_bookText_59.2.2.2.2.2.2.2.2.2.2.2.2.2.1
theorem dX6_bookText_88 : decode cX6_bookText 88 = .ok (.aload_n 0, 1) := fx_ok (d := 64) (i := 24) fDX6_bookText_1 eX6_bookText_59.2.2.2.2.2.2.2.2.2.2.2.2.2.2.1
theorem dX6_bookText_89 : decode cX6_bookText 89 = .ok (.getfield 11, 3) := fx_ok (d := 64) (i := 25) fDX6_bookText_1 eX6_bookText_59.2.2.2.2.2.2.2.2.2.2.2.2.2.2.2
theorem eX6_bookText_92 : (fdecl fTX6_bookText_1 28 = some (.iload_n 1, 1)) ∧ (fdecl fTX6_bookText_1 29 = some (.aaload, 1)) ∧ (fdecl fTX6_bookText_1 30 = some (.getfield 53, 3)) ∧ (fdecl fTX6_bookText_1 33 = some (.iload 4, 2)) ∧ (fdecl fTX6_bookText_1 35 = some (.iaload, 1)) ∧ (fdecl fTX6_bookText_1 36 = some (.invokevirtual 153, 3)) ∧ (fdecl fTX6_bookText_1 39 = some (.pop, 1)) ∧ (fdecl fTX6_bookText_1 43 = some (.goto (-80), 3)) ∧ (fdecl fTX6_bookText_1 46 = some (.aload_n 2, 1)) ∧ (fdecl fTX6_bookText_1 47 = some (.ldc 158, 2)) ∧ (fdecl fTX6_bookText_1 49 = some (.invokevirtual 149, 3)) ∧ (fdecl fTX6_bookText_1 52 = some (.invokevirtual 160, 3)) ∧ (fdecl fTX6_bookText_1 55 = some (.areturn, 1)) := by decide +kernel
theorem dX6_bookText_92 : decode cX6_bookText 92 = .ok (.iload_n 1, 1) := fx_ok (d := 64) (i := 28) fDX6_bookText_1 eX6_bookText_92.1
theorem dX6_bookText_93 : decode cX6_bookText 93 = .ok (.aaload, 1) := fx_ok (d := 64) (i := 29) fDX6_bookText_1 eX6_bookText_92.2.1
theorem dX6_bookText_94 : decode cX6_bookText 94 = .ok (.getfield 53, 3) := fx_ok (d := 64) (i := 30) fDX6_bookText_1 eX6_bookText_92.2.2.1
theorem dX6_bookText_97 : decode cX6_bookText 97 = .ok (.iload 4, 2) := fx_ok (d := 64) (i := 33) fDX6_bookText_1 eX6_bookText_92.2.2.2.1
theorem dX6_bookText_99 : decode cX6_bookText 99 = .ok (.iaload, 1) := fx_ok (d := 64) (i := 35) fDX6_bookText_1 eX6_bookText_92.2.2.2.2.1
theorem dX6_bookText_100 : decode cX6_bookText 100 = .ok (.invokevirtual 153, 3) := fx_ok (d := 64) (i := 36) fDX6_bookText_1 eX6_bookText_92.2.2.2.2.2.1
theorem dX6_bookText_103 : decode cX6_bookText 103 = .ok (.pop, 1) := fx_ok (d := 64) (i := 39) fDX6_bookText_1 eX6_bookText_92.2.2.2.2.2.2.1
theorem dX6_bookText_107 : decode cX6_bookText 107 = .ok (.goto (-80), 3) := fx_ok (d := 64) (i := 43) fDX6_bookText_1 eX6_bookText_92.2.2.2.2.2.2.2.1
theorem dX6_bookText_110 : decode cX6_bookText 110 = .ok (.aload_n 2, 1) := fx_ok (d := 64) (i := 46) fDX6_bookText_1 eX6_bookText_92.2.2.2.2.2.2.2.2.1
theorem dX6_bookText_111 : decode cX6_bookText 111 = .ok (.ldc 158, 2) := fx_ok (d := 64) (i := 47) fDX6_bookText_1 eX6_bookText_92.2.2.2.2.2.2.2.2.2.1
theorem dX6_bookText_113 : decode cX6_bookText 113 = .ok (.invokevirtual 149, 3) := fx_ok (d := 64) (i := 49) fDX6_bookText_1 eX6_bookText_92.2.2.2.2.2.2.2.2.2.2.1
theorem dX6_bookText_116 : decode cX6_bookText 116 = .ok (.invokevirtual 160, 3) := fx_ok (d := 64) (i := 52) fDX6_bookText_1 eX6_bookText_92.2.2.2.2.2.2.2.2.2.2.2.1
theorem dX6_bookText_119 : decode cX6_bookText 119 = .ok (.areturn, 1) := fx_ok (d := 64) (i := 55) fDX6_bookText_1 eX6_bookText_92.2.2.2.2.2.2.2.2.2.2.2.2
theorem dX6_bookText_104 : decode cX6_bookText 104 = .ok (.iinc 3 1, 3) := by decide +kernel
theorem eX6_same_0 : (fdecl cX6_same.data.toList 0 = some (.iconst 0, 1)) ∧ (fdecl cX6_same.data.toList 1 = some (.istore_n 2, 1)) ∧ (fdecl cX6_same.data.toList 2 = some (.iload_n 2, 1)) ∧ (fdecl cX6_same.data.toList 3 = some (.bipush 100, 2)) ∧ (fdecl cX6_same.data.toList 5 = some (.if_icmp .ge 26, 3)) ∧ (fdecl cX6_same.data.toList 8 = some (.aload_n 0, 1)) ∧ (fdecl cX6_same.data.toList 9 = some (.getfield 53, 3)) ∧ (fdecl cX6_same.data.toList 12 = some (.iload_n 2, 1)) ∧ (fdecl cX6_same.data.toList 13 = some (.iaload, 1)) ∧ (fdecl cX6_same.data.toList 14 = some (.aload_n 1, 1)) ∧ (fdecl cX6_same.data.toList 15 = some (.getfield 53, 3)) ∧ (fdecl cX6_same.data.toList 18 = some (.iload_n 2, 1)) ∧ (fdecl cX6_same.data.toList 19 = some (.iaload, 1)) ∧ (fdecl cX6_same.data.toList 20 = some (.if_icmp .eq 5, 3)) ∧ (fdecl cX6_same.data.toList 23 = some (.iconst 0, 1)) ∧ (fdecl cX6_same.data.toList 24 = some (.ireturn, 1)) := by decide +kernel
theorem dX6_same_0 : decode cX6_same 0 = .ok (.iconst 0, 1) := fx_ok0 eX6_same_0.1
theorem dX6_same_1 : decode cX6_same 1 = .ok (.istore_n 2, 1) := fx_ok0 eX6_same_0.2.1
theorem dX6_same_2 : decode cX6_same 2 = .ok (.iload_n 2, 1) := fx_ok0 eX6_same_0.2.2.1
theorem dX6_same_3 : decode cX6_same 3 = .ok (.bipush 100, 2) := fx_ok0 eX6_same_0.2.2.2.1
theorem dX6_same_5 : decode cX6_same 5 = .ok (.if_icmp .ge 26, 3) := fx_ok0 eX6_same_0.2.2.2.2.1
theorem dX6_same_8 : decode cX6_same 8 = .ok (.aload_n 0, 1) := fx_ok0 eX6_same_0.2.2.2.2.2.1
theorem dX6_same_9 : decode cX6_same 9 = .ok (.getfield 53, 3) := fx_ok0 eX6_same_0.2.2.2.2.2.2.1
theorem dX6_same_12 : decode cX6_same 12 = .ok (.iload_n 2, 1) := fx_ok0 eX6_same_0.2.2.2.2.2.2.2.1
theorem dX6_same_13 : decode cX6_same 13 = .ok (.iaload, 1) := fx_ok0 eX6_same_0.2.2.2.2.2.2.2.2.1
theorem dX6_same_14 : decode cX6_same 14 = .ok (.aload_n 1, 1) := fx_ok0 eX6_same_0.2.2.2.2.2.2.2.2.2.1
theorem dX6_same_15 : decode cX6_same 15 = .ok (.getfield 53, 3) := fx_ok0 eX6_same_0.2.2.2.2.2.2.2.2.2.2.1
theorem dX6_same_18 : decode cX6_same 18 = .ok (.iload_n 2, 1) := fx_ok0 eX6_same_0.2.2.2.2.2.2.2.2.2.2.2.1
theorem dX6_same_19 : decode cX6_same 19 = .ok (.iaload, 1) := fx_ok0 eX6_same_0.2.2.2.2.2.2.2.2.2.2.2.2.1
theorem dX6_same_20 : decode cX6_same 20 = .ok (.if_icmp .eq 5, 3) := fx_ok0 eX6_same_0.2.2.2.2.2.2.2.2.2.2.2.2.2.1
theorem dX6_same_23 : decode cX6_same 23 = .ok (.iconst 0, 1) := fx_ok0 eX6_same_0.2.2.2.2.2.2.2.2.2.2.2.2.2.2.1
theorem dX6_same_24 : decode cX6_same 24 = .ok (.ireturn, 1) := fx_ok0 eX6_same_0.2.2.2.2.2.2.2.2.2.2.2.2.2.2.2
theorem eX6_same_28 : (fdecl cX6_same.data.toList 28 = some (.goto (-26), 3)) ∧ (fdecl cX6_same.data.toList 31 = some (.iconst 1, 1)) ∧ (fdecl cX6_same.data.toList 32 = some (.ireturn, 1)) := by decide +kernel
theorem dX6_same_28 : decode cX6_same 28 = .ok (.goto (-26), 3) := fx_ok0 eX6_same_28.1
theorem dX6_same_31 : decode cX6_same 31 = .ok (.iconst 1, 1) := fx_ok0 eX6_same_28.2.1
theorem dX6_same_32 : decode cX6_same 32 = .ok (.ireturn, 1) := fx_ok0 eX6_same_28.2.2
theorem dX6_same_25 : decode cX6_same 25 = .ok (.iinc 2 1, 3) := by decide +kernel
theorem eX6_sameBooks_0 : (fdecl cX6_sameBooks.data.toList 0 = some (.aload_n 0, 1)) ∧ (fdecl cX6_sameBooks.data.toList 1 = some (.iload_n 1, 1)) ∧ (fdecl cX6_sameBooks.data.toList 2 = some (.invokestatic 60, 3)) ∧ (fdecl cX6_sameBooks.data.toList 5 = some (.ifCond .eq 14, 3)) ∧ (fdecl cX6_sameBooks.data.toList 8 = some (.iload_n 2, 1)) ∧ (fdecl cX6_sameBooks.data.toList 9 = some (.invokestatic 60, 3)) ∧ (fdecl cX6_sameBooks.data.toList 12 = some (.ifCond .eq 7, 3)) ∧ (fdecl cX6_sameBooks.data.toList 15 = some (.iconst 1, 1)) ∧ (fdecl cX6_sameBooks.data.toList 16 = some (.goto 4, 3)) ∧ (fdecl cX6_sameBooks.data.toList 19 = some (.iconst 0, 1)) ∧ (fdecl cX6_sameBooks.data.toList 20 = some (.iconst 1, 1)) ∧ (fdecl cX6_sameBooks.data.toList 21 = some (.invokevirtual 63, 3)) ∧ (fdecl cX6_sameBooks.data.toList 24 = some (.ifCond .eq 25, 3)) ∧ (fdecl cX6_sameBooks.data.toList 27 = some (.aload_n 0, 1)) ∧ (fdecl cX6_sameBooks.data.toList 28 = some (.getfield 11, 3)) ∧ (fdecl cX6_sameBooks.data.toList 31 = some (.iload_n 1, 1)) := by decide +kernel
theorem dX6_sameBooks_0 : decode cX6_sameBooks 0 = .ok (.aload_n 0, 1) := fx_ok0 eX6_sameBooks_0.1
theorem dX6_sameBooks_1 : decode cX6_sameBooks 1 = .ok (.iload_n 1, 1) := fx_ok0 eX6_sameBooks_0.2.1
theorem dX6_sameBooks_2 : decode cX6_sameBooks 2 = .ok (.invokestatic 60, 3) := fx_ok0 eX6_sameBooks_0.2.2.1
theorem dX6_sameBooks_5 : decode cX6_sameBooks 5 = .ok (.ifCond .eq 14, 3) := fx_ok0 eX6_sameBooks_0.2.2.2.1
theorem dX6_sameBooks_8 : decode cX6_sameBooks 8 = .ok (.iload_n 2, 1) := fx_ok0 eX6_sameBooks_0.2.2.2.2.1
theorem dX6_sameBooks_9 : decode cX6_sameBooks 9 = .ok (.invokestatic 60, 3) := fx_ok0 eX6_sameBooks_0.2.2.2.2.2.1
theorem dX6_sameBooks_12 : decode cX6_sameBooks 12 = .ok (.ifCond .eq 7, 3) := fx_ok0 eX6_sameBooks_0.2.2.2.2.2.2.1
theorem dX6_sameBooks_15 : decode cX6_sameBooks 15 = .ok (.iconst 1, 1) := fx_ok0 eX6_sameBooks_0.2.2.2.2.2.2.2.1
theorem dX6_sameBooks_16 : decode cX6_sameBooks 16 = .ok (.goto 4, 3) := fx_ok0 eX6_sameBooks_0.2.2.2.2.2.2.2.2.1
theorem dX6_sameBooks_19 : decode cX6_sameBooks 19 = .ok (.iconst 0, 1) := fx_ok0 eX6_sameBooks_0.2.2.2.2.2.2.2.2.2.1
theorem dX6_sameBooks_20 : decode cX6_sameBooks 20 = .ok (.iconst 1, 1) := fx_ok0 eX6_sameBooks_0.2.2.2.2.2.2.2.2.2.2.1
theorem dX6_sameBooks_21 : decode cX6_sameBooks 21 = .ok (.invokevirtual 63, 3) := fx_ok0 eX6_sameBooks_0.2.2.2.2.2.2.2.2.2.2.2.1
theorem dX6_sameBooks_24 : decode cX6_sameBooks 24 = .ok (.ifCond .eq 25, 3) := fx_ok0 eX6_sameBooks_0.2.2.2.2.2.2.2.2.2.2.2.2.1
theorem dX6_sameBooks_27 : decode cX6_sameBooks 27 = .ok (.aload_n 0, 1) := fx_ok0 eX6_sameBooks_0.2.2.2.2.2.2.2.2.2.2.2.2.2.1
theorem dX6_sameBooks_28 : decode cX6_sameBooks 28 = .ok (.getfield 11, 3) := fx_ok0 eX6_sameBooks_0.2.2.2.2.2.2.2.2.2.2.2.2.2.2.1
theorem dX6_sameBooks_31 : decode cX6_sameBooks 31 = .ok (.iload_n 1, 1) := fx_ok0 eX6_sameBooks_0.2.2.2.2.2.2.2.2.2.2.2.2.2.2.2
theorem eX6_sameBooks_32 : (fdecl cX6_sameBooks.data.toList 32 = some (.aaload, 1)) ∧ (fdecl cX6_sameBooks.data.toList 33 = some (.aload_n 0, 1)) ∧ (fdecl cX6_sameBooks.data.toList 34 = some (.getfield 11, 3)) ∧ (fdecl cX6_sameBooks.data.toList 37 = some (.iload_n 2, 1)) ∧ (fdecl cX6_sameBooks.data.toList 38 = some (.aaload, 1)) ∧ (fdecl cX6_sameBooks.data.toList 39 = some (.invokestatic 164, 3)) ∧ (fdecl cX6_sameBooks.data.toList 42 = some (.ifCond .eq 7, 3)) ∧ (fdecl cX6_sameBooks.data.toList 45 = some (.iconst 1, 1)) ∧ (fdecl cX6_sameBooks.data.toList 46 = some (.goto 4, 3)) ∧ (fdecl cX6_sameBooks.data.toList 49 = some (.iconst 0, 1)) ∧ (fdecl cX6_sameBooks.data.toList 50 = some (.ireturn, 1)) := by decide +kernel
theorem dX6_sameBooks_32 : decode cX6_sameBooks 32 = .ok (.aaload, 1) := fx_ok0 eX6_sameBooks_32.1
theorem dX6_sameBooks_33 : decode cX6_sameBooks 33 = .ok (.aload_n 0, 1) := fx_ok0 eX6_sameBooks_32.2.1
theorem dX6_sameBooks_34 : decode cX6_sameBooks 34 = .ok (.getfield 11, 3) := fx_ok0 eX6_sameBooks_32.2.2.1
theorem dX6_sameBooks_37 : decode cX6_sameBooks 37 = .ok (.iload_n 2, 1) := fx_ok0 eX6_sameBooks_32.2.2.2.1
theorem dX6_sameBooks_38 : decode cX6_sameBooks 38 = .ok (.aaload, 1) := fx_ok0 eX6_sameBooks_32.2.2.2.2.1
theorem dX6_sameBooks_39 : decode cX6_sameBooks 39 = .ok (.invokestatic 164, 3) := fx_ok0 eX6_sameBooks_32.2.2.2.2.2.1
theorem dX6_sameBooks_42 : decode cX6_sameBooks 42 = .ok (.ifCond .eq 7, 3) := fx_ok0 eX6_sameBooks_32.2.2.2.2.2.2.1
theorem dX6_sameBooks_45 : decode cX6_sameBooks 45 = .ok (.iconst 1, 1) := fx_ok0 eX6_sameBooks_32.2.2.2.2.2.2.2.1
theorem dX6_sameBooks_46 : decode cX6_sameBooks 46 = .ok (.goto 4, 3) := fx_ok0 eX6_sameBooks_32.2.2.2.2.2.2.2.2.1
theorem dX6_sameBooks_49 : decode cX6_sameBooks 49 = .ok (.iconst 0, 1) := fx_ok0 eX6_sameBooks_32.2.2.2.2.2.2.2.2.2.1
theorem dX6_sameBooks_50 : decode cX6_sameBooks 50 = .ok (.ireturn, 1) := fx_ok0 eX6_sameBooks_32.2.2.2.2.2.2.2.2.2.2
theorem eX6_seen_0 : (fdecl cX6_seen.data.toList 0 = some (.aload_n 0, 1)) ∧ (fdecl cX6_seen.data.toList 1 = some (.getfield 18, 3)) ∧ (fdecl cX6_seen.data.toList 4 = some (.iload_n 1, 1)) ∧ (fdecl cX6_seen.data.toList 5 = some (.aaload, 1)) ∧ (fdecl cX6_seen.data.toList 6 = some (.aload_n 0, 1)) ∧ (fdecl cX6_seen.data.toList 7 = some (.getfield 21, 3)) ∧ (fdecl cX6_seen.data.toList 10 = some (.iload_n 1, 1)) ∧ (fdecl cX6_seen.data.toList 11 = some (.iaload, 1)) ∧ (fdecl cX6_seen.data.toList 12 = some (.aload_n 0, 1)) ∧ (fdecl cX6_seen.data.toList 13 = some (.getfield 25, 3)) ∧ (fdecl cX6_seen.data.toList 16 = some (.iload_n 1, 1)) ∧ (fdecl cX6_seen.data.toList 17 = some (.iaload, 1)) ∧ (fdecl cX6_seen.data.toList 18 = some (.invokevirtual 67, 3)) ∧ (fdecl cX6_seen.data.toList 21 = some (.ireturn, 1)) := by decide +kernel
theorem dX6_seen_0 : decode cX6_seen 0 = .ok (.aload_n 0, 1) := fx_ok0 eX6_seen_0.1
theorem dX6_seen_1 : decode cX6_seen 1 = .ok (.getfield 18, 3) := fx_ok0 eX6_seen_0.2.1
theorem dX6_seen_4 : decode cX6_seen 4 = .ok (.iload_n 1, 1) := fx_ok0 eX6_seen_0.2.2.1
theorem dX6_seen_5 : decode cX6_seen 5 = .ok (.aaload, 1) := fx_ok0 eX6_seen_0.2.2.2.1
theorem dX6_seen_6 : decode cX6_seen 6 = .ok (.aload_n 0, 1) := fx_ok0 eX6_seen_0.2.2.2.2.1
theorem dX6_seen_7 : decode cX6_seen 7 = .ok (.getfield 21, 3) := fx_ok0 eX6_seen_0.2.2.2.2.2.1
theorem dX6_seen_10 : decode cX6_seen 10 = .ok (.iload_n 1, 1) := fx_ok0 eX6_seen_0.2.2.2.2.2.2.1
theorem dX6_seen_11 : decode cX6_seen 11 = .ok (.iaload, 1) := fx_ok0 eX6_seen_0.2.2.2.2.2.2.2.1
theorem dX6_seen_12 : decode cX6_seen 12 = .ok (.aload_n 0, 1) := fx_ok0 eX6_seen_0.2.2.2.2.2.2.2.2.1
theorem dX6_seen_13 : decode cX6_seen 13 = .ok (.getfield 25, 3) := fx_ok0 eX6_seen_0.2.2.2.2.2.2.2.2.2.1
theorem dX6_seen_16 : decode cX6_seen 16 = .ok (.iload_n 1, 1) := fx_ok0 eX6_seen_0.2.2.2.2.2.2.2.2.2.2.1
theorem dX6_seen_17 : decode cX6_seen 17 = .ok (.iaload, 1) := fx_ok0 eX6_seen_0.2.2.2.2.2.2.2.2.2.2.2.1
theorem dX6_seen_18 : decode cX6_seen 18 = .ok (.invokevirtual 67, 3) := fx_ok0 eX6_seen_0.2.2.2.2.2.2.2.2.2.2.2.2.1
theorem dX6_seen_21 : decode cX6_seen 21 = .ok (.ireturn, 1) := fx_ok0 eX6_seen_0.2.2.2.2.2.2.2.2.2.2.2.2.2
theorem eX6_isWithin_0 : (fdecl cX6_isWithin.data.toList 0 = some (.aload_n 0, 1)) ∧ (fdecl cX6_isWithin.data.toList 1 = some (.getfield 18, 3)) ∧ (fdecl cX6_isWithin.data.toList 4 = some (.iload_n 1, 1)) ∧ (fdecl cX6_isWithin.data.toList 5 = some (.aaload, 1)) ∧ (fdecl cX6_isWithin.data.toList 6 = some (.iload_n 2, 1)) ∧ (fdecl cX6_isWithin.data.toList 7 = some (.invokevirtual 93, 3)) ∧ (fdecl cX6_isWithin.data.toList 10 = some (.aload_n 0, 1)) ∧ (fdecl cX6_isWithin.data.toList 11 = some (.getfield 21, 3)) ∧ (fdecl cX6_isWithin.data.toList 14 = some (.iload_n 1, 1)) ∧ (fdecl cX6_isWithin.data.toList 15 = some (.iaload, 1)) ∧ (fdecl cX6_isWithin.data.toList 16 = some (.aload_n 0, 1)) ∧ (fdecl cX6_isWithin.data.toList 17 = some (.getfield 25, 3)) ∧ (fdecl cX6_isWithin.data.toList 20 = some (.iload_n 1, 1)) ∧ (fdecl cX6_isWithin.data.toList 21 = some (.iaload, 1)) ∧ (fdecl cX6_isWithin.data.toList 22 = some (.invokestatic 41, 3)) ∧ (fdecl cX6_isWithin.data.toList 25 = some (.ireturn, 1)) := by decide +kernel
theorem dX6_isWithin_0 : decode cX6_isWithin 0 = .ok (.aload_n 0, 1) := fx_ok0 eX6_isWithin_0.1
theorem dX6_isWithin_1 : decode cX6_isWithin 1 = .ok (.getfield 18, 3) := fx_ok0 eX6_isWithin_0.2.1
theorem dX6_isWithin_4 : decode cX6_isWithin 4 = .ok (.iload_n 1, 1) := fx_ok0 eX6_isWithin_0.2.2.1
theorem dX6_isWithin_5 : decode cX6_isWithin 5 = .ok (.aaload, 1) := fx_ok0 eX6_isWithin_0.2.2.2.1
theorem dX6_isWithin_6 : decode cX6_isWithin 6 = .ok (.iload_n 2, 1) := fx_ok0 eX6_isWithin_0.2.2.2.2.1
theorem dX6_isWithin_7 : decode cX6_isWithin 7 = .ok (.invokevirtual 93, 3) := fx_ok0 eX6_isWithin_0.2.2.2.2.2.1
theorem dX6_isWithin_10 : decode cX6_isWithin 10 = .ok (.aload_n 0, 1) := fx_ok0 eX6_isWithin_0.2.2.2.2.2.2.1
theorem dX6_isWithin_11 : decode cX6_isWithin 11 = .ok (.getfield 21, 3) := fx_ok0 eX6_isWithin_0.2.2.2.2.2.2.2.1
theorem dX6_isWithin_14 : decode cX6_isWithin 14 = .ok (.iload_n 1, 1) := fx_ok0 eX6_isWithin_0.2.2.2.2.2.2.2.2.1
theorem dX6_isWithin_15 : decode cX6_isWithin 15 = .ok (.iaload, 1) := fx_ok0 eX6_isWithin_0.2.2.2.2.2.2.2.2.2.1
theorem dX6_isWithin_16 : decode cX6_isWithin 16 = .ok (.aload_n 0, 1) := fx_ok0 eX6_isWithin_0.2.2.2.2.2.2.2.2.2.2.1
theorem dX6_isWithin_17 : decode cX6_isWithin 17 = .ok (.getfield 25, 3) := fx_ok0 eX6_isWithin_0.2.2.2.2.2.2.2.2.2.2.2.1
theorem dX6_isWithin_20 : decode cX6_isWithin 20 = .ok (.iload_n 1, 1) := fx_ok0 eX6_isWithin_0.2.2.2.2.2.2.2.2.2.2.2.2.1
theorem dX6_isWithin_21 : decode cX6_isWithin 21 = .ok (.iaload, 1) := fx_ok0 eX6_isWithin_0.2.2.2.2.2.2.2.2.2.2.2.2.2.1
theorem dX6_isWithin_22 : decode cX6_isWithin 22 = .ok (.invokestatic 41, 3) := fx_ok0 eX6_isWithin_0.2.2.2.2.2.2.2.2.2.2.2.2.2.2.1
theorem dX6_isWithin_25 : decode cX6_isWithin 25 = .ok (.ireturn, 1) := fx_ok0 eX6_isWithin_0.2.2.2.2.2.2.2.2.2.2.2.2.2.2.2
def fAX6_openView_0 : List UInt8 := [42, 27, 184, 0, 168, 153, 0, 14, 28, 184, 0, 60, 153, 0, 7, 4, 167, 0, 4, 3, 29, 3, 5, 184, 0, 41, 153, 0, 33, 21, 4, 184, 0, 86, 153, 0, 25, 21, 5, 184, 0, 86, 153, 0, 17, 21, 6, 3, 6, 184, 0, 41, 153, 0, 7, 4, 167, 0, 4, 3, 182, 0, 63, 154]
def fAX6_openView_1 : List UInt8 := [0, 5, 3, 172, 42, 180, 0, 11, 28, 50, 58, 7, 29, 5, 160, 0, 25, 25, 7, 21, 4, 182, 0, 93, 25, 7, 21, 5, 182, 0, 93, 164, 0, 8, 42, 182, 0, 89, 172, 42, 180, 0, 18, 27, 25, 7, 83, 42, 180, 0, 21, 27, 29, 154, 0, 7, 3, 167, 0, 17, 25, 7, 21, 4]
def fAX6_openView_2 : List UInt8 := [182, 0, 93, 4, 96, 21, 6, 5, 112, 100, 79, 42, 180, 0, 25, 27, 29, 4, 160, 0, 8, 16, 99, 167, 0, 17, 25, 7, 21, 5, 182, 0, 93, 4, 100, 21, 6, 5, 108, 96, 79, 42, 27, 182, 0, 171, 172]
def fTX6_openView_2 : List UInt8 := fAX6_openView_2
def fTX6_openView_1 : List UInt8 := fAX6_openView_1 ++ fTX6_openView_2
def fTX6_openView_0 : List UInt8 := fAX6_openView_0 ++ fTX6_openView_1
theorem fDX6_openView_0 : cX6_openView.data.toList.drop 0 = fTX6_openView_0 := eq_of_beq (by decide +kernel)
theorem fDX6_openView_1 : cX6_openView.data.toList.drop 64 = fTX6_openView_1 := fx_nx (d := 0) (n := 64) (a := fAX6_openView_0) fDX6_openView_0 rfl
theorem fDX6_openView_2 : cX6_openView.data.toList.drop 128 = fTX6_openView_2 := fx_nx (d := 64) (n := 64) (a := fAX6_openView_1) fDX6_openView_1 rfl
theorem eX6_openView_0 : (fdecl fTX6_openView_0 0 = some (.aload_n 0, 1)) ∧ (fdecl fTX6_openView_0 1 = some (.iload_n 1, 1)) ∧ (fdecl fTX6_openView_0 2 = some (.invokestatic 168, 3)) ∧ (fdecl fTX6_openView_0 5 = some (.ifCond .eq 14, 3)) ∧ (fdecl fTX6_openView_0 8 = some (.iload_n 2, 1)) ∧ (fdecl fTX6_openView_0 9 = some (.invokestatic 60, 3)) ∧ (fdecl fTX6_openView_0 12 = some (.ifCond .eq 7, 3)) ∧ (fdecl fTX6_openView_0 15 = some (.iconst 1, 1)) ∧ (fdecl fTX6_openView_0 16 = some (.goto 4, 3)) ∧ (fdecl fTX6_openView_0 19 = some (.iconst 0, 1)) ∧ (fdecl fTX6_openView_0 20 = some (.iload_n 3, 1)) ∧ (fdecl fTX6_openView_0 21 = some (.iconst 0, 1)) ∧ (fdecl fTX6_openView_0 22 = some (.iconst 2, 1)) ∧ (fdecl fTX6_openView_0 23 = some (.invokestatic 41, 3)) ∧ (fdecl fTX6_openView_0 26 = some (.ifCond .eq 33, 3)) ∧ (fdecl fTX6_openView_0 29 = some (.iload 4, 2)) := by decide +kernel
theorem dX6_openView_0 : decode cX6_openView 0 = .ok (.aload_n 0, 1) := fx_ok (d := 0) (i := 0) fDX6_openView_0 eX6_openView_0.1
theorem dX6_openView_1 : decode cX6_openView 1 = .ok (.iload_n 1, 1) := fx_ok (d := 0) (i := 1) fDX6_openView_0 eX6_openView_0.2.1
theorem dX6_openView_2 : decode cX6_openView 2 = .ok (.invokestatic 168, 3) := fx_ok (d := 0) (i := 2) fDX6_openView_0 eX6_openView_0.2.2.1
theorem dX6_openView_5 : decode cX6_openView 5 = .ok (.ifCond .eq 14, 3) := fx_ok (d := 0) (i := 5) fDX6_openView_0 eX6_openView_0.2.2.2.1
theorem dX6_openView_8 : decode cX6_openView 8 = .ok (.iload_n 2, 1) := fx_ok (d := 0) (i := 8) fDX6_openView_0 eX6_openView_0.2.2.2.2.1
theorem dX6_openView_9 : decode cX6_openView 9 = .ok (.invokestatic 60, 3) := fx_ok (d := 0) (i := 9) fDX6_openView_0 eX6_openView_0.2.2.2.2.2.1
theorem dX6_openView_12 : decode cX6_openView 12 = .ok (.ifCond .eq 7, 3) := fx_ok (d := 0) (i := 12) fDX6_openView_0 eX6_openView_0.2.2.2.2.2.2.1
theorem dX6_openView_15 : decode cX6_openView 15 = .ok (.iconst 1, 1) := fx_ok (d := 0) (i := 15) fDX6_openView_0 eX6_openView_0.2.2.2.2.2.2.2.1
theorem dX6_openView_16 : decode cX6_openView 16 = .ok (.goto 4, 3) := fx_ok (d := 0) (i := 16) fDX6_openView_0 eX6_openView_0.2.2.2.2.2.2.2.2.1
theorem dX6_openView_19 : decode cX6_openView 19 = .ok (.iconst 0, 1) := fx_ok (d := 0) (i := 19) fDX6_openView_0 eX6_openView_0.2.2.2.2.2.2.2.2.2.1
theorem dX6_openView_20 : decode cX6_openView 20 = .ok (.iload_n 3, 1) := fx_ok (d := 0) (i := 20) fDX6_openView_0 eX6_openView_0.2.2.2.2.2.2.2.2.2.2.1
theorem dX6_openView_21 : decode cX6_openView 21 = .ok (.iconst 0, 1) := fx_ok (d := 0) (i := 21) fDX6_openView_0 eX6_openView_0.2.2.2.2.2.2.2.2.2.2.2.1
theorem dX6_openView_22 : decode cX6_openView 22 = .ok (.iconst 2, 1) := fx_ok (d := 0) (i := 22) fDX6_openView_0 eX6_openView_0.2.2.2.2.2.2.2.2.2.2.2.2.1
theorem dX6_openView_23 : decode cX6_openView 23 = .ok (.invokestatic 41, 3) := fx_ok (d := 0) (i := 23) fDX6_openView_0 eX6_openView_0.2.2.2.2.2.2.2.2.2.2.2.2.2.1
theorem dX6_openView_26 : decode cX6_openView 26 = .ok (.ifCond .eq 33, 3) := fx_ok (d := 0) (i := 26) fDX6_openView_0 eX6_openView_0.2.2.2.2.2.2.2.2.2.2.2.2.2.2.1
theorem dX6_openView_29 : decode cX6_openView 29 = .ok (.iload 4, 2) := fx_ok (d := 0) (i := 29) fDX6_openView_0 eX6_openView_0.2.2.2.2.2.2.2.2.2.2.2.2.2.2.2
theorem eX6_openView_31 : (fdecl fTX6_openView_0 31 = some (.invokestatic 86, 3)) ∧ (fdecl fTX6_openView_0 34 = some (.ifCond .eq 25, 3)) ∧ (fdecl fTX6_openView_0 37 = some (.iload 5, 2)) ∧ (fdecl fTX6_openView_0 39 = some (.invokestatic 86, 3)) ∧ (fdecl fTX6_openView_0 42 = some (.ifCond .eq 17, 3)) ∧ (fdecl fTX6_openView_0 45 = some (.iload 6, 2)) ∧ (fdecl fTX6_openView_0 47 = some (.iconst 0, 1)) ∧ (fdecl fTX6_openView_0 48 = some (.iconst 3, 1)) ∧ (fdecl fTX6_openView_0 49 = some (.invokestatic 41, 3)) ∧ (fdecl fTX6_openView_0 52 = some (.ifCond .eq 7, 3)) ∧ (fdecl fTX6_openView_0 55 = some (.iconst 1, 1)) ∧ (fdecl fTX6_openView_0 56 = some (.goto 4, 3)) ∧ (fdecl fTX6_openView_0 59 = some (.iconst 0, 1)) ∧ (fdecl fTX6_openView_0 60 = some (.invokevirtual 63, 3)) ∧ (fdecl fTX6_openView_0 63 = some (.ifCond .ne 5, 3)) ∧ (fdecl fTX6_openView_1 2 = some (.iconst 0, 1)) := by decide +kernel
theorem dX6_openView_31 : decode cX6_openView 31 = .ok (.invokestatic 86, 3) := fx_ok (d := 0) (i := 31) fDX6_openView_0 eX6_openView_31.1
theorem dX6_openView_34 : decode cX6_openView 34 = .ok (.ifCond .eq 25, 3) := fx_ok (d := 0) (i := 34) fDX6_openView_0 eX6_openView_31.2.1
theorem dX6_openView_37 : decode cX6_openView 37 = .ok (.iload 5, 2) := fx_ok (d := 0) (i := 37) fDX6_openView_0 eX6_openView_31.2.2.1
theorem dX6_openView_39 : decode cX6_openView 39 = .ok (.invokestatic 86, 3) := fx_ok (d := 0) (i := 39) fDX6_openView_0 eX6_openView_31.2.2.2.1
theorem dX6_openView_42 : decode cX6_openView 42 = .ok (.ifCond .eq 17, 3) := fx_ok (d := 0) (i := 42) fDX6_openView_0 eX6_openView_31.2.2.2.2.1
theorem dX6_openView_45 : decode cX6_openView 45 = .ok (.iload 6, 2) := fx_ok (d := 0) (i := 45) fDX6_openView_0 eX6_openView_31.2.2.2.2.2.1
theorem dX6_openView_47 : decode cX6_openView 47 = .ok (.iconst 0, 1) := fx_ok (d := 0) (i := 47) fDX6_openView_0 eX6_openView_31.2.2.2.2.2.2.1
theorem dX6_openView_48 : decode cX6_openView 48 = .ok (.iconst 3, 1) := fx_ok (d := 0) (i := 48) fDX6_openView_0 eX6_openView_31.2.2.2.2.2.2.2.1
theorem dX6_openView_49 : decode cX6_openView 49 = .ok (.invokestatic 41, 3) := fx_ok (d := 0) (i := 49) fDX6_openView_0 eX6_openView_31.2.2.2.2.2.2.2.2.1
theorem dX6_openView_52 : decode cX6_openView 52 = .ok (.ifCond .eq 7, 3) := fx_ok (d := 0) (i := 52) fDX6_openView_0 eX6_openView_31.2.2.2.2.2.2.2.2.2.1
theorem dX6_openView_55 : decode cX6_openView 55 = .ok (.iconst 1, 1) := fx_ok (d := 0) (i := 55) fDX6_openView_0 eX6_openView_31.2.2.2.2.2.2.2.2.2.2.1
theorem dX6_openView_56 : decode cX6_openView 56 = .ok (.goto 4, 3) := fx_ok (d := 0) (i := 56) fDX6_openView_0 eX6_openView_31.2.2.2.2.2.2.2.2.2.2.2.1
theorem dX6_openView_59 : decode cX6_openView 59 = .ok (.iconst 0, 1) := fx_ok (d := 0) (i := 59) fDX6_openView_0 eX6_openView_31.2.2.2.2.2.2.2.2.2.2.2.2.1
theorem dX6_openView_60 : decode cX6_openView 60 = .ok (.invokevirtual 63, 3) := fx_ok (d := 0) (i := 60) fDX6_openView_0 eX6_openView_31.2.2.2.2.2.2.2.2.2.2.2.2.2.1
theorem dX6_openView_63 : decode cX6_openView 63 = .ok (.ifCond .ne 5, 3) := fx_ok (d := 0) (i := 63) fDX6_openView_0 eX6_openView_31.2.2.2.2.2.2.2.2.2.2.2.2.2.2.1
theorem dX6_openView_66 : decode cX6_openView 66 = .ok (.iconst 0, 1) := fx_ok (d := 64) (i := 2) fDX6_openView_1 eX6_openView_31.2.2.2.2.2.2.2.2.2.2.2.2.2.2.2
theorem eX6_openView_67 : (fdecl fTX6_openView_1 3 = some (.ireturn, 1)) ∧ (fdecl fTX6_openView_1 4 = some (.aload_n 0, 1)) ∧ (fdecl fTX6_openView_1 5 = some (.getfield 11, 3)) ∧ (fdecl fTX6_openView_1 8 = some (.iload_n 2, 1)) ∧ (fdecl fTX6_openView_1 9 = some (.aaload, 1)) ∧ (fdecl fTX6_openView_1 10 = some (.astore 7, 2)) ∧ (fdecl fTX6_openView_1 12 = some (.iload_n 3, 1)) ∧ (fdecl fTX6_openView_1 13 = some (.iconst 2, 1)) ∧ (fdecl fTX6_openView_1 14 = some (.if_icmp .ne 25, 3)) ∧ (fdecl fTX6_openView_1 17 = some (.aload 7, 2)) ∧ (fdecl fTX6_openView_1 19 = some (.iload 4, 2)) ∧ (fdecl fTX6_openView_1 21 = some (.invokevirtual 93, 3)) ∧ (fdecl fTX6_openView_1 24 = some (.aload 7, 2)) ∧ (fdecl fTX6_openView_1 26 = some (.iload 5, 2)) ∧ (fdecl fTX6_openView_1 28 = some (.invokevirtual 93, 3)) ∧ (fdecl fTX6_openView_1 31 = some (.if_icmp .le 8, 3)) := by decide +kernel
theorem dX6_openView_67 : decode cX6_openView 67 = .ok (.ireturn, 1) := fx_ok (d := 64) (i := 3) fDX6_openView_1 eX6_openView_67.1
theorem dX6_openView_68 : decode cX6_openView 68 = .ok (.aload_n 0, 1) := fx_ok (d := 64) (i := 4) fDX6_openView_1 eX6_openView_67.2.1
theorem dX6_openView_69 : decode cX6_openView 69 = .ok (.getfield 11, 3) := fx_ok (d := 64) (i := 5) fDX6_openView_1 eX6_openView_67.2.2.1
theorem dX6_openView_72 : decode cX6_openView 72 = .ok (.iload_n 2, 1) := fx_ok (d := 64) (i := 8) fDX6_openView_1 eX6_openView_67.2.2.2.1
theorem dX6_openView_73 : decode cX6_openView 73 = .ok (.aaload, 1) := fx_ok (d := 64) (i := 9) fDX6_openView_1 eX6_openView_67.2.2.2.2.1
theorem dX6_openView_74 : decode cX6_openView 74 = .ok (.astore 7, 2) := fx_ok (d := 64) (i := 10) fDX6_openView_1 eX6_openView_67.2.2.2.2.2.1
theorem dX6_openView_76 : decode cX6_openView 76 = .ok (.iload_n 3, 1) := fx_ok (d := 64) (i := 12) fDX6_openView_1 eX6_openView_67.2.2.2.2.2.2.1
theorem dX6_openView_77 : decode cX6_openView 77 = .ok (.iconst 2, 1) := fx_ok (d := 64) (i := 13) fDX6_openView_1 eX6_openView_67.2.2.2.2.2.2.2.1
theorem dX6_openView_78 : decode cX6_openView 78 = .ok (.if_icmp .ne 25, 3) := fx_ok (d := 64) (i := 14) fDX6_openView_1 eX6_openView_67.2.2.2.2.2.2.2.2.1
theorem dX6_openView_81 : decode cX6_openView 81 = .ok (.aload 7, 2) := fx_ok (d := 64) (i := 17) fDX6_openView_1 eX6_openView_67.2.2.2.2.2.2.2.2.2.1
theorem dX6_openView_83 : decode cX6_openView 83 = .ok (.iload 4, 2) := fx_ok (d := 64) (i := 19) fDX6_openView_1 eX6_openView_67.2.2.2.2.2.2.2.2.2.2.1
theorem dX6_openView_85 : decode cX6_openView 85 = .ok (.invokevirtual 93, 3) := fx_ok (d := 64) (i := 21) fDX6_openView_1 eX6_openView_67.2.2.2.2.2.2.2.2.2.2.2.1
theorem dX6_openView_88 : decode cX6_openView 88 = .ok (.aload 7, 2) := fx_ok (d := 64) (i := 24) fDX6_openView_1 eX6_openView_67.2.2.2.2.2.2.2.2.2.2.2.2.1
theorem dX6_openView_90 : decode cX6_openView 90 = .ok (.iload 5, 2) := fx_ok (d := 64) (i := 26) fDX6_openView_1 eX6_openView_67.2.2.2.2.2.2.2.2.2.2.2.2.2.1
theorem dX6_openView_92 : decode cX6_openView 92 = .ok (.invokevirtual 93, 3) := fx_ok (d := 64) (i := 28) fDX6_openView_1 eX6_openView_67.2.2.2.2.2.2.2.2.2.2.2.2.2.2.1
theorem dX6_openView_95 : decode cX6_openView 95 = .ok (.if_icmp .le 8, 3) := fx_ok (d := 64) (i := 31) fDX6_openView_1 eX6_openView_67.2.2.2.2.2.2.2.2.2.2.2.2.2.2.2
theorem eX6_openView_98 : (fdecl fTX6_openView_1 34 = some (.aload_n 0, 1)) ∧ (fdecl fTX6_openView_1 35 = some (.invokevirtual 89, 3)) ∧ (fdecl fTX6_openView_1 38 = some (.ireturn, 1)) ∧ (fdecl fTX6_openView_1 39 = some (.aload_n 0, 1)) ∧ (fdecl fTX6_openView_1 40 = some (.getfield 18, 3)) ∧ (fdecl fTX6_openView_1 43 = some (.iload_n 1, 1)) ∧ (fdecl fTX6_openView_1 44 = some (.aload 7, 2)) ∧ (fdecl fTX6_openView_1 46 = some (.aastore, 1)) ∧ (fdecl fTX6_openView_1 47 = some (.aload_n 0, 1)) ∧ (fdecl fTX6_openView_1 48 = some (.getfield 21, 3)) ∧ (fdecl fTX6_openView_1 51 = some (.iload_n 1, 1)) ∧ (fdecl fTX6_openView_1 52 = some (.iload_n 3, 1)) ∧ (fdecl fTX6_openView_1 53 = some (.ifCond .ne 7, 3)) ∧ (fdecl fTX6_openView_1 56 = some (.iconst 0, 1)) ∧ (fdecl fTX6_openView_1 57 = some (.goto 17, 3)) ∧ (fdecl fTX6_openView_1 60 = some (.aload 7, 2)) := by decide +kernel
theorem dX6_openView_98 : decode cX6_openView 98 = .ok (.aload_n 0, 1) := fx_ok (d := 64) (i := 34) fDX6_openView_1 eX6_openView_98.1
theorem dX6_openView_99 : decode cX6_openView 99 = .ok (.invokevirtual 89, 3) := fx_ok (d := 64) (i := 35) fDX6_openView_1 eX6_openView_98.2.1
theorem dX6_openView_102 : decode cX6_openView 102 = .ok (.ireturn, 1) := fx_ok (d := 64) (i := 38) fDX6_openView_1 eX6_openView_98.2.2.1
theorem dX6_openView_103 : decode cX6_openView 103 = .ok (.aload_n 0, 1) := fx_ok (d := 64) (i := 39) fDX6_openView_1 eX6_openView_98.2.2.2.1
theorem dX6_openView_104 : decode cX6_openView 104 = .ok (.getfield 18, 3) := fx_ok (d := 64) (i := 40) fDX6_openView_1 eX6_openView_98.2.2.2.2.1
theorem dX6_openView_107 : decode cX6_openView 107 = .ok (.iload_n 1, 1) := fx_ok (d := 64) (i := 43) fDX6_openView_1 eX6_openView_98.2.2.2.2.2.1
theorem dX6_openView_108 : decode cX6_openView 108 = .ok (.aload 7, 2) := fx_ok (d := 64) (i := 44) fDX6_openView_1 eX6_openView_98.2.2.2.2.2.2.1
theorem dX6_openView_110 : decode cX6_openView 110 = .ok (.aastore, 1) := fx_ok (d := 64) (i := 46) fDX6_openView_1 eX6_openView_98.2.2.2.2.2.2.2.1
theorem dX6_openView_111 : decode cX6_openView 111 = .ok (.aload_n 0, 1) := fx_ok (d := 64) (i := 47) fDX6_openView_1 eX6_openView_98.2.2.2.2.2.2.2.2.1
theorem dX6_openView_112 : decode cX6_openView 112 = .ok (.getfield 21, 3) := fx_ok (d := 64) (i := 48) fDX6_openView_1 eX6_openView_98.2.2.2.2.2.2.2.2.2.1
theorem dX6_openView_115 : decode cX6_openView 115 = .ok (.iload_n 1, 1) := fx_ok (d := 64) (i := 51) fDX6_openView_1 eX6_openView_98.2.2.2.2.2.2.2.2.2.2.1
theorem dX6_openView_116 : decode cX6_openView 116 = .ok (.iload_n 3, 1) := fx_ok (d := 64) (i := 52) fDX6_openView_1 eX6_openView_98.2.2.2.2.2.2.2.2.2.2.2.1
theorem dX6_openView_117 : decode cX6_openView 117 = .ok (.ifCond .ne 7, 3) := fx_ok (d := 64) (i := 53) fDX6_openView_1 eX6_openView_98.2.2.2.2.2.2.2.2.2.2.2.2.1
theorem dX6_openView_120 : decode cX6_openView 120 = .ok (.iconst 0, 1) := fx_ok (d := 64) (i := 56) fDX6_openView_1 eX6_openView_98.2.2.2.2.2.2.2.2.2.2.2.2.2.1
theorem dX6_openView_121 : decode cX6_openView 121 = .ok (.goto 17, 3) := fx_ok (d := 64) (i := 57) fDX6_openView_1 eX6_openView_98.2.2.2.2.2.2.2.2.2.2.2.2.2.2.1
theorem dX6_openView_124 : decode cX6_openView 124 = .ok (.aload 7, 2) := fx_ok (d := 64) (i := 60) fDX6_openView_1 eX6_openView_98.2.2.2.2.2.2.2.2.2.2.2.2.2.2.2
theorem eX6_openView_126 : (fdecl fTX6_openView_1 62 = some (.iload 4, 2)) ∧ (fdecl fTX6_openView_2 0 = some (.invokevirtual 93, 3)) ∧ (fdecl fTX6_openView_2 3 = some (.iconst 1, 1)) ∧ (fdecl fTX6_openView_2 4 = some (.iadd, 1)) ∧ (fdecl fTX6_openView_2 5 = some (.iload 6, 2)) ∧ (fdecl fTX6_openView_2 7 = some (.iconst 2, 1)) ∧ (fdecl fTX6_openView_2 8 = some (.irem, 1)) ∧ (fdecl fTX6_openView_2 9 = some (.isub, 1)) ∧ (fdecl fTX6_openView_2 10 = some (.iastore, 1)) ∧ (fdecl fTX6_openView_2 11 = some (.aload_n 0, 1)) ∧ (fdecl fTX6_openView_2 12 = some (.getfield 25, 3)) ∧ (fdecl fTX6_openView_2 15 = some (.iload_n 1, 1)) ∧ (fdecl fTX6_openView_2 16 = some (.iload_n 3, 1)) ∧ (fdecl fTX6_openView_2 17 = some (.iconst 1, 1)) ∧ (fdecl fTX6_openView_2 18 = some (.if_icmp .ne 8, 3)) ∧ (fdecl fTX6_openView_2 21 = some (.bipush 99, 2)) := by decide +kernel
theorem dX6_openView_126 : decode cX6_openView 126 = .ok (.iload 4, 2) := fx_ok (d := 64) (i := 62) fDX6_openView_1 eX6_openView_126.1
theorem dX6_openView_128 : decode cX6_openView 128 = .ok (.invokevirtual 93, 3) := fx_ok (d := 128) (i := 0) fDX6_openView_2 eX6_openView_126.2.1
theorem dX6_openView_131 : decode cX6_openView 131 = .ok (.iconst 1, 1) := fx_ok (d := 128) (i := 3) fDX6_openView_2 eX6_openView_126.2.2.1
theorem dX6_openView_132 : decode cX6_openView 132 = .ok (.iadd, 1) := fx_ok (d := 128) (i := 4) fDX6_openView_2 eX6_openView_126.2.2.2.1
theorem dX6_openView_133 : decode cX6_openView 133 = .ok (.iload 6, 2) := fx_ok (d := 128) (i := 5) fDX6_openView_2 eX6_openView_126.2.2.2.2.1
theorem dX6_openView_135 : decode cX6_openView 135 = .ok (.iconst 2, 1) := fx_ok (d := 128) (i := 7) fDX6_openView_2 eX6_openView_126.2.2.2.2.2.1
theorem dX6_openView_136 : decode cX6_openView 136 = .ok (.irem, 1) := fx_ok (d := 128) (i := 8) fDX6_openView_2 eX6_openView_126.2.2.2.2.2.2.1
theorem dX6_openView_137 : decode cX6_openView 137 = .ok (.isub, 1) := fx_ok (d := 128) (i := 9) fDX6_openView_2 eX6_openView_126.2.2.2.2.2.2.2.1
theorem dX6_openView_138 : decode cX6_openView 138 = .ok (.iastore, 1) := fx_ok (d := 128) (i := 10) fDX6_openView_2 eX6_openView_126.2.2.2.2.2.2.2.2.1
theorem dX6_openView_139 : decode cX6_openView 139 = .ok (.aload_n 0, 1) := fx_ok (d := 128) (i := 11) fDX6_openView_2 eX6_openView_126.2.2.2.2.2.2.2.2.2.1
theorem dX6_openView_140 : decode cX6_openView 140 = .ok (.getfield 25, 3) := fx_ok (d := 128) (i := 12) fDX6_openView_2 eX6_openView_126.2.2.2.2.2.2.2.2.2.2.1
theorem dX6_openView_143 : decode cX6_openView 143 = .ok (.iload_n 1, 1) := fx_ok (d := 128) (i := 15) fDX6_openView_2 eX6_openView_126.2.2.2.2.2.2.2.2.2.2.2.1
theorem dX6_openView_144 : decode cX6_openView 144 = .ok (.iload_n 3, 1) := fx_ok (d := 128) (i := 16) fDX6_openView_2 eX6_openView_126.2.2.2.2.2.2.2.2.2.2.2.2.1
theorem dX6_openView_145 : decode cX6_openView 145 = .ok (.iconst 1, 1) := fx_ok (d := 128) (i := 17) fDX6_openView_2 eX6_openView_126.2.2.2.2.2.2.2.2.2.2.2.2.2.1
theorem dX6_openView_146 : decode cX6_openView 146 = .ok (.if_icmp .ne 8, 3) := fx_ok (d := 128) (i := 18) fDX6_openView_2 eX6_openView_126.2.2.2.2.2.2.2.2.2.2.2.2.2.2.1
theorem dX6_openView_149 : decode cX6_openView 149 = .ok (.bipush 99, 2) := fx_ok (d := 128) (i := 21) fDX6_openView_2 eX6_openView_126.2.2.2.2.2.2.2.2.2.2.2.2.2.2.2
theorem eX6_openView_151 : (fdecl fTX6_openView_2 23 = some (.goto 17, 3)) ∧ (fdecl fTX6_openView_2 26 = some (.aload 7, 2)) ∧ (fdecl fTX6_openView_2 28 = some (.iload 5, 2)) ∧ (fdecl fTX6_openView_2 30 = some (.invokevirtual 93, 3)) ∧ (fdecl fTX6_openView_2 33 = some (.iconst 1, 1)) ∧ (fdecl fTX6_openView_2 34 = some (.isub, 1)) ∧ (fdecl fTX6_openView_2 35 = some (.iload 6, 2)) ∧ (fdecl fTX6_openView_2 37 = some (.iconst 2, 1)) ∧ (fdecl fTX6_openView_2 38 = some (.idiv, 1)) ∧ (fdecl fTX6_openView_2 39 = some (.iadd, 1)) ∧ (fdecl fTX6_openView_2 40 = some (.iastore, 1)) ∧ (fdecl fTX6_openView_2 41 = some (.aload_n 0, 1)) ∧ (fdecl fTX6_openView_2 42 = some (.iload_n 1, 1)) ∧ (fdecl fTX6_openView_2 43 = some (.invokevirtual 171, 3)) ∧ (fdecl fTX6_openView_2 46 = some (.ireturn, 1)) := by decide +kernel
theorem dX6_openView_151 : decode cX6_openView 151 = .ok (.goto 17, 3) := fx_ok (d := 128) (i := 23) fDX6_openView_2 eX6_openView_151.1
theorem dX6_openView_154 : decode cX6_openView 154 = .ok (.aload 7, 2) := fx_ok (d := 128) (i := 26) fDX6_openView_2 eX6_openView_151.2.1
theorem dX6_openView_156 : decode cX6_openView 156 = .ok (.iload 5, 2) := fx_ok (d := 128) (i := 28) fDX6_openView_2 eX6_openView_151.2.2.1
theorem dX6_openView_158 : decode cX6_openView 158 = .ok (.invokevirtual 93, 3) := fx_ok (d := 128) (i := 30) fDX6_openView_2 eX6_openView_151.2.2.2.1
theorem dX6_openView_161 : decode cX6_openView 161 = .ok (.iconst 1, 1) := fx_ok (d := 128) (i := 33) fDX6_openView_2 eX6_openView_151.2.2.2.2.1
theorem dX6_openView_162 : decode cX6_openView 162 = .ok (.isub, 1) := fx_ok (d := 128) (i := 34) fDX6_openView_2 eX6_openView_151.2.2.2.2.2.1
theorem dX6_openView_163 : decode cX6_openView 163 = .ok (.iload 6, 2) := fx_ok (d := 128) (i := 35) fDX6_openView_2 eX6_openView_151.2.2.2.2.2.2.1
theorem dX6_openView_165 : decode cX6_openView 165 = .ok (.iconst 2, 1) := fx_ok (d := 128) (i := 37) fDX6_openView_2 eX6_openView_151.2.2.2.2.2.2.2.1
theorem dX6_openView_166 : decode cX6_openView 166 = .ok (.idiv, 1) := fx_ok (d := 128) (i := 38) fDX6_openView_2 eX6_openView_151.2.2.2.2.2.2.2.2.1
theorem dX6_openView_167 : decode cX6_openView 167 = .ok (.iadd, 1) := fx_ok (d := 128) (i := 39) fDX6_openView_2 eX6_openView_151.2.2.2.2.2.2.2.2.2.1
theorem dX6_openView_168 : decode cX6_openView 168 = .ok (.iastore, 1) := fx_ok (d := 128) (i := 40) fDX6_openView_2 eX6_openView_151.2.2.2.2.2.2.2.2.2.2.1
theorem dX6_openView_169 : decode cX6_openView 169 = .ok (.aload_n 0, 1) := fx_ok (d := 128) (i := 41) fDX6_openView_2 eX6_openView_151.2.2.2.2.2.2.2.2.2.2.2.1
theorem dX6_openView_170 : decode cX6_openView 170 = .ok (.iload_n 1, 1) := fx_ok (d := 128) (i := 42) fDX6_openView_2 eX6_openView_151.2.2.2.2.2.2.2.2.2.2.2.2.1
theorem dX6_openView_171 : decode cX6_openView 171 = .ok (.invokevirtual 171, 3) := fx_ok (d := 128) (i := 43) fDX6_openView_2 eX6_openView_151.2.2.2.2.2.2.2.2.2.2.2.2.2.1
theorem dX6_openView_174 : decode cX6_openView 174 = .ok (.ireturn, 1) := fx_ok (d := 128) (i := 46) fDX6_openView_2 eX6_openView_151.2.2.2.2.2.2.2.2.2.2.2.2.2.2
def fAX6_narrowView_0 : List UInt8 := [42, 27, 184, 0, 168, 28, 3, 5, 184, 0, 41, 153, 0, 22, 29, 184, 0, 86, 153, 0, 15, 21, 4, 184, 0, 86, 153, 0, 7, 4, 167, 0, 4, 3, 182, 0, 63, 154, 0, 5, 3, 172, 42, 180, 0, 18, 27, 50, 58, 5, 28, 158, 0, 12, 42, 27, 29, 182, 0, 174, 153, 0, 39, 28]
def fAX6_narrowView_1 : List UInt8 := [4, 159, 0, 13, 42, 27, 21, 4, 182, 0, 174, 153, 0, 24, 28, 5, 160, 0, 24, 25, 5, 29, 182, 0, 93, 25, 5, 21, 4, 182, 0, 93, 164, 0, 8, 42, 182, 0, 89, 172, 28, 158, 0, 15, 42, 180, 0, 21, 27, 25, 5, 29, 182, 0, 93, 79, 28, 4, 159, 0, 16, 42, 180, 0]
def fAX6_narrowView_2 : List UInt8 := [25, 27, 25, 5, 21, 4, 182, 0, 93, 79, 42, 27, 182, 0, 171, 172]
def fTX6_narrowView_2 : List UInt8 := fAX6_narrowView_2
def fTX6_narrowView_1 : List UInt8 := fAX6_narrowView_1 ++ fTX6_narrowView_2
def fTX6_narrowView_0 : List UInt8 := fAX6_narrowView_0 ++ fTX6_narrowView_1
theorem fDX6_narrowView_0 : cX6_narrowView.data.toList.drop 0 = fTX6_narrowView_0 := eq_of_beq (by decide +kernel)
theorem fDX6_narrowView_1 : cX6_narrowView.data.toList.drop 64 = fTX6_narrowView_1 := fx_nx (d := 0) (n := 64) (a := fAX6_narrowView_0) fDX6_narrowView_0 rfl
theorem fDX6_narrowView_2 : cX6_narrowView.data.toList.drop 128 = fTX6_narrowView_2 := fx_nx (d := 64) (n := 64) (a := fAX6_narrowView_1) fDX6_narrowView_1 rfl
theorem eX6_narrowView_0 : (fdecl fTX6_narrowView_0 0 = some (.aload_n 0, 1)) ∧ (fdecl fTX6_narrowView_0 1 = some (.iload_n 1, 1)) ∧ (fdecl fTX6_narrowView_0 2 = some (.invokestatic 168, 3)) ∧ (fdecl fTX6_narrowView_0 5 = some (.iload_n 2, 1)) ∧ (fdecl fTX6_narrowView_0 6 = some (.iconst 0, 1)) ∧ (fdecl fTX6_narrowView_0 7 = some (.iconst 2, 1)) ∧ (fdecl fTX6_narrowView_0 8 = some (.invokestatic 41, 3)) ∧ (fdecl fTX6_narrowView_0 11 = some (.ifCond .eq 22, 3)) ∧ (fdecl fTX6_narrowView_0 14 = some (.iload_n 3, 1)) ∧ (fdecl fTX6_narrowView_0 15 = some (.invokestatic 86, 3)) ∧ (fdecl fTX6_narrowView_0 18 = some (.ifCond .eq 15, 3)) ∧ (fdecl fTX6_narrowView_0 21 = some (.iload 4, 2)) ∧ (fdecl fTX6_narrowView_0 23 = some (.invokestatic 86, 3)) ∧ (fdecl fTX6_narrowView_0 26 = some (.ifCond .eq 7, 3)) ∧ (fdecl fTX6_narrowView_0 29 = some (.iconst 1, 1)) ∧ (fdecl fTX6_narrowView_0 30 = some (.goto 4, 3)) := by decide +kernel
theorem dX6_narrowView_0 : decode cX6_narrowView 0 = .ok (.aload_n 0, 1) := fx_ok (d := 0) (i := 0) fDX6_narrowView_0 eX6_narrowView_0.1
theorem dX6_narrowView_1 : decode cX6_narrowView 1 = .ok (.iload_n 1, 1) := fx_ok (d := 0) (i := 1) fDX6_narrowView_0 eX6_narrowView_0.2.1
theorem dX6_narrowView_2 : decode cX6_narrowView 2 = .ok (.invokestatic 168, 3) := fx_ok (d := 0) (i := 2) fDX6_narrowView_0 eX6_narrowView_0.2.2.1
theorem dX6_narrowView_5 : decode cX6_narrowView 5 = .ok (.iload_n 2, 1) := fx_ok (d := 0) (i := 5) fDX6_narrowView_0 eX6_narrowView_0.2.2.2.1
theorem dX6_narrowView_6 : decode cX6_narrowView 6 = .ok (.iconst 0, 1) := fx_ok (d := 0) (i := 6) fDX6_narrowView_0 eX6_narrowView_0.2.2.2.2.1
theorem dX6_narrowView_7 : decode cX6_narrowView 7 = .ok (.iconst 2, 1) := fx_ok (d := 0) (i := 7) fDX6_narrowView_0 eX6_narrowView_0.2.2.2.2.2.1
theorem dX6_narrowView_8 : decode cX6_narrowView 8 = .ok (.invokestatic 41, 3) := fx_ok (d := 0) (i := 8) fDX6_narrowView_0 eX6_narrowView_0.2.2.2.2.2.2.1
theorem dX6_narrowView_11 : decode cX6_narrowView 11 = .ok (.ifCond .eq 22, 3) := fx_ok (d := 0) (i := 11) fDX6_narrowView_0 eX6_narrowView_0.2.2.2.2.2.2.2.1
theorem dX6_narrowView_14 : decode cX6_narrowView 14 = .ok (.iload_n 3, 1) := fx_ok (d := 0) (i := 14) fDX6_narrowView_0 eX6_narrowView_0.2.2.2.2.2.2.2.2.1
theorem dX6_narrowView_15 : decode cX6_narrowView 15 = .ok (.invokestatic 86, 3) := fx_ok (d := 0) (i := 15) fDX6_narrowView_0 eX6_narrowView_0.2.2.2.2.2.2.2.2.2.1
theorem dX6_narrowView_18 : decode cX6_narrowView 18 = .ok (.ifCond .eq 15, 3) := fx_ok (d := 0) (i := 18) fDX6_narrowView_0 eX6_narrowView_0.2.2.2.2.2.2.2.2.2.2.1
theorem dX6_narrowView_21 : decode cX6_narrowView 21 = .ok (.iload 4, 2) := fx_ok (d := 0) (i := 21) fDX6_narrowView_0 eX6_narrowView_0.2.2.2.2.2.2.2.2.2.2.2.1
theorem dX6_narrowView_23 : decode cX6_narrowView 23 = .ok (.invokestatic 86, 3) := fx_ok (d := 0) (i := 23) fDX6_narrowView_0 eX6_narrowView_0.2.2.2.2.2.2.2.2.2.2.2.2.1
theorem dX6_narrowView_26 : decode cX6_narrowView 26 = .ok (.ifCond .eq 7, 3) := fx_ok (d := 0) (i := 26) fDX6_narrowView_0 eX6_narrowView_0.2.2.2.2.2.2.2.2.2.2.2.2.2.1
theorem dX6_narrowView_29 : decode cX6_narrowView 29 = .ok (.iconst 1, 1) := fx_ok (d := 0) (i := 29) fDX6_narrowView_0 eX6_narrowView_0.2.2.2.2.2.2.2.2.2.2.2.2.2.2.1
theorem dX6_narrowView_30 : decode cX6_narrowView 30 = .ok (.goto 4, 3) := fx_ok (d := 0) (i := 30) fDX6_narrowView_0 eX6_narrowView_0.2.2.2.2.2.2.2.2.2.2.2.2.2.2.2
theorem eX6_narrowView_33 : (fdecl fTX6_narrowView_0 33 = some (.iconst 0, 1)) ∧ (fdecl fTX6_narrowView_0 34 = some (.invokevirtual 63, 3)) ∧ (fdecl fTX6_narrowView_0 37 = some (.ifCond .ne 5, 3)) ∧ (fdecl fTX6_narrowView_0 40 = some (.iconst 0, 1)) ∧ (fdecl fTX6_narrowView_0 41 = some (.ireturn, 1)) ∧ (fdecl fTX6_narrowView_0 42 = some (.aload_n 0, 1)) ∧ (fdecl fTX6_narrowView_0 43 = some (.getfield 18, 3)) ∧ (fdecl fTX6_narrowView_0 46 = some (.iload_n 1, 1)) ∧ (fdecl fTX6_narrowView_0 47 = some (.aaload, 1)) ∧ (fdecl fTX6_narrowView_0 48 = some (.astore 5, 2)) ∧ (fdecl fTX6_narrowView_0 50 = some (.iload_n 2, 1)) ∧ (fdecl fTX6_narrowView_0 51 = some (.ifCond .le 12, 3)) ∧ (fdecl fTX6_narrowView_0 54 = some (.aload_n 0, 1)) ∧ (fdecl fTX6_narrowView_0 55 = some (.iload_n 1, 1)) ∧ (fdecl fTX6_narrowView_0 56 = some (.iload_n 3, 1)) ∧ (fdecl fTX6_narrowView_0 57 = some (.invokevirtual 174, 3)) := by decide +kernel
theorem dX6_narrowView_33 : decode cX6_narrowView 33 = .ok (.iconst 0, 1) := fx_ok (d := 0) (i := 33) fDX6_narrowView_0 eX6_narrowView_33.1
theorem dX6_narrowView_34 : decode cX6_narrowView 34 = .ok (.invokevirtual 63, 3) := fx_ok (d := 0) (i := 34) fDX6_narrowView_0 eX6_narrowView_33.2.1
theorem dX6_narrowView_37 : decode cX6_narrowView 37 = .ok (.ifCond .ne 5, 3) := fx_ok (d := 0) (i := 37) fDX6_narrowView_0 eX6_narrowView_33.2.2.1
theorem dX6_narrowView_40 : decode cX6_narrowView 40 = .ok (.iconst 0, 1) := fx_ok (d := 0) (i := 40) fDX6_narrowView_0 eX6_narrowView_33.2.2.2.1
theorem dX6_narrowView_41 : decode cX6_narrowView 41 = .ok (.ireturn, 1) := fx_ok (d := 0) (i := 41) fDX6_narrowView_0 eX6_narrowView_33.2.2.2.2.1
theorem dX6_narrowView_42 : decode cX6_narrowView 42 = .ok (.aload_n 0, 1) := fx_ok (d := 0) (i := 42) fDX6_narrowView_0 eX6_narrowView_33.2.2.2.2.2.1
theorem dX6_narrowView_43 : decode cX6_narrowView 43 = .ok (.getfield 18, 3) := fx_ok (d := 0) (i := 43) fDX6_narrowView_0 eX6_narrowView_33.2.2.2.2.2.2.1
theorem dX6_narrowView_46 : decode cX6_narrowView 46 = .ok (.iload_n 1, 1) := fx_ok (d := 0) (i := 46) fDX6_narrowView_0 eX6_narrowView_33.2.2.2.2.2.2.2.1
theorem dX6_narrowView_47 : decode cX6_narrowView 47 = .ok (.aaload, 1) := fx_ok (d := 0) (i := 47) fDX6_narrowView_0 eX6_narrowView_33.2.2.2.2.2.2.2.2.1
theorem dX6_narrowView_48 : decode cX6_narrowView 48 = .ok (.astore 5, 2) := fx_ok (d := 0) (i := 48) fDX6_narrowView_0 eX6_narrowView_33.2.2.2.2.2.2.2.2.2.1
theorem dX6_narrowView_50 : decode cX6_narrowView 50 = .ok (.iload_n 2, 1) := fx_ok (d := 0) (i := 50) fDX6_narrowView_0 eX6_narrowView_33.2.2.2.2.2.2.2.2.2.2.1
theorem dX6_narrowView_51 : decode cX6_narrowView 51 = .ok (.ifCond .le 12, 3) := fx_ok (d := 0) (i := 51) fDX6_narrowView_0 eX6_narrowView_33.2.2.2.2.2.2.2.2.2.2.2.1
theorem dX6_narrowView_54 : decode cX6_narrowView 54 = .ok (.aload_n 0, 1) := fx_ok (d := 0) (i := 54) fDX6_narrowView_0 eX6_narrowView_33.2.2.2.2.2.2.2.2.2.2.2.2.1
theorem dX6_narrowView_55 : decode cX6_narrowView 55 = .ok (.iload_n 1, 1) := fx_ok (d := 0) (i := 55) fDX6_narrowView_0 eX6_narrowView_33.2.2.2.2.2.2.2.2.2.2.2.2.2.1
theorem dX6_narrowView_56 : decode cX6_narrowView 56 = .ok (.iload_n 3, 1) := fx_ok (d := 0) (i := 56) fDX6_narrowView_0 eX6_narrowView_33.2.2.2.2.2.2.2.2.2.2.2.2.2.2.1
theorem dX6_narrowView_57 : decode cX6_narrowView 57 = .ok (.invokevirtual 174, 3) := fx_ok (d := 0) (i := 57) fDX6_narrowView_0 eX6_narrowView_33.2.2.2.2.2.2.2.2.2.2.2.2.2.2.2
theorem eX6_narrowView_60 : (fdecl fTX6_narrowView_0 60 = some (.ifCond .eq 39, 3)) ∧ (fdecl fTX6_narrowView_0 63 = some (.iload_n 2, 1)) ∧ (fdecl fTX6_narrowView_1 0 = some (.iconst 1, 1)) ∧ (fdecl fTX6_narrowView_1 1 = some (.if_icmp .eq 13, 3)) ∧ (fdecl fTX6_narrowView_1 4 = some (.aload_n 0, 1)) ∧ (fdecl fTX6_narrowView_1 5 = some (.iload_n 1, 1)) ∧ (fdecl fTX6_narrowView_1 6 = some (.iload 4, 2)) ∧ (fdecl fTX6_narrowView_1 8 = some (.invokevirtual 174, 3)) ∧ (fdecl fTX6_narrowView_1 11 = some (.ifCond .eq 24, 3)) ∧ (fdecl fTX6_narrowView_1 14 = some (.iload_n 2, 1)) ∧ (fdecl fTX6_narrowView_1 15 = some (.iconst 2, 1)) ∧ (fdecl fTX6_narrowView_1 16 = some (.if_icmp .ne 24, 3)) ∧ (fdecl fTX6_narrowView_1 19 = some (.aload 5, 2)) ∧ (fdecl fTX6_narrowView_1 21 = some (.iload_n 3, 1)) ∧ (fdecl fTX6_narrowView_1 22 = some (.invokevirtual 93, 3)) ∧ (fdecl fTX6_narrowView_1 25 = some (.aload 5, 2)) := by decide +kernel
theorem dX6_narrowView_60 : decode cX6_narrowView 60 = .ok (.ifCond .eq 39, 3) := fx_ok (d := 0) (i := 60) fDX6_narrowView_0 eX6_narrowView_60.1
theorem dX6_narrowView_63 : decode cX6_narrowView 63 = .ok (.iload_n 2, 1) := fx_ok (d := 0) (i := 63) fDX6_narrowView_0 eX6_narrowView_60.2.1
theorem dX6_narrowView_64 : decode cX6_narrowView 64 = .ok (.iconst 1, 1) := fx_ok (d := 64) (i := 0) fDX6_narrowView_1 eX6_narrowView_60.2.2.1
theorem dX6_narrowView_65 : decode cX6_narrowView 65 = .ok (.if_icmp .eq 13, 3) := fx_ok (d := 64) (i := 1) fDX6_narrowView_1 eX6_narrowView_60.2.2.2.1
theorem dX6_narrowView_68 : decode cX6_narrowView 68 = .ok (.aload_n 0, 1) := fx_ok (d := 64) (i := 4) fDX6_narrowView_1 eX6_narrowView_60.2.2.2.2.1
theorem dX6_narrowView_69 : decode cX6_narrowView 69 = .ok (.iload_n 1, 1) := fx_ok (d := 64) (i := 5) fDX6_narrowView_1 eX6_narrowView_60.2.2.2.2.2.1
theorem dX6_narrowView_70 : decode cX6_narrowView 70 = .ok (.iload 4, 2) := fx_ok (d := 64) (i := 6) fDX6_narrowView_1 eX6_narrowView_60.2.2.2.2.2.2.1
theorem dX6_narrowView_72 : decode cX6_narrowView 72 = .ok (.invokevirtual 174, 3) := fx_ok (d := 64) (i := 8) fDX6_narrowView_1 eX6_narrowView_60.2.2.2.2.2.2.2.1
theorem dX6_narrowView_75 : decode cX6_narrowView 75 = .ok (.ifCond .eq 24, 3) := fx_ok (d := 64) (i := 11) fDX6_narrowView_1 eX6_narrowView_60.2.2.2.2.2.2.2.2.1
theorem dX6_narrowView_78 : decode cX6_narrowView 78 = .ok (.iload_n 2, 1) := fx_ok (d := 64) (i := 14) fDX6_narrowView_1 eX6_narrowView_60.2.2.2.2.2.2.2.2.2.1
theorem dX6_narrowView_79 : decode cX6_narrowView 79 = .ok (.iconst 2, 1) := fx_ok (d := 64) (i := 15) fDX6_narrowView_1 eX6_narrowView_60.2.2.2.2.2.2.2.2.2.2.1
theorem dX6_narrowView_80 : decode cX6_narrowView 80 = .ok (.if_icmp .ne 24, 3) := fx_ok (d := 64) (i := 16) fDX6_narrowView_1 eX6_narrowView_60.2.2.2.2.2.2.2.2.2.2.2.1
theorem dX6_narrowView_83 : decode cX6_narrowView 83 = .ok (.aload 5, 2) := fx_ok (d := 64) (i := 19) fDX6_narrowView_1 eX6_narrowView_60.2.2.2.2.2.2.2.2.2.2.2.2.1
theorem dX6_narrowView_85 : decode cX6_narrowView 85 = .ok (.iload_n 3, 1) := fx_ok (d := 64) (i := 21) fDX6_narrowView_1 eX6_narrowView_60.2.2.2.2.2.2.2.2.2.2.2.2.2.1
theorem dX6_narrowView_86 : decode cX6_narrowView 86 = .ok (.invokevirtual 93, 3) := fx_ok (d := 64) (i := 22) fDX6_narrowView_1 eX6_narrowView_60.2.2.2.2.2.2.2.2.2.2.2.2.2.2.1
theorem dX6_narrowView_89 : decode cX6_narrowView 89 = .ok (.aload 5, 2) := fx_ok (d := 64) (i := 25) fDX6_narrowView_1 eX6_narrowView_60.2.2.2.2.2.2.2.2.2.2.2.2.2.2.2
theorem eX6_narrowView_91 : (fdecl fTX6_narrowView_1 27 = some (.iload 4, 2)) ∧ (fdecl fTX6_narrowView_1 29 = some (.invokevirtual 93, 3)) ∧ (fdecl fTX6_narrowView_1 32 = some (.if_icmp .le 8, 3)) ∧ (fdecl fTX6_narrowView_1 35 = some (.aload_n 0, 1)) ∧ (fdecl fTX6_narrowView_1 36 = some (.invokevirtual 89, 3)) ∧ (fdecl fTX6_narrowView_1 39 = some (.ireturn, 1)) ∧ (fdecl fTX6_narrowView_1 40 = some (.iload_n 2, 1)) ∧ (fdecl fTX6_narrowView_1 41 = some (.ifCond .le 15, 3)) ∧ (fdecl fTX6_narrowView_1 44 = some (.aload_n 0, 1)) ∧ (fdecl fTX6_narrowView_1 45 = some (.getfield 21, 3)) ∧ (fdecl fTX6_narrowView_1 48 = some (.iload_n 1, 1)) ∧ (fdecl fTX6_narrowView_1 49 = some (.aload 5, 2)) ∧ (fdecl fTX6_narrowView_1 51 = some (.iload_n 3, 1)) ∧ (fdecl fTX6_narrowView_1 52 = some (.invokevirtual 93, 3)) ∧ (fdecl fTX6_narrowView_1 55 = some (.iastore, 1)) ∧ (fdecl fTX6_narrowView_1 56 = some (.iload_n 2, 1)) := by decide +kernel
theorem dX6_narrowView_91 : decode cX6_narrowView 91 = .ok (.iload 4, 2) := fx_ok (d := 64) (i := 27) fDX6_narrowView_1 eX6_narrowView_91.1
theorem dX6_narrowView_93 : decode cX6_narrowView 93 = .ok (.invokevirtual 93, 3) := fx_ok (d := 64) (i := 29) fDX6_narrowView_1 eX6_narrowView_91.2.1
theorem dX6_narrowView_96 : decode cX6_narrowView 96 = .ok (.if_icmp .le 8, 3) := fx_ok (d := 64) (i := 32) fDX6_narrowView_1 eX6_narrowView_91.2.2.1
theorem dX6_narrowView_99 : decode cX6_narrowView 99 = .ok (.aload_n 0, 1) := fx_ok (d := 64) (i := 35) fDX6_narrowView_1 eX6_narrowView_91.2.2.2.1
theorem dX6_narrowView_100 : decode cX6_narrowView 100 = .ok (.invokevirtual 89, 3) := fx_ok (d := 64) (i := 36) fDX6_narrowView_1 eX6_narrowView_91.2.2.2.2.1
theorem dX6_narrowView_103 : decode cX6_narrowView 103 = .ok (.ireturn, 1) := fx_ok (d := 64) (i := 39) fDX6_narrowView_1 eX6_narrowView_91.2.2.2.2.2.1
theorem dX6_narrowView_104 : decode cX6_narrowView 104 = .ok (.iload_n 2, 1) := fx_ok (d := 64) (i := 40) fDX6_narrowView_1 eX6_narrowView_91.2.2.2.2.2.2.1
theorem dX6_narrowView_105 : decode cX6_narrowView 105 = .ok (.ifCond .le 15, 3) := fx_ok (d := 64) (i := 41) fDX6_narrowView_1 eX6_narrowView_91.2.2.2.2.2.2.2.1
theorem dX6_narrowView_108 : decode cX6_narrowView 108 = .ok (.aload_n 0, 1) := fx_ok (d := 64) (i := 44) fDX6_narrowView_1 eX6_narrowView_91.2.2.2.2.2.2.2.2.1
theorem dX6_narrowView_109 : decode cX6_narrowView 109 = .ok (.getfield 21, 3) := fx_ok (d := 64) (i := 45) fDX6_narrowView_1 eX6_narrowView_91.2.2.2.2.2.2.2.2.2.1
theorem dX6_narrowView_112 : decode cX6_narrowView 112 = .ok (.iload_n 1, 1) := fx_ok (d := 64) (i := 48) fDX6_narrowView_1 eX6_narrowView_91.2.2.2.2.2.2.2.2.2.2.1
theorem dX6_narrowView_113 : decode cX6_narrowView 113 = .ok (.aload 5, 2) := fx_ok (d := 64) (i := 49) fDX6_narrowView_1 eX6_narrowView_91.2.2.2.2.2.2.2.2.2.2.2.1
theorem dX6_narrowView_115 : decode cX6_narrowView 115 = .ok (.iload_n 3, 1) := fx_ok (d := 64) (i := 51) fDX6_narrowView_1 eX6_narrowView_91.2.2.2.2.2.2.2.2.2.2.2.2.1
theorem dX6_narrowView_116 : decode cX6_narrowView 116 = .ok (.invokevirtual 93, 3) := fx_ok (d := 64) (i := 52) fDX6_narrowView_1 eX6_narrowView_91.2.2.2.2.2.2.2.2.2.2.2.2.2.1
theorem dX6_narrowView_119 : decode cX6_narrowView 119 = .ok (.iastore, 1) := fx_ok (d := 64) (i := 55) fDX6_narrowView_1 eX6_narrowView_91.2.2.2.2.2.2.2.2.2.2.2.2.2.2.1
theorem dX6_narrowView_120 : decode cX6_narrowView 120 = .ok (.iload_n 2, 1) := fx_ok (d := 64) (i := 56) fDX6_narrowView_1 eX6_narrowView_91.2.2.2.2.2.2.2.2.2.2.2.2.2.2.2
theorem eX6_narrowView_121 : (fdecl fTX6_narrowView_1 57 = some (.iconst 1, 1)) ∧ (fdecl fTX6_narrowView_1 58 = some (.if_icmp .eq 16, 3)) ∧ (fdecl fTX6_narrowView_1 61 = some (.aload_n 0, 1)) ∧ (fdecl fTX6_narrowView_1 62 = some (.getfield 25, 3)) ∧ (fdecl fTX6_narrowView_2 1 = some (.iload_n 1, 1)) ∧ (fdecl fTX6_narrowView_2 2 = some (.aload 5, 2)) ∧ (fdecl fTX6_narrowView_2 4 = some (.iload 4, 2)) ∧ (fdecl fTX6_narrowView_2 6 = some (.invokevirtual 93, 3)) ∧ (fdecl fTX6_narrowView_2 9 = some (.iastore, 1)) ∧ (fdecl fTX6_narrowView_2 10 = some (.aload_n 0, 1)) ∧ (fdecl fTX6_narrowView_2 11 = some (.iload_n 1, 1)) ∧ (fdecl fTX6_narrowView_2 12 = some (.invokevirtual 171, 3)) ∧ (fdecl fTX6_narrowView_2 15 = some (.ireturn, 1)) := by decide +kernel
theorem dX6_narrowView_121 : decode cX6_narrowView 121 = .ok (.iconst 1, 1) := fx_ok (d := 64) (i := 57) fDX6_narrowView_1 eX6_narrowView_121.1
theorem dX6_narrowView_122 : decode cX6_narrowView 122 = .ok (.if_icmp .eq 16, 3) := fx_ok (d := 64) (i := 58) fDX6_narrowView_1 eX6_narrowView_121.2.1
theorem dX6_narrowView_125 : decode cX6_narrowView 125 = .ok (.aload_n 0, 1) := fx_ok (d := 64) (i := 61) fDX6_narrowView_1 eX6_narrowView_121.2.2.1
theorem dX6_narrowView_126 : decode cX6_narrowView 126 = .ok (.getfield 25, 3) := fx_ok (d := 64) (i := 62) fDX6_narrowView_1 eX6_narrowView_121.2.2.2.1
theorem dX6_narrowView_129 : decode cX6_narrowView 129 = .ok (.iload_n 1, 1) := fx_ok (d := 128) (i := 1) fDX6_narrowView_2 eX6_narrowView_121.2.2.2.2.1
theorem dX6_narrowView_130 : decode cX6_narrowView 130 = .ok (.aload 5, 2) := fx_ok (d := 128) (i := 2) fDX6_narrowView_2 eX6_narrowView_121.2.2.2.2.2.1
theorem dX6_narrowView_132 : decode cX6_narrowView 132 = .ok (.iload 4, 2) := fx_ok (d := 128) (i := 4) fDX6_narrowView_2 eX6_narrowView_121.2.2.2.2.2.2.1
theorem dX6_narrowView_134 : decode cX6_narrowView 134 = .ok (.invokevirtual 93, 3) := fx_ok (d := 128) (i := 6) fDX6_narrowView_2 eX6_narrowView_121.2.2.2.2.2.2.2.1
theorem dX6_narrowView_137 : decode cX6_narrowView 137 = .ok (.iastore, 1) := fx_ok (d := 128) (i := 9) fDX6_narrowView_2 eX6_narrowView_121.2.2.2.2.2.2.2.2.1
theorem dX6_narrowView_138 : decode cX6_narrowView 138 = .ok (.aload_n 0, 1) := fx_ok (d := 128) (i := 10) fDX6_narrowView_2 eX6_narrowView_121.2.2.2.2.2.2.2.2.2.1
theorem dX6_narrowView_139 : decode cX6_narrowView 139 = .ok (.iload_n 1, 1) := fx_ok (d := 128) (i := 11) fDX6_narrowView_2 eX6_narrowView_121.2.2.2.2.2.2.2.2.2.2.1
theorem dX6_narrowView_140 : decode cX6_narrowView 140 = .ok (.invokevirtual 171, 3) := fx_ok (d := 128) (i := 12) fDX6_narrowView_2 eX6_narrowView_121.2.2.2.2.2.2.2.2.2.2.2.1
theorem dX6_narrowView_143 : decode cX6_narrowView 143 = .ok (.ireturn, 1) := fx_ok (d := 128) (i := 15) fDX6_narrowView_2 eX6_narrowView_121.2.2.2.2.2.2.2.2.2.2.2.2
theorem eX6_buildFromView_0 : (fdecl cX6_buildFromView.data.toList 0 = some (.aload_n 0, 1)) ∧ (fdecl cX6_buildFromView.data.toList 1 = some (.iload_n 1, 1)) ∧ (fdecl cX6_buildFromView.data.toList 2 = some (.invokestatic 60, 3)) ∧ (fdecl cX6_buildFromView.data.toList 5 = some (.ifCond .eq 14, 3)) ∧ (fdecl cX6_buildFromView.data.toList 8 = some (.iload_n 2, 1)) ∧ (fdecl cX6_buildFromView.data.toList 9 = some (.invokestatic 168, 3)) ∧ (fdecl cX6_buildFromView.data.toList 12 = some (.ifCond .eq 7, 3)) ∧ (fdecl cX6_buildFromView.data.toList 15 = some (.iconst 1, 1)) ∧ (fdecl cX6_buildFromView.data.toList 16 = some (.goto 4, 3)) ∧ (fdecl cX6_buildFromView.data.toList 19 = some (.iconst 0, 1)) ∧ (fdecl cX6_buildFromView.data.toList 20 = some (.iload_n 3, 1)) ∧ (fdecl cX6_buildFromView.data.toList 21 = some (.iconst 0, 1)) ∧ (fdecl cX6_buildFromView.data.toList 22 = some (.iconst 1, 1)) ∧ (fdecl cX6_buildFromView.data.toList 23 = some (.invokestatic 41, 3)) ∧ (fdecl cX6_buildFromView.data.toList 26 = some (.invokevirtual 63, 3)) ∧ (fdecl cX6_buildFromView.data.toList 29 = some (.ifCond .ne 5, 3)) := by decide +kernel
theorem dX6_buildFromView_0 : decode cX6_buildFromView 0 = .ok (.aload_n 0, 1) := fx_ok0 eX6_buildFromView_0.1
theorem dX6_buildFromView_1 : decode cX6_buildFromView 1 = .ok (.iload_n 1, 1) := fx_ok0 eX6_buildFromView_0.2.1
theorem dX6_buildFromView_2 : decode cX6_buildFromView 2 = .ok (.invokestatic 60, 3) := fx_ok0 eX6_buildFromView_0.2.2.1
theorem dX6_buildFromView_5 : decode cX6_buildFromView 5 = .ok (.ifCond .eq 14, 3) := fx_ok0 eX6_buildFromView_0.2.2.2.1
theorem dX6_buildFromView_8 : decode cX6_buildFromView 8 = .ok (.iload_n 2, 1) := fx_ok0 eX6_buildFromView_0.2.2.2.2.1
theorem dX6_buildFromView_9 : decode cX6_buildFromView 9 = .ok (.invokestatic 168, 3) := fx_ok0 eX6_buildFromView_0.2.2.2.2.2.1
theorem dX6_buildFromView_12 : decode cX6_buildFromView 12 = .ok (.ifCond .eq 7, 3) := fx_ok0 eX6_buildFromView_0.2.2.2.2.2.2.1
theorem dX6_buildFromView_15 : decode cX6_buildFromView 15 = .ok (.iconst 1, 1) := fx_ok0 eX6_buildFromView_0.2.2.2.2.2.2.2.1
theorem dX6_buildFromView_16 : decode cX6_buildFromView 16 = .ok (.goto 4, 3) := fx_ok0 eX6_buildFromView_0.2.2.2.2.2.2.2.2.1
theorem dX6_buildFromView_19 : decode cX6_buildFromView 19 = .ok (.iconst 0, 1) := fx_ok0 eX6_buildFromView_0.2.2.2.2.2.2.2.2.2.1
theorem dX6_buildFromView_20 : decode cX6_buildFromView 20 = .ok (.iload_n 3, 1) := fx_ok0 eX6_buildFromView_0.2.2.2.2.2.2.2.2.2.2.1
theorem dX6_buildFromView_21 : decode cX6_buildFromView 21 = .ok (.iconst 0, 1) := fx_ok0 eX6_buildFromView_0.2.2.2.2.2.2.2.2.2.2.2.1
theorem dX6_buildFromView_22 : decode cX6_buildFromView 22 = .ok (.iconst 1, 1) := fx_ok0 eX6_buildFromView_0.2.2.2.2.2.2.2.2.2.2.2.2.1
theorem dX6_buildFromView_23 : decode cX6_buildFromView 23 = .ok (.invokestatic 41, 3) := fx_ok0 eX6_buildFromView_0.2.2.2.2.2.2.2.2.2.2.2.2.2.1
theorem dX6_buildFromView_26 : decode cX6_buildFromView 26 = .ok (.invokevirtual 63, 3) := fx_ok0 eX6_buildFromView_0.2.2.2.2.2.2.2.2.2.2.2.2.2.2.1
theorem dX6_buildFromView_29 : decode cX6_buildFromView 29 = .ok (.ifCond .ne 5, 3) := fx_ok0 eX6_buildFromView_0.2.2.2.2.2.2.2.2.2.2.2.2.2.2.2
theorem eX6_buildFromView_32 : (fdecl cX6_buildFromView.data.toList 32 = some (.iconst 0, 1)) ∧ (fdecl cX6_buildFromView.data.toList 33 = some (.ireturn, 1)) ∧ (fdecl cX6_buildFromView.data.toList 34 = some (.aload_n 0, 1)) ∧ (fdecl cX6_buildFromView.data.toList 35 = some (.getfield 11, 3)) ∧ (fdecl cX6_buildFromView.data.toList 38 = some (.iload_n 1, 1)) ∧ (fdecl cX6_buildFromView.data.toList 39 = some (.aload_n 0, 1)) ∧ (fdecl cX6_buildFromView.data.toList 40 = some (.getfield 18, 3)) ∧ (fdecl cX6_buildFromView.data.toList 43 = some (.iload_n 2, 1)) ∧ (fdecl cX6_buildFromView.data.toList 44 = some (.aaload, 1)) ∧ (fdecl cX6_buildFromView.data.toList 45 = some (.aload_n 0, 1)) ∧ (fdecl cX6_buildFromView.data.toList 46 = some (.getfield 18, 3)) ∧ (fdecl cX6_buildFromView.data.toList 49 = some (.iload_n 2, 1)) ∧ (fdecl cX6_buildFromView.data.toList 50 = some (.aaload, 1)) ∧ (fdecl cX6_buildFromView.data.toList 51 = some (.getfield 75, 3)) ∧ (fdecl cX6_buildFromView.data.toList 54 = some (.aload_n 0, 1)) ∧ (fdecl cX6_buildFromView.data.toList 55 = some (.getfield 21, 3)) := by decide +kernel
theorem dX6_buildFromView_32 : decode cX6_buildFromView 32 = .ok (.iconst 0, 1) := fx_ok0 eX6_buildFromView_32.1
theorem dX6_buildFromView_33 : decode cX6_buildFromView 33 = .ok (.ireturn, 1) := fx_ok0 eX6_buildFromView_32.2.1
theorem dX6_buildFromView_34 : decode cX6_buildFromView 34 = .ok (.aload_n 0, 1) := fx_ok0 eX6_buildFromView_32.2.2.1
theorem dX6_buildFromView_35 : decode cX6_buildFromView 35 = .ok (.getfield 11, 3) := fx_ok0 eX6_buildFromView_32.2.2.2.1
theorem dX6_buildFromView_38 : decode cX6_buildFromView 38 = .ok (.iload_n 1, 1) := fx_ok0 eX6_buildFromView_32.2.2.2.2.1
theorem dX6_buildFromView_39 : decode cX6_buildFromView 39 = .ok (.aload_n 0, 1) := fx_ok0 eX6_buildFromView_32.2.2.2.2.2.1
theorem dX6_buildFromView_40 : decode cX6_buildFromView 40 = .ok (.getfield 18, 3) := fx_ok0 eX6_buildFromView_32.2.2.2.2.2.2.1
theorem dX6_buildFromView_43 : decode cX6_buildFromView 43 = .ok (.iload_n 2, 1) := fx_ok0 eX6_buildFromView_32.2.2.2.2.2.2.2.1
theorem dX6_buildFromView_44 : decode cX6_buildFromView 44 = .ok (.aaload, 1) := fx_ok0 eX6_buildFromView_32.2.2.2.2.2.2.2.2.1
theorem dX6_buildFromView_45 : decode cX6_buildFromView 45 = .ok (.aload_n 0, 1) := fx_ok0 eX6_buildFromView_32.2.2.2.2.2.2.2.2.2.1
theorem dX6_buildFromView_46 : decode cX6_buildFromView 46 = .ok (.getfield 18, 3) := fx_ok0 eX6_buildFromView_32.2.2.2.2.2.2.2.2.2.2.1
theorem dX6_buildFromView_49 : decode cX6_buildFromView 49 = .ok (.iload_n 2, 1) := fx_ok0 eX6_buildFromView_32.2.2.2.2.2.2.2.2.2.2.2.1
theorem dX6_buildFromView_50 : decode cX6_buildFromView 50 = .ok (.aaload, 1) := fx_ok0 eX6_buildFromView_32.2.2.2.2.2.2.2.2.2.2.2.2.1
theorem dX6_buildFromView_51 : decode cX6_buildFromView 51 = .ok (.getfield 75, 3) := fx_ok0 eX6_buildFromView_32.2.2.2.2.2.2.2.2.2.2.2.2.2.1
theorem dX6_buildFromView_54 : decode cX6_buildFromView 54 = .ok (.aload_n 0, 1) := fx_ok0 eX6_buildFromView_32.2.2.2.2.2.2.2.2.2.2.2.2.2.2.1
theorem dX6_buildFromView_55 : decode cX6_buildFromView 55 = .ok (.getfield 21, 3) := fx_ok0 eX6_buildFromView_32.2.2.2.2.2.2.2.2.2.2.2.2.2.2.2
theorem eX6_buildFromView_58 : (fdecl cX6_buildFromView.data.toList 58 = some (.iload_n 2, 1)) ∧ (fdecl cX6_buildFromView.data.toList 59 = some (.iaload, 1)) ∧ (fdecl cX6_buildFromView.data.toList 60 = some (.aload_n 0, 1)) ∧ (fdecl cX6_buildFromView.data.toList 61 = some (.getfield 25, 3)) ∧ (fdecl cX6_buildFromView.data.toList 64 = some (.iload_n 2, 1)) ∧ (fdecl cX6_buildFromView.data.toList 65 = some (.iaload, 1)) ∧ (fdecl cX6_buildFromView.data.toList 66 = some (.invokevirtual 78, 3)) ∧ (fdecl cX6_buildFromView.data.toList 69 = some (.aastore, 1)) ∧ (fdecl cX6_buildFromView.data.toList 70 = some (.aload_n 0, 1)) ∧ (fdecl cX6_buildFromView.data.toList 71 = some (.aload_n 0, 1)) ∧ (fdecl cX6_buildFromView.data.toList 72 = some (.getfield 11, 3)) ∧ (fdecl cX6_buildFromView.data.toList 75 = some (.iload_n 1, 1)) ∧ (fdecl cX6_buildFromView.data.toList 76 = some (.aaload, 1)) ∧ (fdecl cX6_buildFromView.data.toList 77 = some (.iconst 0, 1)) ∧ (fdecl cX6_buildFromView.data.toList 78 = some (.bipush 99, 2)) ∧ (fdecl cX6_buildFromView.data.toList 80 = some (.invokevirtual 67, 3)) := by decide +kernel
theorem dX6_buildFromView_58 : decode cX6_buildFromView 58 = .ok (.iload_n 2, 1) := fx_ok0 eX6_buildFromView_58.1
theorem dX6_buildFromView_59 : decode cX6_buildFromView 59 = .ok (.iaload, 1) := fx_ok0 eX6_buildFromView_58.2.1
theorem dX6_buildFromView_60 : decode cX6_buildFromView 60 = .ok (.aload_n 0, 1) := fx_ok0 eX6_buildFromView_58.2.2.1
theorem dX6_buildFromView_61 : decode cX6_buildFromView 61 = .ok (.getfield 25, 3) := fx_ok0 eX6_buildFromView_58.2.2.2.1
theorem dX6_buildFromView_64 : decode cX6_buildFromView 64 = .ok (.iload_n 2, 1) := fx_ok0 eX6_buildFromView_58.2.2.2.2.1
theorem dX6_buildFromView_65 : decode cX6_buildFromView 65 = .ok (.iaload, 1) := fx_ok0 eX6_buildFromView_58.2.2.2.2.2.1
theorem dX6_buildFromView_66 : decode cX6_buildFromView 66 = .ok (.invokevirtual 78, 3) := fx_ok0 eX6_buildFromView_58.2.2.2.2.2.2.1
theorem dX6_buildFromView_69 : decode cX6_buildFromView 69 = .ok (.aastore, 1) := fx_ok0 eX6_buildFromView_58.2.2.2.2.2.2.2.1
theorem dX6_buildFromView_70 : decode cX6_buildFromView 70 = .ok (.aload_n 0, 1) := fx_ok0 eX6_buildFromView_58.2.2.2.2.2.2.2.2.1
theorem dX6_buildFromView_71 : decode cX6_buildFromView 71 = .ok (.aload_n 0, 1) := fx_ok0 eX6_buildFromView_58.2.2.2.2.2.2.2.2.2.1
theorem dX6_buildFromView_72 : decode cX6_buildFromView 72 = .ok (.getfield 11, 3) := fx_ok0 eX6_buildFromView_58.2.2.2.2.2.2.2.2.2.2.1
theorem dX6_buildFromView_75 : decode cX6_buildFromView 75 = .ok (.iload_n 1, 1) := fx_ok0 eX6_buildFromView_58.2.2.2.2.2.2.2.2.2.2.2.1
theorem dX6_buildFromView_76 : decode cX6_buildFromView 76 = .ok (.aaload, 1) := fx_ok0 eX6_buildFromView_58.2.2.2.2.2.2.2.2.2.2.2.2.1
theorem dX6_buildFromView_77 : decode cX6_buildFromView 77 = .ok (.iconst 0, 1) := fx_ok0 eX6_buildFromView_58.2.2.2.2.2.2.2.2.2.2.2.2.2.1
theorem dX6_buildFromView_78 : decode cX6_buildFromView 78 = .ok (.bipush 99, 2) := fx_ok0 eX6_buildFromView_58.2.2.2.2.2.2.2.2.2.2.2.2.2.2.1
theorem dX6_buildFromView_80 : decode cX6_buildFromView 80 = .ok (.invokevirtual 67, 3) := fx_ok0 eX6_buildFromView_58.2.2.2.2.2.2.2.2.2.2.2.2.2.2.2
theorem eX6_buildFromView_83 : (fdecl cX6_buildFromView.data.toList 83 = some (.invokevirtual 71, 3)) ∧ (fdecl cX6_buildFromView.data.toList 86 = some (.ireturn, 1)) := by decide +kernel
theorem dX6_buildFromView_83 : decode cX6_buildFromView 83 = .ok (.invokevirtual 71, 3) := fx_ok0 eX6_buildFromView_83.1
theorem dX6_buildFromView_86 : decode cX6_buildFromView 86 = .ok (.ireturn, 1) := fx_ok0 eX6_buildFromView_83.2
theorem eX6_viewPut_0 : (fdecl cX6_viewPut.data.toList 0 = some (.aload_n 0, 1)) ∧ (fdecl cX6_viewPut.data.toList 1 = some (.iload_n 1, 1)) ∧ (fdecl cX6_viewPut.data.toList 2 = some (.invokestatic 168, 3)) ∧ (fdecl cX6_viewPut.data.toList 5 = some (.iload_n 2, 1)) ∧ (fdecl cX6_viewPut.data.toList 6 = some (.invokestatic 86, 3)) ∧ (fdecl cX6_viewPut.data.toList 9 = some (.ifCond .eq 14, 3)) ∧ (fdecl cX6_viewPut.data.toList 12 = some (.iload_n 3, 1)) ∧ (fdecl cX6_viewPut.data.toList 13 = some (.invokestatic 86, 3)) ∧ (fdecl cX6_viewPut.data.toList 16 = some (.ifCond .eq 7, 3)) ∧ (fdecl cX6_viewPut.data.toList 19 = some (.iconst 1, 1)) ∧ (fdecl cX6_viewPut.data.toList 20 = some (.goto 4, 3)) ∧ (fdecl cX6_viewPut.data.toList 23 = some (.iconst 0, 1)) ∧ (fdecl cX6_viewPut.data.toList 24 = some (.invokevirtual 63, 3)) ∧ (fdecl cX6_viewPut.data.toList 27 = some (.ifCond .ne 5, 3)) ∧ (fdecl cX6_viewPut.data.toList 30 = some (.iconst 0, 1)) ∧ (fdecl cX6_viewPut.data.toList 31 = some (.ireturn, 1)) := by decide +kernel
theorem dX6_viewPut_0 : decode cX6_viewPut 0 = .ok (.aload_n 0, 1) := fx_ok0 eX6_viewPut_0.1
theorem dX6_viewPut_1 : decode cX6_viewPut 1 = .ok (.iload_n 1, 1) := fx_ok0 eX6_viewPut_0.2.1
theorem dX6_viewPut_2 : decode cX6_viewPut 2 = .ok (.invokestatic 168, 3) := fx_ok0 eX6_viewPut_0.2.2.1
theorem dX6_viewPut_5 : decode cX6_viewPut 5 = .ok (.iload_n 2, 1) := fx_ok0 eX6_viewPut_0.2.2.2.1
theorem dX6_viewPut_6 : decode cX6_viewPut 6 = .ok (.invokestatic 86, 3) := fx_ok0 eX6_viewPut_0.2.2.2.2.1
theorem dX6_viewPut_9 : decode cX6_viewPut 9 = .ok (.ifCond .eq 14, 3) := fx_ok0 eX6_viewPut_0.2.2.2.2.2.1
theorem dX6_viewPut_12 : decode cX6_viewPut 12 = .ok (.iload_n 3, 1) := fx_ok0 eX6_viewPut_0.2.2.2.2.2.2.1
theorem dX6_viewPut_13 : decode cX6_viewPut 13 = .ok (.invokestatic 86, 3) := fx_ok0 eX6_viewPut_0.2.2.2.2.2.2.2.1
theorem dX6_viewPut_16 : decode cX6_viewPut 16 = .ok (.ifCond .eq 7, 3) := fx_ok0 eX6_viewPut_0.2.2.2.2.2.2.2.2.1
theorem dX6_viewPut_19 : decode cX6_viewPut 19 = .ok (.iconst 1, 1) := fx_ok0 eX6_viewPut_0.2.2.2.2.2.2.2.2.2.1
theorem dX6_viewPut_20 : decode cX6_viewPut 20 = .ok (.goto 4, 3) := fx_ok0 eX6_viewPut_0.2.2.2.2.2.2.2.2.2.2.1
theorem dX6_viewPut_23 : decode cX6_viewPut 23 = .ok (.iconst 0, 1) := fx_ok0 eX6_viewPut_0.2.2.2.2.2.2.2.2.2.2.2.1
theorem dX6_viewPut_24 : decode cX6_viewPut 24 = .ok (.invokevirtual 63, 3) := fx_ok0 eX6_viewPut_0.2.2.2.2.2.2.2.2.2.2.2.2.1
theorem dX6_viewPut_27 : decode cX6_viewPut 27 = .ok (.ifCond .ne 5, 3) := fx_ok0 eX6_viewPut_0.2.2.2.2.2.2.2.2.2.2.2.2.2.1
theorem dX6_viewPut_30 : decode cX6_viewPut 30 = .ok (.iconst 0, 1) := fx_ok0 eX6_viewPut_0.2.2.2.2.2.2.2.2.2.2.2.2.2.2.1
theorem dX6_viewPut_31 : decode cX6_viewPut 31 = .ok (.ireturn, 1) := fx_ok0 eX6_viewPut_0.2.2.2.2.2.2.2.2.2.2.2.2.2.2.2
theorem eX6_viewPut_32 : (fdecl cX6_viewPut.data.toList 32 = some (.aload_n 0, 1)) ∧ (fdecl cX6_viewPut.data.toList 33 = some (.iload_n 1, 1)) ∧ (fdecl cX6_viewPut.data.toList 34 = some (.iload_n 2, 1)) ∧ (fdecl cX6_viewPut.data.toList 35 = some (.invokevirtual 174, 3)) ∧ (fdecl cX6_viewPut.data.toList 38 = some (.ifCond .eq 19, 3)) ∧ (fdecl cX6_viewPut.data.toList 41 = some (.aload_n 0, 1)) ∧ (fdecl cX6_viewPut.data.toList 42 = some (.aload_n 0, 1)) ∧ (fdecl cX6_viewPut.data.toList 43 = some (.getfield 18, 3)) ∧ (fdecl cX6_viewPut.data.toList 46 = some (.iload_n 1, 1)) ∧ (fdecl cX6_viewPut.data.toList 47 = some (.aaload, 1)) ∧ (fdecl cX6_viewPut.data.toList 48 = some (.iload_n 2, 1)) ∧ (fdecl cX6_viewPut.data.toList 49 = some (.iconst 1, 1)) ∧ (fdecl cX6_viewPut.data.toList 50 = some (.iload_n 3, 1)) ∧ (fdecl cX6_viewPut.data.toList 51 = some (.invokevirtual 107, 3)) ∧ (fdecl cX6_viewPut.data.toList 54 = some (.goto 7, 3)) ∧ (fdecl cX6_viewPut.data.toList 57 = some (.aload_n 0, 1)) := by decide +kernel
theorem dX6_viewPut_32 : decode cX6_viewPut 32 = .ok (.aload_n 0, 1) := fx_ok0 eX6_viewPut_32.1
theorem dX6_viewPut_33 : decode cX6_viewPut 33 = .ok (.iload_n 1, 1) := fx_ok0 eX6_viewPut_32.2.1
theorem dX6_viewPut_34 : decode cX6_viewPut 34 = .ok (.iload_n 2, 1) := fx_ok0 eX6_viewPut_32.2.2.1
theorem dX6_viewPut_35 : decode cX6_viewPut 35 = .ok (.invokevirtual 174, 3) := fx_ok0 eX6_viewPut_32.2.2.2.1
theorem dX6_viewPut_38 : decode cX6_viewPut 38 = .ok (.ifCond .eq 19, 3) := fx_ok0 eX6_viewPut_32.2.2.2.2.1
theorem dX6_viewPut_41 : decode cX6_viewPut 41 = .ok (.aload_n 0, 1) := fx_ok0 eX6_viewPut_32.2.2.2.2.2.1
theorem dX6_viewPut_42 : decode cX6_viewPut 42 = .ok (.aload_n 0, 1) := fx_ok0 eX6_viewPut_32.2.2.2.2.2.2.1
theorem dX6_viewPut_43 : decode cX6_viewPut 43 = .ok (.getfield 18, 3) := fx_ok0 eX6_viewPut_32.2.2.2.2.2.2.2.1
theorem dX6_viewPut_46 : decode cX6_viewPut 46 = .ok (.iload_n 1, 1) := fx_ok0 eX6_viewPut_32.2.2.2.2.2.2.2.2.1
theorem dX6_viewPut_47 : decode cX6_viewPut 47 = .ok (.aaload, 1) := fx_ok0 eX6_viewPut_32.2.2.2.2.2.2.2.2.2.1
theorem dX6_viewPut_48 : decode cX6_viewPut 48 = .ok (.iload_n 2, 1) := fx_ok0 eX6_viewPut_32.2.2.2.2.2.2.2.2.2.2.1
theorem dX6_viewPut_49 : decode cX6_viewPut 49 = .ok (.iconst 1, 1) := fx_ok0 eX6_viewPut_32.2.2.2.2.2.2.2.2.2.2.2.1
theorem dX6_viewPut_50 : decode cX6_viewPut 50 = .ok (.iload_n 3, 1) := fx_ok0 eX6_viewPut_32.2.2.2.2.2.2.2.2.2.2.2.2.1
theorem dX6_viewPut_51 : decode cX6_viewPut 51 = .ok (.invokevirtual 107, 3) := fx_ok0 eX6_viewPut_32.2.2.2.2.2.2.2.2.2.2.2.2.2.1
theorem dX6_viewPut_54 : decode cX6_viewPut 54 = .ok (.goto 7, 3) := fx_ok0 eX6_viewPut_32.2.2.2.2.2.2.2.2.2.2.2.2.2.2.1
theorem dX6_viewPut_57 : decode cX6_viewPut 57 = .ok (.aload_n 0, 1) := fx_ok0 eX6_viewPut_32.2.2.2.2.2.2.2.2.2.2.2.2.2.2.2
theorem eX6_viewPut_58 : (fdecl cX6_viewPut.data.toList 58 = some (.invokevirtual 89, 3)) ∧ (fdecl cX6_viewPut.data.toList 61 = some (.ireturn, 1)) := by decide +kernel
theorem dX6_viewPut_58 : decode cX6_viewPut 58 = .ok (.invokevirtual 89, 3) := fx_ok0 eX6_viewPut_58.1
theorem dX6_viewPut_61 : decode cX6_viewPut 61 = .ok (.ireturn, 1) := fx_ok0 eX6_viewPut_58.2
theorem eX6_viewTake_0 : (fdecl cX6_viewTake.data.toList 0 = some (.aload_n 0, 1)) ∧ (fdecl cX6_viewTake.data.toList 1 = some (.iload_n 1, 1)) ∧ (fdecl cX6_viewTake.data.toList 2 = some (.invokestatic 168, 3)) ∧ (fdecl cX6_viewTake.data.toList 5 = some (.iload_n 2, 1)) ∧ (fdecl cX6_viewTake.data.toList 6 = some (.invokestatic 86, 3)) ∧ (fdecl cX6_viewTake.data.toList 9 = some (.invokevirtual 63, 3)) ∧ (fdecl cX6_viewTake.data.toList 12 = some (.ifCond .ne 5, 3)) ∧ (fdecl cX6_viewTake.data.toList 15 = some (.iconst 0, 1)) ∧ (fdecl cX6_viewTake.data.toList 16 = some (.ireturn, 1)) ∧ (fdecl cX6_viewTake.data.toList 17 = some (.aload_n 0, 1)) ∧ (fdecl cX6_viewTake.data.toList 18 = some (.iload_n 1, 1)) ∧ (fdecl cX6_viewTake.data.toList 19 = some (.iload_n 2, 1)) ∧ (fdecl cX6_viewTake.data.toList 20 = some (.invokevirtual 174, 3)) ∧ (fdecl cX6_viewTake.data.toList 23 = some (.istore_n 3, 1)) ∧ (fdecl cX6_viewTake.data.toList 24 = some (.aload_n 0, 1)) ∧ (fdecl cX6_viewTake.data.toList 25 = some (.aload_n 0, 1)) := by decide +kernel
theorem dX6_viewTake_0 : decode cX6_viewTake 0 = .ok (.aload_n 0, 1) := fx_ok0 eX6_viewTake_0.1
theorem dX6_viewTake_1 : decode cX6_viewTake 1 = .ok (.iload_n 1, 1) := fx_ok0 eX6_viewTake_0.2.1
theorem dX6_viewTake_2 : decode cX6_viewTake 2 = .ok (.invokestatic 168, 3) := fx_ok0 eX6_viewTake_0.2.2.1
theorem dX6_viewTake_5 : decode cX6_viewTake 5 = .ok (.iload_n 2, 1) := fx_ok0 eX6_viewTake_0.2.2.2.1
theorem dX6_viewTake_6 : decode cX6_viewTake 6 = .ok (.invokestatic 86, 3) := fx_ok0 eX6_viewTake_0.2.2.2.2.1
theorem dX6_viewTake_9 : decode cX6_viewTake 9 = .ok (.invokevirtual 63, 3) := fx_ok0 eX6_viewTake_0.2.2.2.2.2.1
theorem dX6_viewTake_12 : decode cX6_viewTake 12 = .ok (.ifCond .ne 5, 3) := fx_ok0 eX6_viewTake_0.2.2.2.2.2.2.1
theorem dX6_viewTake_15 : decode cX6_viewTake 15 = .ok (.iconst 0, 1) := fx_ok0 eX6_viewTake_0.2.2.2.2.2.2.2.1
theorem dX6_viewTake_16 : decode cX6_viewTake 16 = .ok (.ireturn, 1) := fx_ok0 eX6_viewTake_0.2.2.2.2.2.2.2.2.1
theorem dX6_viewTake_17 : decode cX6_viewTake 17 = .ok (.aload_n 0, 1) := fx_ok0 eX6_viewTake_0.2.2.2.2.2.2.2.2.2.1
theorem dX6_viewTake_18 : decode cX6_viewTake 18 = .ok (.iload_n 1, 1) := fx_ok0 eX6_viewTake_0.2.2.2.2.2.2.2.2.2.2.1
theorem dX6_viewTake_19 : decode cX6_viewTake 19 = .ok (.iload_n 2, 1) := fx_ok0 eX6_viewTake_0.2.2.2.2.2.2.2.2.2.2.2.1
theorem dX6_viewTake_20 : decode cX6_viewTake 20 = .ok (.invokevirtual 174, 3) := fx_ok0 eX6_viewTake_0.2.2.2.2.2.2.2.2.2.2.2.2.1
theorem dX6_viewTake_23 : decode cX6_viewTake 23 = .ok (.istore_n 3, 1) := fx_ok0 eX6_viewTake_0.2.2.2.2.2.2.2.2.2.2.2.2.2.1
theorem dX6_viewTake_24 : decode cX6_viewTake 24 = .ok (.aload_n 0, 1) := fx_ok0 eX6_viewTake_0.2.2.2.2.2.2.2.2.2.2.2.2.2.2.1
theorem dX6_viewTake_25 : decode cX6_viewTake 25 = .ok (.aload_n 0, 1) := fx_ok0 eX6_viewTake_0.2.2.2.2.2.2.2.2.2.2.2.2.2.2.2
theorem eX6_viewTake_26 : (fdecl cX6_viewTake.data.toList 26 = some (.getfield 18, 3)) ∧ (fdecl cX6_viewTake.data.toList 29 = some (.iload_n 1, 1)) ∧ (fdecl cX6_viewTake.data.toList 30 = some (.aaload, 1)) ∧ (fdecl cX6_viewTake.data.toList 31 = some (.iload_n 2, 1)) ∧ (fdecl cX6_viewTake.data.toList 32 = some (.iload_n 3, 1)) ∧ (fdecl cX6_viewTake.data.toList 33 = some (.iconst (-1), 1)) ∧ (fdecl cX6_viewTake.data.toList 34 = some (.invokevirtual 107, 3)) ∧ (fdecl cX6_viewTake.data.toList 37 = some (.istore 4, 2)) ∧ (fdecl cX6_viewTake.data.toList 39 = some (.iload_n 3, 1)) ∧ (fdecl cX6_viewTake.data.toList 40 = some (.ifCond .eq 8, 3)) ∧ (fdecl cX6_viewTake.data.toList 43 = some (.iload 4, 2)) ∧ (fdecl cX6_viewTake.data.toList 45 = some (.goto 4, 3)) ∧ (fdecl cX6_viewTake.data.toList 48 = some (.iconst (-1), 1)) ∧ (fdecl cX6_viewTake.data.toList 49 = some (.ireturn, 1)) := by decide +kernel
theorem dX6_viewTake_26 : decode cX6_viewTake 26 = .ok (.getfield 18, 3) := fx_ok0 eX6_viewTake_26.1
theorem dX6_viewTake_29 : decode cX6_viewTake 29 = .ok (.iload_n 1, 1) := fx_ok0 eX6_viewTake_26.2.1
theorem dX6_viewTake_30 : decode cX6_viewTake 30 = .ok (.aaload, 1) := fx_ok0 eX6_viewTake_26.2.2.1
theorem dX6_viewTake_31 : decode cX6_viewTake 31 = .ok (.iload_n 2, 1) := fx_ok0 eX6_viewTake_26.2.2.2.1
theorem dX6_viewTake_32 : decode cX6_viewTake 32 = .ok (.iload_n 3, 1) := fx_ok0 eX6_viewTake_26.2.2.2.2.1
theorem dX6_viewTake_33 : decode cX6_viewTake 33 = .ok (.iconst (-1), 1) := fx_ok0 eX6_viewTake_26.2.2.2.2.2.1
theorem dX6_viewTake_34 : decode cX6_viewTake 34 = .ok (.invokevirtual 107, 3) := fx_ok0 eX6_viewTake_26.2.2.2.2.2.2.1
theorem dX6_viewTake_37 : decode cX6_viewTake 37 = .ok (.istore 4, 2) := fx_ok0 eX6_viewTake_26.2.2.2.2.2.2.2.1
theorem dX6_viewTake_39 : decode cX6_viewTake 39 = .ok (.iload_n 3, 1) := fx_ok0 eX6_viewTake_26.2.2.2.2.2.2.2.2.1
theorem dX6_viewTake_40 : decode cX6_viewTake 40 = .ok (.ifCond .eq 8, 3) := fx_ok0 eX6_viewTake_26.2.2.2.2.2.2.2.2.2.1
theorem dX6_viewTake_43 : decode cX6_viewTake 43 = .ok (.iload 4, 2) := fx_ok0 eX6_viewTake_26.2.2.2.2.2.2.2.2.2.2.1
theorem dX6_viewTake_45 : decode cX6_viewTake 45 = .ok (.goto 4, 3) := fx_ok0 eX6_viewTake_26.2.2.2.2.2.2.2.2.2.2.2.1
theorem dX6_viewTake_48 : decode cX6_viewTake 48 = .ok (.iconst (-1), 1) := fx_ok0 eX6_viewTake_26.2.2.2.2.2.2.2.2.2.2.2.2.1
theorem dX6_viewTake_49 : decode cX6_viewTake 49 = .ok (.ireturn, 1) := fx_ok0 eX6_viewTake_26.2.2.2.2.2.2.2.2.2.2.2.2.2
theorem eX6_viewDrop_0 : (fdecl cX6_viewDrop.data.toList 0 = some (.aload_n 0, 1)) ∧ (fdecl cX6_viewDrop.data.toList 1 = some (.iload_n 1, 1)) ∧ (fdecl cX6_viewDrop.data.toList 2 = some (.invokestatic 168, 3)) ∧ (fdecl cX6_viewDrop.data.toList 5 = some (.iload_n 2, 1)) ∧ (fdecl cX6_viewDrop.data.toList 6 = some (.iconst 0, 1)) ∧ (fdecl cX6_viewDrop.data.toList 7 = some (.iconst 2, 1)) ∧ (fdecl cX6_viewDrop.data.toList 8 = some (.invokestatic 41, 3)) ∧ (fdecl cX6_viewDrop.data.toList 11 = some (.invokevirtual 63, 3)) ∧ (fdecl cX6_viewDrop.data.toList 14 = some (.ifCond .eq 33, 3)) ∧ (fdecl cX6_viewDrop.data.toList 17 = some (.aload_n 0, 1)) ∧ (fdecl cX6_viewDrop.data.toList 18 = some (.aload_n 0, 1)) ∧ (fdecl cX6_viewDrop.data.toList 19 = some (.aload_n 0, 1)) ∧ (fdecl cX6_viewDrop.data.toList 20 = some (.getfield 18, 3)) ∧ (fdecl cX6_viewDrop.data.toList 23 = some (.iload_n 1, 1)) ∧ (fdecl cX6_viewDrop.data.toList 24 = some (.aaload, 1)) ∧ (fdecl cX6_viewDrop.data.toList 25 = some (.iload_n 2, 1)) := by decide +kernel
theorem dX6_viewDrop_0 : decode cX6_viewDrop 0 = .ok (.aload_n 0, 1) := fx_ok0 eX6_viewDrop_0.1
theorem dX6_viewDrop_1 : decode cX6_viewDrop 1 = .ok (.iload_n 1, 1) := fx_ok0 eX6_viewDrop_0.2.1
theorem dX6_viewDrop_2 : decode cX6_viewDrop 2 = .ok (.invokestatic 168, 3) := fx_ok0 eX6_viewDrop_0.2.2.1
theorem dX6_viewDrop_5 : decode cX6_viewDrop 5 = .ok (.iload_n 2, 1) := fx_ok0 eX6_viewDrop_0.2.2.2.1
theorem dX6_viewDrop_6 : decode cX6_viewDrop 6 = .ok (.iconst 0, 1) := fx_ok0 eX6_viewDrop_0.2.2.2.2.1
theorem dX6_viewDrop_7 : decode cX6_viewDrop 7 = .ok (.iconst 2, 1) := fx_ok0 eX6_viewDrop_0.2.2.2.2.2.1
theorem dX6_viewDrop_8 : decode cX6_viewDrop 8 = .ok (.invokestatic 41, 3) := fx_ok0 eX6_viewDrop_0.2.2.2.2.2.2.1
theorem dX6_viewDrop_11 : decode cX6_viewDrop 11 = .ok (.invokevirtual 63, 3) := fx_ok0 eX6_viewDrop_0.2.2.2.2.2.2.2.1
theorem dX6_viewDrop_14 : decode cX6_viewDrop 14 = .ok (.ifCond .eq 33, 3) := fx_ok0 eX6_viewDrop_0.2.2.2.2.2.2.2.2.1
theorem dX6_viewDrop_17 : decode cX6_viewDrop 17 = .ok (.aload_n 0, 1) := fx_ok0 eX6_viewDrop_0.2.2.2.2.2.2.2.2.2.1
theorem dX6_viewDrop_18 : decode cX6_viewDrop 18 = .ok (.aload_n 0, 1) := fx_ok0 eX6_viewDrop_0.2.2.2.2.2.2.2.2.2.2.1
theorem dX6_viewDrop_19 : decode cX6_viewDrop 19 = .ok (.aload_n 0, 1) := fx_ok0 eX6_viewDrop_0.2.2.2.2.2.2.2.2.2.2.2.1
theorem dX6_viewDrop_20 : decode cX6_viewDrop 20 = .ok (.getfield 18, 3) := fx_ok0 eX6_viewDrop_0.2.2.2.2.2.2.2.2.2.2.2.2.1
theorem dX6_viewDrop_23 : decode cX6_viewDrop 23 = .ok (.iload_n 1, 1) := fx_ok0 eX6_viewDrop_0.2.2.2.2.2.2.2.2.2.2.2.2.2.1
theorem dX6_viewDrop_24 : decode cX6_viewDrop 24 = .ok (.aaload, 1) := fx_ok0 eX6_viewDrop_0.2.2.2.2.2.2.2.2.2.2.2.2.2.2.1
theorem dX6_viewDrop_25 : decode cX6_viewDrop 25 = .ok (.iload_n 2, 1) := fx_ok0 eX6_viewDrop_0.2.2.2.2.2.2.2.2.2.2.2.2.2.2.2
theorem eX6_viewDrop_26 : (fdecl cX6_viewDrop.data.toList 26 = some (.aload_n 0, 1)) ∧ (fdecl cX6_viewDrop.data.toList 27 = some (.getfield 21, 3)) ∧ (fdecl cX6_viewDrop.data.toList 30 = some (.iload_n 1, 1)) ∧ (fdecl cX6_viewDrop.data.toList 31 = some (.iaload, 1)) ∧ (fdecl cX6_viewDrop.data.toList 32 = some (.aload_n 0, 1)) ∧ (fdecl cX6_viewDrop.data.toList 33 = some (.getfield 25, 3)) ∧ (fdecl cX6_viewDrop.data.toList 36 = some (.iload_n 1, 1)) ∧ (fdecl cX6_viewDrop.data.toList 37 = some (.iaload, 1)) ∧ (fdecl cX6_viewDrop.data.toList 38 = some (.invokevirtual 120, 3)) ∧ (fdecl cX6_viewDrop.data.toList 41 = some (.invokevirtual 71, 3)) ∧ (fdecl cX6_viewDrop.data.toList 44 = some (.goto 4, 3)) ∧ (fdecl cX6_viewDrop.data.toList 47 = some (.iconst 0, 1)) ∧ (fdecl cX6_viewDrop.data.toList 48 = some (.ireturn, 1)) := by decide +kernel
theorem dX6_viewDrop_26 : decode cX6_viewDrop 26 = .ok (.aload_n 0, 1) := fx_ok0 eX6_viewDrop_26.1
theorem dX6_viewDrop_27 : decode cX6_viewDrop 27 = .ok (.getfield 21, 3) := fx_ok0 eX6_viewDrop_26.2.1
theorem dX6_viewDrop_30 : decode cX6_viewDrop 30 = .ok (.iload_n 1, 1) := fx_ok0 eX6_viewDrop_26.2.2.1
theorem dX6_viewDrop_31 : decode cX6_viewDrop 31 = .ok (.iaload, 1) := fx_ok0 eX6_viewDrop_26.2.2.2.1
theorem dX6_viewDrop_32 : decode cX6_viewDrop 32 = .ok (.aload_n 0, 1) := fx_ok0 eX6_viewDrop_26.2.2.2.2.1
theorem dX6_viewDrop_33 : decode cX6_viewDrop 33 = .ok (.getfield 25, 3) := fx_ok0 eX6_viewDrop_26.2.2.2.2.2.1
theorem dX6_viewDrop_36 : decode cX6_viewDrop 36 = .ok (.iload_n 1, 1) := fx_ok0 eX6_viewDrop_26.2.2.2.2.2.2.1
theorem dX6_viewDrop_37 : decode cX6_viewDrop 37 = .ok (.iaload, 1) := fx_ok0 eX6_viewDrop_26.2.2.2.2.2.2.2.1
theorem dX6_viewDrop_38 : decode cX6_viewDrop 38 = .ok (.invokevirtual 120, 3) := fx_ok0 eX6_viewDrop_26.2.2.2.2.2.2.2.2.1
theorem dX6_viewDrop_41 : decode cX6_viewDrop 41 = .ok (.invokevirtual 71, 3) := fx_ok0 eX6_viewDrop_26.2.2.2.2.2.2.2.2.2.1
theorem dX6_viewDrop_44 : decode cX6_viewDrop 44 = .ok (.goto 4, 3) := fx_ok0 eX6_viewDrop_26.2.2.2.2.2.2.2.2.2.2.1
theorem dX6_viewDrop_47 : decode cX6_viewDrop 47 = .ok (.iconst 0, 1) := fx_ok0 eX6_viewDrop_26.2.2.2.2.2.2.2.2.2.2.2.1
theorem dX6_viewDrop_48 : decode cX6_viewDrop 48 = .ok (.ireturn, 1) := fx_ok0 eX6_viewDrop_26.2.2.2.2.2.2.2.2.2.2.2.2
theorem eX6_viewNear_0 : (fdecl cX6_viewNear.data.toList 0 = some (.aload_n 0, 1)) ∧ (fdecl cX6_viewNear.data.toList 1 = some (.iload_n 1, 1)) ∧ (fdecl cX6_viewNear.data.toList 2 = some (.invokestatic 168, 3)) ∧ (fdecl cX6_viewNear.data.toList 5 = some (.iload_n 2, 1)) ∧ (fdecl cX6_viewNear.data.toList 6 = some (.invokestatic 86, 3)) ∧ (fdecl cX6_viewNear.data.toList 9 = some (.ifCond .eq 16, 3)) ∧ (fdecl cX6_viewNear.data.toList 12 = some (.iload_n 3, 1)) ∧ (fdecl cX6_viewNear.data.toList 13 = some (.iconst 0, 1)) ∧ (fdecl cX6_viewNear.data.toList 14 = some (.iconst 4, 1)) ∧ (fdecl cX6_viewNear.data.toList 15 = some (.invokestatic 41, 3)) ∧ (fdecl cX6_viewNear.data.toList 18 = some (.ifCond .eq 7, 3)) ∧ (fdecl cX6_viewNear.data.toList 21 = some (.iconst 1, 1)) ∧ (fdecl cX6_viewNear.data.toList 22 = some (.goto 4, 3)) ∧ (fdecl cX6_viewNear.data.toList 25 = some (.iconst 0, 1)) ∧ (fdecl cX6_viewNear.data.toList 26 = some (.invokevirtual 63, 3)) ∧ (fdecl cX6_viewNear.data.toList 29 = some (.ifCond .eq 39, 3)) := by decide +kernel
theorem dX6_viewNear_0 : decode cX6_viewNear 0 = .ok (.aload_n 0, 1) := fx_ok0 eX6_viewNear_0.1
theorem dX6_viewNear_1 : decode cX6_viewNear 1 = .ok (.iload_n 1, 1) := fx_ok0 eX6_viewNear_0.2.1
theorem dX6_viewNear_2 : decode cX6_viewNear 2 = .ok (.invokestatic 168, 3) := fx_ok0 eX6_viewNear_0.2.2.1
theorem dX6_viewNear_5 : decode cX6_viewNear 5 = .ok (.iload_n 2, 1) := fx_ok0 eX6_viewNear_0.2.2.2.1
theorem dX6_viewNear_6 : decode cX6_viewNear 6 = .ok (.invokestatic 86, 3) := fx_ok0 eX6_viewNear_0.2.2.2.2.1
theorem dX6_viewNear_9 : decode cX6_viewNear 9 = .ok (.ifCond .eq 16, 3) := fx_ok0 eX6_viewNear_0.2.2.2.2.2.1
theorem dX6_viewNear_12 : decode cX6_viewNear 12 = .ok (.iload_n 3, 1) := fx_ok0 eX6_viewNear_0.2.2.2.2.2.2.1
theorem dX6_viewNear_13 : decode cX6_viewNear 13 = .ok (.iconst 0, 1) := fx_ok0 eX6_viewNear_0.2.2.2.2.2.2.2.1
theorem dX6_viewNear_14 : decode cX6_viewNear 14 = .ok (.iconst 4, 1) := fx_ok0 eX6_viewNear_0.2.2.2.2.2.2.2.2.1
theorem dX6_viewNear_15 : decode cX6_viewNear 15 = .ok (.invokestatic 41, 3) := fx_ok0 eX6_viewNear_0.2.2.2.2.2.2.2.2.2.1
theorem dX6_viewNear_18 : decode cX6_viewNear 18 = .ok (.ifCond .eq 7, 3) := fx_ok0 eX6_viewNear_0.2.2.2.2.2.2.2.2.2.2.1
theorem dX6_viewNear_21 : decode cX6_viewNear 21 = .ok (.iconst 1, 1) := fx_ok0 eX6_viewNear_0.2.2.2.2.2.2.2.2.2.2.2.1
theorem dX6_viewNear_22 : decode cX6_viewNear 22 = .ok (.goto 4, 3) := fx_ok0 eX6_viewNear_0.2.2.2.2.2.2.2.2.2.2.2.2.1
theorem dX6_viewNear_25 : decode cX6_viewNear 25 = .ok (.iconst 0, 1) := fx_ok0 eX6_viewNear_0.2.2.2.2.2.2.2.2.2.2.2.2.2.1
theorem dX6_viewNear_26 : decode cX6_viewNear 26 = .ok (.invokevirtual 63, 3) := fx_ok0 eX6_viewNear_0.2.2.2.2.2.2.2.2.2.2.2.2.2.2.1
theorem dX6_viewNear_29 : decode cX6_viewNear 29 = .ok (.ifCond .eq 39, 3) := fx_ok0 eX6_viewNear_0.2.2.2.2.2.2.2.2.2.2.2.2.2.2.2
theorem eX6_viewNear_32 : (fdecl cX6_viewNear.data.toList 32 = some (.aload_n 0, 1)) ∧ (fdecl cX6_viewNear.data.toList 33 = some (.getfield 18, 3)) ∧ (fdecl cX6_viewNear.data.toList 36 = some (.iload_n 1, 1)) ∧ (fdecl cX6_viewNear.data.toList 37 = some (.aaload, 1)) ∧ (fdecl cX6_viewNear.data.toList 38 = some (.aload_n 0, 1)) ∧ (fdecl cX6_viewNear.data.toList 39 = some (.getfield 18, 3)) ∧ (fdecl cX6_viewNear.data.toList 42 = some (.iload_n 1, 1)) ∧ (fdecl cX6_viewNear.data.toList 43 = some (.aaload, 1)) ∧ (fdecl cX6_viewNear.data.toList 44 = some (.iload_n 2, 1)) ∧ (fdecl cX6_viewNear.data.toList 45 = some (.iload_n 3, 1)) ∧ (fdecl cX6_viewNear.data.toList 46 = some (.aload_n 0, 1)) ∧ (fdecl cX6_viewNear.data.toList 47 = some (.getfield 21, 3)) ∧ (fdecl cX6_viewNear.data.toList 50 = some (.iload_n 1, 1)) ∧ (fdecl cX6_viewNear.data.toList 51 = some (.iaload, 1)) ∧ (fdecl cX6_viewNear.data.toList 52 = some (.aload_n 0, 1)) ∧ (fdecl cX6_viewNear.data.toList 53 = some (.getfield 25, 3)) := by decide +kernel
theorem dX6_viewNear_32 : decode cX6_viewNear 32 = .ok (.aload_n 0, 1) := fx_ok0 eX6_viewNear_32.1
theorem dX6_viewNear_33 : decode cX6_viewNear 33 = .ok (.getfield 18, 3) := fx_ok0 eX6_viewNear_32.2.1
theorem dX6_viewNear_36 : decode cX6_viewNear 36 = .ok (.iload_n 1, 1) := fx_ok0 eX6_viewNear_32.2.2.1
theorem dX6_viewNear_37 : decode cX6_viewNear 37 = .ok (.aaload, 1) := fx_ok0 eX6_viewNear_32.2.2.2.1
theorem dX6_viewNear_38 : decode cX6_viewNear 38 = .ok (.aload_n 0, 1) := fx_ok0 eX6_viewNear_32.2.2.2.2.1
theorem dX6_viewNear_39 : decode cX6_viewNear 39 = .ok (.getfield 18, 3) := fx_ok0 eX6_viewNear_32.2.2.2.2.2.1
theorem dX6_viewNear_42 : decode cX6_viewNear 42 = .ok (.iload_n 1, 1) := fx_ok0 eX6_viewNear_32.2.2.2.2.2.2.1
theorem dX6_viewNear_43 : decode cX6_viewNear 43 = .ok (.aaload, 1) := fx_ok0 eX6_viewNear_32.2.2.2.2.2.2.2.1
theorem dX6_viewNear_44 : decode cX6_viewNear 44 = .ok (.iload_n 2, 1) := fx_ok0 eX6_viewNear_32.2.2.2.2.2.2.2.2.1
theorem dX6_viewNear_45 : decode cX6_viewNear 45 = .ok (.iload_n 3, 1) := fx_ok0 eX6_viewNear_32.2.2.2.2.2.2.2.2.2.1
theorem dX6_viewNear_46 : decode cX6_viewNear 46 = .ok (.aload_n 0, 1) := fx_ok0 eX6_viewNear_32.2.2.2.2.2.2.2.2.2.2.1
theorem dX6_viewNear_47 : decode cX6_viewNear 47 = .ok (.getfield 21, 3) := fx_ok0 eX6_viewNear_32.2.2.2.2.2.2.2.2.2.2.2.1
theorem dX6_viewNear_50 : decode cX6_viewNear 50 = .ok (.iload_n 1, 1) := fx_ok0 eX6_viewNear_32.2.2.2.2.2.2.2.2.2.2.2.2.1
theorem dX6_viewNear_51 : decode cX6_viewNear 51 = .ok (.iaload, 1) := fx_ok0 eX6_viewNear_32.2.2.2.2.2.2.2.2.2.2.2.2.2.1
theorem dX6_viewNear_52 : decode cX6_viewNear 52 = .ok (.aload_n 0, 1) := fx_ok0 eX6_viewNear_32.2.2.2.2.2.2.2.2.2.2.2.2.2.2.1
theorem dX6_viewNear_53 : decode cX6_viewNear 53 = .ok (.getfield 25, 3) := fx_ok0 eX6_viewNear_32.2.2.2.2.2.2.2.2.2.2.2.2.2.2.2
theorem eX6_viewNear_56 : (fdecl cX6_viewNear.data.toList 56 = some (.iload_n 1, 1)) ∧ (fdecl cX6_viewNear.data.toList 57 = some (.iaload, 1)) ∧ (fdecl cX6_viewNear.data.toList 58 = some (.invokevirtual 124, 3)) ∧ (fdecl cX6_viewNear.data.toList 61 = some (.iconst 1, 1)) ∧ (fdecl cX6_viewNear.data.toList 62 = some (.invokestatic 128, 3)) ∧ (fdecl cX6_viewNear.data.toList 65 = some (.goto 4, 3)) ∧ (fdecl cX6_viewNear.data.toList 68 = some (.iconst 0, 1)) ∧ (fdecl cX6_viewNear.data.toList 69 = some (.ireturn, 1)) := by decide +kernel
theorem dX6_viewNear_56 : decode cX6_viewNear 56 = .ok (.iload_n 1, 1) := fx_ok0 eX6_viewNear_56.1
theorem dX6_viewNear_57 : decode cX6_viewNear 57 = .ok (.iaload, 1) := fx_ok0 eX6_viewNear_56.2.1
theorem dX6_viewNear_58 : decode cX6_viewNear 58 = .ok (.invokevirtual 124, 3) := fx_ok0 eX6_viewNear_56.2.2.1
theorem dX6_viewNear_61 : decode cX6_viewNear 61 = .ok (.iconst 1, 1) := fx_ok0 eX6_viewNear_56.2.2.2.1
theorem dX6_viewNear_62 : decode cX6_viewNear 62 = .ok (.invokestatic 128, 3) := fx_ok0 eX6_viewNear_56.2.2.2.2.1
theorem dX6_viewNear_65 : decode cX6_viewNear 65 = .ok (.goto 4, 3) := fx_ok0 eX6_viewNear_56.2.2.2.2.2.1
theorem dX6_viewNear_68 : decode cX6_viewNear 68 = .ok (.iconst 0, 1) := fx_ok0 eX6_viewNear_56.2.2.2.2.2.2.1
theorem dX6_viewNear_69 : decode cX6_viewNear 69 = .ok (.ireturn, 1) := fx_ok0 eX6_viewNear_56.2.2.2.2.2.2.2
theorem eX6_sum_0 : (fdecl cX6_sum.data.toList 0 = some (.iconst 0, 1)) ∧ (fdecl cX6_sum.data.toList 1 = some (.istore_n 2, 1)) ∧ (fdecl cX6_sum.data.toList 2 = some (.aload_n 0, 1)) ∧ (fdecl cX6_sum.data.toList 3 = some (.getfield 21, 3)) ∧ (fdecl cX6_sum.data.toList 6 = some (.iload_n 1, 1)) ∧ (fdecl cX6_sum.data.toList 7 = some (.iaload, 1)) ∧ (fdecl cX6_sum.data.toList 8 = some (.istore_n 3, 1)) ∧ (fdecl cX6_sum.data.toList 9 = some (.iload_n 3, 1)) ∧ (fdecl cX6_sum.data.toList 10 = some (.aload_n 0, 1)) ∧ (fdecl cX6_sum.data.toList 11 = some (.getfield 25, 3)) ∧ (fdecl cX6_sum.data.toList 14 = some (.iload_n 1, 1)) ∧ (fdecl cX6_sum.data.toList 15 = some (.iaload, 1)) ∧ (fdecl cX6_sum.data.toList 16 = some (.if_icmp .gt 36, 3)) ∧ (fdecl cX6_sum.data.toList 19 = some (.iload_n 2, 1)) ∧ (fdecl cX6_sum.data.toList 20 = some (.iconst 0, 1)) ∧ (fdecl cX6_sum.data.toList 21 = some (.aload_n 0, 1)) := by decide +kernel
theorem dX6_sum_0 : decode cX6_sum 0 = .ok (.iconst 0, 1) := fx_ok0 eX6_sum_0.1
theorem dX6_sum_1 : decode cX6_sum 1 = .ok (.istore_n 2, 1) := fx_ok0 eX6_sum_0.2.1
theorem dX6_sum_2 : decode cX6_sum 2 = .ok (.aload_n 0, 1) := fx_ok0 eX6_sum_0.2.2.1
theorem dX6_sum_3 : decode cX6_sum 3 = .ok (.getfield 21, 3) := fx_ok0 eX6_sum_0.2.2.2.1
theorem dX6_sum_6 : decode cX6_sum 6 = .ok (.iload_n 1, 1) := fx_ok0 eX6_sum_0.2.2.2.2.1
theorem dX6_sum_7 : decode cX6_sum 7 = .ok (.iaload, 1) := fx_ok0 eX6_sum_0.2.2.2.2.2.1
theorem dX6_sum_8 : decode cX6_sum 8 = .ok (.istore_n 3, 1) := fx_ok0 eX6_sum_0.2.2.2.2.2.2.1
theorem dX6_sum_9 : decode cX6_sum 9 = .ok (.iload_n 3, 1) := fx_ok0 eX6_sum_0.2.2.2.2.2.2.2.1
theorem dX6_sum_10 : decode cX6_sum 10 = .ok (.aload_n 0, 1) := fx_ok0 eX6_sum_0.2.2.2.2.2.2.2.2.1
theorem dX6_sum_11 : decode cX6_sum 11 = .ok (.getfield 25, 3) := fx_ok0 eX6_sum_0.2.2.2.2.2.2.2.2.2.1
theorem dX6_sum_14 : decode cX6_sum 14 = .ok (.iload_n 1, 1) := fx_ok0 eX6_sum_0.2.2.2.2.2.2.2.2.2.2.1
theorem dX6_sum_15 : decode cX6_sum 15 = .ok (.iaload, 1) := fx_ok0 eX6_sum_0.2.2.2.2.2.2.2.2.2.2.2.1
theorem dX6_sum_16 : decode cX6_sum 16 = .ok (.if_icmp .gt 36, 3) := fx_ok0 eX6_sum_0.2.2.2.2.2.2.2.2.2.2.2.2.1
theorem dX6_sum_19 : decode cX6_sum 19 = .ok (.iload_n 2, 1) := fx_ok0 eX6_sum_0.2.2.2.2.2.2.2.2.2.2.2.2.2.1
theorem dX6_sum_20 : decode cX6_sum 20 = .ok (.iconst 0, 1) := fx_ok0 eX6_sum_0.2.2.2.2.2.2.2.2.2.2.2.2.2.2.1
theorem dX6_sum_21 : decode cX6_sum 21 = .ok (.aload_n 0, 1) := fx_ok0 eX6_sum_0.2.2.2.2.2.2.2.2.2.2.2.2.2.2.2
theorem eX6_sum_22 : (fdecl cX6_sum.data.toList 22 = some (.getfield 18, 3)) ∧ (fdecl cX6_sum.data.toList 25 = some (.iload_n 1, 1)) ∧ (fdecl cX6_sum.data.toList 26 = some (.aaload, 1)) ∧ (fdecl cX6_sum.data.toList 27 = some (.getfield 53, 3)) ∧ (fdecl cX6_sum.data.toList 30 = some (.aload_n 0, 1)) ∧ (fdecl cX6_sum.data.toList 31 = some (.getfield 18, 3)) ∧ (fdecl cX6_sum.data.toList 34 = some (.iload_n 1, 1)) ∧ (fdecl cX6_sum.data.toList 35 = some (.aaload, 1)) ∧ (fdecl cX6_sum.data.toList 36 = some (.iload_n 3, 1)) ∧ (fdecl cX6_sum.data.toList 37 = some (.invokevirtual 100, 3)) ∧ (fdecl cX6_sum.data.toList 40 = some (.iaload, 1)) ∧ (fdecl cX6_sum.data.toList 41 = some (.invokestatic 178, 3)) ∧ (fdecl cX6_sum.data.toList 44 = some (.iadd, 1)) ∧ (fdecl cX6_sum.data.toList 45 = some (.istore_n 2, 1)) ∧ (fdecl cX6_sum.data.toList 49 = some (.goto (-40), 3)) ∧ (fdecl cX6_sum.data.toList 52 = some (.iload_n 2, 1)) := by decide +kernel
theorem dX6_sum_22 : decode cX6_sum 22 = .ok (.getfield 18, 3) := fx_ok0 eX6_sum_22.1
theorem dX6_sum_25 : decode cX6_sum 25 = .ok (.iload_n 1, 1) := fx_ok0 eX6_sum_22.2.1
theorem dX6_sum_26 : decode cX6_sum 26 = .ok (.aaload, 1) := fx_ok0 eX6_sum_22.2.2.1
theorem dX6_sum_27 : decode cX6_sum 27 = .ok (.getfield 53, 3) := fx_ok0 eX6_sum_22.2.2.2.1
theorem dX6_sum_30 : decode cX6_sum 30 = .ok (.aload_n 0, 1) := fx_ok0 eX6_sum_22.2.2.2.2.1
theorem dX6_sum_31 : decode cX6_sum 31 = .ok (.getfield 18, 3) := fx_ok0 eX6_sum_22.2.2.2.2.2.1
theorem dX6_sum_34 : decode cX6_sum 34 = .ok (.iload_n 1, 1) := fx_ok0 eX6_sum_22.2.2.2.2.2.2.1
theorem dX6_sum_35 : decode cX6_sum 35 = .ok (.aaload, 1) := fx_ok0 eX6_sum_22.2.2.2.2.2.2.2.1
theorem dX6_sum_36 : decode cX6_sum 36 = .ok (.iload_n 3, 1) := fx_ok0 eX6_sum_22.2.2.2.2.2.2.2.2.1
theorem dX6_sum_37 : decode cX6_sum 37 = .ok (.invokevirtual 100, 3) := fx_ok0 eX6_sum_22.2.2.2.2.2.2.2.2.2.1
theorem dX6_sum_40 : decode cX6_sum 40 = .ok (.iaload, 1) := fx_ok0 eX6_sum_22.2.2.2.2.2.2.2.2.2.2.1
theorem dX6_sum_41 : decode cX6_sum 41 = .ok (.invokestatic 178, 3) := fx_ok0 eX6_sum_22.2.2.2.2.2.2.2.2.2.2.2.1
theorem dX6_sum_44 : decode cX6_sum 44 = .ok (.iadd, 1) := fx_ok0 eX6_sum_22.2.2.2.2.2.2.2.2.2.2.2.2.1
theorem dX6_sum_45 : decode cX6_sum 45 = .ok (.istore_n 2, 1) := fx_ok0 eX6_sum_22.2.2.2.2.2.2.2.2.2.2.2.2.2.1
theorem dX6_sum_49 : decode cX6_sum 49 = .ok (.goto (-40), 3) := fx_ok0 eX6_sum_22.2.2.2.2.2.2.2.2.2.2.2.2.2.2.1
theorem dX6_sum_52 : decode cX6_sum 52 = .ok (.iload_n 2, 1) := fx_ok0 eX6_sum_22.2.2.2.2.2.2.2.2.2.2.2.2.2.2.2
theorem eX6_sum_53 : (fdecl cX6_sum.data.toList 53 = some (.ireturn, 1)) := by decide +kernel
theorem dX6_sum_53 : decode cX6_sum 53 = .ok (.ireturn, 1) := fx_ok0 eX6_sum_53
theorem dX6_sum_46 : decode cX6_sum 46 = .ok (.iinc 3 1, 3) := by decide +kernel
def fAX6_viewTell_0 : List UInt8 := [42, 27, 184, 0, 168, 28, 3, 6, 184, 0, 41, 182, 0, 63, 154, 0, 5, 3, 172, 28, 153, 0, 8, 28, 6, 160, 0, 21, 28, 154, 0, 11, 42, 27, 182, 0, 171, 167, 0, 8, 42, 27, 182, 0, 183, 172, 28, 4, 160, 0, 27, 42, 180, 0, 18, 27, 50, 42, 180, 0, 21, 27, 46, 42]
def fAX6_viewTell_1 : List UInt8 := [180, 0, 25, 27, 46, 182, 0, 111, 167, 0, 24, 42, 180, 0, 18, 27, 50, 42, 180, 0, 21, 27, 46, 42, 180, 0, 25, 27, 46, 182, 0, 114, 62, 29, 2, 160, 0, 10, 42, 182, 0, 89, 167, 0, 4, 29, 172]
def fTX6_viewTell_1 : List UInt8 := fAX6_viewTell_1
def fTX6_viewTell_0 : List UInt8 := fAX6_viewTell_0 ++ fTX6_viewTell_1
theorem fDX6_viewTell_0 : cX6_viewTell.data.toList.drop 0 = fTX6_viewTell_0 := eq_of_beq (by decide +kernel)
theorem fDX6_viewTell_1 : cX6_viewTell.data.toList.drop 64 = fTX6_viewTell_1 := fx_nx (d := 0) (n := 64) (a := fAX6_viewTell_0) fDX6_viewTell_0 rfl
theorem eX6_viewTell_0 : (fdecl fTX6_viewTell_0 0 = some (.aload_n 0, 1)) ∧ (fdecl fTX6_viewTell_0 1 = some (.iload_n 1, 1)) ∧ (fdecl fTX6_viewTell_0 2 = some (.invokestatic 168, 3)) ∧ (fdecl fTX6_viewTell_0 5 = some (.iload_n 2, 1)) ∧ (fdecl fTX6_viewTell_0 6 = some (.iconst 0, 1)) ∧ (fdecl fTX6_viewTell_0 7 = some (.iconst 3, 1)) ∧ (fdecl fTX6_viewTell_0 8 = some (.invokestatic 41, 3)) ∧ (fdecl fTX6_viewTell_0 11 = some (.invokevirtual 63, 3)) ∧ (fdecl fTX6_viewTell_0 14 = some (.ifCond .ne 5, 3)) ∧ (fdecl fTX6_viewTell_0 17 = some (.iconst 0, 1)) ∧ (fdecl fTX6_viewTell_0 18 = some (.ireturn, 1)) ∧ (fdecl fTX6_viewTell_0 19 = some (.iload_n 2, 1)) ∧ (fdecl fTX6_viewTell_0 20 = some (.ifCond .eq 8, 3)) ∧ (fdecl fTX6_viewTell_0 23 = some (.iload_n 2, 1)) ∧ (fdecl fTX6_viewTell_0 24 = some (.iconst 3, 1)) ∧ (fdecl fTX6_viewTell_0 25 = some (.if_icmp .ne 21, 3)) := by decide +kernel
theorem dX6_viewTell_0 : decode cX6_viewTell 0 = .ok (.aload_n 0, 1) := fx_ok (d := 0) (i := 0) fDX6_viewTell_0 eX6_viewTell_0.1
theorem dX6_viewTell_1 : decode cX6_viewTell 1 = .ok (.iload_n 1, 1) := fx_ok (d := 0) (i := 1) fDX6_viewTell_0 eX6_viewTell_0.2.1
theorem dX6_viewTell_2 : decode cX6_viewTell 2 = .ok (.invokestatic 168, 3) := fx_ok (d := 0) (i := 2) fDX6_viewTell_0 eX6_viewTell_0.2.2.1
theorem dX6_viewTell_5 : decode cX6_viewTell 5 = .ok (.iload_n 2, 1) := fx_ok (d := 0) (i := 5) fDX6_viewTell_0 eX6_viewTell_0.2.2.2.1
theorem dX6_viewTell_6 : decode cX6_viewTell 6 = .ok (.iconst 0, 1) := fx_ok (d := 0) (i := 6) fDX6_viewTell_0 eX6_viewTell_0.2.2.2.2.1
theorem dX6_viewTell_7 : decode cX6_viewTell 7 = .ok (.iconst 3, 1) := fx_ok (d := 0) (i := 7) fDX6_viewTell_0 eX6_viewTell_0.2.2.2.2.2.1
theorem dX6_viewTell_8 : decode cX6_viewTell 8 = .ok (.invokestatic 41, 3) := fx_ok (d := 0) (i := 8) fDX6_viewTell_0 eX6_viewTell_0.2.2.2.2.2.2.1
theorem dX6_viewTell_11 : decode cX6_viewTell 11 = .ok (.invokevirtual 63, 3) := fx_ok (d := 0) (i := 11) fDX6_viewTell_0 eX6_viewTell_0.2.2.2.2.2.2.2.1
theorem dX6_viewTell_14 : decode cX6_viewTell 14 = .ok (.ifCond .ne 5, 3) := fx_ok (d := 0) (i := 14) fDX6_viewTell_0 eX6_viewTell_0.2.2.2.2.2.2.2.2.1
theorem dX6_viewTell_17 : decode cX6_viewTell 17 = .ok (.iconst 0, 1) := fx_ok (d := 0) (i := 17) fDX6_viewTell_0 eX6_viewTell_0.2.2.2.2.2.2.2.2.2.1
theorem dX6_viewTell_18 : decode cX6_viewTell 18 = .ok (.ireturn, 1) := fx_ok (d := 0) (i := 18) fDX6_viewTell_0 eX6_viewTell_0.2.2.2.2.2.2.2.2.2.2.1
theorem dX6_viewTell_19 : decode cX6_viewTell 19 = .ok (.iload_n 2, 1) := fx_ok (d := 0) (i := 19) fDX6_viewTell_0 eX6_viewTell_0.2.2.2.2.2.2.2.2.2.2.2.1
theorem dX6_viewTell_20 : decode cX6_viewTell 20 = .ok (.ifCond .eq 8, 3) := fx_ok (d := 0) (i := 20) fDX6_viewTell_0 eX6_viewTell_0.2.2.2.2.2.2.2.2.2.2.2.2.1
theorem dX6_viewTell_23 : decode cX6_viewTell 23 = .ok (.iload_n 2, 1) := fx_ok (d := 0) (i := 23) fDX6_viewTell_0 eX6_viewTell_0.2.2.2.2.2.2.2.2.2.2.2.2.2.1
theorem dX6_viewTell_24 : decode cX6_viewTell 24 = .ok (.iconst 3, 1) := fx_ok (d := 0) (i := 24) fDX6_viewTell_0 eX6_viewTell_0.2.2.2.2.2.2.2.2.2.2.2.2.2.2.1
theorem dX6_viewTell_25 : decode cX6_viewTell 25 = .ok (.if_icmp .ne 21, 3) := fx_ok (d := 0) (i := 25) fDX6_viewTell_0 eX6_viewTell_0.2.2.2.2.2.2.2.2.2.2.2.2.2.2.2
theorem eX6_viewTell_28 : (fdecl fTX6_viewTell_0 28 = some (.iload_n 2, 1)) ∧ (fdecl fTX6_viewTell_0 29 = some (.ifCond .ne 11, 3)) ∧ (fdecl fTX6_viewTell_0 32 = some (.aload_n 0, 1)) ∧ (fdecl fTX6_viewTell_0 33 = some (.iload_n 1, 1)) ∧ (fdecl fTX6_viewTell_0 34 = some (.invokevirtual 171, 3)) ∧ (fdecl fTX6_viewTell_0 37 = some (.goto 8, 3)) ∧ (fdecl fTX6_viewTell_0 40 = some (.aload_n 0, 1)) ∧ (fdecl fTX6_viewTell_0 41 = some (.iload_n 1, 1)) ∧ (fdecl fTX6_viewTell_0 42 = some (.invokevirtual 183, 3)) ∧ (fdecl fTX6_viewTell_0 45 = some (.ireturn, 1)) ∧ (fdecl fTX6_viewTell_0 46 = some (.iload_n 2, 1)) ∧ (fdecl fTX6_viewTell_0 47 = some (.iconst 1, 1)) ∧ (fdecl fTX6_viewTell_0 48 = some (.if_icmp .ne 27, 3)) ∧ (fdecl fTX6_viewTell_0 51 = some (.aload_n 0, 1)) ∧ (fdecl fTX6_viewTell_0 52 = some (.getfield 18, 3)) ∧ (fdecl fTX6_viewTell_0 55 = some (.iload_n 1, 1)) := by decide +kernel
theorem dX6_viewTell_28 : decode cX6_viewTell 28 = .ok (.iload_n 2, 1) := fx_ok (d := 0) (i := 28) fDX6_viewTell_0 eX6_viewTell_28.1
theorem dX6_viewTell_29 : decode cX6_viewTell 29 = .ok (.ifCond .ne 11, 3) := fx_ok (d := 0) (i := 29) fDX6_viewTell_0 eX6_viewTell_28.2.1
theorem dX6_viewTell_32 : decode cX6_viewTell 32 = .ok (.aload_n 0, 1) := fx_ok (d := 0) (i := 32) fDX6_viewTell_0 eX6_viewTell_28.2.2.1
theorem dX6_viewTell_33 : decode cX6_viewTell 33 = .ok (.iload_n 1, 1) := fx_ok (d := 0) (i := 33) fDX6_viewTell_0 eX6_viewTell_28.2.2.2.1
theorem dX6_viewTell_34 : decode cX6_viewTell 34 = .ok (.invokevirtual 171, 3) := fx_ok (d := 0) (i := 34) fDX6_viewTell_0 eX6_viewTell_28.2.2.2.2.1
theorem dX6_viewTell_37 : decode cX6_viewTell 37 = .ok (.goto 8, 3) := fx_ok (d := 0) (i := 37) fDX6_viewTell_0 eX6_viewTell_28.2.2.2.2.2.1
theorem dX6_viewTell_40 : decode cX6_viewTell 40 = .ok (.aload_n 0, 1) := fx_ok (d := 0) (i := 40) fDX6_viewTell_0 eX6_viewTell_28.2.2.2.2.2.2.1
theorem dX6_viewTell_41 : decode cX6_viewTell 41 = .ok (.iload_n 1, 1) := fx_ok (d := 0) (i := 41) fDX6_viewTell_0 eX6_viewTell_28.2.2.2.2.2.2.2.1
theorem dX6_viewTell_42 : decode cX6_viewTell 42 = .ok (.invokevirtual 183, 3) := fx_ok (d := 0) (i := 42) fDX6_viewTell_0 eX6_viewTell_28.2.2.2.2.2.2.2.2.1
theorem dX6_viewTell_45 : decode cX6_viewTell 45 = .ok (.ireturn, 1) := fx_ok (d := 0) (i := 45) fDX6_viewTell_0 eX6_viewTell_28.2.2.2.2.2.2.2.2.2.1
theorem dX6_viewTell_46 : decode cX6_viewTell 46 = .ok (.iload_n 2, 1) := fx_ok (d := 0) (i := 46) fDX6_viewTell_0 eX6_viewTell_28.2.2.2.2.2.2.2.2.2.2.1
theorem dX6_viewTell_47 : decode cX6_viewTell 47 = .ok (.iconst 1, 1) := fx_ok (d := 0) (i := 47) fDX6_viewTell_0 eX6_viewTell_28.2.2.2.2.2.2.2.2.2.2.2.1
theorem dX6_viewTell_48 : decode cX6_viewTell 48 = .ok (.if_icmp .ne 27, 3) := fx_ok (d := 0) (i := 48) fDX6_viewTell_0 eX6_viewTell_28.2.2.2.2.2.2.2.2.2.2.2.2.1
theorem dX6_viewTell_51 : decode cX6_viewTell 51 = .ok (.aload_n 0, 1) := fx_ok (d := 0) (i := 51) fDX6_viewTell_0 eX6_viewTell_28.2.2.2.2.2.2.2.2.2.2.2.2.2.1
theorem dX6_viewTell_52 : decode cX6_viewTell 52 = .ok (.getfield 18, 3) := fx_ok (d := 0) (i := 52) fDX6_viewTell_0 eX6_viewTell_28.2.2.2.2.2.2.2.2.2.2.2.2.2.2.1
theorem dX6_viewTell_55 : decode cX6_viewTell 55 = .ok (.iload_n 1, 1) := fx_ok (d := 0) (i := 55) fDX6_viewTell_0 eX6_viewTell_28.2.2.2.2.2.2.2.2.2.2.2.2.2.2.2
theorem eX6_viewTell_56 : (fdecl fTX6_viewTell_0 56 = some (.aaload, 1)) ∧ (fdecl fTX6_viewTell_0 57 = some (.aload_n 0, 1)) ∧ (fdecl fTX6_viewTell_0 58 = some (.getfield 21, 3)) ∧ (fdecl fTX6_viewTell_0 61 = some (.iload_n 1, 1)) ∧ (fdecl fTX6_viewTell_0 62 = some (.iaload, 1)) ∧ (fdecl fTX6_viewTell_0 63 = some (.aload_n 0, 1)) ∧ (fdecl fTX6_viewTell_1 0 = some (.getfield 25, 3)) ∧ (fdecl fTX6_viewTell_1 3 = some (.iload_n 1, 1)) ∧ (fdecl fTX6_viewTell_1 4 = some (.iaload, 1)) ∧ (fdecl fTX6_viewTell_1 5 = some (.invokevirtual 111, 3)) ∧ (fdecl fTX6_viewTell_1 8 = some (.goto 24, 3)) ∧ (fdecl fTX6_viewTell_1 11 = some (.aload_n 0, 1)) ∧ (fdecl fTX6_viewTell_1 12 = some (.getfield 18, 3)) ∧ (fdecl fTX6_viewTell_1 15 = some (.iload_n 1, 1)) ∧ (fdecl fTX6_viewTell_1 16 = some (.aaload, 1)) ∧ (fdecl fTX6_viewTell_1 17 = some (.aload_n 0, 1)) := by decide +kernel
theorem dX6_viewTell_56 : decode cX6_viewTell 56 = .ok (.aaload, 1) := fx_ok (d := 0) (i := 56) fDX6_viewTell_0 eX6_viewTell_56.1
theorem dX6_viewTell_57 : decode cX6_viewTell 57 = .ok (.aload_n 0, 1) := fx_ok (d := 0) (i := 57) fDX6_viewTell_0 eX6_viewTell_56.2.1
theorem dX6_viewTell_58 : decode cX6_viewTell 58 = .ok (.getfield 21, 3) := fx_ok (d := 0) (i := 58) fDX6_viewTell_0 eX6_viewTell_56.2.2.1
theorem dX6_viewTell_61 : decode cX6_viewTell 61 = .ok (.iload_n 1, 1) := fx_ok (d := 0) (i := 61) fDX6_viewTell_0 eX6_viewTell_56.2.2.2.1
theorem dX6_viewTell_62 : decode cX6_viewTell 62 = .ok (.iaload, 1) := fx_ok (d := 0) (i := 62) fDX6_viewTell_0 eX6_viewTell_56.2.2.2.2.1
theorem dX6_viewTell_63 : decode cX6_viewTell 63 = .ok (.aload_n 0, 1) := fx_ok (d := 0) (i := 63) fDX6_viewTell_0 eX6_viewTell_56.2.2.2.2.2.1
theorem dX6_viewTell_64 : decode cX6_viewTell 64 = .ok (.getfield 25, 3) := fx_ok (d := 64) (i := 0) fDX6_viewTell_1 eX6_viewTell_56.2.2.2.2.2.2.1
theorem dX6_viewTell_67 : decode cX6_viewTell 67 = .ok (.iload_n 1, 1) := fx_ok (d := 64) (i := 3) fDX6_viewTell_1 eX6_viewTell_56.2.2.2.2.2.2.2.1
theorem dX6_viewTell_68 : decode cX6_viewTell 68 = .ok (.iaload, 1) := fx_ok (d := 64) (i := 4) fDX6_viewTell_1 eX6_viewTell_56.2.2.2.2.2.2.2.2.1
theorem dX6_viewTell_69 : decode cX6_viewTell 69 = .ok (.invokevirtual 111, 3) := fx_ok (d := 64) (i := 5) fDX6_viewTell_1 eX6_viewTell_56.2.2.2.2.2.2.2.2.2.1
theorem dX6_viewTell_72 : decode cX6_viewTell 72 = .ok (.goto 24, 3) := fx_ok (d := 64) (i := 8) fDX6_viewTell_1 eX6_viewTell_56.2.2.2.2.2.2.2.2.2.2.1
theorem dX6_viewTell_75 : decode cX6_viewTell 75 = .ok (.aload_n 0, 1) := fx_ok (d := 64) (i := 11) fDX6_viewTell_1 eX6_viewTell_56.2.2.2.2.2.2.2.2.2.2.2.1
theorem dX6_viewTell_76 : decode cX6_viewTell 76 = .ok (.getfield 18, 3) := fx_ok (d := 64) (i := 12) fDX6_viewTell_1 eX6_viewTell_56.2.2.2.2.2.2.2.2.2.2.2.2.1
theorem dX6_viewTell_79 : decode cX6_viewTell 79 = .ok (.iload_n 1, 1) := fx_ok (d := 64) (i := 15) fDX6_viewTell_1 eX6_viewTell_56.2.2.2.2.2.2.2.2.2.2.2.2.2.1
theorem dX6_viewTell_80 : decode cX6_viewTell 80 = .ok (.aaload, 1) := fx_ok (d := 64) (i := 16) fDX6_viewTell_1 eX6_viewTell_56.2.2.2.2.2.2.2.2.2.2.2.2.2.2.1
theorem dX6_viewTell_81 : decode cX6_viewTell 81 = .ok (.aload_n 0, 1) := fx_ok (d := 64) (i := 17) fDX6_viewTell_1 eX6_viewTell_56.2.2.2.2.2.2.2.2.2.2.2.2.2.2.2
theorem eX6_viewTell_82 : (fdecl fTX6_viewTell_1 18 = some (.getfield 21, 3)) ∧ (fdecl fTX6_viewTell_1 21 = some (.iload_n 1, 1)) ∧ (fdecl fTX6_viewTell_1 22 = some (.iaload, 1)) ∧ (fdecl fTX6_viewTell_1 23 = some (.aload_n 0, 1)) ∧ (fdecl fTX6_viewTell_1 24 = some (.getfield 25, 3)) ∧ (fdecl fTX6_viewTell_1 27 = some (.iload_n 1, 1)) ∧ (fdecl fTX6_viewTell_1 28 = some (.iaload, 1)) ∧ (fdecl fTX6_viewTell_1 29 = some (.invokevirtual 114, 3)) ∧ (fdecl fTX6_viewTell_1 32 = some (.istore_n 3, 1)) ∧ (fdecl fTX6_viewTell_1 33 = some (.iload_n 3, 1)) ∧ (fdecl fTX6_viewTell_1 34 = some (.iconst (-1), 1)) ∧ (fdecl fTX6_viewTell_1 35 = some (.if_icmp .ne 10, 3)) ∧ (fdecl fTX6_viewTell_1 38 = some (.aload_n 0, 1)) ∧ (fdecl fTX6_viewTell_1 39 = some (.invokevirtual 89, 3)) ∧ (fdecl fTX6_viewTell_1 42 = some (.goto 4, 3)) ∧ (fdecl fTX6_viewTell_1 45 = some (.iload_n 3, 1)) := by decide +kernel
theorem dX6_viewTell_82 : decode cX6_viewTell 82 = .ok (.getfield 21, 3) := fx_ok (d := 64) (i := 18) fDX6_viewTell_1 eX6_viewTell_82.1
theorem dX6_viewTell_85 : decode cX6_viewTell 85 = .ok (.iload_n 1, 1) := fx_ok (d := 64) (i := 21) fDX6_viewTell_1 eX6_viewTell_82.2.1
theorem dX6_viewTell_86 : decode cX6_viewTell 86 = .ok (.iaload, 1) := fx_ok (d := 64) (i := 22) fDX6_viewTell_1 eX6_viewTell_82.2.2.1
theorem dX6_viewTell_87 : decode cX6_viewTell 87 = .ok (.aload_n 0, 1) := fx_ok (d := 64) (i := 23) fDX6_viewTell_1 eX6_viewTell_82.2.2.2.1
theorem dX6_viewTell_88 : decode cX6_viewTell 88 = .ok (.getfield 25, 3) := fx_ok (d := 64) (i := 24) fDX6_viewTell_1 eX6_viewTell_82.2.2.2.2.1
theorem dX6_viewTell_91 : decode cX6_viewTell 91 = .ok (.iload_n 1, 1) := fx_ok (d := 64) (i := 27) fDX6_viewTell_1 eX6_viewTell_82.2.2.2.2.2.1
theorem dX6_viewTell_92 : decode cX6_viewTell 92 = .ok (.iaload, 1) := fx_ok (d := 64) (i := 28) fDX6_viewTell_1 eX6_viewTell_82.2.2.2.2.2.2.1
theorem dX6_viewTell_93 : decode cX6_viewTell 93 = .ok (.invokevirtual 114, 3) := fx_ok (d := 64) (i := 29) fDX6_viewTell_1 eX6_viewTell_82.2.2.2.2.2.2.2.1
theorem dX6_viewTell_96 : decode cX6_viewTell 96 = .ok (.istore_n 3, 1) := fx_ok (d := 64) (i := 32) fDX6_viewTell_1 eX6_viewTell_82.2.2.2.2.2.2.2.2.1
theorem dX6_viewTell_97 : decode cX6_viewTell 97 = .ok (.iload_n 3, 1) := fx_ok (d := 64) (i := 33) fDX6_viewTell_1 eX6_viewTell_82.2.2.2.2.2.2.2.2.2.1
theorem dX6_viewTell_98 : decode cX6_viewTell 98 = .ok (.iconst (-1), 1) := fx_ok (d := 64) (i := 34) fDX6_viewTell_1 eX6_viewTell_82.2.2.2.2.2.2.2.2.2.2.1
theorem dX6_viewTell_99 : decode cX6_viewTell 99 = .ok (.if_icmp .ne 10, 3) := fx_ok (d := 64) (i := 35) fDX6_viewTell_1 eX6_viewTell_82.2.2.2.2.2.2.2.2.2.2.2.1
theorem dX6_viewTell_102 : decode cX6_viewTell 102 = .ok (.aload_n 0, 1) := fx_ok (d := 64) (i := 38) fDX6_viewTell_1 eX6_viewTell_82.2.2.2.2.2.2.2.2.2.2.2.2.1
theorem dX6_viewTell_103 : decode cX6_viewTell 103 = .ok (.invokevirtual 89, 3) := fx_ok (d := 64) (i := 39) fDX6_viewTell_1 eX6_viewTell_82.2.2.2.2.2.2.2.2.2.2.2.2.2.1
theorem dX6_viewTell_106 : decode cX6_viewTell 106 = .ok (.goto 4, 3) := fx_ok (d := 64) (i := 42) fDX6_viewTell_1 eX6_viewTell_82.2.2.2.2.2.2.2.2.2.2.2.2.2.2.1
theorem dX6_viewTell_109 : decode cX6_viewTell 109 = .ok (.iload_n 3, 1) := fx_ok (d := 64) (i := 45) fDX6_viewTell_1 eX6_viewTell_82.2.2.2.2.2.2.2.2.2.2.2.2.2.2.2
theorem eX6_viewTell_110 : (fdecl fTX6_viewTell_1 46 = some (.ireturn, 1)) := by decide +kernel
theorem dX6_viewTell_110 : decode cX6_viewTell 110 = .ok (.ireturn, 1) := fx_ok (d := 64) (i := 46) fDX6_viewTell_1 eX6_viewTell_110
theorem eX6_isGoing_0 : (fdecl cX6_isGoing.data.toList 0 = some (.aload_n 0, 1)) ∧ (fdecl cX6_isGoing.data.toList 1 = some (.getfield 45, 3)) ∧ (fdecl cX6_isGoing.data.toList 4 = some (.ifnull 14, 3)) ∧ (fdecl cX6_isGoing.data.toList 7 = some (.aload_n 0, 1)) ∧ (fdecl cX6_isGoing.data.toList 8 = some (.getfield 56, 3)) ∧ (fdecl cX6_isGoing.data.toList 11 = some (.ifCond .ne 7, 3)) ∧ (fdecl cX6_isGoing.data.toList 14 = some (.iconst 1, 1)) ∧ (fdecl cX6_isGoing.data.toList 15 = some (.goto 4, 3)) ∧ (fdecl cX6_isGoing.data.toList 18 = some (.iconst 0, 1)) ∧ (fdecl cX6_isGoing.data.toList 19 = some (.ireturn, 1)) := by decide +kernel
theorem dX6_isGoing_0 : decode cX6_isGoing 0 = .ok (.aload_n 0, 1) := fx_ok0 eX6_isGoing_0.1
theorem dX6_isGoing_1 : decode cX6_isGoing 1 = .ok (.getfield 45, 3) := fx_ok0 eX6_isGoing_0.2.1
theorem dX6_isGoing_4 : decode cX6_isGoing 4 = .ok (.ifnull 14, 3) := fx_ok0 eX6_isGoing_0.2.2.1
theorem dX6_isGoing_7 : decode cX6_isGoing 7 = .ok (.aload_n 0, 1) := fx_ok0 eX6_isGoing_0.2.2.2.1
theorem dX6_isGoing_8 : decode cX6_isGoing 8 = .ok (.getfield 56, 3) := fx_ok0 eX6_isGoing_0.2.2.2.2.1
theorem dX6_isGoing_11 : decode cX6_isGoing 11 = .ok (.ifCond .ne 7, 3) := fx_ok0 eX6_isGoing_0.2.2.2.2.2.1
theorem dX6_isGoing_14 : decode cX6_isGoing 14 = .ok (.iconst 1, 1) := fx_ok0 eX6_isGoing_0.2.2.2.2.2.2.1
theorem dX6_isGoing_15 : decode cX6_isGoing 15 = .ok (.goto 4, 3) := fx_ok0 eX6_isGoing_0.2.2.2.2.2.2.2.1
theorem dX6_isGoing_18 : decode cX6_isGoing 18 = .ok (.iconst 0, 1) := fx_ok0 eX6_isGoing_0.2.2.2.2.2.2.2.2.1
theorem dX6_isGoing_19 : decode cX6_isGoing 19 = .ok (.ireturn, 1) := fx_ok0 eX6_isGoing_0.2.2.2.2.2.2.2.2.2
theorem eX6_startWalk_0 : (fdecl cX6_startWalk.data.toList 0 = some (.aload_n 0, 1)) ∧ (fdecl cX6_startWalk.data.toList 1 = some (.iload_n 1, 1)) ∧ (fdecl cX6_startWalk.data.toList 2 = some (.invokestatic 60, 3)) ∧ (fdecl cX6_startWalk.data.toList 5 = some (.iconst 1, 1)) ∧ (fdecl cX6_startWalk.data.toList 6 = some (.invokevirtual 63, 3)) ∧ (fdecl cX6_startWalk.data.toList 9 = some (.ifCond .ne 5, 3)) ∧ (fdecl cX6_startWalk.data.toList 12 = some (.iconst 0, 1)) ∧ (fdecl cX6_startWalk.data.toList 13 = some (.ireturn, 1)) ∧ (fdecl cX6_startWalk.data.toList 14 = some (.aload_n 0, 1)) ∧ (fdecl cX6_startWalk.data.toList 15 = some (.aload_n 0, 1)) ∧ (fdecl cX6_startWalk.data.toList 16 = some (.getfield 11, 3)) ∧ (fdecl cX6_startWalk.data.toList 19 = some (.iload_n 1, 1)) ∧ (fdecl cX6_startWalk.data.toList 20 = some (.aaload, 1)) ∧ (fdecl cX6_startWalk.data.toList 21 = some (.putfield 45, 3)) ∧ (fdecl cX6_startWalk.data.toList 24 = some (.aload_n 0, 1)) ∧ (fdecl cX6_startWalk.data.toList 25 = some (.iconst 0, 1)) := by decide +kernel
theorem dX6_startWalk_0 : decode cX6_startWalk 0 = .ok (.aload_n 0, 1) := fx_ok0 eX6_startWalk_0.1
theorem dX6_startWalk_1 : decode cX6_startWalk 1 = .ok (.iload_n 1, 1) := fx_ok0 eX6_startWalk_0.2.1
theorem dX6_startWalk_2 : decode cX6_startWalk 2 = .ok (.invokestatic 60, 3) := fx_ok0 eX6_startWalk_0.2.2.1
theorem dX6_startWalk_5 : decode cX6_startWalk 5 = .ok (.iconst 1, 1) := fx_ok0 eX6_startWalk_0.2.2.2.1
theorem dX6_startWalk_6 : decode cX6_startWalk 6 = .ok (.invokevirtual 63, 3) := fx_ok0 eX6_startWalk_0.2.2.2.2.1
theorem dX6_startWalk_9 : decode cX6_startWalk 9 = .ok (.ifCond .ne 5, 3) := fx_ok0 eX6_startWalk_0.2.2.2.2.2.1
theorem dX6_startWalk_12 : decode cX6_startWalk 12 = .ok (.iconst 0, 1) := fx_ok0 eX6_startWalk_0.2.2.2.2.2.2.1
theorem dX6_startWalk_13 : decode cX6_startWalk 13 = .ok (.ireturn, 1) := fx_ok0 eX6_startWalk_0.2.2.2.2.2.2.2.1
theorem dX6_startWalk_14 : decode cX6_startWalk 14 = .ok (.aload_n 0, 1) := fx_ok0 eX6_startWalk_0.2.2.2.2.2.2.2.2.1
theorem dX6_startWalk_15 : decode cX6_startWalk 15 = .ok (.aload_n 0, 1) := fx_ok0 eX6_startWalk_0.2.2.2.2.2.2.2.2.2.1
theorem dX6_startWalk_16 : decode cX6_startWalk 16 = .ok (.getfield 11, 3) := fx_ok0 eX6_startWalk_0.2.2.2.2.2.2.2.2.2.2.1
theorem dX6_startWalk_19 : decode cX6_startWalk 19 = .ok (.iload_n 1, 1) := fx_ok0 eX6_startWalk_0.2.2.2.2.2.2.2.2.2.2.2.1
theorem dX6_startWalk_20 : decode cX6_startWalk 20 = .ok (.aaload, 1) := fx_ok0 eX6_startWalk_0.2.2.2.2.2.2.2.2.2.2.2.2.1
theorem dX6_startWalk_21 : decode cX6_startWalk 21 = .ok (.putfield 45, 3) := fx_ok0 eX6_startWalk_0.2.2.2.2.2.2.2.2.2.2.2.2.2.1
theorem dX6_startWalk_24 : decode cX6_startWalk 24 = .ok (.aload_n 0, 1) := fx_ok0 eX6_startWalk_0.2.2.2.2.2.2.2.2.2.2.2.2.2.2.1
theorem dX6_startWalk_25 : decode cX6_startWalk 25 = .ok (.iconst 0, 1) := fx_ok0 eX6_startWalk_0.2.2.2.2.2.2.2.2.2.2.2.2.2.2.2
theorem eX6_startWalk_26 : (fdecl cX6_startWalk.data.toList 26 = some (.putfield 56, 3)) ∧ (fdecl cX6_startWalk.data.toList 29 = some (.aload_n 0, 1)) ∧ (fdecl cX6_startWalk.data.toList 30 = some (.iconst (-1), 1)) ∧ (fdecl cX6_startWalk.data.toList 31 = some (.putfield 28, 3)) ∧ (fdecl cX6_startWalk.data.toList 34 = some (.aload_n 0, 1)) ∧ (fdecl cX6_startWalk.data.toList 35 = some (.iconst 0, 1)) ∧ (fdecl cX6_startWalk.data.toList 36 = some (.putfield 186, 3)) ∧ (fdecl cX6_startWalk.data.toList 39 = some (.aload_n 0, 1)) ∧ (fdecl cX6_startWalk.data.toList 40 = some (.getfield 45, 3)) ∧ (fdecl cX6_startWalk.data.toList 43 = some (.iconst 0, 1)) ∧ (fdecl cX6_startWalk.data.toList 44 = some (.bipush 99, 2)) ∧ (fdecl cX6_startWalk.data.toList 46 = some (.invokevirtual 67, 3)) ∧ (fdecl cX6_startWalk.data.toList 49 = some (.ireturn, 1)) := by decide +kernel
theorem dX6_startWalk_26 : decode cX6_startWalk 26 = .ok (.putfield 56, 3) := fx_ok0 eX6_startWalk_26.1
theorem dX6_startWalk_29 : decode cX6_startWalk 29 = .ok (.aload_n 0, 1) := fx_ok0 eX6_startWalk_26.2.1
theorem dX6_startWalk_30 : decode cX6_startWalk 30 = .ok (.iconst (-1), 1) := fx_ok0 eX6_startWalk_26.2.2.1
theorem dX6_startWalk_31 : decode cX6_startWalk 31 = .ok (.putfield 28, 3) := fx_ok0 eX6_startWalk_26.2.2.2.1
theorem dX6_startWalk_34 : decode cX6_startWalk 34 = .ok (.aload_n 0, 1) := fx_ok0 eX6_startWalk_26.2.2.2.2.1
theorem dX6_startWalk_35 : decode cX6_startWalk 35 = .ok (.iconst 0, 1) := fx_ok0 eX6_startWalk_26.2.2.2.2.2.1
theorem dX6_startWalk_36 : decode cX6_startWalk 36 = .ok (.putfield 186, 3) := fx_ok0 eX6_startWalk_26.2.2.2.2.2.2.1
theorem dX6_startWalk_39 : decode cX6_startWalk 39 = .ok (.aload_n 0, 1) := fx_ok0 eX6_startWalk_26.2.2.2.2.2.2.2.1
theorem dX6_startWalk_40 : decode cX6_startWalk 40 = .ok (.getfield 45, 3) := fx_ok0 eX6_startWalk_26.2.2.2.2.2.2.2.2.1
theorem dX6_startWalk_43 : decode cX6_startWalk 43 = .ok (.iconst 0, 1) := fx_ok0 eX6_startWalk_26.2.2.2.2.2.2.2.2.2.1
theorem dX6_startWalk_44 : decode cX6_startWalk 44 = .ok (.bipush 99, 2) := fx_ok0 eX6_startWalk_26.2.2.2.2.2.2.2.2.2.2.1
theorem dX6_startWalk_46 : decode cX6_startWalk 46 = .ok (.invokevirtual 67, 3) := fx_ok0 eX6_startWalk_26.2.2.2.2.2.2.2.2.2.2.2.1
theorem dX6_startWalk_49 : decode cX6_startWalk 49 = .ok (.ireturn, 1) := fx_ok0 eX6_startWalk_26.2.2.2.2.2.2.2.2.2.2.2.2
theorem eX6_walkNext_0 : (fdecl cX6_walkNext.data.toList 0 = some (.aload_n 0, 1)) ∧ (fdecl cX6_walkNext.data.toList 1 = some (.iconst 0, 1)) ∧ (fdecl cX6_walkNext.data.toList 2 = some (.putfield 38, 3)) ∧ (fdecl cX6_walkNext.data.toList 5 = some (.aload_n 0, 1)) ∧ (fdecl cX6_walkNext.data.toList 6 = some (.invokevirtual 189, 3)) ∧ (fdecl cX6_walkNext.data.toList 9 = some (.ifCond .ne 8, 3)) ∧ (fdecl cX6_walkNext.data.toList 12 = some (.aload_n 0, 1)) ∧ (fdecl cX6_walkNext.data.toList 13 = some (.invokevirtual 89, 3)) ∧ (fdecl cX6_walkNext.data.toList 16 = some (.ireturn, 1)) ∧ (fdecl cX6_walkNext.data.toList 17 = some (.aload_n 0, 1)) ∧ (fdecl cX6_walkNext.data.toList 18 = some (.getfield 45, 3)) ∧ (fdecl cX6_walkNext.data.toList 21 = some (.aload_n 0, 1)) ∧ (fdecl cX6_walkNext.data.toList 22 = some (.getfield 186, 3)) ∧ (fdecl cX6_walkNext.data.toList 25 = some (.bipush 99, 2)) ∧ (fdecl cX6_walkNext.data.toList 27 = some (.invokevirtual 111, 3)) ∧ (fdecl cX6_walkNext.data.toList 30 = some (.istore_n 1, 1)) := by decide +kernel
theorem dX6_walkNext_0 : decode cX6_walkNext 0 = .ok (.aload_n 0, 1) := fx_ok0 eX6_walkNext_0.1
theorem dX6_walkNext_1 : decode cX6_walkNext 1 = .ok (.iconst 0, 1) := fx_ok0 eX6_walkNext_0.2.1
theorem dX6_walkNext_2 : decode cX6_walkNext 2 = .ok (.putfield 38, 3) := fx_ok0 eX6_walkNext_0.2.2.1
theorem dX6_walkNext_5 : decode cX6_walkNext 5 = .ok (.aload_n 0, 1) := fx_ok0 eX6_walkNext_0.2.2.2.1
theorem dX6_walkNext_6 : decode cX6_walkNext 6 = .ok (.invokevirtual 189, 3) := fx_ok0 eX6_walkNext_0.2.2.2.2.1
theorem dX6_walkNext_9 : decode cX6_walkNext 9 = .ok (.ifCond .ne 8, 3) := fx_ok0 eX6_walkNext_0.2.2.2.2.2.1
theorem dX6_walkNext_12 : decode cX6_walkNext 12 = .ok (.aload_n 0, 1) := fx_ok0 eX6_walkNext_0.2.2.2.2.2.2.1
theorem dX6_walkNext_13 : decode cX6_walkNext 13 = .ok (.invokevirtual 89, 3) := fx_ok0 eX6_walkNext_0.2.2.2.2.2.2.2.1
theorem dX6_walkNext_16 : decode cX6_walkNext 16 = .ok (.ireturn, 1) := fx_ok0 eX6_walkNext_0.2.2.2.2.2.2.2.2.1
theorem dX6_walkNext_17 : decode cX6_walkNext 17 = .ok (.aload_n 0, 1) := fx_ok0 eX6_walkNext_0.2.2.2.2.2.2.2.2.2.1
theorem dX6_walkNext_18 : decode cX6_walkNext 18 = .ok (.getfield 45, 3) := fx_ok0 eX6_walkNext_0.2.2.2.2.2.2.2.2.2.2.1
theorem dX6_walkNext_21 : decode cX6_walkNext 21 = .ok (.aload_n 0, 1) := fx_ok0 eX6_walkNext_0.2.2.2.2.2.2.2.2.2.2.2.1
theorem dX6_walkNext_22 : decode cX6_walkNext 22 = .ok (.getfield 186, 3) := fx_ok0 eX6_walkNext_0.2.2.2.2.2.2.2.2.2.2.2.2.1
theorem dX6_walkNext_25 : decode cX6_walkNext 25 = .ok (.bipush 99, 2) := fx_ok0 eX6_walkNext_0.2.2.2.2.2.2.2.2.2.2.2.2.2.1
theorem dX6_walkNext_27 : decode cX6_walkNext 27 = .ok (.invokevirtual 111, 3) := fx_ok0 eX6_walkNext_0.2.2.2.2.2.2.2.2.2.2.2.2.2.2.1
theorem dX6_walkNext_30 : decode cX6_walkNext 30 = .ok (.istore_n 1, 1) := fx_ok0 eX6_walkNext_0.2.2.2.2.2.2.2.2.2.2.2.2.2.2.2
theorem eX6_walkNext_31 : (fdecl cX6_walkNext.data.toList 31 = some (.iload_n 1, 1)) ∧ (fdecl cX6_walkNext.data.toList 32 = some (.iconst (-1), 1)) ∧ (fdecl cX6_walkNext.data.toList 33 = some (.if_icmp .ne 5, 3)) ∧ (fdecl cX6_walkNext.data.toList 36 = some (.iconst (-1), 1)) ∧ (fdecl cX6_walkNext.data.toList 37 = some (.ireturn, 1)) ∧ (fdecl cX6_walkNext.data.toList 38 = some (.aload_n 0, 1)) ∧ (fdecl cX6_walkNext.data.toList 39 = some (.iload_n 1, 1)) ∧ (fdecl cX6_walkNext.data.toList 40 = some (.putfield 28, 3)) ∧ (fdecl cX6_walkNext.data.toList 43 = some (.aload_n 0, 1)) ∧ (fdecl cX6_walkNext.data.toList 44 = some (.aload_n 0, 1)) ∧ (fdecl cX6_walkNext.data.toList 45 = some (.getfield 45, 3)) ∧ (fdecl cX6_walkNext.data.toList 48 = some (.iload_n 1, 1)) ∧ (fdecl cX6_walkNext.data.toList 49 = some (.invokevirtual 93, 3)) ∧ (fdecl cX6_walkNext.data.toList 52 = some (.iconst 1, 1)) ∧ (fdecl cX6_walkNext.data.toList 53 = some (.iadd, 1)) ∧ (fdecl cX6_walkNext.data.toList 54 = some (.putfield 186, 3)) := by decide +kernel
theorem dX6_walkNext_31 : decode cX6_walkNext 31 = .ok (.iload_n 1, 1) := fx_ok0 eX6_walkNext_31.1
theorem dX6_walkNext_32 : decode cX6_walkNext 32 = .ok (.iconst (-1), 1) := fx_ok0 eX6_walkNext_31.2.1
theorem dX6_walkNext_33 : decode cX6_walkNext 33 = .ok (.if_icmp .ne 5, 3) := fx_ok0 eX6_walkNext_31.2.2.1
theorem dX6_walkNext_36 : decode cX6_walkNext 36 = .ok (.iconst (-1), 1) := fx_ok0 eX6_walkNext_31.2.2.2.1
theorem dX6_walkNext_37 : decode cX6_walkNext 37 = .ok (.ireturn, 1) := fx_ok0 eX6_walkNext_31.2.2.2.2.1
theorem dX6_walkNext_38 : decode cX6_walkNext 38 = .ok (.aload_n 0, 1) := fx_ok0 eX6_walkNext_31.2.2.2.2.2.1
theorem dX6_walkNext_39 : decode cX6_walkNext 39 = .ok (.iload_n 1, 1) := fx_ok0 eX6_walkNext_31.2.2.2.2.2.2.1
theorem dX6_walkNext_40 : decode cX6_walkNext 40 = .ok (.putfield 28, 3) := fx_ok0 eX6_walkNext_31.2.2.2.2.2.2.2.1
theorem dX6_walkNext_43 : decode cX6_walkNext 43 = .ok (.aload_n 0, 1) := fx_ok0 eX6_walkNext_31.2.2.2.2.2.2.2.2.1
theorem dX6_walkNext_44 : decode cX6_walkNext 44 = .ok (.aload_n 0, 1) := fx_ok0 eX6_walkNext_31.2.2.2.2.2.2.2.2.2.1
theorem dX6_walkNext_45 : decode cX6_walkNext 45 = .ok (.getfield 45, 3) := fx_ok0 eX6_walkNext_31.2.2.2.2.2.2.2.2.2.2.1
theorem dX6_walkNext_48 : decode cX6_walkNext 48 = .ok (.iload_n 1, 1) := fx_ok0 eX6_walkNext_31.2.2.2.2.2.2.2.2.2.2.2.1
theorem dX6_walkNext_49 : decode cX6_walkNext 49 = .ok (.invokevirtual 93, 3) := fx_ok0 eX6_walkNext_31.2.2.2.2.2.2.2.2.2.2.2.2.1
theorem dX6_walkNext_52 : decode cX6_walkNext 52 = .ok (.iconst 1, 1) := fx_ok0 eX6_walkNext_31.2.2.2.2.2.2.2.2.2.2.2.2.2.1
theorem dX6_walkNext_53 : decode cX6_walkNext 53 = .ok (.iadd, 1) := fx_ok0 eX6_walkNext_31.2.2.2.2.2.2.2.2.2.2.2.2.2.2.1
theorem dX6_walkNext_54 : decode cX6_walkNext 54 = .ok (.putfield 186, 3) := fx_ok0 eX6_walkNext_31.2.2.2.2.2.2.2.2.2.2.2.2.2.2.2
theorem eX6_walkNext_57 : (fdecl cX6_walkNext.data.toList 57 = some (.aload_n 0, 1)) ∧ (fdecl cX6_walkNext.data.toList 58 = some (.getfield 45, 3)) ∧ (fdecl cX6_walkNext.data.toList 61 = some (.iload_n 1, 1)) ∧ (fdecl cX6_walkNext.data.toList 62 = some (.invokevirtual 117, 3)) ∧ (fdecl cX6_walkNext.data.toList 65 = some (.ireturn, 1)) := by decide +kernel
theorem dX6_walkNext_57 : decode cX6_walkNext 57 = .ok (.aload_n 0, 1) := fx_ok0 eX6_walkNext_57.1
theorem dX6_walkNext_58 : decode cX6_walkNext 58 = .ok (.getfield 45, 3) := fx_ok0 eX6_walkNext_57.2.1
theorem dX6_walkNext_61 : decode cX6_walkNext 61 = .ok (.iload_n 1, 1) := fx_ok0 eX6_walkNext_57.2.2.1
theorem dX6_walkNext_62 : decode cX6_walkNext 62 = .ok (.invokevirtual 117, 3) := fx_ok0 eX6_walkNext_57.2.2.2.1
theorem dX6_walkNext_65 : decode cX6_walkNext 65 = .ok (.ireturn, 1) := fx_ok0 eX6_walkNext_57.2.2.2.2
theorem eX6_walkSet_0 : (fdecl cX6_walkSet.data.toList 0 = some (.aload_n 0, 1)) ∧ (fdecl cX6_walkSet.data.toList 1 = some (.iload_n 1, 1)) ∧ (fdecl cX6_walkSet.data.toList 2 = some (.invokestatic 86, 3)) ∧ (fdecl cX6_walkSet.data.toList 5 = some (.ifCond .eq 7, 3)) ∧ (fdecl cX6_walkSet.data.toList 8 = some (.iconst 0, 1)) ∧ (fdecl cX6_walkSet.data.toList 9 = some (.goto 4, 3)) ∧ (fdecl cX6_walkSet.data.toList 12 = some (.iconst 1, 1)) ∧ (fdecl cX6_walkSet.data.toList 13 = some (.putfield 38, 3)) ∧ (fdecl cX6_walkSet.data.toList 16 = some (.aload_n 0, 1)) ∧ (fdecl cX6_walkSet.data.toList 17 = some (.getfield 38, 3)) ∧ (fdecl cX6_walkSet.data.toList 20 = some (.iconst 1, 1)) ∧ (fdecl cX6_walkSet.data.toList 21 = some (.if_icmp .ne 5, 3)) ∧ (fdecl cX6_walkSet.data.toList 24 = some (.iconst 0, 1)) ∧ (fdecl cX6_walkSet.data.toList 25 = some (.ireturn, 1)) ∧ (fdecl cX6_walkSet.data.toList 26 = some (.aload_n 0, 1)) ∧ (fdecl cX6_walkSet.data.toList 27 = some (.getfield 28, 3)) := by decide +kernel
theorem dX6_walkSet_0 : decode cX6_walkSet 0 = .ok (.aload_n 0, 1) := fx_ok0 eX6_walkSet_0.1
theorem dX6_walkSet_1 : decode cX6_walkSet 1 = .ok (.iload_n 1, 1) := fx_ok0 eX6_walkSet_0.2.1
theorem dX6_walkSet_2 : decode cX6_walkSet 2 = .ok (.invokestatic 86, 3) := fx_ok0 eX6_walkSet_0.2.2.1
theorem dX6_walkSet_5 : decode cX6_walkSet 5 = .ok (.ifCond .eq 7, 3) := fx_ok0 eX6_walkSet_0.2.2.2.1
theorem dX6_walkSet_8 : decode cX6_walkSet 8 = .ok (.iconst 0, 1) := fx_ok0 eX6_walkSet_0.2.2.2.2.1
theorem dX6_walkSet_9 : decode cX6_walkSet 9 = .ok (.goto 4, 3) := fx_ok0 eX6_walkSet_0.2.2.2.2.2.1
theorem dX6_walkSet_12 : decode cX6_walkSet 12 = .ok (.iconst 1, 1) := fx_ok0 eX6_walkSet_0.2.2.2.2.2.2.1
theorem dX6_walkSet_13 : decode cX6_walkSet 13 = .ok (.putfield 38, 3) := fx_ok0 eX6_walkSet_0.2.2.2.2.2.2.2.1
theorem dX6_walkSet_16 : decode cX6_walkSet 16 = .ok (.aload_n 0, 1) := fx_ok0 eX6_walkSet_0.2.2.2.2.2.2.2.2.1
theorem dX6_walkSet_17 : decode cX6_walkSet 17 = .ok (.getfield 38, 3) := fx_ok0 eX6_walkSet_0.2.2.2.2.2.2.2.2.2.1
theorem dX6_walkSet_20 : decode cX6_walkSet 20 = .ok (.iconst 1, 1) := fx_ok0 eX6_walkSet_0.2.2.2.2.2.2.2.2.2.2.1
theorem dX6_walkSet_21 : decode cX6_walkSet 21 = .ok (.if_icmp .ne 5, 3) := fx_ok0 eX6_walkSet_0.2.2.2.2.2.2.2.2.2.2.2.1
theorem dX6_walkSet_24 : decode cX6_walkSet 24 = .ok (.iconst 0, 1) := fx_ok0 eX6_walkSet_0.2.2.2.2.2.2.2.2.2.2.2.2.1
theorem dX6_walkSet_25 : decode cX6_walkSet 25 = .ok (.ireturn, 1) := fx_ok0 eX6_walkSet_0.2.2.2.2.2.2.2.2.2.2.2.2.2.1
theorem dX6_walkSet_26 : decode cX6_walkSet 26 = .ok (.aload_n 0, 1) := fx_ok0 eX6_walkSet_0.2.2.2.2.2.2.2.2.2.2.2.2.2.2.1
theorem dX6_walkSet_27 : decode cX6_walkSet 27 = .ok (.getfield 28, 3) := fx_ok0 eX6_walkSet_0.2.2.2.2.2.2.2.2.2.2.2.2.2.2.2
theorem eX6_walkSet_30 : (fdecl cX6_walkSet.data.toList 30 = some (.iconst (-1), 1)) ∧ (fdecl cX6_walkSet.data.toList 31 = some (.if_icmp .ne 8, 3)) ∧ (fdecl cX6_walkSet.data.toList 34 = some (.aload_n 0, 1)) ∧ (fdecl cX6_walkSet.data.toList 35 = some (.invokevirtual 89, 3)) ∧ (fdecl cX6_walkSet.data.toList 38 = some (.ireturn, 1)) ∧ (fdecl cX6_walkSet.data.toList 39 = some (.aload_n 0, 1)) ∧ (fdecl cX6_walkSet.data.toList 40 = some (.getfield 45, 3)) ∧ (fdecl cX6_walkSet.data.toList 43 = some (.getfield 53, 3)) ∧ (fdecl cX6_walkSet.data.toList 46 = some (.aload_n 0, 1)) ∧ (fdecl cX6_walkSet.data.toList 47 = some (.getfield 28, 3)) ∧ (fdecl cX6_walkSet.data.toList 50 = some (.iaload, 1)) ∧ (fdecl cX6_walkSet.data.toList 51 = some (.istore_n 2, 1)) ∧ (fdecl cX6_walkSet.data.toList 52 = some (.aload_n 0, 1)) ∧ (fdecl cX6_walkSet.data.toList 53 = some (.getfield 45, 3)) ∧ (fdecl cX6_walkSet.data.toList 56 = some (.getfield 53, 3)) ∧ (fdecl cX6_walkSet.data.toList 59 = some (.aload_n 0, 1)) := by decide +kernel
theorem dX6_walkSet_30 : decode cX6_walkSet 30 = .ok (.iconst (-1), 1) := fx_ok0 eX6_walkSet_30.1
theorem dX6_walkSet_31 : decode cX6_walkSet 31 = .ok (.if_icmp .ne 8, 3) := fx_ok0 eX6_walkSet_30.2.1
theorem dX6_walkSet_34 : decode cX6_walkSet 34 = .ok (.aload_n 0, 1) := fx_ok0 eX6_walkSet_30.2.2.1
theorem dX6_walkSet_35 : decode cX6_walkSet 35 = .ok (.invokevirtual 89, 3) := fx_ok0 eX6_walkSet_30.2.2.2.1
theorem dX6_walkSet_38 : decode cX6_walkSet 38 = .ok (.ireturn, 1) := fx_ok0 eX6_walkSet_30.2.2.2.2.1
theorem dX6_walkSet_39 : decode cX6_walkSet 39 = .ok (.aload_n 0, 1) := fx_ok0 eX6_walkSet_30.2.2.2.2.2.1
theorem dX6_walkSet_40 : decode cX6_walkSet 40 = .ok (.getfield 45, 3) := fx_ok0 eX6_walkSet_30.2.2.2.2.2.2.1
theorem dX6_walkSet_43 : decode cX6_walkSet 43 = .ok (.getfield 53, 3) := fx_ok0 eX6_walkSet_30.2.2.2.2.2.2.2.1
theorem dX6_walkSet_46 : decode cX6_walkSet 46 = .ok (.aload_n 0, 1) := fx_ok0 eX6_walkSet_30.2.2.2.2.2.2.2.2.1
theorem dX6_walkSet_47 : decode cX6_walkSet 47 = .ok (.getfield 28, 3) := fx_ok0 eX6_walkSet_30.2.2.2.2.2.2.2.2.2.1
theorem dX6_walkSet_50 : decode cX6_walkSet 50 = .ok (.iaload, 1) := fx_ok0 eX6_walkSet_30.2.2.2.2.2.2.2.2.2.2.1
theorem dX6_walkSet_51 : decode cX6_walkSet 51 = .ok (.istore_n 2, 1) := fx_ok0 eX6_walkSet_30.2.2.2.2.2.2.2.2.2.2.2.1
theorem dX6_walkSet_52 : decode cX6_walkSet 52 = .ok (.aload_n 0, 1) := fx_ok0 eX6_walkSet_30.2.2.2.2.2.2.2.2.2.2.2.2.1
theorem dX6_walkSet_53 : decode cX6_walkSet 53 = .ok (.getfield 45, 3) := fx_ok0 eX6_walkSet_30.2.2.2.2.2.2.2.2.2.2.2.2.2.1
theorem dX6_walkSet_56 : decode cX6_walkSet 56 = .ok (.getfield 53, 3) := fx_ok0 eX6_walkSet_30.2.2.2.2.2.2.2.2.2.2.2.2.2.2.1
theorem dX6_walkSet_59 : decode cX6_walkSet 59 = .ok (.aload_n 0, 1) := fx_ok0 eX6_walkSet_30.2.2.2.2.2.2.2.2.2.2.2.2.2.2.2
theorem eX6_walkSet_60 : (fdecl cX6_walkSet.data.toList 60 = some (.getfield 28, 3)) ∧ (fdecl cX6_walkSet.data.toList 63 = some (.iload_n 1, 1)) ∧ (fdecl cX6_walkSet.data.toList 64 = some (.iastore, 1)) ∧ (fdecl cX6_walkSet.data.toList 65 = some (.aload_n 0, 1)) ∧ (fdecl cX6_walkSet.data.toList 66 = some (.iload_n 2, 1)) ∧ (fdecl cX6_walkSet.data.toList 67 = some (.invokevirtual 71, 3)) ∧ (fdecl cX6_walkSet.data.toList 70 = some (.ireturn, 1)) := by decide +kernel
theorem dX6_walkSet_60 : decode cX6_walkSet 60 = .ok (.getfield 28, 3) := fx_ok0 eX6_walkSet_60.1
theorem dX6_walkSet_63 : decode cX6_walkSet 63 = .ok (.iload_n 1, 1) := fx_ok0 eX6_walkSet_60.2.1
theorem dX6_walkSet_64 : decode cX6_walkSet 64 = .ok (.iastore, 1) := fx_ok0 eX6_walkSet_60.2.2.1
theorem dX6_walkSet_65 : decode cX6_walkSet 65 = .ok (.aload_n 0, 1) := fx_ok0 eX6_walkSet_60.2.2.2.1
theorem dX6_walkSet_66 : decode cX6_walkSet 66 = .ok (.iload_n 2, 1) := fx_ok0 eX6_walkSet_60.2.2.2.2.1
theorem dX6_walkSet_67 : decode cX6_walkSet 67 = .ok (.invokevirtual 71, 3) := fx_ok0 eX6_walkSet_60.2.2.2.2.2.1
theorem dX6_walkSet_70 : decode cX6_walkSet 70 = .ok (.ireturn, 1) := fx_ok0 eX6_walkSet_60.2.2.2.2.2.2
theorem eX6_walkTake_0 : (fdecl cX6_walkTake.data.toList 0 = some (.aload_n 0, 1)) ∧ (fdecl cX6_walkTake.data.toList 1 = some (.iconst 0, 1)) ∧ (fdecl cX6_walkTake.data.toList 2 = some (.putfield 38, 3)) ∧ (fdecl cX6_walkTake.data.toList 5 = some (.aload_n 0, 1)) ∧ (fdecl cX6_walkTake.data.toList 6 = some (.getfield 28, 3)) ∧ (fdecl cX6_walkTake.data.toList 9 = some (.iconst (-1), 1)) ∧ (fdecl cX6_walkTake.data.toList 10 = some (.if_icmp .ne 8, 3)) ∧ (fdecl cX6_walkTake.data.toList 13 = some (.aload_n 0, 1)) ∧ (fdecl cX6_walkTake.data.toList 14 = some (.invokevirtual 89, 3)) ∧ (fdecl cX6_walkTake.data.toList 17 = some (.ireturn, 1)) ∧ (fdecl cX6_walkTake.data.toList 18 = some (.aload_n 0, 1)) ∧ (fdecl cX6_walkTake.data.toList 19 = some (.getfield 45, 3)) ∧ (fdecl cX6_walkTake.data.toList 22 = some (.aload_n 0, 1)) ∧ (fdecl cX6_walkTake.data.toList 23 = some (.getfield 28, 3)) ∧ (fdecl cX6_walkTake.data.toList 26 = some (.invokevirtual 117, 3)) ∧ (fdecl cX6_walkTake.data.toList 29 = some (.istore_n 1, 1)) := by decide +kernel
theorem dX6_walkTake_0 : decode cX6_walkTake 0 = .ok (.aload_n 0, 1) := fx_ok0 eX6_walkTake_0.1
theorem dX6_walkTake_1 : decode cX6_walkTake 1 = .ok (.iconst 0, 1) := fx_ok0 eX6_walkTake_0.2.1
theorem dX6_walkTake_2 : decode cX6_walkTake 2 = .ok (.putfield 38, 3) := fx_ok0 eX6_walkTake_0.2.2.1
theorem dX6_walkTake_5 : decode cX6_walkTake 5 = .ok (.aload_n 0, 1) := fx_ok0 eX6_walkTake_0.2.2.2.1
theorem dX6_walkTake_6 : decode cX6_walkTake 6 = .ok (.getfield 28, 3) := fx_ok0 eX6_walkTake_0.2.2.2.2.1
theorem dX6_walkTake_9 : decode cX6_walkTake 9 = .ok (.iconst (-1), 1) := fx_ok0 eX6_walkTake_0.2.2.2.2.2.1
theorem dX6_walkTake_10 : decode cX6_walkTake 10 = .ok (.if_icmp .ne 8, 3) := fx_ok0 eX6_walkTake_0.2.2.2.2.2.2.1
theorem dX6_walkTake_13 : decode cX6_walkTake 13 = .ok (.aload_n 0, 1) := fx_ok0 eX6_walkTake_0.2.2.2.2.2.2.2.1
theorem dX6_walkTake_14 : decode cX6_walkTake 14 = .ok (.invokevirtual 89, 3) := fx_ok0 eX6_walkTake_0.2.2.2.2.2.2.2.2.1
theorem dX6_walkTake_17 : decode cX6_walkTake 17 = .ok (.ireturn, 1) := fx_ok0 eX6_walkTake_0.2.2.2.2.2.2.2.2.2.1
theorem dX6_walkTake_18 : decode cX6_walkTake 18 = .ok (.aload_n 0, 1) := fx_ok0 eX6_walkTake_0.2.2.2.2.2.2.2.2.2.2.1
theorem dX6_walkTake_19 : decode cX6_walkTake 19 = .ok (.getfield 45, 3) := fx_ok0 eX6_walkTake_0.2.2.2.2.2.2.2.2.2.2.2.1
theorem dX6_walkTake_22 : decode cX6_walkTake 22 = .ok (.aload_n 0, 1) := fx_ok0 eX6_walkTake_0.2.2.2.2.2.2.2.2.2.2.2.2.1
theorem dX6_walkTake_23 : decode cX6_walkTake 23 = .ok (.getfield 28, 3) := fx_ok0 eX6_walkTake_0.2.2.2.2.2.2.2.2.2.2.2.2.2.1
theorem dX6_walkTake_26 : decode cX6_walkTake 26 = .ok (.invokevirtual 117, 3) := fx_ok0 eX6_walkTake_0.2.2.2.2.2.2.2.2.2.2.2.2.2.2.1
theorem dX6_walkTake_29 : decode cX6_walkTake 29 = .ok (.istore_n 1, 1) := fx_ok0 eX6_walkTake_0.2.2.2.2.2.2.2.2.2.2.2.2.2.2.2
theorem eX6_walkTake_30 : (fdecl cX6_walkTake.data.toList 30 = some (.aload_n 0, 1)) ∧ (fdecl cX6_walkTake.data.toList 31 = some (.getfield 45, 3)) ∧ (fdecl cX6_walkTake.data.toList 34 = some (.getfield 53, 3)) ∧ (fdecl cX6_walkTake.data.toList 37 = some (.aload_n 0, 1)) ∧ (fdecl cX6_walkTake.data.toList 38 = some (.getfield 28, 3)) ∧ (fdecl cX6_walkTake.data.toList 41 = some (.iconst (-1), 1)) ∧ (fdecl cX6_walkTake.data.toList 42 = some (.iastore, 1)) ∧ (fdecl cX6_walkTake.data.toList 43 = some (.aload_n 0, 1)) ∧ (fdecl cX6_walkTake.data.toList 44 = some (.iconst (-1), 1)) ∧ (fdecl cX6_walkTake.data.toList 45 = some (.putfield 28, 3)) ∧ (fdecl cX6_walkTake.data.toList 48 = some (.aload_n 0, 1)) ∧ (fdecl cX6_walkTake.data.toList 49 = some (.iload_n 1, 1)) ∧ (fdecl cX6_walkTake.data.toList 50 = some (.invokevirtual 71, 3)) ∧ (fdecl cX6_walkTake.data.toList 53 = some (.ireturn, 1)) := by decide +kernel
theorem dX6_walkTake_30 : decode cX6_walkTake 30 = .ok (.aload_n 0, 1) := fx_ok0 eX6_walkTake_30.1
theorem dX6_walkTake_31 : decode cX6_walkTake 31 = .ok (.getfield 45, 3) := fx_ok0 eX6_walkTake_30.2.1
theorem dX6_walkTake_34 : decode cX6_walkTake 34 = .ok (.getfield 53, 3) := fx_ok0 eX6_walkTake_30.2.2.1
theorem dX6_walkTake_37 : decode cX6_walkTake 37 = .ok (.aload_n 0, 1) := fx_ok0 eX6_walkTake_30.2.2.2.1
theorem dX6_walkTake_38 : decode cX6_walkTake 38 = .ok (.getfield 28, 3) := fx_ok0 eX6_walkTake_30.2.2.2.2.1
theorem dX6_walkTake_41 : decode cX6_walkTake 41 = .ok (.iconst (-1), 1) := fx_ok0 eX6_walkTake_30.2.2.2.2.2.1
theorem dX6_walkTake_42 : decode cX6_walkTake 42 = .ok (.iastore, 1) := fx_ok0 eX6_walkTake_30.2.2.2.2.2.2.1
theorem dX6_walkTake_43 : decode cX6_walkTake 43 = .ok (.aload_n 0, 1) := fx_ok0 eX6_walkTake_30.2.2.2.2.2.2.2.1
theorem dX6_walkTake_44 : decode cX6_walkTake 44 = .ok (.iconst (-1), 1) := fx_ok0 eX6_walkTake_30.2.2.2.2.2.2.2.2.1
theorem dX6_walkTake_45 : decode cX6_walkTake 45 = .ok (.putfield 28, 3) := fx_ok0 eX6_walkTake_30.2.2.2.2.2.2.2.2.2.1
theorem dX6_walkTake_48 : decode cX6_walkTake 48 = .ok (.aload_n 0, 1) := fx_ok0 eX6_walkTake_30.2.2.2.2.2.2.2.2.2.2.1
theorem dX6_walkTake_49 : decode cX6_walkTake 49 = .ok (.iload_n 1, 1) := fx_ok0 eX6_walkTake_30.2.2.2.2.2.2.2.2.2.2.2.1
theorem dX6_walkTake_50 : decode cX6_walkTake 50 = .ok (.invokevirtual 71, 3) := fx_ok0 eX6_walkTake_30.2.2.2.2.2.2.2.2.2.2.2.2.1
theorem dX6_walkTake_53 : decode cX6_walkTake 53 = .ok (.ireturn, 1) := fx_ok0 eX6_walkTake_30.2.2.2.2.2.2.2.2.2.2.2.2.2
theorem eX6_freshShelf_0 : (fdecl cX6_freshShelf.data.toList 0 = some (.aload_n 0, 1)) ∧ (fdecl cX6_freshShelf.data.toList 1 = some (.iload_n 1, 1)) ∧ (fdecl cX6_freshShelf.data.toList 2 = some (.invokestatic 193, 3)) ∧ (fdecl cX6_freshShelf.data.toList 5 = some (.iload_n 2, 1)) ∧ (fdecl cX6_freshShelf.data.toList 6 = some (.iconst 0, 1)) ∧ (fdecl cX6_freshShelf.data.toList 7 = some (.iconst 2, 1)) ∧ (fdecl cX6_freshShelf.data.toList 8 = some (.invokestatic 41, 3)) ∧ (fdecl cX6_freshShelf.data.toList 11 = some (.invokevirtual 63, 3)) ∧ (fdecl cX6_freshShelf.data.toList 14 = some (.ifCond .ne 5, 3)) ∧ (fdecl cX6_freshShelf.data.toList 17 = some (.iconst 0, 1)) ∧ (fdecl cX6_freshShelf.data.toList 18 = some (.ireturn, 1)) ∧ (fdecl cX6_freshShelf.data.toList 19 = some (.aload_n 0, 1)) ∧ (fdecl cX6_freshShelf.data.toList 20 = some (.getfield 15, 3)) ∧ (fdecl cX6_freshShelf.data.toList 23 = some (.iload_n 1, 1)) ∧ (fdecl cX6_freshShelf.data.toList 24 = some (.aaload, 1)) ∧ (fdecl cX6_freshShelf.data.toList 25 = some (.iconst 0, 1)) := by decide +kernel
theorem dX6_freshShelf_0 : decode cX6_freshShelf 0 = .ok (.aload_n 0, 1) := fx_ok0 eX6_freshShelf_0.1
theorem dX6_freshShelf_1 : decode cX6_freshShelf 1 = .ok (.iload_n 1, 1) := fx_ok0 eX6_freshShelf_0.2.1
theorem dX6_freshShelf_2 : decode cX6_freshShelf 2 = .ok (.invokestatic 193, 3) := fx_ok0 eX6_freshShelf_0.2.2.1
theorem dX6_freshShelf_5 : decode cX6_freshShelf 5 = .ok (.iload_n 2, 1) := fx_ok0 eX6_freshShelf_0.2.2.2.1
theorem dX6_freshShelf_6 : decode cX6_freshShelf 6 = .ok (.iconst 0, 1) := fx_ok0 eX6_freshShelf_0.2.2.2.2.1
theorem dX6_freshShelf_7 : decode cX6_freshShelf 7 = .ok (.iconst 2, 1) := fx_ok0 eX6_freshShelf_0.2.2.2.2.2.1
theorem dX6_freshShelf_8 : decode cX6_freshShelf 8 = .ok (.invokestatic 41, 3) := fx_ok0 eX6_freshShelf_0.2.2.2.2.2.2.1
theorem dX6_freshShelf_11 : decode cX6_freshShelf 11 = .ok (.invokevirtual 63, 3) := fx_ok0 eX6_freshShelf_0.2.2.2.2.2.2.2.1
theorem dX6_freshShelf_14 : decode cX6_freshShelf 14 = .ok (.ifCond .ne 5, 3) := fx_ok0 eX6_freshShelf_0.2.2.2.2.2.2.2.2.1
theorem dX6_freshShelf_17 : decode cX6_freshShelf 17 = .ok (.iconst 0, 1) := fx_ok0 eX6_freshShelf_0.2.2.2.2.2.2.2.2.2.1
theorem dX6_freshShelf_18 : decode cX6_freshShelf 18 = .ok (.ireturn, 1) := fx_ok0 eX6_freshShelf_0.2.2.2.2.2.2.2.2.2.2.1
theorem dX6_freshShelf_19 : decode cX6_freshShelf 19 = .ok (.aload_n 0, 1) := fx_ok0 eX6_freshShelf_0.2.2.2.2.2.2.2.2.2.2.2.1
theorem dX6_freshShelf_20 : decode cX6_freshShelf 20 = .ok (.getfield 15, 3) := fx_ok0 eX6_freshShelf_0.2.2.2.2.2.2.2.2.2.2.2.2.1
theorem dX6_freshShelf_23 : decode cX6_freshShelf 23 = .ok (.iload_n 1, 1) := fx_ok0 eX6_freshShelf_0.2.2.2.2.2.2.2.2.2.2.2.2.2.1
theorem dX6_freshShelf_24 : decode cX6_freshShelf 24 = .ok (.aaload, 1) := fx_ok0 eX6_freshShelf_0.2.2.2.2.2.2.2.2.2.2.2.2.2.2.1
theorem dX6_freshShelf_25 : decode cX6_freshShelf 25 = .ok (.iconst 0, 1) := fx_ok0 eX6_freshShelf_0.2.2.2.2.2.2.2.2.2.2.2.2.2.2.2
theorem eX6_freshShelf_26 : (fdecl cX6_freshShelf.data.toList 26 = some (.bipush 99, 2)) ∧ (fdecl cX6_freshShelf.data.toList 28 = some (.invokevirtual 67, 3)) ∧ (fdecl cX6_freshShelf.data.toList 31 = some (.istore_n 3, 1)) ∧ (fdecl cX6_freshShelf.data.toList 32 = some (.aload_n 0, 1)) ∧ (fdecl cX6_freshShelf.data.toList 33 = some (.getfield 15, 3)) ∧ (fdecl cX6_freshShelf.data.toList 36 = some (.iload_n 1, 1)) ∧ (fdecl cX6_freshShelf.data.toList 37 = some (.new 9, 3)) ∧ (fdecl cX6_freshShelf.data.toList 40 = some (.dup, 1)) ∧ (fdecl cX6_freshShelf.data.toList 41 = some (.iload_n 2, 1)) ∧ (fdecl cX6_freshShelf.data.toList 42 = some (.invokespecial 35, 3)) ∧ (fdecl cX6_freshShelf.data.toList 45 = some (.aastore, 1)) ∧ (fdecl cX6_freshShelf.data.toList 46 = some (.aload_n 0, 1)) ∧ (fdecl cX6_freshShelf.data.toList 47 = some (.iload_n 3, 1)) ∧ (fdecl cX6_freshShelf.data.toList 48 = some (.invokevirtual 196, 3)) ∧ (fdecl cX6_freshShelf.data.toList 51 = some (.ireturn, 1)) := by decide +kernel
theorem dX6_freshShelf_26 : decode cX6_freshShelf 26 = .ok (.bipush 99, 2) := fx_ok0 eX6_freshShelf_26.1
theorem dX6_freshShelf_28 : decode cX6_freshShelf 28 = .ok (.invokevirtual 67, 3) := fx_ok0 eX6_freshShelf_26.2.1
theorem dX6_freshShelf_31 : decode cX6_freshShelf 31 = .ok (.istore_n 3, 1) := fx_ok0 eX6_freshShelf_26.2.2.1
theorem dX6_freshShelf_32 : decode cX6_freshShelf 32 = .ok (.aload_n 0, 1) := fx_ok0 eX6_freshShelf_26.2.2.2.1
theorem dX6_freshShelf_33 : decode cX6_freshShelf 33 = .ok (.getfield 15, 3) := fx_ok0 eX6_freshShelf_26.2.2.2.2.1
theorem dX6_freshShelf_36 : decode cX6_freshShelf 36 = .ok (.iload_n 1, 1) := fx_ok0 eX6_freshShelf_26.2.2.2.2.2.1
theorem dX6_freshShelf_37 : decode cX6_freshShelf 37 = .ok (.new 9, 3) := fx_ok0 eX6_freshShelf_26.2.2.2.2.2.2.1
theorem dX6_freshShelf_40 : decode cX6_freshShelf 40 = .ok (.dup, 1) := fx_ok0 eX6_freshShelf_26.2.2.2.2.2.2.2.1
theorem dX6_freshShelf_41 : decode cX6_freshShelf 41 = .ok (.iload_n 2, 1) := fx_ok0 eX6_freshShelf_26.2.2.2.2.2.2.2.2.1
theorem dX6_freshShelf_42 : decode cX6_freshShelf 42 = .ok (.invokespecial 35, 3) := fx_ok0 eX6_freshShelf_26.2.2.2.2.2.2.2.2.2.1
theorem dX6_freshShelf_45 : decode cX6_freshShelf 45 = .ok (.aastore, 1) := fx_ok0 eX6_freshShelf_26.2.2.2.2.2.2.2.2.2.2.1
theorem dX6_freshShelf_46 : decode cX6_freshShelf 46 = .ok (.aload_n 0, 1) := fx_ok0 eX6_freshShelf_26.2.2.2.2.2.2.2.2.2.2.2.1
theorem dX6_freshShelf_47 : decode cX6_freshShelf 47 = .ok (.iload_n 3, 1) := fx_ok0 eX6_freshShelf_26.2.2.2.2.2.2.2.2.2.2.2.2.1
theorem dX6_freshShelf_48 : decode cX6_freshShelf 48 = .ok (.invokevirtual 196, 3) := fx_ok0 eX6_freshShelf_26.2.2.2.2.2.2.2.2.2.2.2.2.2.1
theorem dX6_freshShelf_51 : decode cX6_freshShelf 51 = .ok (.ireturn, 1) := fx_ok0 eX6_freshShelf_26.2.2.2.2.2.2.2.2.2.2.2.2.2.2
theorem eX6_buildShelf_0 : (fdecl cX6_buildShelf.data.toList 0 = some (.aload_n 0, 1)) ∧ (fdecl cX6_buildShelf.data.toList 1 = some (.iload_n 1, 1)) ∧ (fdecl cX6_buildShelf.data.toList 2 = some (.invokestatic 193, 3)) ∧ (fdecl cX6_buildShelf.data.toList 5 = some (.ifCond .eq 14, 3)) ∧ (fdecl cX6_buildShelf.data.toList 8 = some (.iload_n 2, 1)) ∧ (fdecl cX6_buildShelf.data.toList 9 = some (.invokestatic 193, 3)) ∧ (fdecl cX6_buildShelf.data.toList 12 = some (.ifCond .eq 7, 3)) ∧ (fdecl cX6_buildShelf.data.toList 15 = some (.iconst 1, 1)) ∧ (fdecl cX6_buildShelf.data.toList 16 = some (.goto 4, 3)) ∧ (fdecl cX6_buildShelf.data.toList 19 = some (.iconst 0, 1)) ∧ (fdecl cX6_buildShelf.data.toList 20 = some (.iload_n 3, 1)) ∧ (fdecl cX6_buildShelf.data.toList 21 = some (.iconst 0, 1)) ∧ (fdecl cX6_buildShelf.data.toList 22 = some (.bipush 6, 2)) ∧ (fdecl cX6_buildShelf.data.toList 24 = some (.invokestatic 41, 3)) ∧ (fdecl cX6_buildShelf.data.toList 27 = some (.invokevirtual 63, 3)) ∧ (fdecl cX6_buildShelf.data.toList 30 = some (.ifCond .ne 5, 3)) := by decide +kernel
theorem dX6_buildShelf_0 : decode cX6_buildShelf 0 = .ok (.aload_n 0, 1) := fx_ok0 eX6_buildShelf_0.1
theorem dX6_buildShelf_1 : decode cX6_buildShelf 1 = .ok (.iload_n 1, 1) := fx_ok0 eX6_buildShelf_0.2.1
theorem dX6_buildShelf_2 : decode cX6_buildShelf 2 = .ok (.invokestatic 193, 3) := fx_ok0 eX6_buildShelf_0.2.2.1
theorem dX6_buildShelf_5 : decode cX6_buildShelf 5 = .ok (.ifCond .eq 14, 3) := fx_ok0 eX6_buildShelf_0.2.2.2.1
theorem dX6_buildShelf_8 : decode cX6_buildShelf 8 = .ok (.iload_n 2, 1) := fx_ok0 eX6_buildShelf_0.2.2.2.2.1
theorem dX6_buildShelf_9 : decode cX6_buildShelf 9 = .ok (.invokestatic 193, 3) := fx_ok0 eX6_buildShelf_0.2.2.2.2.2.1
theorem dX6_buildShelf_12 : decode cX6_buildShelf 12 = .ok (.ifCond .eq 7, 3) := fx_ok0 eX6_buildShelf_0.2.2.2.2.2.2.1
theorem dX6_buildShelf_15 : decode cX6_buildShelf 15 = .ok (.iconst 1, 1) := fx_ok0 eX6_buildShelf_0.2.2.2.2.2.2.2.1
theorem dX6_buildShelf_16 : decode cX6_buildShelf 16 = .ok (.goto 4, 3) := fx_ok0 eX6_buildShelf_0.2.2.2.2.2.2.2.2.1
theorem dX6_buildShelf_19 : decode cX6_buildShelf 19 = .ok (.iconst 0, 1) := fx_ok0 eX6_buildShelf_0.2.2.2.2.2.2.2.2.2.1
theorem dX6_buildShelf_20 : decode cX6_buildShelf 20 = .ok (.iload_n 3, 1) := fx_ok0 eX6_buildShelf_0.2.2.2.2.2.2.2.2.2.2.1
theorem dX6_buildShelf_21 : decode cX6_buildShelf 21 = .ok (.iconst 0, 1) := fx_ok0 eX6_buildShelf_0.2.2.2.2.2.2.2.2.2.2.2.1
theorem dX6_buildShelf_22 : decode cX6_buildShelf 22 = .ok (.bipush 6, 2) := fx_ok0 eX6_buildShelf_0.2.2.2.2.2.2.2.2.2.2.2.2.1
theorem dX6_buildShelf_24 : decode cX6_buildShelf 24 = .ok (.invokestatic 41, 3) := fx_ok0 eX6_buildShelf_0.2.2.2.2.2.2.2.2.2.2.2.2.2.1
theorem dX6_buildShelf_27 : decode cX6_buildShelf 27 = .ok (.invokevirtual 63, 3) := fx_ok0 eX6_buildShelf_0.2.2.2.2.2.2.2.2.2.2.2.2.2.2.1
theorem dX6_buildShelf_30 : decode cX6_buildShelf 30 = .ok (.ifCond .ne 5, 3) := fx_ok0 eX6_buildShelf_0.2.2.2.2.2.2.2.2.2.2.2.2.2.2.2
theorem eX6_buildShelf_33 : (fdecl cX6_buildShelf.data.toList 33 = some (.iconst 0, 1)) ∧ (fdecl cX6_buildShelf.data.toList 34 = some (.ireturn, 1)) ∧ (fdecl cX6_buildShelf.data.toList 35 = some (.aload_n 0, 1)) ∧ (fdecl cX6_buildShelf.data.toList 36 = some (.getfield 15, 3)) ∧ (fdecl cX6_buildShelf.data.toList 39 = some (.iload_n 1, 1)) ∧ (fdecl cX6_buildShelf.data.toList 40 = some (.aload_n 0, 1)) ∧ (fdecl cX6_buildShelf.data.toList 41 = some (.getfield 15, 3)) ∧ (fdecl cX6_buildShelf.data.toList 44 = some (.iload_n 2, 1)) ∧ (fdecl cX6_buildShelf.data.toList 45 = some (.aaload, 1)) ∧ (fdecl cX6_buildShelf.data.toList 46 = some (.iload_n 3, 1)) ∧ (fdecl cX6_buildShelf.data.toList 47 = some (.invokestatic 82, 3)) ∧ (fdecl cX6_buildShelf.data.toList 50 = some (.aastore, 1)) ∧ (fdecl cX6_buildShelf.data.toList 51 = some (.aload_n 0, 1)) ∧ (fdecl cX6_buildShelf.data.toList 52 = some (.aload_n 0, 1)) ∧ (fdecl cX6_buildShelf.data.toList 53 = some (.getfield 15, 3)) ∧ (fdecl cX6_buildShelf.data.toList 56 = some (.iload_n 1, 1)) := by decide +kernel
theorem dX6_buildShelf_33 : decode cX6_buildShelf 33 = .ok (.iconst 0, 1) := fx_ok0 eX6_buildShelf_33.1
theorem dX6_buildShelf_34 : decode cX6_buildShelf 34 = .ok (.ireturn, 1) := fx_ok0 eX6_buildShelf_33.2.1
theorem dX6_buildShelf_35 : decode cX6_buildShelf 35 = .ok (.aload_n 0, 1) := fx_ok0 eX6_buildShelf_33.2.2.1
theorem dX6_buildShelf_36 : decode cX6_buildShelf 36 = .ok (.getfield 15, 3) := fx_ok0 eX6_buildShelf_33.2.2.2.1
theorem dX6_buildShelf_39 : decode cX6_buildShelf 39 = .ok (.iload_n 1, 1) := fx_ok0 eX6_buildShelf_33.2.2.2.2.1
theorem dX6_buildShelf_40 : decode cX6_buildShelf 40 = .ok (.aload_n 0, 1) := fx_ok0 eX6_buildShelf_33.2.2.2.2.2.1
theorem dX6_buildShelf_41 : decode cX6_buildShelf 41 = .ok (.getfield 15, 3) := fx_ok0 eX6_buildShelf_33.2.2.2.2.2.2.1
theorem dX6_buildShelf_44 : decode cX6_buildShelf 44 = .ok (.iload_n 2, 1) := fx_ok0 eX6_buildShelf_33.2.2.2.2.2.2.2.1
theorem dX6_buildShelf_45 : decode cX6_buildShelf 45 = .ok (.aaload, 1) := fx_ok0 eX6_buildShelf_33.2.2.2.2.2.2.2.2.1
theorem dX6_buildShelf_46 : decode cX6_buildShelf 46 = .ok (.iload_n 3, 1) := fx_ok0 eX6_buildShelf_33.2.2.2.2.2.2.2.2.2.1
theorem dX6_buildShelf_47 : decode cX6_buildShelf 47 = .ok (.invokestatic 82, 3) := fx_ok0 eX6_buildShelf_33.2.2.2.2.2.2.2.2.2.2.1
theorem dX6_buildShelf_50 : decode cX6_buildShelf 50 = .ok (.aastore, 1) := fx_ok0 eX6_buildShelf_33.2.2.2.2.2.2.2.2.2.2.2.1
theorem dX6_buildShelf_51 : decode cX6_buildShelf 51 = .ok (.aload_n 0, 1) := fx_ok0 eX6_buildShelf_33.2.2.2.2.2.2.2.2.2.2.2.2.1
theorem dX6_buildShelf_52 : decode cX6_buildShelf 52 = .ok (.aload_n 0, 1) := fx_ok0 eX6_buildShelf_33.2.2.2.2.2.2.2.2.2.2.2.2.2.1
theorem dX6_buildShelf_53 : decode cX6_buildShelf 53 = .ok (.getfield 15, 3) := fx_ok0 eX6_buildShelf_33.2.2.2.2.2.2.2.2.2.2.2.2.2.2.1
theorem dX6_buildShelf_56 : decode cX6_buildShelf 56 = .ok (.iload_n 1, 1) := fx_ok0 eX6_buildShelf_33.2.2.2.2.2.2.2.2.2.2.2.2.2.2.2
theorem eX6_buildShelf_57 : (fdecl cX6_buildShelf.data.toList 57 = some (.aaload, 1)) ∧ (fdecl cX6_buildShelf.data.toList 58 = some (.iconst 0, 1)) ∧ (fdecl cX6_buildShelf.data.toList 59 = some (.bipush 99, 2)) ∧ (fdecl cX6_buildShelf.data.toList 61 = some (.invokevirtual 67, 3)) ∧ (fdecl cX6_buildShelf.data.toList 64 = some (.invokevirtual 196, 3)) ∧ (fdecl cX6_buildShelf.data.toList 67 = some (.ireturn, 1)) := by decide +kernel
theorem dX6_buildShelf_57 : decode cX6_buildShelf 57 = .ok (.aaload, 1) := fx_ok0 eX6_buildShelf_57.1
theorem dX6_buildShelf_58 : decode cX6_buildShelf 58 = .ok (.iconst 0, 1) := fx_ok0 eX6_buildShelf_57.2.1
theorem dX6_buildShelf_59 : decode cX6_buildShelf 59 = .ok (.bipush 99, 2) := fx_ok0 eX6_buildShelf_57.2.2.1
theorem dX6_buildShelf_61 : decode cX6_buildShelf 61 = .ok (.invokevirtual 67, 3) := fx_ok0 eX6_buildShelf_57.2.2.2.1
theorem dX6_buildShelf_64 : decode cX6_buildShelf 64 = .ok (.invokevirtual 196, 3) := fx_ok0 eX6_buildShelf_57.2.2.2.2.1
theorem dX6_buildShelf_67 : decode cX6_buildShelf 67 = .ok (.ireturn, 1) := fx_ok0 eX6_buildShelf_57.2.2.2.2.2
def fAX6_keysOf_0 : List UInt8 := [42, 27, 184, 0, 193, 153, 0, 14, 28, 184, 0, 60, 153, 0, 7, 4, 167, 0, 4, 3, 4, 182, 0, 63, 154, 0, 5, 3, 172, 42, 180, 0, 15, 27, 187, 0, 9, 89, 3, 183, 0, 35, 83, 3, 62, 29, 16, 100, 162, 0, 39, 42, 42, 180, 0, 15, 27, 50, 29, 42, 180, 0, 11, 28]
def fAX6_keysOf_1 : List UInt8 := [50, 29, 182, 0, 49, 153, 0, 7, 3, 167, 0, 4, 2, 182, 0, 103, 87, 132, 3, 1, 167, 255, 217, 42, 42, 180, 0, 15, 27, 50, 3, 16, 99, 182, 0, 67, 182, 0, 196, 172]
def fTX6_keysOf_1 : List UInt8 := fAX6_keysOf_1
def fTX6_keysOf_0 : List UInt8 := fAX6_keysOf_0 ++ fTX6_keysOf_1
theorem fDX6_keysOf_0 : cX6_keysOf.data.toList.drop 0 = fTX6_keysOf_0 := eq_of_beq (by decide +kernel)
theorem fDX6_keysOf_1 : cX6_keysOf.data.toList.drop 64 = fTX6_keysOf_1 := fx_nx (d := 0) (n := 64) (a := fAX6_keysOf_0) fDX6_keysOf_0 rfl
theorem eX6_keysOf_0 : (fdecl fTX6_keysOf_0 0 = some (.aload_n 0, 1)) ∧ (fdecl fTX6_keysOf_0 1 = some (.iload_n 1, 1)) ∧ (fdecl fTX6_keysOf_0 2 = some (.invokestatic 193, 3)) ∧ (fdecl fTX6_keysOf_0 5 = some (.ifCond .eq 14, 3)) ∧ (fdecl fTX6_keysOf_0 8 = some (.iload_n 2, 1)) ∧ (fdecl fTX6_keysOf_0 9 = some (.invokestatic 60, 3)) ∧ (fdecl fTX6_keysOf_0 12 = some (.ifCond .eq 7, 3)) ∧ (fdecl fTX6_keysOf_0 15 = some (.iconst 1, 1)) ∧ (fdecl fTX6_keysOf_0 16 = some (.goto 4, 3)) ∧ (fdecl fTX6_keysOf_0 19 = some (.iconst 0, 1)) ∧ (fdecl fTX6_keysOf_0 20 = some (.iconst 1, 1)) ∧ (fdecl fTX6_keysOf_0 21 = some (.invokevirtual 63, 3)) ∧ (fdecl fTX6_keysOf_0 24 = some (.ifCond .ne 5, 3)) ∧ (fdecl fTX6_keysOf_0 27 = some (.iconst 0, 1)) ∧ (fdecl fTX6_keysOf_0 28 = some (.ireturn, 1)) ∧ (fdecl fTX6_keysOf_0 29 = some (.aload_n 0, 1)) := by decide +kernel
theorem dX6_keysOf_0 : decode cX6_keysOf 0 = .ok (.aload_n 0, 1) := fx_ok (d := 0) (i := 0) fDX6_keysOf_0 eX6_keysOf_0.1
theorem dX6_keysOf_1 : decode cX6_keysOf 1 = .ok (.iload_n 1, 1) := fx_ok (d := 0) (i := 1) fDX6_keysOf_0 eX6_keysOf_0.2.1
theorem dX6_keysOf_2 : decode cX6_keysOf 2 = .ok (.invokestatic 193, 3) := fx_ok (d := 0) (i := 2) fDX6_keysOf_0 eX6_keysOf_0.2.2.1
theorem dX6_keysOf_5 : decode cX6_keysOf 5 = .ok (.ifCond .eq 14, 3) := fx_ok (d := 0) (i := 5) fDX6_keysOf_0 eX6_keysOf_0.2.2.2.1
theorem dX6_keysOf_8 : decode cX6_keysOf 8 = .ok (.iload_n 2, 1) := fx_ok (d := 0) (i := 8) fDX6_keysOf_0 eX6_keysOf_0.2.2.2.2.1
theorem dX6_keysOf_9 : decode cX6_keysOf 9 = .ok (.invokestatic 60, 3) := fx_ok (d := 0) (i := 9) fDX6_keysOf_0 eX6_keysOf_0.2.2.2.2.2.1
theorem dX6_keysOf_12 : decode cX6_keysOf 12 = .ok (.ifCond .eq 7, 3) := fx_ok (d := 0) (i := 12) fDX6_keysOf_0 eX6_keysOf_0.2.2.2.2.2.2.1
theorem dX6_keysOf_15 : decode cX6_keysOf 15 = .ok (.iconst 1, 1) := fx_ok (d := 0) (i := 15) fDX6_keysOf_0 eX6_keysOf_0.2.2.2.2.2.2.2.1
theorem dX6_keysOf_16 : decode cX6_keysOf 16 = .ok (.goto 4, 3) := fx_ok (d := 0) (i := 16) fDX6_keysOf_0 eX6_keysOf_0.2.2.2.2.2.2.2.2.1
theorem dX6_keysOf_19 : decode cX6_keysOf 19 = .ok (.iconst 0, 1) := fx_ok (d := 0) (i := 19) fDX6_keysOf_0 eX6_keysOf_0.2.2.2.2.2.2.2.2.2.1
theorem dX6_keysOf_20 : decode cX6_keysOf 20 = .ok (.iconst 1, 1) := fx_ok (d := 0) (i := 20) fDX6_keysOf_0 eX6_keysOf_0.2.2.2.2.2.2.2.2.2.2.1
theorem dX6_keysOf_21 : decode cX6_keysOf 21 = .ok (.invokevirtual 63, 3) := fx_ok (d := 0) (i := 21) fDX6_keysOf_0 eX6_keysOf_0.2.2.2.2.2.2.2.2.2.2.2.1
theorem dX6_keysOf_24 : decode cX6_keysOf 24 = .ok (.ifCond .ne 5, 3) := fx_ok (d := 0) (i := 24) fDX6_keysOf_0 eX6_keysOf_0.2.2.2.2.2.2.2.2.2.2.2.2.1
theorem dX6_keysOf_27 : decode cX6_keysOf 27 = .ok (.iconst 0, 1) := fx_ok (d := 0) (i := 27) fDX6_keysOf_0 eX6_keysOf_0.2.2.2.2.2.2.2.2.2.2.2.2.2.1
theorem dX6_keysOf_28 : decode cX6_keysOf 28 = .ok (.ireturn, 1) := fx_ok (d := 0) (i := 28) fDX6_keysOf_0 eX6_keysOf_0.2.2.2.2.2.2.2.2.2.2.2.2.2.2.1
theorem dX6_keysOf_29 : decode cX6_keysOf 29 = .ok (.aload_n 0, 1) := fx_ok (d := 0) (i := 29) fDX6_keysOf_0 eX6_keysOf_0.2.2.2.2.2.2.2.2.2.2.2.2.2.2.2
theorem eX6_keysOf_30 : (fdecl fTX6_keysOf_0 30 = some (.getfield 15, 3)) ∧ (fdecl fTX6_keysOf_0 33 = some (.iload_n 1, 1)) ∧ (fdecl fTX6_keysOf_0 34 = some (.new 9, 3)) ∧ (fdecl fTX6_keysOf_0 37 = some (.dup, 1)) ∧ (fdecl fTX6_keysOf_0 38 = some (.iconst 0, 1)) ∧ (fdecl fTX6_keysOf_0 39 = some (.invokespecial 35, 3)) ∧ (fdecl fTX6_keysOf_0 42 = some (.aastore, 1)) ∧ (fdecl fTX6_keysOf_0 43 = some (.iconst 0, 1)) ∧ (fdecl fTX6_keysOf_0 44 = some (.istore_n 3, 1)) ∧ (fdecl fTX6_keysOf_0 45 = some (.iload_n 3, 1)) ∧ (fdecl fTX6_keysOf_0 46 = some (.bipush 100, 2)) ∧ (fdecl fTX6_keysOf_0 48 = some (.if_icmp .ge 39, 3)) ∧ (fdecl fTX6_keysOf_0 51 = some (.aload_n 0, 1)) ∧ (fdecl fTX6_keysOf_0 52 = some (.aload_n 0, 1)) ∧ (fdecl fTX6_keysOf_0 53 = some (.getfield 15, 3)) ∧ (fdecl fTX6_keysOf_0 56 = some (.iload_n 1, 1)) := by decide +kernel
theorem dX6_keysOf_30 : decode cX6_keysOf 30 = .ok (.getfield 15, 3) := fx_ok (d := 0) (i := 30) fDX6_keysOf_0 eX6_keysOf_30.1
theorem dX6_keysOf_33 : decode cX6_keysOf 33 = .ok (.iload_n 1, 1) := fx_ok (d := 0) (i := 33) fDX6_keysOf_0 eX6_keysOf_30.2.1
theorem dX6_keysOf_34 : decode cX6_keysOf 34 = .ok (.new 9, 3) := fx_ok (d := 0) (i := 34) fDX6_keysOf_0 eX6_keysOf_30.2.2.1
theorem dX6_keysOf_37 : decode cX6_keysOf 37 = .ok (.dup, 1) := fx_ok (d := 0) (i := 37) fDX6_keysOf_0 eX6_keysOf_30.2.2.2.1
theorem dX6_keysOf_38 : decode cX6_keysOf 38 = .ok (.iconst 0, 1) := fx_ok (d := 0) (i := 38) fDX6_keysOf_0 eX6_keysOf_30.2.2.2.2.1
theorem dX6_keysOf_39 : decode cX6_keysOf 39 = .ok (.invokespecial 35, 3) := fx_ok (d := 0) (i := 39) fDX6_keysOf_0 eX6_keysOf_30.2.2.2.2.2.1
theorem dX6_keysOf_42 : decode cX6_keysOf 42 = .ok (.aastore, 1) := fx_ok (d := 0) (i := 42) fDX6_keysOf_0 eX6_keysOf_30.2.2.2.2.2.2.1
theorem dX6_keysOf_43 : decode cX6_keysOf 43 = .ok (.iconst 0, 1) := fx_ok (d := 0) (i := 43) fDX6_keysOf_0 eX6_keysOf_30.2.2.2.2.2.2.2.1
theorem dX6_keysOf_44 : decode cX6_keysOf 44 = .ok (.istore_n 3, 1) := fx_ok (d := 0) (i := 44) fDX6_keysOf_0 eX6_keysOf_30.2.2.2.2.2.2.2.2.1
theorem dX6_keysOf_45 : decode cX6_keysOf 45 = .ok (.iload_n 3, 1) := fx_ok (d := 0) (i := 45) fDX6_keysOf_0 eX6_keysOf_30.2.2.2.2.2.2.2.2.2.1
theorem dX6_keysOf_46 : decode cX6_keysOf 46 = .ok (.bipush 100, 2) := fx_ok (d := 0) (i := 46) fDX6_keysOf_0 eX6_keysOf_30.2.2.2.2.2.2.2.2.2.2.1
theorem dX6_keysOf_48 : decode cX6_keysOf 48 = .ok (.if_icmp .ge 39, 3) := fx_ok (d := 0) (i := 48) fDX6_keysOf_0 eX6_keysOf_30.2.2.2.2.2.2.2.2.2.2.2.1
theorem dX6_keysOf_51 : decode cX6_keysOf 51 = .ok (.aload_n 0, 1) := fx_ok (d := 0) (i := 51) fDX6_keysOf_0 eX6_keysOf_30.2.2.2.2.2.2.2.2.2.2.2.2.1
theorem dX6_keysOf_52 : decode cX6_keysOf 52 = .ok (.aload_n 0, 1) := fx_ok (d := 0) (i := 52) fDX6_keysOf_0 eX6_keysOf_30.2.2.2.2.2.2.2.2.2.2.2.2.2.1
theorem dX6_keysOf_53 : decode cX6_keysOf 53 = .ok (.getfield 15, 3) := fx_ok (d := 0) (i := 53) fDX6_keysOf_0 eX6_keysOf_30.2.2.2.2.2.2.2.2.2.2.2.2.2.2.1
theorem dX6_keysOf_56 : decode cX6_keysOf 56 = .ok (.iload_n 1, 1) := fx_ok (d := 0) (i := 56) fDX6_keysOf_0 eX6_keysOf_30.2.2.2.2.2.2.2.2.2.2.2.2.2.2.2
theorem eX6_keysOf_57 : (fdecl fTX6_keysOf_0 57 = some (.aaload, 1)) ∧ (fdecl fTX6_keysOf_0 58 = some (.iload_n 3, 1)) ∧ (fdecl fTX6_keysOf_0 59 = some (.aload_n 0, 1)) ∧ (fdecl fTX6_keysOf_0 60 = some (.getfield 11, 3)) ∧ (fdecl fTX6_keysOf_0 63 = some (.iload_n 2, 1)) ∧ (fdecl fTX6_keysOf_1 0 = some (.aaload, 1)) ∧ (fdecl fTX6_keysOf_1 1 = some (.iload_n 3, 1)) ∧ (fdecl fTX6_keysOf_1 2 = some (.invokevirtual 49, 3)) ∧ (fdecl fTX6_keysOf_1 5 = some (.ifCond .eq 7, 3)) ∧ (fdecl fTX6_keysOf_1 8 = some (.iconst 0, 1)) ∧ (fdecl fTX6_keysOf_1 9 = some (.goto 4, 3)) ∧ (fdecl fTX6_keysOf_1 12 = some (.iconst (-1), 1)) ∧ (fdecl fTX6_keysOf_1 13 = some (.invokevirtual 103, 3)) ∧ (fdecl fTX6_keysOf_1 16 = some (.pop, 1)) ∧ (fdecl fTX6_keysOf_1 20 = some (.goto (-39), 3)) ∧ (fdecl fTX6_keysOf_1 23 = some (.aload_n 0, 1)) := by decide +kernel
theorem dX6_keysOf_57 : decode cX6_keysOf 57 = .ok (.aaload, 1) := fx_ok (d := 0) (i := 57) fDX6_keysOf_0 eX6_keysOf_57.1
theorem dX6_keysOf_58 : decode cX6_keysOf 58 = .ok (.iload_n 3, 1) := fx_ok (d := 0) (i := 58) fDX6_keysOf_0 eX6_keysOf_57.2.1
theorem dX6_keysOf_59 : decode cX6_keysOf 59 = .ok (.aload_n 0, 1) := fx_ok (d := 0) (i := 59) fDX6_keysOf_0 eX6_keysOf_57.2.2.1
theorem dX6_keysOf_60 : decode cX6_keysOf 60 = .ok (.getfield 11, 3) := fx_ok (d := 0) (i := 60) fDX6_keysOf_0 eX6_keysOf_57.2.2.2.1
theorem dX6_keysOf_63 : decode cX6_keysOf 63 = .ok (.iload_n 2, 1) := fx_ok (d := 0) (i := 63) fDX6_keysOf_0 eX6_keysOf_57.2.2.2.2.1
theorem dX6_keysOf_64 : decode cX6_keysOf 64 = .ok (.aaload, 1) := fx_ok (d := 64) (i := 0) fDX6_keysOf_1 eX6_keysOf_57.2.2.2.2.2.1
theorem dX6_keysOf_65 : decode cX6_keysOf 65 = .ok (.iload_n 3, 1) := fx_ok (d := 64) (i := 1) fDX6_keysOf_1 eX6_keysOf_57.2.2.2.2.2.2.1
theorem dX6_keysOf_66 : decode cX6_keysOf 66 = .ok (.invokevirtual 49, 3) := fx_ok (d := 64) (i := 2) fDX6_keysOf_1 eX6_keysOf_57.2.2.2.2.2.2.2.1
theorem dX6_keysOf_69 : decode cX6_keysOf 69 = .ok (.ifCond .eq 7, 3) := fx_ok (d := 64) (i := 5) fDX6_keysOf_1 eX6_keysOf_57.2.2.2.2.2.2.2.2.1
theorem dX6_keysOf_72 : decode cX6_keysOf 72 = .ok (.iconst 0, 1) := fx_ok (d := 64) (i := 8) fDX6_keysOf_1 eX6_keysOf_57.2.2.2.2.2.2.2.2.2.1
theorem dX6_keysOf_73 : decode cX6_keysOf 73 = .ok (.goto 4, 3) := fx_ok (d := 64) (i := 9) fDX6_keysOf_1 eX6_keysOf_57.2.2.2.2.2.2.2.2.2.2.1
theorem dX6_keysOf_76 : decode cX6_keysOf 76 = .ok (.iconst (-1), 1) := fx_ok (d := 64) (i := 12) fDX6_keysOf_1 eX6_keysOf_57.2.2.2.2.2.2.2.2.2.2.2.1
theorem dX6_keysOf_77 : decode cX6_keysOf 77 = .ok (.invokevirtual 103, 3) := fx_ok (d := 64) (i := 13) fDX6_keysOf_1 eX6_keysOf_57.2.2.2.2.2.2.2.2.2.2.2.2.1
theorem dX6_keysOf_80 : decode cX6_keysOf 80 = .ok (.pop, 1) := fx_ok (d := 64) (i := 16) fDX6_keysOf_1 eX6_keysOf_57.2.2.2.2.2.2.2.2.2.2.2.2.2.1
theorem dX6_keysOf_84 : decode cX6_keysOf 84 = .ok (.goto (-39), 3) := fx_ok (d := 64) (i := 20) fDX6_keysOf_1 eX6_keysOf_57.2.2.2.2.2.2.2.2.2.2.2.2.2.2.1
theorem dX6_keysOf_87 : decode cX6_keysOf 87 = .ok (.aload_n 0, 1) := fx_ok (d := 64) (i := 23) fDX6_keysOf_1 eX6_keysOf_57.2.2.2.2.2.2.2.2.2.2.2.2.2.2.2
theorem eX6_keysOf_88 : (fdecl fTX6_keysOf_1 24 = some (.aload_n 0, 1)) ∧ (fdecl fTX6_keysOf_1 25 = some (.getfield 15, 3)) ∧ (fdecl fTX6_keysOf_1 28 = some (.iload_n 1, 1)) ∧ (fdecl fTX6_keysOf_1 29 = some (.aaload, 1)) ∧ (fdecl fTX6_keysOf_1 30 = some (.iconst 0, 1)) ∧ (fdecl fTX6_keysOf_1 31 = some (.bipush 99, 2)) ∧ (fdecl fTX6_keysOf_1 33 = some (.invokevirtual 67, 3)) ∧ (fdecl fTX6_keysOf_1 36 = some (.invokevirtual 196, 3)) ∧ (fdecl fTX6_keysOf_1 39 = some (.ireturn, 1)) := by decide +kernel
theorem dX6_keysOf_88 : decode cX6_keysOf 88 = .ok (.aload_n 0, 1) := fx_ok (d := 64) (i := 24) fDX6_keysOf_1 eX6_keysOf_88.1
theorem dX6_keysOf_89 : decode cX6_keysOf 89 = .ok (.getfield 15, 3) := fx_ok (d := 64) (i := 25) fDX6_keysOf_1 eX6_keysOf_88.2.1
theorem dX6_keysOf_92 : decode cX6_keysOf 92 = .ok (.iload_n 1, 1) := fx_ok (d := 64) (i := 28) fDX6_keysOf_1 eX6_keysOf_88.2.2.1
theorem dX6_keysOf_93 : decode cX6_keysOf 93 = .ok (.aaload, 1) := fx_ok (d := 64) (i := 29) fDX6_keysOf_1 eX6_keysOf_88.2.2.2.1
theorem dX6_keysOf_94 : decode cX6_keysOf 94 = .ok (.iconst 0, 1) := fx_ok (d := 64) (i := 30) fDX6_keysOf_1 eX6_keysOf_88.2.2.2.2.1
theorem dX6_keysOf_95 : decode cX6_keysOf 95 = .ok (.bipush 99, 2) := fx_ok (d := 64) (i := 31) fDX6_keysOf_1 eX6_keysOf_88.2.2.2.2.2.1
theorem dX6_keysOf_97 : decode cX6_keysOf 97 = .ok (.invokevirtual 67, 3) := fx_ok (d := 64) (i := 33) fDX6_keysOf_1 eX6_keysOf_88.2.2.2.2.2.2.1
theorem dX6_keysOf_100 : decode cX6_keysOf 100 = .ok (.invokevirtual 196, 3) := fx_ok (d := 64) (i := 36) fDX6_keysOf_1 eX6_keysOf_88.2.2.2.2.2.2.2.1
theorem dX6_keysOf_103 : decode cX6_keysOf 103 = .ok (.ireturn, 1) := fx_ok (d := 64) (i := 39) fDX6_keysOf_1 eX6_keysOf_88.2.2.2.2.2.2.2.2
theorem dX6_keysOf_81 : decode cX6_keysOf 81 = .ok (.iinc 3 1, 3) := by decide +kernel
def fAX6_lay_0 : List UInt8 := [42, 27, 184, 0, 193, 28, 184, 0, 86, 153, 0, 25, 29, 184, 0, 86, 153, 0, 18, 21, 4, 3, 16, 100, 184, 0, 41, 153, 0, 7, 4, 167, 0, 4, 3, 182, 0, 63, 154, 0, 5, 3, 172, 3, 54, 6, 3, 54, 7, 21, 7, 21, 4, 162, 0, 43, 21, 6, 42, 42, 180, 0, 15, 27]
def fAX6_lay_1 : List UInt8 := [50, 28, 21, 7, 29, 104, 96, 16, 100, 112, 21, 5, 153, 0, 7, 3, 167, 0, 4, 2, 182, 0, 103, 96, 54, 6, 132, 7, 1, 167, 255, 212, 42, 21, 6, 182, 0, 196, 172]
def fTX6_lay_1 : List UInt8 := fAX6_lay_1
def fTX6_lay_0 : List UInt8 := fAX6_lay_0 ++ fTX6_lay_1
theorem fDX6_lay_0 : cX6_lay.data.toList.drop 0 = fTX6_lay_0 := eq_of_beq (by decide +kernel)
theorem fDX6_lay_1 : cX6_lay.data.toList.drop 64 = fTX6_lay_1 := fx_nx (d := 0) (n := 64) (a := fAX6_lay_0) fDX6_lay_0 rfl
theorem eX6_lay_0 : (fdecl fTX6_lay_0 0 = some (.aload_n 0, 1)) ∧ (fdecl fTX6_lay_0 1 = some (.iload_n 1, 1)) ∧ (fdecl fTX6_lay_0 2 = some (.invokestatic 193, 3)) ∧ (fdecl fTX6_lay_0 5 = some (.iload_n 2, 1)) ∧ (fdecl fTX6_lay_0 6 = some (.invokestatic 86, 3)) ∧ (fdecl fTX6_lay_0 9 = some (.ifCond .eq 25, 3)) ∧ (fdecl fTX6_lay_0 12 = some (.iload_n 3, 1)) ∧ (fdecl fTX6_lay_0 13 = some (.invokestatic 86, 3)) ∧ (fdecl fTX6_lay_0 16 = some (.ifCond .eq 18, 3)) ∧ (fdecl fTX6_lay_0 19 = some (.iload 4, 2)) ∧ (fdecl fTX6_lay_0 21 = some (.iconst 0, 1)) ∧ (fdecl fTX6_lay_0 22 = some (.bipush 100, 2)) ∧ (fdecl fTX6_lay_0 24 = some (.invokestatic 41, 3)) ∧ (fdecl fTX6_lay_0 27 = some (.ifCond .eq 7, 3)) ∧ (fdecl fTX6_lay_0 30 = some (.iconst 1, 1)) ∧ (fdecl fTX6_lay_0 31 = some (.goto 4, 3)) := by decide +kernel
theorem dX6_lay_0 : decode cX6_lay 0 = .ok (.aload_n 0, 1) := fx_ok (d := 0) (i := 0) fDX6_lay_0 eX6_lay_0.1
theorem dX6_lay_1 : decode cX6_lay 1 = .ok (.iload_n 1, 1) := fx_ok (d := 0) (i := 1) fDX6_lay_0 eX6_lay_0.2.1
theorem dX6_lay_2 : decode cX6_lay 2 = .ok (.invokestatic 193, 3) := fx_ok (d := 0) (i := 2) fDX6_lay_0 eX6_lay_0.2.2.1
theorem dX6_lay_5 : decode cX6_lay 5 = .ok (.iload_n 2, 1) := fx_ok (d := 0) (i := 5) fDX6_lay_0 eX6_lay_0.2.2.2.1
theorem dX6_lay_6 : decode cX6_lay 6 = .ok (.invokestatic 86, 3) := fx_ok (d := 0) (i := 6) fDX6_lay_0 eX6_lay_0.2.2.2.2.1
theorem dX6_lay_9 : decode cX6_lay 9 = .ok (.ifCond .eq 25, 3) := fx_ok (d := 0) (i := 9) fDX6_lay_0 eX6_lay_0.2.2.2.2.2.1
theorem dX6_lay_12 : decode cX6_lay 12 = .ok (.iload_n 3, 1) := fx_ok (d := 0) (i := 12) fDX6_lay_0 eX6_lay_0.2.2.2.2.2.2.1
theorem dX6_lay_13 : decode cX6_lay 13 = .ok (.invokestatic 86, 3) := fx_ok (d := 0) (i := 13) fDX6_lay_0 eX6_lay_0.2.2.2.2.2.2.2.1
theorem dX6_lay_16 : decode cX6_lay 16 = .ok (.ifCond .eq 18, 3) := fx_ok (d := 0) (i := 16) fDX6_lay_0 eX6_lay_0.2.2.2.2.2.2.2.2.1
theorem dX6_lay_19 : decode cX6_lay 19 = .ok (.iload 4, 2) := fx_ok (d := 0) (i := 19) fDX6_lay_0 eX6_lay_0.2.2.2.2.2.2.2.2.2.1
theorem dX6_lay_21 : decode cX6_lay 21 = .ok (.iconst 0, 1) := fx_ok (d := 0) (i := 21) fDX6_lay_0 eX6_lay_0.2.2.2.2.2.2.2.2.2.2.1
theorem dX6_lay_22 : decode cX6_lay 22 = .ok (.bipush 100, 2) := fx_ok (d := 0) (i := 22) fDX6_lay_0 eX6_lay_0.2.2.2.2.2.2.2.2.2.2.2.1
theorem dX6_lay_24 : decode cX6_lay 24 = .ok (.invokestatic 41, 3) := fx_ok (d := 0) (i := 24) fDX6_lay_0 eX6_lay_0.2.2.2.2.2.2.2.2.2.2.2.2.1
theorem dX6_lay_27 : decode cX6_lay 27 = .ok (.ifCond .eq 7, 3) := fx_ok (d := 0) (i := 27) fDX6_lay_0 eX6_lay_0.2.2.2.2.2.2.2.2.2.2.2.2.2.1
theorem dX6_lay_30 : decode cX6_lay 30 = .ok (.iconst 1, 1) := fx_ok (d := 0) (i := 30) fDX6_lay_0 eX6_lay_0.2.2.2.2.2.2.2.2.2.2.2.2.2.2.1
theorem dX6_lay_31 : decode cX6_lay 31 = .ok (.goto 4, 3) := fx_ok (d := 0) (i := 31) fDX6_lay_0 eX6_lay_0.2.2.2.2.2.2.2.2.2.2.2.2.2.2.2
theorem eX6_lay_34 : (fdecl fTX6_lay_0 34 = some (.iconst 0, 1)) ∧ (fdecl fTX6_lay_0 35 = some (.invokevirtual 63, 3)) ∧ (fdecl fTX6_lay_0 38 = some (.ifCond .ne 5, 3)) ∧ (fdecl fTX6_lay_0 41 = some (.iconst 0, 1)) ∧ (fdecl fTX6_lay_0 42 = some (.ireturn, 1)) ∧ (fdecl fTX6_lay_0 43 = some (.iconst 0, 1)) ∧ (fdecl fTX6_lay_0 44 = some (.istore 6, 2)) ∧ (fdecl fTX6_lay_0 46 = some (.iconst 0, 1)) ∧ (fdecl fTX6_lay_0 47 = some (.istore 7, 2)) ∧ (fdecl fTX6_lay_0 49 = some (.iload 7, 2)) ∧ (fdecl fTX6_lay_0 51 = some (.iload 4, 2)) ∧ (fdecl fTX6_lay_0 53 = some (.if_icmp .ge 43, 3)) ∧ (fdecl fTX6_lay_0 56 = some (.iload 6, 2)) ∧ (fdecl fTX6_lay_0 58 = some (.aload_n 0, 1)) ∧ (fdecl fTX6_lay_0 59 = some (.aload_n 0, 1)) ∧ (fdecl fTX6_lay_0 60 = some (.getfield 15, 3)) := by decide +kernel
theorem dX6_lay_34 : decode cX6_lay 34 = .ok (.iconst 0, 1) := fx_ok (d := 0) (i := 34) fDX6_lay_0 eX6_lay_34.1
theorem dX6_lay_35 : decode cX6_lay 35 = .ok (.invokevirtual 63, 3) := fx_ok (d := 0) (i := 35) fDX6_lay_0 eX6_lay_34.2.1
theorem dX6_lay_38 : decode cX6_lay 38 = .ok (.ifCond .ne 5, 3) := fx_ok (d := 0) (i := 38) fDX6_lay_0 eX6_lay_34.2.2.1
theorem dX6_lay_41 : decode cX6_lay 41 = .ok (.iconst 0, 1) := fx_ok (d := 0) (i := 41) fDX6_lay_0 eX6_lay_34.2.2.2.1
theorem dX6_lay_42 : decode cX6_lay 42 = .ok (.ireturn, 1) := fx_ok (d := 0) (i := 42) fDX6_lay_0 eX6_lay_34.2.2.2.2.1
theorem dX6_lay_43 : decode cX6_lay 43 = .ok (.iconst 0, 1) := fx_ok (d := 0) (i := 43) fDX6_lay_0 eX6_lay_34.2.2.2.2.2.1
theorem dX6_lay_44 : decode cX6_lay 44 = .ok (.istore 6, 2) := fx_ok (d := 0) (i := 44) fDX6_lay_0 eX6_lay_34.2.2.2.2.2.2.1
theorem dX6_lay_46 : decode cX6_lay 46 = .ok (.iconst 0, 1) := fx_ok (d := 0) (i := 46) fDX6_lay_0 eX6_lay_34.2.2.2.2.2.2.2.1
theorem dX6_lay_47 : decode cX6_lay 47 = .ok (.istore 7, 2) := fx_ok (d := 0) (i := 47) fDX6_lay_0 eX6_lay_34.2.2.2.2.2.2.2.2.1
theorem dX6_lay_49 : decode cX6_lay 49 = .ok (.iload 7, 2) := fx_ok (d := 0) (i := 49) fDX6_lay_0 eX6_lay_34.2.2.2.2.2.2.2.2.2.1
theorem dX6_lay_51 : decode cX6_lay 51 = .ok (.iload 4, 2) := fx_ok (d := 0) (i := 51) fDX6_lay_0 eX6_lay_34.2.2.2.2.2.2.2.2.2.2.1
theorem dX6_lay_53 : decode cX6_lay 53 = .ok (.if_icmp .ge 43, 3) := fx_ok (d := 0) (i := 53) fDX6_lay_0 eX6_lay_34.2.2.2.2.2.2.2.2.2.2.2.1
theorem dX6_lay_56 : decode cX6_lay 56 = .ok (.iload 6, 2) := fx_ok (d := 0) (i := 56) fDX6_lay_0 eX6_lay_34.2.2.2.2.2.2.2.2.2.2.2.2.1
theorem dX6_lay_58 : decode cX6_lay 58 = .ok (.aload_n 0, 1) := fx_ok (d := 0) (i := 58) fDX6_lay_0 eX6_lay_34.2.2.2.2.2.2.2.2.2.2.2.2.2.1
theorem dX6_lay_59 : decode cX6_lay 59 = .ok (.aload_n 0, 1) := fx_ok (d := 0) (i := 59) fDX6_lay_0 eX6_lay_34.2.2.2.2.2.2.2.2.2.2.2.2.2.2.1
theorem dX6_lay_60 : decode cX6_lay 60 = .ok (.getfield 15, 3) := fx_ok (d := 0) (i := 60) fDX6_lay_0 eX6_lay_34.2.2.2.2.2.2.2.2.2.2.2.2.2.2.2
theorem eX6_lay_63 : (fdecl fTX6_lay_0 63 = some (.iload_n 1, 1)) ∧ (fdecl fTX6_lay_1 0 = some (.aaload, 1)) ∧ (fdecl fTX6_lay_1 1 = some (.iload_n 2, 1)) ∧ (fdecl fTX6_lay_1 2 = some (.iload 7, 2)) ∧ (fdecl fTX6_lay_1 4 = some (.iload_n 3, 1)) ∧ (fdecl fTX6_lay_1 5 = some (.imul, 1)) ∧ (fdecl fTX6_lay_1 6 = some (.iadd, 1)) ∧ (fdecl fTX6_lay_1 7 = some (.bipush 100, 2)) ∧ (fdecl fTX6_lay_1 9 = some (.irem, 1)) ∧ (fdecl fTX6_lay_1 10 = some (.iload 5, 2)) ∧ (fdecl fTX6_lay_1 12 = some (.ifCond .eq 7, 3)) ∧ (fdecl fTX6_lay_1 15 = some (.iconst 0, 1)) ∧ (fdecl fTX6_lay_1 16 = some (.goto 4, 3)) ∧ (fdecl fTX6_lay_1 19 = some (.iconst (-1), 1)) ∧ (fdecl fTX6_lay_1 20 = some (.invokevirtual 103, 3)) ∧ (fdecl fTX6_lay_1 23 = some (.iadd, 1)) := by decide +kernel
theorem dX6_lay_63 : decode cX6_lay 63 = .ok (.iload_n 1, 1) := fx_ok (d := 0) (i := 63) fDX6_lay_0 eX6_lay_63.1
theorem dX6_lay_64 : decode cX6_lay 64 = .ok (.aaload, 1) := fx_ok (d := 64) (i := 0) fDX6_lay_1 eX6_lay_63.2.1
theorem dX6_lay_65 : decode cX6_lay 65 = .ok (.iload_n 2, 1) := fx_ok (d := 64) (i := 1) fDX6_lay_1 eX6_lay_63.2.2.1
theorem dX6_lay_66 : decode cX6_lay 66 = .ok (.iload 7, 2) := fx_ok (d := 64) (i := 2) fDX6_lay_1 eX6_lay_63.2.2.2.1
theorem dX6_lay_68 : decode cX6_lay 68 = .ok (.iload_n 3, 1) := fx_ok (d := 64) (i := 4) fDX6_lay_1 eX6_lay_63.2.2.2.2.1
theorem dX6_lay_69 : decode cX6_lay 69 = .ok (.imul, 1) := fx_ok (d := 64) (i := 5) fDX6_lay_1 eX6_lay_63.2.2.2.2.2.1
theorem dX6_lay_70 : decode cX6_lay 70 = .ok (.iadd, 1) := fx_ok (d := 64) (i := 6) fDX6_lay_1 eX6_lay_63.2.2.2.2.2.2.1
theorem dX6_lay_71 : decode cX6_lay 71 = .ok (.bipush 100, 2) := fx_ok (d := 64) (i := 7) fDX6_lay_1 eX6_lay_63.2.2.2.2.2.2.2.1
theorem dX6_lay_73 : decode cX6_lay 73 = .ok (.irem, 1) := fx_ok (d := 64) (i := 9) fDX6_lay_1 eX6_lay_63.2.2.2.2.2.2.2.2.1
theorem dX6_lay_74 : decode cX6_lay 74 = .ok (.iload 5, 2) := fx_ok (d := 64) (i := 10) fDX6_lay_1 eX6_lay_63.2.2.2.2.2.2.2.2.2.1
theorem dX6_lay_76 : decode cX6_lay 76 = .ok (.ifCond .eq 7, 3) := fx_ok (d := 64) (i := 12) fDX6_lay_1 eX6_lay_63.2.2.2.2.2.2.2.2.2.2.1
theorem dX6_lay_79 : decode cX6_lay 79 = .ok (.iconst 0, 1) := fx_ok (d := 64) (i := 15) fDX6_lay_1 eX6_lay_63.2.2.2.2.2.2.2.2.2.2.2.1
theorem dX6_lay_80 : decode cX6_lay 80 = .ok (.goto 4, 3) := fx_ok (d := 64) (i := 16) fDX6_lay_1 eX6_lay_63.2.2.2.2.2.2.2.2.2.2.2.2.1
theorem dX6_lay_83 : decode cX6_lay 83 = .ok (.iconst (-1), 1) := fx_ok (d := 64) (i := 19) fDX6_lay_1 eX6_lay_63.2.2.2.2.2.2.2.2.2.2.2.2.2.1
theorem dX6_lay_84 : decode cX6_lay 84 = .ok (.invokevirtual 103, 3) := fx_ok (d := 64) (i := 20) fDX6_lay_1 eX6_lay_63.2.2.2.2.2.2.2.2.2.2.2.2.2.2.1
theorem dX6_lay_87 : decode cX6_lay 87 = .ok (.iadd, 1) := fx_ok (d := 64) (i := 23) fDX6_lay_1 eX6_lay_63.2.2.2.2.2.2.2.2.2.2.2.2.2.2.2
theorem eX6_lay_88 : (fdecl fTX6_lay_1 24 = some (.istore 6, 2)) ∧ (fdecl fTX6_lay_1 29 = some (.goto (-44), 3)) ∧ (fdecl fTX6_lay_1 32 = some (.aload_n 0, 1)) ∧ (fdecl fTX6_lay_1 33 = some (.iload 6, 2)) ∧ (fdecl fTX6_lay_1 35 = some (.invokevirtual 196, 3)) ∧ (fdecl fTX6_lay_1 38 = some (.ireturn, 1)) := by decide +kernel
theorem dX6_lay_88 : decode cX6_lay 88 = .ok (.istore 6, 2) := fx_ok (d := 64) (i := 24) fDX6_lay_1 eX6_lay_88.1
theorem dX6_lay_93 : decode cX6_lay 93 = .ok (.goto (-44), 3) := fx_ok (d := 64) (i := 29) fDX6_lay_1 eX6_lay_88.2.1
theorem dX6_lay_96 : decode cX6_lay 96 = .ok (.aload_n 0, 1) := fx_ok (d := 64) (i := 32) fDX6_lay_1 eX6_lay_88.2.2.1
theorem dX6_lay_97 : decode cX6_lay 97 = .ok (.iload 6, 2) := fx_ok (d := 64) (i := 33) fDX6_lay_1 eX6_lay_88.2.2.2.1
theorem dX6_lay_99 : decode cX6_lay 99 = .ok (.invokevirtual 196, 3) := fx_ok (d := 64) (i := 35) fDX6_lay_1 eX6_lay_88.2.2.2.2.1
theorem dX6_lay_102 : decode cX6_lay 102 = .ok (.ireturn, 1) := fx_ok (d := 64) (i := 38) fDX6_lay_1 eX6_lay_88.2.2.2.2.2
theorem dX6_lay_90 : decode cX6_lay 90 = .ok (.iinc 7 1, 3) := by decide +kernel
def fAX6_shelfBoth_0 : List UInt8 := [42, 27, 184, 0, 193, 153, 0, 14, 28, 184, 0, 193, 153, 0, 7, 4, 167, 0, 4, 3, 29, 3, 5, 184, 0, 41, 182, 0, 63, 154, 0, 5, 3, 172, 27, 28, 160, 0, 8, 42, 182, 0, 89, 172, 3, 54, 4, 3, 54, 5, 21, 5, 16, 100, 162, 0, 59, 42, 180, 0, 15, 28, 50, 21]
def fAX6_shelfBoth_1 : List UInt8 := [5, 182, 0, 49, 29, 4, 159, 0, 7, 4, 167, 0, 4, 3, 160, 0, 29, 21, 4, 42, 42, 180, 0, 15, 27, 50, 21, 5, 29, 154, 0, 7, 3, 167, 0, 4, 2, 182, 0, 103, 96, 54, 4, 132, 5, 1, 167, 255, 196, 42, 21, 4, 182, 0, 196, 172]
def fTX6_shelfBoth_1 : List UInt8 := fAX6_shelfBoth_1
def fTX6_shelfBoth_0 : List UInt8 := fAX6_shelfBoth_0 ++ fTX6_shelfBoth_1
theorem fDX6_shelfBoth_0 : cX6_shelfBoth.data.toList.drop 0 = fTX6_shelfBoth_0 := eq_of_beq (by decide +kernel)
theorem fDX6_shelfBoth_1 : cX6_shelfBoth.data.toList.drop 64 = fTX6_shelfBoth_1 := fx_nx (d := 0) (n := 64) (a := fAX6_shelfBoth_0) fDX6_shelfBoth_0 rfl
theorem eX6_shelfBoth_0 : (fdecl fTX6_shelfBoth_0 0 = some (.aload_n 0, 1)) ∧ (fdecl fTX6_shelfBoth_0 1 = some (.iload_n 1, 1)) ∧ (fdecl fTX6_shelfBoth_0 2 = some (.invokestatic 193, 3)) ∧ (fdecl fTX6_shelfBoth_0 5 = some (.ifCond .eq 14, 3)) ∧ (fdecl fTX6_shelfBoth_0 8 = some (.iload_n 2, 1)) ∧ (fdecl fTX6_shelfBoth_0 9 = some (.invokestatic 193, 3)) ∧ (fdecl fTX6_shelfBoth_0 12 = some (.ifCond .eq 7, 3)) ∧ (fdecl fTX6_shelfBoth_0 15 = some (.iconst 1, 1)) ∧ (fdecl fTX6_shelfBoth_0 16 = some (.goto 4, 3)) ∧ (fdecl fTX6_shelfBoth_0 19 = some (.iconst 0, 1)) ∧ (fdecl fTX6_shelfBoth_0 20 = some (.iload_n 3, 1)) ∧ (fdecl fTX6_shelfBoth_0 21 = some (.iconst 0, 1)) ∧ (fdecl fTX6_shelfBoth_0 22 = some (.iconst 2, 1)) ∧ (fdecl fTX6_shelfBoth_0 23 = some (.invokestatic 41, 3)) ∧ (fdecl fTX6_shelfBoth_0 26 = some (.invokevirtual 63, 3)) ∧ (fdecl fTX6_shelfBoth_0 29 = some (.ifCond .ne 5, 3)) := by decide +kernel
theorem dX6_shelfBoth_0 : decode cX6_shelfBoth 0 = .ok (.aload_n 0, 1) := fx_ok (d := 0) (i := 0) fDX6_shelfBoth_0 eX6_shelfBoth_0.1
theorem dX6_shelfBoth_1 : decode cX6_shelfBoth 1 = .ok (.iload_n 1, 1) := fx_ok (d := 0) (i := 1) fDX6_shelfBoth_0 eX6_shelfBoth_0.2.1
theorem dX6_shelfBoth_2 : decode cX6_shelfBoth 2 = .ok (.invokestatic 193, 3) := fx_ok (d := 0) (i := 2) fDX6_shelfBoth_0 eX6_shelfBoth_0.2.2.1
theorem dX6_shelfBoth_5 : decode cX6_shelfBoth 5 = .ok (.ifCond .eq 14, 3) := fx_ok (d := 0) (i := 5) fDX6_shelfBoth_0 eX6_shelfBoth_0.2.2.2.1
theorem dX6_shelfBoth_8 : decode cX6_shelfBoth 8 = .ok (.iload_n 2, 1) := fx_ok (d := 0) (i := 8) fDX6_shelfBoth_0 eX6_shelfBoth_0.2.2.2.2.1
theorem dX6_shelfBoth_9 : decode cX6_shelfBoth 9 = .ok (.invokestatic 193, 3) := fx_ok (d := 0) (i := 9) fDX6_shelfBoth_0 eX6_shelfBoth_0.2.2.2.2.2.1
theorem dX6_shelfBoth_12 : decode cX6_shelfBoth 12 = .ok (.ifCond .eq 7, 3) := fx_ok (d := 0) (i := 12) fDX6_shelfBoth_0 eX6_shelfBoth_0.2.2.2.2.2.2.1
theorem dX6_shelfBoth_15 : decode cX6_shelfBoth 15 = .ok (.iconst 1, 1) := fx_ok (d := 0) (i := 15) fDX6_shelfBoth_0 eX6_shelfBoth_0.2.2.2.2.2.2.2.1
theorem dX6_shelfBoth_16 : decode cX6_shelfBoth 16 = .ok (.goto 4, 3) := fx_ok (d := 0) (i := 16) fDX6_shelfBoth_0 eX6_shelfBoth_0.2.2.2.2.2.2.2.2.1
theorem dX6_shelfBoth_19 : decode cX6_shelfBoth 19 = .ok (.iconst 0, 1) := fx_ok (d := 0) (i := 19) fDX6_shelfBoth_0 eX6_shelfBoth_0.2.2.2.2.2.2.2.2.2.1
theorem dX6_shelfBoth_20 : decode cX6_shelfBoth 20 = .ok (.iload_n 3, 1) := fx_ok (d := 0) (i := 20) fDX6_shelfBoth_0 eX6_shelfBoth_0.2.2.2.2.2.2.2.2.2.2.1
theorem dX6_shelfBoth_21 : decode cX6_shelfBoth 21 = .ok (.iconst 0, 1) := fx_ok (d := 0) (i := 21) fDX6_shelfBoth_0 eX6_shelfBoth_0.2.2.2.2.2.2.2.2.2.2.2.1
theorem dX6_shelfBoth_22 : decode cX6_shelfBoth 22 = .ok (.iconst 2, 1) := fx_ok (d := 0) (i := 22) fDX6_shelfBoth_0 eX6_shelfBoth_0.2.2.2.2.2.2.2.2.2.2.2.2.1
theorem dX6_shelfBoth_23 : decode cX6_shelfBoth 23 = .ok (.invokestatic 41, 3) := fx_ok (d := 0) (i := 23) fDX6_shelfBoth_0 eX6_shelfBoth_0.2.2.2.2.2.2.2.2.2.2.2.2.2.1
theorem dX6_shelfBoth_26 : decode cX6_shelfBoth 26 = .ok (.invokevirtual 63, 3) := fx_ok (d := 0) (i := 26) fDX6_shelfBoth_0 eX6_shelfBoth_0.2.2.2.2.2.2.2.2.2.2.2.2.2.2.1
theorem dX6_shelfBoth_29 : decode cX6_shelfBoth 29 = .ok (.ifCond .ne 5, 3) := fx_ok (d := 0) (i := 29) fDX6_shelfBoth_0 eX6_shelfBoth_0.2.2.2.2.2.2.2.2.2.2.2.2.2.2.2
theorem eX6_shelfBoth_32 : (fdecl fTX6_shelfBoth_0 32 = some (.iconst 0, 1)) ∧ (fdecl fTX6_shelfBoth_0 33 = some (.ireturn, 1)) ∧ (fdecl fTX6_shelfBoth_0 34 = some (.iload_n 1, 1)) ∧ (fdecl fTX6_shelfBoth_0 35 = some (.iload_n 2, 1)) ∧ (fdecl fTX6_shelfBoth_0 36 = some (.if_icmp .ne 8, 3)) ∧ (fdecl fTX6_shelfBoth_0 39 = some (.aload_n 0, 1)) ∧ (fdecl fTX6_shelfBoth_0 40 = some (.invokevirtual 89, 3)) ∧ (fdecl fTX6_shelfBoth_0 43 = some (.ireturn, 1)) ∧ (fdecl fTX6_shelfBoth_0 44 = some (.iconst 0, 1)) ∧ (fdecl fTX6_shelfBoth_0 45 = some (.istore 4, 2)) ∧ (fdecl fTX6_shelfBoth_0 47 = some (.iconst 0, 1)) ∧ (fdecl fTX6_shelfBoth_0 48 = some (.istore 5, 2)) ∧ (fdecl fTX6_shelfBoth_0 50 = some (.iload 5, 2)) ∧ (fdecl fTX6_shelfBoth_0 52 = some (.bipush 100, 2)) ∧ (fdecl fTX6_shelfBoth_0 54 = some (.if_icmp .ge 59, 3)) ∧ (fdecl fTX6_shelfBoth_0 57 = some (.aload_n 0, 1)) := by decide +kernel
theorem dX6_shelfBoth_32 : decode cX6_shelfBoth 32 = .ok (.iconst 0, 1) := fx_ok (d := 0) (i := 32) fDX6_shelfBoth_0 eX6_shelfBoth_32.1
theorem dX6_shelfBoth_33 : decode cX6_shelfBoth 33 = .ok (.ireturn, 1) := fx_ok (d := 0) (i := 33) fDX6_shelfBoth_0 eX6_shelfBoth_32.2.1
theorem dX6_shelfBoth_34 : decode cX6_shelfBoth 34 = .ok (.iload_n 1, 1) := fx_ok (d := 0) (i := 34) fDX6_shelfBoth_0 eX6_shelfBoth_32.2.2.1
theorem dX6_shelfBoth_35 : decode cX6_shelfBoth 35 = .ok (.iload_n 2, 1) := fx_ok (d := 0) (i := 35) fDX6_shelfBoth_0 eX6_shelfBoth_32.2.2.2.1
theorem dX6_shelfBoth_36 : decode cX6_shelfBoth 36 = .ok (.if_icmp .ne 8, 3) := fx_ok (d := 0) (i := 36) fDX6_shelfBoth_0 eX6_shelfBoth_32.2.2.2.2.1
theorem dX6_shelfBoth_39 : decode cX6_shelfBoth 39 = .ok (.aload_n 0, 1) := fx_ok (d := 0) (i := 39) fDX6_shelfBoth_0 eX6_shelfBoth_32.2.2.2.2.2.1
theorem dX6_shelfBoth_40 : decode cX6_shelfBoth 40 = .ok (.invokevirtual 89, 3) := fx_ok (d := 0) (i := 40) fDX6_shelfBoth_0 eX6_shelfBoth_32.2.2.2.2.2.2.1
theorem dX6_shelfBoth_43 : decode cX6_shelfBoth 43 = .ok (.ireturn, 1) := fx_ok (d := 0) (i := 43) fDX6_shelfBoth_0 eX6_shelfBoth_32.2.2.2.2.2.2.2.1
theorem dX6_shelfBoth_44 : decode cX6_shelfBoth 44 = .ok (.iconst 0, 1) := fx_ok (d := 0) (i := 44) fDX6_shelfBoth_0 eX6_shelfBoth_32.2.2.2.2.2.2.2.2.1
theorem dX6_shelfBoth_45 : decode cX6_shelfBoth 45 = .ok (.istore 4, 2) := fx_ok (d := 0) (i := 45) fDX6_shelfBoth_0 eX6_shelfBoth_32.2.2.2.2.2.2.2.2.2.1
theorem dX6_shelfBoth_47 : decode cX6_shelfBoth 47 = .ok (.iconst 0, 1) := fx_ok (d := 0) (i := 47) fDX6_shelfBoth_0 eX6_shelfBoth_32.2.2.2.2.2.2.2.2.2.2.1
theorem dX6_shelfBoth_48 : decode cX6_shelfBoth 48 = .ok (.istore 5, 2) := fx_ok (d := 0) (i := 48) fDX6_shelfBoth_0 eX6_shelfBoth_32.2.2.2.2.2.2.2.2.2.2.2.1
theorem dX6_shelfBoth_50 : decode cX6_shelfBoth 50 = .ok (.iload 5, 2) := fx_ok (d := 0) (i := 50) fDX6_shelfBoth_0 eX6_shelfBoth_32.2.2.2.2.2.2.2.2.2.2.2.2.1
theorem dX6_shelfBoth_52 : decode cX6_shelfBoth 52 = .ok (.bipush 100, 2) := fx_ok (d := 0) (i := 52) fDX6_shelfBoth_0 eX6_shelfBoth_32.2.2.2.2.2.2.2.2.2.2.2.2.2.1
theorem dX6_shelfBoth_54 : decode cX6_shelfBoth 54 = .ok (.if_icmp .ge 59, 3) := fx_ok (d := 0) (i := 54) fDX6_shelfBoth_0 eX6_shelfBoth_32.2.2.2.2.2.2.2.2.2.2.2.2.2.2.1
theorem dX6_shelfBoth_57 : decode cX6_shelfBoth 57 = .ok (.aload_n 0, 1) := fx_ok (d := 0) (i := 57) fDX6_shelfBoth_0 eX6_shelfBoth_32.2.2.2.2.2.2.2.2.2.2.2.2.2.2.2
theorem eX6_shelfBoth_58 : (fdecl fTX6_shelfBoth_0 58 = some (.getfield 15, 3)) ∧ (fdecl fTX6_shelfBoth_0 61 = some (.iload_n 2, 1)) ∧ (fdecl fTX6_shelfBoth_0 62 = some (.aaload, 1)) ∧ (fdecl fTX6_shelfBoth_0 63 = some (.iload 5, 2)) ∧ (fdecl fTX6_shelfBoth_1 1 = some (.invokevirtual 49, 3)) ∧ (fdecl fTX6_shelfBoth_1 4 = some (.iload_n 3, 1)) ∧ (fdecl fTX6_shelfBoth_1 5 = some (.iconst 1, 1)) ∧ (fdecl fTX6_shelfBoth_1 6 = some (.if_icmp .eq 7, 3)) ∧ (fdecl fTX6_shelfBoth_1 9 = some (.iconst 1, 1)) ∧ (fdecl fTX6_shelfBoth_1 10 = some (.goto 4, 3)) ∧ (fdecl fTX6_shelfBoth_1 13 = some (.iconst 0, 1)) ∧ (fdecl fTX6_shelfBoth_1 14 = some (.if_icmp .ne 29, 3)) ∧ (fdecl fTX6_shelfBoth_1 17 = some (.iload 4, 2)) ∧ (fdecl fTX6_shelfBoth_1 19 = some (.aload_n 0, 1)) ∧ (fdecl fTX6_shelfBoth_1 20 = some (.aload_n 0, 1)) ∧ (fdecl fTX6_shelfBoth_1 21 = some (.getfield 15, 3)) := by decide +kernel
theorem dX6_shelfBoth_58 : decode cX6_shelfBoth 58 = .ok (.getfield 15, 3) := fx_ok (d := 0) (i := 58) fDX6_shelfBoth_0 eX6_shelfBoth_58.1
theorem dX6_shelfBoth_61 : decode cX6_shelfBoth 61 = .ok (.iload_n 2, 1) := fx_ok (d := 0) (i := 61) fDX6_shelfBoth_0 eX6_shelfBoth_58.2.1
theorem dX6_shelfBoth_62 : decode cX6_shelfBoth 62 = .ok (.aaload, 1) := fx_ok (d := 0) (i := 62) fDX6_shelfBoth_0 eX6_shelfBoth_58.2.2.1
theorem dX6_shelfBoth_63 : decode cX6_shelfBoth 63 = .ok (.iload 5, 2) := fx_ok (d := 0) (i := 63) fDX6_shelfBoth_0 eX6_shelfBoth_58.2.2.2.1
theorem dX6_shelfBoth_65 : decode cX6_shelfBoth 65 = .ok (.invokevirtual 49, 3) := fx_ok (d := 64) (i := 1) fDX6_shelfBoth_1 eX6_shelfBoth_58.2.2.2.2.1
theorem dX6_shelfBoth_68 : decode cX6_shelfBoth 68 = .ok (.iload_n 3, 1) := fx_ok (d := 64) (i := 4) fDX6_shelfBoth_1 eX6_shelfBoth_58.2.2.2.2.2.1
theorem dX6_shelfBoth_69 : decode cX6_shelfBoth 69 = .ok (.iconst 1, 1) := fx_ok (d := 64) (i := 5) fDX6_shelfBoth_1 eX6_shelfBoth_58.2.2.2.2.2.2.1
theorem dX6_shelfBoth_70 : decode cX6_shelfBoth 70 = .ok (.if_icmp .eq 7, 3) := fx_ok (d := 64) (i := 6) fDX6_shelfBoth_1 eX6_shelfBoth_58.2.2.2.2.2.2.2.1
theorem dX6_shelfBoth_73 : decode cX6_shelfBoth 73 = .ok (.iconst 1, 1) := fx_ok (d := 64) (i := 9) fDX6_shelfBoth_1 eX6_shelfBoth_58.2.2.2.2.2.2.2.2.1
theorem dX6_shelfBoth_74 : decode cX6_shelfBoth 74 = .ok (.goto 4, 3) := fx_ok (d := 64) (i := 10) fDX6_shelfBoth_1 eX6_shelfBoth_58.2.2.2.2.2.2.2.2.2.1
theorem dX6_shelfBoth_77 : decode cX6_shelfBoth 77 = .ok (.iconst 0, 1) := fx_ok (d := 64) (i := 13) fDX6_shelfBoth_1 eX6_shelfBoth_58.2.2.2.2.2.2.2.2.2.2.1
theorem dX6_shelfBoth_78 : decode cX6_shelfBoth 78 = .ok (.if_icmp .ne 29, 3) := fx_ok (d := 64) (i := 14) fDX6_shelfBoth_1 eX6_shelfBoth_58.2.2.2.2.2.2.2.2.2.2.2.1
theorem dX6_shelfBoth_81 : decode cX6_shelfBoth 81 = .ok (.iload 4, 2) := fx_ok (d := 64) (i := 17) fDX6_shelfBoth_1 eX6_shelfBoth_58.2.2.2.2.2.2.2.2.2.2.2.2.1
theorem dX6_shelfBoth_83 : decode cX6_shelfBoth 83 = .ok (.aload_n 0, 1) := fx_ok (d := 64) (i := 19) fDX6_shelfBoth_1 eX6_shelfBoth_58.2.2.2.2.2.2.2.2.2.2.2.2.2.1
theorem dX6_shelfBoth_84 : decode cX6_shelfBoth 84 = .ok (.aload_n 0, 1) := fx_ok (d := 64) (i := 20) fDX6_shelfBoth_1 eX6_shelfBoth_58.2.2.2.2.2.2.2.2.2.2.2.2.2.2.1
theorem dX6_shelfBoth_85 : decode cX6_shelfBoth 85 = .ok (.getfield 15, 3) := fx_ok (d := 64) (i := 21) fDX6_shelfBoth_1 eX6_shelfBoth_58.2.2.2.2.2.2.2.2.2.2.2.2.2.2.2
theorem eX6_shelfBoth_88 : (fdecl fTX6_shelfBoth_1 24 = some (.iload_n 1, 1)) ∧ (fdecl fTX6_shelfBoth_1 25 = some (.aaload, 1)) ∧ (fdecl fTX6_shelfBoth_1 26 = some (.iload 5, 2)) ∧ (fdecl fTX6_shelfBoth_1 28 = some (.iload_n 3, 1)) ∧ (fdecl fTX6_shelfBoth_1 29 = some (.ifCond .ne 7, 3)) ∧ (fdecl fTX6_shelfBoth_1 32 = some (.iconst 0, 1)) ∧ (fdecl fTX6_shelfBoth_1 33 = some (.goto 4, 3)) ∧ (fdecl fTX6_shelfBoth_1 36 = some (.iconst (-1), 1)) ∧ (fdecl fTX6_shelfBoth_1 37 = some (.invokevirtual 103, 3)) ∧ (fdecl fTX6_shelfBoth_1 40 = some (.iadd, 1)) ∧ (fdecl fTX6_shelfBoth_1 41 = some (.istore 4, 2)) ∧ (fdecl fTX6_shelfBoth_1 46 = some (.goto (-60), 3)) ∧ (fdecl fTX6_shelfBoth_1 49 = some (.aload_n 0, 1)) ∧ (fdecl fTX6_shelfBoth_1 50 = some (.iload 4, 2)) ∧ (fdecl fTX6_shelfBoth_1 52 = some (.invokevirtual 196, 3)) ∧ (fdecl fTX6_shelfBoth_1 55 = some (.ireturn, 1)) := by decide +kernel
theorem dX6_shelfBoth_88 : decode cX6_shelfBoth 88 = .ok (.iload_n 1, 1) := fx_ok (d := 64) (i := 24) fDX6_shelfBoth_1 eX6_shelfBoth_88.1
theorem dX6_shelfBoth_89 : decode cX6_shelfBoth 89 = .ok (.aaload, 1) := fx_ok (d := 64) (i := 25) fDX6_shelfBoth_1 eX6_shelfBoth_88.2.1
theorem dX6_shelfBoth_90 : decode cX6_shelfBoth 90 = .ok (.iload 5, 2) := fx_ok (d := 64) (i := 26) fDX6_shelfBoth_1 eX6_shelfBoth_88.2.2.1
theorem dX6_shelfBoth_92 : decode cX6_shelfBoth 92 = .ok (.iload_n 3, 1) := fx_ok (d := 64) (i := 28) fDX6_shelfBoth_1 eX6_shelfBoth_88.2.2.2.1
theorem dX6_shelfBoth_93 : decode cX6_shelfBoth 93 = .ok (.ifCond .ne 7, 3) := fx_ok (d := 64) (i := 29) fDX6_shelfBoth_1 eX6_shelfBoth_88.2.2.2.2.1
theorem dX6_shelfBoth_96 : decode cX6_shelfBoth 96 = .ok (.iconst 0, 1) := fx_ok (d := 64) (i := 32) fDX6_shelfBoth_1 eX6_shelfBoth_88.2.2.2.2.2.1
theorem dX6_shelfBoth_97 : decode cX6_shelfBoth 97 = .ok (.goto 4, 3) := fx_ok (d := 64) (i := 33) fDX6_shelfBoth_1 eX6_shelfBoth_88.2.2.2.2.2.2.1
theorem dX6_shelfBoth_100 : decode cX6_shelfBoth 100 = .ok (.iconst (-1), 1) := fx_ok (d := 64) (i := 36) fDX6_shelfBoth_1 eX6_shelfBoth_88.2.2.2.2.2.2.2.1
theorem dX6_shelfBoth_101 : decode cX6_shelfBoth 101 = .ok (.invokevirtual 103, 3) := fx_ok (d := 64) (i := 37) fDX6_shelfBoth_1 eX6_shelfBoth_88.2.2.2.2.2.2.2.2.1
theorem dX6_shelfBoth_104 : decode cX6_shelfBoth 104 = .ok (.iadd, 1) := fx_ok (d := 64) (i := 40) fDX6_shelfBoth_1 eX6_shelfBoth_88.2.2.2.2.2.2.2.2.2.1
theorem dX6_shelfBoth_105 : decode cX6_shelfBoth 105 = .ok (.istore 4, 2) := fx_ok (d := 64) (i := 41) fDX6_shelfBoth_1 eX6_shelfBoth_88.2.2.2.2.2.2.2.2.2.2.1
theorem dX6_shelfBoth_110 : decode cX6_shelfBoth 110 = .ok (.goto (-60), 3) := fx_ok (d := 64) (i := 46) fDX6_shelfBoth_1 eX6_shelfBoth_88.2.2.2.2.2.2.2.2.2.2.2.1
theorem dX6_shelfBoth_113 : decode cX6_shelfBoth 113 = .ok (.aload_n 0, 1) := fx_ok (d := 64) (i := 49) fDX6_shelfBoth_1 eX6_shelfBoth_88.2.2.2.2.2.2.2.2.2.2.2.2.1
theorem dX6_shelfBoth_114 : decode cX6_shelfBoth 114 = .ok (.iload 4, 2) := fx_ok (d := 64) (i := 50) fDX6_shelfBoth_1 eX6_shelfBoth_88.2.2.2.2.2.2.2.2.2.2.2.2.2.1
theorem dX6_shelfBoth_116 : decode cX6_shelfBoth 116 = .ok (.invokevirtual 196, 3) := fx_ok (d := 64) (i := 52) fDX6_shelfBoth_1 eX6_shelfBoth_88.2.2.2.2.2.2.2.2.2.2.2.2.2.2.1
theorem dX6_shelfBoth_119 : decode cX6_shelfBoth 119 = .ok (.ireturn, 1) := fx_ok (d := 64) (i := 55) fDX6_shelfBoth_1 eX6_shelfBoth_88.2.2.2.2.2.2.2.2.2.2.2.2.2.2.2
theorem dX6_shelfBoth_107 : decode cX6_shelfBoth 107 = .ok (.iinc 5 1, 3) := by decide +kernel
theorem eX6_key_0 : (fdecl cX6_key.data.toList 0 = some (.iload_n 0, 1)) ∧ (fdecl cX6_key.data.toList 1 = some (.iconst (-1), 1)) ∧ (fdecl cX6_key.data.toList 2 = some (.if_icmp .ne 7, 3)) ∧ (fdecl cX6_key.data.toList 5 = some (.iconst (-1), 1)) ∧ (fdecl cX6_key.data.toList 6 = some (.goto 7, 3)) ∧ (fdecl cX6_key.data.toList 9 = some (.iload_n 0, 1)) ∧ (fdecl cX6_key.data.toList 10 = some (.bipush 100, 2)) ∧ (fdecl cX6_key.data.toList 12 = some (.idiv, 1)) ∧ (fdecl cX6_key.data.toList 13 = some (.ireturn, 1)) := by decide +kernel
theorem dX6_key_0 : decode cX6_key 0 = .ok (.iload_n 0, 1) := fx_ok0 eX6_key_0.1
theorem dX6_key_1 : decode cX6_key 1 = .ok (.iconst (-1), 1) := fx_ok0 eX6_key_0.2.1
theorem dX6_key_2 : decode cX6_key 2 = .ok (.if_icmp .ne 7, 3) := fx_ok0 eX6_key_0.2.2.1
theorem dX6_key_5 : decode cX6_key 5 = .ok (.iconst (-1), 1) := fx_ok0 eX6_key_0.2.2.2.1
theorem dX6_key_6 : decode cX6_key 6 = .ok (.goto 7, 3) := fx_ok0 eX6_key_0.2.2.2.2.1
theorem dX6_key_9 : decode cX6_key 9 = .ok (.iload_n 0, 1) := fx_ok0 eX6_key_0.2.2.2.2.2.1
theorem dX6_key_10 : decode cX6_key 10 = .ok (.bipush 100, 2) := fx_ok0 eX6_key_0.2.2.2.2.2.2.1
theorem dX6_key_12 : decode cX6_key 12 = .ok (.idiv, 1) := fx_ok0 eX6_key_0.2.2.2.2.2.2.2.1
theorem dX6_key_13 : decode cX6_key 13 = .ok (.ireturn, 1) := fx_ok0 eX6_key_0.2.2.2.2.2.2.2.2
theorem eX6_shelfDrop_0 : (fdecl cX6_shelfDrop.data.toList 0 = some (.aload_n 0, 1)) ∧ (fdecl cX6_shelfDrop.data.toList 1 = some (.iload_n 1, 1)) ∧ (fdecl cX6_shelfDrop.data.toList 2 = some (.invokestatic 193, 3)) ∧ (fdecl cX6_shelfDrop.data.toList 5 = some (.iload_n 2, 1)) ∧ (fdecl cX6_shelfDrop.data.toList 6 = some (.iconst 0, 1)) ∧ (fdecl cX6_shelfDrop.data.toList 7 = some (.iconst 2, 1)) ∧ (fdecl cX6_shelfDrop.data.toList 8 = some (.invokestatic 41, 3)) ∧ (fdecl cX6_shelfDrop.data.toList 11 = some (.invokevirtual 63, 3)) ∧ (fdecl cX6_shelfDrop.data.toList 14 = some (.ifCond .ne 5, 3)) ∧ (fdecl cX6_shelfDrop.data.toList 17 = some (.iconst 0, 1)) ∧ (fdecl cX6_shelfDrop.data.toList 18 = some (.ireturn, 1)) ∧ (fdecl cX6_shelfDrop.data.toList 19 = some (.aload_n 0, 1)) ∧ (fdecl cX6_shelfDrop.data.toList 20 = some (.aload_n 0, 1)) ∧ (fdecl cX6_shelfDrop.data.toList 21 = some (.getfield 15, 3)) ∧ (fdecl cX6_shelfDrop.data.toList 24 = some (.iload_n 1, 1)) ∧ (fdecl cX6_shelfDrop.data.toList 25 = some (.aaload, 1)) := by decide +kernel
theorem dX6_shelfDrop_0 : decode cX6_shelfDrop 0 = .ok (.aload_n 0, 1) := fx_ok0 eX6_shelfDrop_0.1
theorem dX6_shelfDrop_1 : decode cX6_shelfDrop 1 = .ok (.iload_n 1, 1) := fx_ok0 eX6_shelfDrop_0.2.1
theorem dX6_shelfDrop_2 : decode cX6_shelfDrop 2 = .ok (.invokestatic 193, 3) := fx_ok0 eX6_shelfDrop_0.2.2.1
theorem dX6_shelfDrop_5 : decode cX6_shelfDrop 5 = .ok (.iload_n 2, 1) := fx_ok0 eX6_shelfDrop_0.2.2.2.1
theorem dX6_shelfDrop_6 : decode cX6_shelfDrop 6 = .ok (.iconst 0, 1) := fx_ok0 eX6_shelfDrop_0.2.2.2.2.1
theorem dX6_shelfDrop_7 : decode cX6_shelfDrop 7 = .ok (.iconst 2, 1) := fx_ok0 eX6_shelfDrop_0.2.2.2.2.2.1
theorem dX6_shelfDrop_8 : decode cX6_shelfDrop 8 = .ok (.invokestatic 41, 3) := fx_ok0 eX6_shelfDrop_0.2.2.2.2.2.2.1
theorem dX6_shelfDrop_11 : decode cX6_shelfDrop 11 = .ok (.invokevirtual 63, 3) := fx_ok0 eX6_shelfDrop_0.2.2.2.2.2.2.2.1
theorem dX6_shelfDrop_14 : decode cX6_shelfDrop 14 = .ok (.ifCond .ne 5, 3) := fx_ok0 eX6_shelfDrop_0.2.2.2.2.2.2.2.2.1
theorem dX6_shelfDrop_17 : decode cX6_shelfDrop 17 = .ok (.iconst 0, 1) := fx_ok0 eX6_shelfDrop_0.2.2.2.2.2.2.2.2.2.1
theorem dX6_shelfDrop_18 : decode cX6_shelfDrop 18 = .ok (.ireturn, 1) := fx_ok0 eX6_shelfDrop_0.2.2.2.2.2.2.2.2.2.2.1
theorem dX6_shelfDrop_19 : decode cX6_shelfDrop 19 = .ok (.aload_n 0, 1) := fx_ok0 eX6_shelfDrop_0.2.2.2.2.2.2.2.2.2.2.2.1
theorem dX6_shelfDrop_20 : decode cX6_shelfDrop 20 = .ok (.aload_n 0, 1) := fx_ok0 eX6_shelfDrop_0.2.2.2.2.2.2.2.2.2.2.2.2.1
theorem dX6_shelfDrop_21 : decode cX6_shelfDrop 21 = .ok (.getfield 15, 3) := fx_ok0 eX6_shelfDrop_0.2.2.2.2.2.2.2.2.2.2.2.2.2.1
theorem dX6_shelfDrop_24 : decode cX6_shelfDrop 24 = .ok (.iload_n 1, 1) := fx_ok0 eX6_shelfDrop_0.2.2.2.2.2.2.2.2.2.2.2.2.2.2.1
theorem dX6_shelfDrop_25 : decode cX6_shelfDrop 25 = .ok (.aaload, 1) := fx_ok0 eX6_shelfDrop_0.2.2.2.2.2.2.2.2.2.2.2.2.2.2.2
theorem eX6_shelfDrop_26 : (fdecl cX6_shelfDrop.data.toList 26 = some (.iload_n 2, 1)) ∧ (fdecl cX6_shelfDrop.data.toList 27 = some (.iconst 0, 1)) ∧ (fdecl cX6_shelfDrop.data.toList 28 = some (.bipush 99, 2)) ∧ (fdecl cX6_shelfDrop.data.toList 30 = some (.invokevirtual 120, 3)) ∧ (fdecl cX6_shelfDrop.data.toList 33 = some (.istore_n 3, 1)) ∧ (fdecl cX6_shelfDrop.data.toList 34 = some (.aload_n 0, 1)) ∧ (fdecl cX6_shelfDrop.data.toList 35 = some (.iload_n 2, 1)) ∧ (fdecl cX6_shelfDrop.data.toList 36 = some (.iconst 2, 1)) ∧ (fdecl cX6_shelfDrop.data.toList 37 = some (.if_icmp .ne 7, 3)) ∧ (fdecl cX6_shelfDrop.data.toList 40 = some (.iload_n 3, 1)) ∧ (fdecl cX6_shelfDrop.data.toList 41 = some (.goto 7, 3)) ∧ (fdecl cX6_shelfDrop.data.toList 44 = some (.iload_n 3, 1)) ∧ (fdecl cX6_shelfDrop.data.toList 45 = some (.invokestatic 199, 3)) ∧ (fdecl cX6_shelfDrop.data.toList 48 = some (.invokevirtual 196, 3)) ∧ (fdecl cX6_shelfDrop.data.toList 51 = some (.ireturn, 1)) := by decide +kernel
theorem dX6_shelfDrop_26 : decode cX6_shelfDrop 26 = .ok (.iload_n 2, 1) := fx_ok0 eX6_shelfDrop_26.1
theorem dX6_shelfDrop_27 : decode cX6_shelfDrop 27 = .ok (.iconst 0, 1) := fx_ok0 eX6_shelfDrop_26.2.1
theorem dX6_shelfDrop_28 : decode cX6_shelfDrop 28 = .ok (.bipush 99, 2) := fx_ok0 eX6_shelfDrop_26.2.2.1
theorem dX6_shelfDrop_30 : decode cX6_shelfDrop 30 = .ok (.invokevirtual 120, 3) := fx_ok0 eX6_shelfDrop_26.2.2.2.1
theorem dX6_shelfDrop_33 : decode cX6_shelfDrop 33 = .ok (.istore_n 3, 1) := fx_ok0 eX6_shelfDrop_26.2.2.2.2.1
theorem dX6_shelfDrop_34 : decode cX6_shelfDrop 34 = .ok (.aload_n 0, 1) := fx_ok0 eX6_shelfDrop_26.2.2.2.2.2.1
theorem dX6_shelfDrop_35 : decode cX6_shelfDrop 35 = .ok (.iload_n 2, 1) := fx_ok0 eX6_shelfDrop_26.2.2.2.2.2.2.1
theorem dX6_shelfDrop_36 : decode cX6_shelfDrop 36 = .ok (.iconst 2, 1) := fx_ok0 eX6_shelfDrop_26.2.2.2.2.2.2.2.1
theorem dX6_shelfDrop_37 : decode cX6_shelfDrop 37 = .ok (.if_icmp .ne 7, 3) := fx_ok0 eX6_shelfDrop_26.2.2.2.2.2.2.2.2.1
theorem dX6_shelfDrop_40 : decode cX6_shelfDrop 40 = .ok (.iload_n 3, 1) := fx_ok0 eX6_shelfDrop_26.2.2.2.2.2.2.2.2.2.1
theorem dX6_shelfDrop_41 : decode cX6_shelfDrop 41 = .ok (.goto 7, 3) := fx_ok0 eX6_shelfDrop_26.2.2.2.2.2.2.2.2.2.2.1
theorem dX6_shelfDrop_44 : decode cX6_shelfDrop 44 = .ok (.iload_n 3, 1) := fx_ok0 eX6_shelfDrop_26.2.2.2.2.2.2.2.2.2.2.2.1
theorem dX6_shelfDrop_45 : decode cX6_shelfDrop 45 = .ok (.invokestatic 199, 3) := fx_ok0 eX6_shelfDrop_26.2.2.2.2.2.2.2.2.2.2.2.2.1
theorem dX6_shelfDrop_48 : decode cX6_shelfDrop 48 = .ok (.invokevirtual 196, 3) := fx_ok0 eX6_shelfDrop_26.2.2.2.2.2.2.2.2.2.2.2.2.2.1
theorem dX6_shelfDrop_51 : decode cX6_shelfDrop 51 = .ok (.ireturn, 1) := fx_ok0 eX6_shelfDrop_26.2.2.2.2.2.2.2.2.2.2.2.2.2.2
def fAX6_shelfCut_0 : List UInt8 := [42, 27, 184, 0, 193, 153, 0, 15, 21, 5, 184, 0, 193, 153, 0, 7, 4, 167, 0, 4, 3, 28, 184, 0, 86, 153, 0, 24, 29, 184, 0, 86, 153, 0, 17, 21, 4, 3, 7, 184, 0, 41, 153, 0, 7, 4, 167, 0, 4, 3, 182, 0, 63, 154, 0, 5, 3, 172, 42, 180, 0, 15, 27, 50]
def fAX6_shelfCut_1 : List UInt8 := [58, 6, 25, 6, 28, 182, 0, 93, 54, 7, 25, 6, 29, 182, 0, 93, 4, 100, 54, 8, 21, 7, 21, 8, 4, 96, 164, 0, 8, 42, 182, 0, 89, 172, 25, 6, 21, 7, 21, 8, 182, 0, 67, 54, 9, 21, 4, 154, 0, 6, 21, 9, 172, 21, 4, 7, 160, 0, 31, 42, 180, 0, 15, 21]
def fAX6_shelfCut_2 : List UInt8 := [5, 25, 6, 25, 6, 180, 0, 75, 21, 7, 21, 8, 182, 0, 78, 83, 42, 21, 9, 182, 0, 196, 172, 42, 25, 6, 21, 4, 4, 160, 0, 7, 5, 167, 0, 7, 21, 4, 5, 100, 21, 7, 21, 8, 182, 0, 120, 54, 10, 42, 21, 4, 4, 160, 0, 8, 21, 9, 167, 0, 8, 21, 10, 184]
def fAX6_shelfCut_3 : List UInt8 := [0, 199, 182, 0, 196, 172]
def fTX6_shelfCut_3 : List UInt8 := fAX6_shelfCut_3
def fTX6_shelfCut_2 : List UInt8 := fAX6_shelfCut_2 ++ fTX6_shelfCut_3
def fTX6_shelfCut_1 : List UInt8 := fAX6_shelfCut_1 ++ fTX6_shelfCut_2
def fTX6_shelfCut_0 : List UInt8 := fAX6_shelfCut_0 ++ fTX6_shelfCut_1
theorem fDX6_shelfCut_0 : cX6_shelfCut.data.toList.drop 0 = fTX6_shelfCut_0 := eq_of_beq (by decide +kernel)
theorem fDX6_shelfCut_1 : cX6_shelfCut.data.toList.drop 64 = fTX6_shelfCut_1 := fx_nx (d := 0) (n := 64) (a := fAX6_shelfCut_0) fDX6_shelfCut_0 rfl
theorem fDX6_shelfCut_2 : cX6_shelfCut.data.toList.drop 128 = fTX6_shelfCut_2 := fx_nx (d := 64) (n := 64) (a := fAX6_shelfCut_1) fDX6_shelfCut_1 rfl
theorem fDX6_shelfCut_3 : cX6_shelfCut.data.toList.drop 192 = fTX6_shelfCut_3 := fx_nx (d := 128) (n := 64) (a := fAX6_shelfCut_2) fDX6_shelfCut_2 rfl
theorem eX6_shelfCut_0 : (fdecl fTX6_shelfCut_0 0 = some (.aload_n 0, 1)) ∧ (fdecl fTX6_shelfCut_0 1 = some (.iload_n 1, 1)) ∧ (fdecl fTX6_shelfCut_0 2 = some (.invokestatic 193, 3)) ∧ (fdecl fTX6_shelfCut_0 5 = some (.ifCond .eq 15, 3)) ∧ (fdecl fTX6_shelfCut_0 8 = some (.iload 5, 2)) ∧ (fdecl fTX6_shelfCut_0 10 = some (.invokestatic 193, 3)) ∧ (fdecl fTX6_shelfCut_0 13 = some (.ifCond .eq 7, 3)) ∧ (fdecl fTX6_shelfCut_0 16 = some (.iconst 1, 1)) ∧ (fdecl fTX6_shelfCut_0 17 = some (.goto 4, 3)) ∧ (fdecl fTX6_shelfCut_0 20 = some (.iconst 0, 1)) ∧ (fdecl fTX6_shelfCut_0 21 = some (.iload_n 2, 1)) ∧ (fdecl fTX6_shelfCut_0 22 = some (.invokestatic 86, 3)) ∧ (fdecl fTX6_shelfCut_0 25 = some (.ifCond .eq 24, 3)) ∧ (fdecl fTX6_shelfCut_0 28 = some (.iload_n 3, 1)) ∧ (fdecl fTX6_shelfCut_0 29 = some (.invokestatic 86, 3)) ∧ (fdecl fTX6_shelfCut_0 32 = some (.ifCond .eq 17, 3)) := by decide +kernel
theorem dX6_shelfCut_0 : decode cX6_shelfCut 0 = .ok (.aload_n 0, 1) := fx_ok (d := 0) (i := 0) fDX6_shelfCut_0 eX6_shelfCut_0.1
theorem dX6_shelfCut_1 : decode cX6_shelfCut 1 = .ok (.iload_n 1, 1) := fx_ok (d := 0) (i := 1) fDX6_shelfCut_0 eX6_shelfCut_0.2.1
theorem dX6_shelfCut_2 : decode cX6_shelfCut 2 = .ok (.invokestatic 193, 3) := fx_ok (d := 0) (i := 2) fDX6_shelfCut_0 eX6_shelfCut_0.2.2.1
theorem dX6_shelfCut_5 : decode cX6_shelfCut 5 = .ok (.ifCond .eq 15, 3) := fx_ok (d := 0) (i := 5) fDX6_shelfCut_0 eX6_shelfCut_0.2.2.2.1
theorem dX6_shelfCut_8 : decode cX6_shelfCut 8 = .ok (.iload 5, 2) := fx_ok (d := 0) (i := 8) fDX6_shelfCut_0 eX6_shelfCut_0.2.2.2.2.1
theorem dX6_shelfCut_10 : decode cX6_shelfCut 10 = .ok (.invokestatic 193, 3) := fx_ok (d := 0) (i := 10) fDX6_shelfCut_0 eX6_shelfCut_0.2.2.2.2.2.1
theorem dX6_shelfCut_13 : decode cX6_shelfCut 13 = .ok (.ifCond .eq 7, 3) := fx_ok (d := 0) (i := 13) fDX6_shelfCut_0 eX6_shelfCut_0.2.2.2.2.2.2.1
theorem dX6_shelfCut_16 : decode cX6_shelfCut 16 = .ok (.iconst 1, 1) := fx_ok (d := 0) (i := 16) fDX6_shelfCut_0 eX6_shelfCut_0.2.2.2.2.2.2.2.1
theorem dX6_shelfCut_17 : decode cX6_shelfCut 17 = .ok (.goto 4, 3) := fx_ok (d := 0) (i := 17) fDX6_shelfCut_0 eX6_shelfCut_0.2.2.2.2.2.2.2.2.1
theorem dX6_shelfCut_20 : decode cX6_shelfCut 20 = .ok (.iconst 0, 1) := fx_ok (d := 0) (i := 20) fDX6_shelfCut_0 eX6_shelfCut_0.2.2.2.2.2.2.2.2.2.1
theorem dX6_shelfCut_21 : decode cX6_shelfCut 21 = .ok (.iload_n 2, 1) := fx_ok (d := 0) (i := 21) fDX6_shelfCut_0 eX6_shelfCut_0.2.2.2.2.2.2.2.2.2.2.1
theorem dX6_shelfCut_22 : decode cX6_shelfCut 22 = .ok (.invokestatic 86, 3) := fx_ok (d := 0) (i := 22) fDX6_shelfCut_0 eX6_shelfCut_0.2.2.2.2.2.2.2.2.2.2.2.1
theorem dX6_shelfCut_25 : decode cX6_shelfCut 25 = .ok (.ifCond .eq 24, 3) := fx_ok (d := 0) (i := 25) fDX6_shelfCut_0 eX6_shelfCut_0.2.2.2.2.2.2.2.2.2.2.2.2.1
theorem dX6_shelfCut_28 : decode cX6_shelfCut 28 = .ok (.iload_n 3, 1) := fx_ok (d := 0) (i := 28) fDX6_shelfCut_0 eX6_shelfCut_0.2.2.2.2.2.2.2.2.2.2.2.2.2.1
theorem dX6_shelfCut_29 : decode cX6_shelfCut 29 = .ok (.invokestatic 86, 3) := fx_ok (d := 0) (i := 29) fDX6_shelfCut_0 eX6_shelfCut_0.2.2.2.2.2.2.2.2.2.2.2.2.2.2.1
theorem dX6_shelfCut_32 : decode cX6_shelfCut 32 = .ok (.ifCond .eq 17, 3) := fx_ok (d := 0) (i := 32) fDX6_shelfCut_0 eX6_shelfCut_0.2.2.2.2.2.2.2.2.2.2.2.2.2.2.2
theorem eX6_shelfCut_35 : (fdecl fTX6_shelfCut_0 35 = some (.iload 4, 2)) ∧ (fdecl fTX6_shelfCut_0 37 = some (.iconst 0, 1)) ∧ (fdecl fTX6_shelfCut_0 38 = some (.iconst 4, 1)) ∧ (fdecl fTX6_shelfCut_0 39 = some (.invokestatic 41, 3)) ∧ (fdecl fTX6_shelfCut_0 42 = some (.ifCond .eq 7, 3)) ∧ (fdecl fTX6_shelfCut_0 45 = some (.iconst 1, 1)) ∧ (fdecl fTX6_shelfCut_0 46 = some (.goto 4, 3)) ∧ (fdecl fTX6_shelfCut_0 49 = some (.iconst 0, 1)) ∧ (fdecl fTX6_shelfCut_0 50 = some (.invokevirtual 63, 3)) ∧ (fdecl fTX6_shelfCut_0 53 = some (.ifCond .ne 5, 3)) ∧ (fdecl fTX6_shelfCut_0 56 = some (.iconst 0, 1)) ∧ (fdecl fTX6_shelfCut_0 57 = some (.ireturn, 1)) ∧ (fdecl fTX6_shelfCut_0 58 = some (.aload_n 0, 1)) ∧ (fdecl fTX6_shelfCut_0 59 = some (.getfield 15, 3)) ∧ (fdecl fTX6_shelfCut_0 62 = some (.iload_n 1, 1)) ∧ (fdecl fTX6_shelfCut_0 63 = some (.aaload, 1)) := by decide +kernel
theorem dX6_shelfCut_35 : decode cX6_shelfCut 35 = .ok (.iload 4, 2) := fx_ok (d := 0) (i := 35) fDX6_shelfCut_0 eX6_shelfCut_35.1
theorem dX6_shelfCut_37 : decode cX6_shelfCut 37 = .ok (.iconst 0, 1) := fx_ok (d := 0) (i := 37) fDX6_shelfCut_0 eX6_shelfCut_35.2.1
theorem dX6_shelfCut_38 : decode cX6_shelfCut 38 = .ok (.iconst 4, 1) := fx_ok (d := 0) (i := 38) fDX6_shelfCut_0 eX6_shelfCut_35.2.2.1
theorem dX6_shelfCut_39 : decode cX6_shelfCut 39 = .ok (.invokestatic 41, 3) := fx_ok (d := 0) (i := 39) fDX6_shelfCut_0 eX6_shelfCut_35.2.2.2.1
theorem dX6_shelfCut_42 : decode cX6_shelfCut 42 = .ok (.ifCond .eq 7, 3) := fx_ok (d := 0) (i := 42) fDX6_shelfCut_0 eX6_shelfCut_35.2.2.2.2.1
theorem dX6_shelfCut_45 : decode cX6_shelfCut 45 = .ok (.iconst 1, 1) := fx_ok (d := 0) (i := 45) fDX6_shelfCut_0 eX6_shelfCut_35.2.2.2.2.2.1
theorem dX6_shelfCut_46 : decode cX6_shelfCut 46 = .ok (.goto 4, 3) := fx_ok (d := 0) (i := 46) fDX6_shelfCut_0 eX6_shelfCut_35.2.2.2.2.2.2.1
theorem dX6_shelfCut_49 : decode cX6_shelfCut 49 = .ok (.iconst 0, 1) := fx_ok (d := 0) (i := 49) fDX6_shelfCut_0 eX6_shelfCut_35.2.2.2.2.2.2.2.1
theorem dX6_shelfCut_50 : decode cX6_shelfCut 50 = .ok (.invokevirtual 63, 3) := fx_ok (d := 0) (i := 50) fDX6_shelfCut_0 eX6_shelfCut_35.2.2.2.2.2.2.2.2.1
theorem dX6_shelfCut_53 : decode cX6_shelfCut 53 = .ok (.ifCond .ne 5, 3) := fx_ok (d := 0) (i := 53) fDX6_shelfCut_0 eX6_shelfCut_35.2.2.2.2.2.2.2.2.2.1
theorem dX6_shelfCut_56 : decode cX6_shelfCut 56 = .ok (.iconst 0, 1) := fx_ok (d := 0) (i := 56) fDX6_shelfCut_0 eX6_shelfCut_35.2.2.2.2.2.2.2.2.2.2.1
theorem dX6_shelfCut_57 : decode cX6_shelfCut 57 = .ok (.ireturn, 1) := fx_ok (d := 0) (i := 57) fDX6_shelfCut_0 eX6_shelfCut_35.2.2.2.2.2.2.2.2.2.2.2.1
theorem dX6_shelfCut_58 : decode cX6_shelfCut 58 = .ok (.aload_n 0, 1) := fx_ok (d := 0) (i := 58) fDX6_shelfCut_0 eX6_shelfCut_35.2.2.2.2.2.2.2.2.2.2.2.2.1
theorem dX6_shelfCut_59 : decode cX6_shelfCut 59 = .ok (.getfield 15, 3) := fx_ok (d := 0) (i := 59) fDX6_shelfCut_0 eX6_shelfCut_35.2.2.2.2.2.2.2.2.2.2.2.2.2.1
theorem dX6_shelfCut_62 : decode cX6_shelfCut 62 = .ok (.iload_n 1, 1) := fx_ok (d := 0) (i := 62) fDX6_shelfCut_0 eX6_shelfCut_35.2.2.2.2.2.2.2.2.2.2.2.2.2.2.1
theorem dX6_shelfCut_63 : decode cX6_shelfCut 63 = .ok (.aaload, 1) := fx_ok (d := 0) (i := 63) fDX6_shelfCut_0 eX6_shelfCut_35.2.2.2.2.2.2.2.2.2.2.2.2.2.2.2
theorem eX6_shelfCut_64 : (fdecl fTX6_shelfCut_1 0 = some (.astore 6, 2)) ∧ (fdecl fTX6_shelfCut_1 2 = some (.aload 6, 2)) ∧ (fdecl fTX6_shelfCut_1 4 = some (.iload_n 2, 1)) ∧ (fdecl fTX6_shelfCut_1 5 = some (.invokevirtual 93, 3)) ∧ (fdecl fTX6_shelfCut_1 8 = some (.istore 7, 2)) ∧ (fdecl fTX6_shelfCut_1 10 = some (.aload 6, 2)) ∧ (fdecl fTX6_shelfCut_1 12 = some (.iload_n 3, 1)) ∧ (fdecl fTX6_shelfCut_1 13 = some (.invokevirtual 93, 3)) ∧ (fdecl fTX6_shelfCut_1 16 = some (.iconst 1, 1)) ∧ (fdecl fTX6_shelfCut_1 17 = some (.isub, 1)) ∧ (fdecl fTX6_shelfCut_1 18 = some (.istore 8, 2)) ∧ (fdecl fTX6_shelfCut_1 20 = some (.iload 7, 2)) ∧ (fdecl fTX6_shelfCut_1 22 = some (.iload 8, 2)) ∧ (fdecl fTX6_shelfCut_1 24 = some (.iconst 1, 1)) ∧ (fdecl fTX6_shelfCut_1 25 = some (.iadd, 1)) ∧ (fdecl fTX6_shelfCut_1 26 = some (.if_icmp .le 8, 3)) := by decide +kernel
theorem dX6_shelfCut_64 : decode cX6_shelfCut 64 = .ok (.astore 6, 2) := fx_ok (d := 64) (i := 0) fDX6_shelfCut_1 eX6_shelfCut_64.1
theorem dX6_shelfCut_66 : decode cX6_shelfCut 66 = .ok (.aload 6, 2) := fx_ok (d := 64) (i := 2) fDX6_shelfCut_1 eX6_shelfCut_64.2.1
theorem dX6_shelfCut_68 : decode cX6_shelfCut 68 = .ok (.iload_n 2, 1) := fx_ok (d := 64) (i := 4) fDX6_shelfCut_1 eX6_shelfCut_64.2.2.1
theorem dX6_shelfCut_69 : decode cX6_shelfCut 69 = .ok (.invokevirtual 93, 3) := fx_ok (d := 64) (i := 5) fDX6_shelfCut_1 eX6_shelfCut_64.2.2.2.1
theorem dX6_shelfCut_72 : decode cX6_shelfCut 72 = .ok (.istore 7, 2) := fx_ok (d := 64) (i := 8) fDX6_shelfCut_1 eX6_shelfCut_64.2.2.2.2.1
theorem dX6_shelfCut_74 : decode cX6_shelfCut 74 = .ok (.aload 6, 2) := fx_ok (d := 64) (i := 10) fDX6_shelfCut_1 eX6_shelfCut_64.2.2.2.2.2.1
theorem dX6_shelfCut_76 : decode cX6_shelfCut 76 = .ok (.iload_n 3, 1) := fx_ok (d := 64) (i := 12) fDX6_shelfCut_1 eX6_shelfCut_64.2.2.2.2.2.2.1
theorem dX6_shelfCut_77 : decode cX6_shelfCut 77 = .ok (.invokevirtual 93, 3) := fx_ok (d := 64) (i := 13) fDX6_shelfCut_1 eX6_shelfCut_64.2.2.2.2.2.2.2.1
theorem dX6_shelfCut_80 : decode cX6_shelfCut 80 = .ok (.iconst 1, 1) := fx_ok (d := 64) (i := 16) fDX6_shelfCut_1 eX6_shelfCut_64.2.2.2.2.2.2.2.2.1
theorem dX6_shelfCut_81 : decode cX6_shelfCut 81 = .ok (.isub, 1) := fx_ok (d := 64) (i := 17) fDX6_shelfCut_1 eX6_shelfCut_64.2.2.2.2.2.2.2.2.2.1
theorem dX6_shelfCut_82 : decode cX6_shelfCut 82 = .ok (.istore 8, 2) := fx_ok (d := 64) (i := 18) fDX6_shelfCut_1 eX6_shelfCut_64.2.2.2.2.2.2.2.2.2.2.1
theorem dX6_shelfCut_84 : decode cX6_shelfCut 84 = .ok (.iload 7, 2) := fx_ok (d := 64) (i := 20) fDX6_shelfCut_1 eX6_shelfCut_64.2.2.2.2.2.2.2.2.2.2.2.1
theorem dX6_shelfCut_86 : decode cX6_shelfCut 86 = .ok (.iload 8, 2) := fx_ok (d := 64) (i := 22) fDX6_shelfCut_1 eX6_shelfCut_64.2.2.2.2.2.2.2.2.2.2.2.2.1
theorem dX6_shelfCut_88 : decode cX6_shelfCut 88 = .ok (.iconst 1, 1) := fx_ok (d := 64) (i := 24) fDX6_shelfCut_1 eX6_shelfCut_64.2.2.2.2.2.2.2.2.2.2.2.2.2.1
theorem dX6_shelfCut_89 : decode cX6_shelfCut 89 = .ok (.iadd, 1) := fx_ok (d := 64) (i := 25) fDX6_shelfCut_1 eX6_shelfCut_64.2.2.2.2.2.2.2.2.2.2.2.2.2.2.1
theorem dX6_shelfCut_90 : decode cX6_shelfCut 90 = .ok (.if_icmp .le 8, 3) := fx_ok (d := 64) (i := 26) fDX6_shelfCut_1 eX6_shelfCut_64.2.2.2.2.2.2.2.2.2.2.2.2.2.2.2
theorem eX6_shelfCut_93 : (fdecl fTX6_shelfCut_1 29 = some (.aload_n 0, 1)) ∧ (fdecl fTX6_shelfCut_1 30 = some (.invokevirtual 89, 3)) ∧ (fdecl fTX6_shelfCut_1 33 = some (.ireturn, 1)) ∧ (fdecl fTX6_shelfCut_1 34 = some (.aload 6, 2)) ∧ (fdecl fTX6_shelfCut_1 36 = some (.iload 7, 2)) ∧ (fdecl fTX6_shelfCut_1 38 = some (.iload 8, 2)) ∧ (fdecl fTX6_shelfCut_1 40 = some (.invokevirtual 67, 3)) ∧ (fdecl fTX6_shelfCut_1 43 = some (.istore 9, 2)) ∧ (fdecl fTX6_shelfCut_1 45 = some (.iload 4, 2)) ∧ (fdecl fTX6_shelfCut_1 47 = some (.ifCond .ne 6, 3)) ∧ (fdecl fTX6_shelfCut_1 50 = some (.iload 9, 2)) ∧ (fdecl fTX6_shelfCut_1 52 = some (.ireturn, 1)) ∧ (fdecl fTX6_shelfCut_1 53 = some (.iload 4, 2)) ∧ (fdecl fTX6_shelfCut_1 55 = some (.iconst 4, 1)) ∧ (fdecl fTX6_shelfCut_1 56 = some (.if_icmp .ne 31, 3)) ∧ (fdecl fTX6_shelfCut_1 59 = some (.aload_n 0, 1)) := by decide +kernel
theorem dX6_shelfCut_93 : decode cX6_shelfCut 93 = .ok (.aload_n 0, 1) := fx_ok (d := 64) (i := 29) fDX6_shelfCut_1 eX6_shelfCut_93.1
theorem dX6_shelfCut_94 : decode cX6_shelfCut 94 = .ok (.invokevirtual 89, 3) := fx_ok (d := 64) (i := 30) fDX6_shelfCut_1 eX6_shelfCut_93.2.1
theorem dX6_shelfCut_97 : decode cX6_shelfCut 97 = .ok (.ireturn, 1) := fx_ok (d := 64) (i := 33) fDX6_shelfCut_1 eX6_shelfCut_93.2.2.1
theorem dX6_shelfCut_98 : decode cX6_shelfCut 98 = .ok (.aload 6, 2) := fx_ok (d := 64) (i := 34) fDX6_shelfCut_1 eX6_shelfCut_93.2.2.2.1
theorem dX6_shelfCut_100 : decode cX6_shelfCut 100 = .ok (.iload 7, 2) := fx_ok (d := 64) (i := 36) fDX6_shelfCut_1 eX6_shelfCut_93.2.2.2.2.1
theorem dX6_shelfCut_102 : decode cX6_shelfCut 102 = .ok (.iload 8, 2) := fx_ok (d := 64) (i := 38) fDX6_shelfCut_1 eX6_shelfCut_93.2.2.2.2.2.1
theorem dX6_shelfCut_104 : decode cX6_shelfCut 104 = .ok (.invokevirtual 67, 3) := fx_ok (d := 64) (i := 40) fDX6_shelfCut_1 eX6_shelfCut_93.2.2.2.2.2.2.1
theorem dX6_shelfCut_107 : decode cX6_shelfCut 107 = .ok (.istore 9, 2) := fx_ok (d := 64) (i := 43) fDX6_shelfCut_1 eX6_shelfCut_93.2.2.2.2.2.2.2.1
theorem dX6_shelfCut_109 : decode cX6_shelfCut 109 = .ok (.iload 4, 2) := fx_ok (d := 64) (i := 45) fDX6_shelfCut_1 eX6_shelfCut_93.2.2.2.2.2.2.2.2.1
theorem dX6_shelfCut_111 : decode cX6_shelfCut 111 = .ok (.ifCond .ne 6, 3) := fx_ok (d := 64) (i := 47) fDX6_shelfCut_1 eX6_shelfCut_93.2.2.2.2.2.2.2.2.2.1
theorem dX6_shelfCut_114 : decode cX6_shelfCut 114 = .ok (.iload 9, 2) := fx_ok (d := 64) (i := 50) fDX6_shelfCut_1 eX6_shelfCut_93.2.2.2.2.2.2.2.2.2.2.1
theorem dX6_shelfCut_116 : decode cX6_shelfCut 116 = .ok (.ireturn, 1) := fx_ok (d := 64) (i := 52) fDX6_shelfCut_1 eX6_shelfCut_93.2.2.2.2.2.2.2.2.2.2.2.1
theorem dX6_shelfCut_117 : decode cX6_shelfCut 117 = .ok (.iload 4, 2) := fx_ok (d := 64) (i := 53) fDX6_shelfCut_1 eX6_shelfCut_93.2.2.2.2.2.2.2.2.2.2.2.2.1
theorem dX6_shelfCut_119 : decode cX6_shelfCut 119 = .ok (.iconst 4, 1) := fx_ok (d := 64) (i := 55) fDX6_shelfCut_1 eX6_shelfCut_93.2.2.2.2.2.2.2.2.2.2.2.2.2.1
theorem dX6_shelfCut_120 : decode cX6_shelfCut 120 = .ok (.if_icmp .ne 31, 3) := fx_ok (d := 64) (i := 56) fDX6_shelfCut_1 eX6_shelfCut_93.2.2.2.2.2.2.2.2.2.2.2.2.2.2.1
theorem dX6_shelfCut_123 : decode cX6_shelfCut 123 = .ok (.aload_n 0, 1) := fx_ok (d := 64) (i := 59) fDX6_shelfCut_1 eX6_shelfCut_93.2.2.2.2.2.2.2.2.2.2.2.2.2.2.2
theorem eX6_shelfCut_124 : (fdecl fTX6_shelfCut_1 60 = some (.getfield 15, 3)) ∧ (fdecl fTX6_shelfCut_1 63 = some (.iload 5, 2)) ∧ (fdecl fTX6_shelfCut_2 1 = some (.aload 6, 2)) ∧ (fdecl fTX6_shelfCut_2 3 = some (.aload 6, 2)) ∧ (fdecl fTX6_shelfCut_2 5 = some (.getfield 75, 3)) ∧ (fdecl fTX6_shelfCut_2 8 = some (.iload 7, 2)) ∧ (fdecl fTX6_shelfCut_2 10 = some (.iload 8, 2)) ∧ (fdecl fTX6_shelfCut_2 12 = some (.invokevirtual 78, 3)) ∧ (fdecl fTX6_shelfCut_2 15 = some (.aastore, 1)) ∧ (fdecl fTX6_shelfCut_2 16 = some (.aload_n 0, 1)) ∧ (fdecl fTX6_shelfCut_2 17 = some (.iload 9, 2)) ∧ (fdecl fTX6_shelfCut_2 19 = some (.invokevirtual 196, 3)) ∧ (fdecl fTX6_shelfCut_2 22 = some (.ireturn, 1)) ∧ (fdecl fTX6_shelfCut_2 23 = some (.aload_n 0, 1)) ∧ (fdecl fTX6_shelfCut_2 24 = some (.aload 6, 2)) ∧ (fdecl fTX6_shelfCut_2 26 = some (.iload 4, 2)) := by decide +kernel
theorem dX6_shelfCut_124 : decode cX6_shelfCut 124 = .ok (.getfield 15, 3) := fx_ok (d := 64) (i := 60) fDX6_shelfCut_1 eX6_shelfCut_124.1
theorem dX6_shelfCut_127 : decode cX6_shelfCut 127 = .ok (.iload 5, 2) := fx_ok (d := 64) (i := 63) fDX6_shelfCut_1 eX6_shelfCut_124.2.1
theorem dX6_shelfCut_129 : decode cX6_shelfCut 129 = .ok (.aload 6, 2) := fx_ok (d := 128) (i := 1) fDX6_shelfCut_2 eX6_shelfCut_124.2.2.1
theorem dX6_shelfCut_131 : decode cX6_shelfCut 131 = .ok (.aload 6, 2) := fx_ok (d := 128) (i := 3) fDX6_shelfCut_2 eX6_shelfCut_124.2.2.2.1
theorem dX6_shelfCut_133 : decode cX6_shelfCut 133 = .ok (.getfield 75, 3) := fx_ok (d := 128) (i := 5) fDX6_shelfCut_2 eX6_shelfCut_124.2.2.2.2.1
theorem dX6_shelfCut_136 : decode cX6_shelfCut 136 = .ok (.iload 7, 2) := fx_ok (d := 128) (i := 8) fDX6_shelfCut_2 eX6_shelfCut_124.2.2.2.2.2.1
theorem dX6_shelfCut_138 : decode cX6_shelfCut 138 = .ok (.iload 8, 2) := fx_ok (d := 128) (i := 10) fDX6_shelfCut_2 eX6_shelfCut_124.2.2.2.2.2.2.1
theorem dX6_shelfCut_140 : decode cX6_shelfCut 140 = .ok (.invokevirtual 78, 3) := fx_ok (d := 128) (i := 12) fDX6_shelfCut_2 eX6_shelfCut_124.2.2.2.2.2.2.2.1
theorem dX6_shelfCut_143 : decode cX6_shelfCut 143 = .ok (.aastore, 1) := fx_ok (d := 128) (i := 15) fDX6_shelfCut_2 eX6_shelfCut_124.2.2.2.2.2.2.2.2.1
theorem dX6_shelfCut_144 : decode cX6_shelfCut 144 = .ok (.aload_n 0, 1) := fx_ok (d := 128) (i := 16) fDX6_shelfCut_2 eX6_shelfCut_124.2.2.2.2.2.2.2.2.2.1
theorem dX6_shelfCut_145 : decode cX6_shelfCut 145 = .ok (.iload 9, 2) := fx_ok (d := 128) (i := 17) fDX6_shelfCut_2 eX6_shelfCut_124.2.2.2.2.2.2.2.2.2.2.1
theorem dX6_shelfCut_147 : decode cX6_shelfCut 147 = .ok (.invokevirtual 196, 3) := fx_ok (d := 128) (i := 19) fDX6_shelfCut_2 eX6_shelfCut_124.2.2.2.2.2.2.2.2.2.2.2.1
theorem dX6_shelfCut_150 : decode cX6_shelfCut 150 = .ok (.ireturn, 1) := fx_ok (d := 128) (i := 22) fDX6_shelfCut_2 eX6_shelfCut_124.2.2.2.2.2.2.2.2.2.2.2.2.1
theorem dX6_shelfCut_151 : decode cX6_shelfCut 151 = .ok (.aload_n 0, 1) := fx_ok (d := 128) (i := 23) fDX6_shelfCut_2 eX6_shelfCut_124.2.2.2.2.2.2.2.2.2.2.2.2.2.1
theorem dX6_shelfCut_152 : decode cX6_shelfCut 152 = .ok (.aload 6, 2) := fx_ok (d := 128) (i := 24) fDX6_shelfCut_2 eX6_shelfCut_124.2.2.2.2.2.2.2.2.2.2.2.2.2.2.1
theorem dX6_shelfCut_154 : decode cX6_shelfCut 154 = .ok (.iload 4, 2) := fx_ok (d := 128) (i := 26) fDX6_shelfCut_2 eX6_shelfCut_124.2.2.2.2.2.2.2.2.2.2.2.2.2.2.2
theorem eX6_shelfCut_156 : (fdecl fTX6_shelfCut_2 28 = some (.iconst 1, 1)) ∧ (fdecl fTX6_shelfCut_2 29 = some (.if_icmp .ne 7, 3)) ∧ (fdecl fTX6_shelfCut_2 32 = some (.iconst 2, 1)) ∧ (fdecl fTX6_shelfCut_2 33 = some (.goto 7, 3)) ∧ (fdecl fTX6_shelfCut_2 36 = some (.iload 4, 2)) ∧ (fdecl fTX6_shelfCut_2 38 = some (.iconst 2, 1)) ∧ (fdecl fTX6_shelfCut_2 39 = some (.isub, 1)) ∧ (fdecl fTX6_shelfCut_2 40 = some (.iload 7, 2)) ∧ (fdecl fTX6_shelfCut_2 42 = some (.iload 8, 2)) ∧ (fdecl fTX6_shelfCut_2 44 = some (.invokevirtual 120, 3)) ∧ (fdecl fTX6_shelfCut_2 47 = some (.istore 10, 2)) ∧ (fdecl fTX6_shelfCut_2 49 = some (.aload_n 0, 1)) ∧ (fdecl fTX6_shelfCut_2 50 = some (.iload 4, 2)) ∧ (fdecl fTX6_shelfCut_2 52 = some (.iconst 1, 1)) ∧ (fdecl fTX6_shelfCut_2 53 = some (.if_icmp .ne 8, 3)) ∧ (fdecl fTX6_shelfCut_2 56 = some (.iload 9, 2)) := by decide +kernel
theorem dX6_shelfCut_156 : decode cX6_shelfCut 156 = .ok (.iconst 1, 1) := fx_ok (d := 128) (i := 28) fDX6_shelfCut_2 eX6_shelfCut_156.1
theorem dX6_shelfCut_157 : decode cX6_shelfCut 157 = .ok (.if_icmp .ne 7, 3) := fx_ok (d := 128) (i := 29) fDX6_shelfCut_2 eX6_shelfCut_156.2.1
theorem dX6_shelfCut_160 : decode cX6_shelfCut 160 = .ok (.iconst 2, 1) := fx_ok (d := 128) (i := 32) fDX6_shelfCut_2 eX6_shelfCut_156.2.2.1
theorem dX6_shelfCut_161 : decode cX6_shelfCut 161 = .ok (.goto 7, 3) := fx_ok (d := 128) (i := 33) fDX6_shelfCut_2 eX6_shelfCut_156.2.2.2.1
theorem dX6_shelfCut_164 : decode cX6_shelfCut 164 = .ok (.iload 4, 2) := fx_ok (d := 128) (i := 36) fDX6_shelfCut_2 eX6_shelfCut_156.2.2.2.2.1
theorem dX6_shelfCut_166 : decode cX6_shelfCut 166 = .ok (.iconst 2, 1) := fx_ok (d := 128) (i := 38) fDX6_shelfCut_2 eX6_shelfCut_156.2.2.2.2.2.1
theorem dX6_shelfCut_167 : decode cX6_shelfCut 167 = .ok (.isub, 1) := fx_ok (d := 128) (i := 39) fDX6_shelfCut_2 eX6_shelfCut_156.2.2.2.2.2.2.1
theorem dX6_shelfCut_168 : decode cX6_shelfCut 168 = .ok (.iload 7, 2) := fx_ok (d := 128) (i := 40) fDX6_shelfCut_2 eX6_shelfCut_156.2.2.2.2.2.2.2.1
theorem dX6_shelfCut_170 : decode cX6_shelfCut 170 = .ok (.iload 8, 2) := fx_ok (d := 128) (i := 42) fDX6_shelfCut_2 eX6_shelfCut_156.2.2.2.2.2.2.2.2.1
theorem dX6_shelfCut_172 : decode cX6_shelfCut 172 = .ok (.invokevirtual 120, 3) := fx_ok (d := 128) (i := 44) fDX6_shelfCut_2 eX6_shelfCut_156.2.2.2.2.2.2.2.2.2.1
theorem dX6_shelfCut_175 : decode cX6_shelfCut 175 = .ok (.istore 10, 2) := fx_ok (d := 128) (i := 47) fDX6_shelfCut_2 eX6_shelfCut_156.2.2.2.2.2.2.2.2.2.2.1
theorem dX6_shelfCut_177 : decode cX6_shelfCut 177 = .ok (.aload_n 0, 1) := fx_ok (d := 128) (i := 49) fDX6_shelfCut_2 eX6_shelfCut_156.2.2.2.2.2.2.2.2.2.2.2.1
theorem dX6_shelfCut_178 : decode cX6_shelfCut 178 = .ok (.iload 4, 2) := fx_ok (d := 128) (i := 50) fDX6_shelfCut_2 eX6_shelfCut_156.2.2.2.2.2.2.2.2.2.2.2.2.1
theorem dX6_shelfCut_180 : decode cX6_shelfCut 180 = .ok (.iconst 1, 1) := fx_ok (d := 128) (i := 52) fDX6_shelfCut_2 eX6_shelfCut_156.2.2.2.2.2.2.2.2.2.2.2.2.2.1
theorem dX6_shelfCut_181 : decode cX6_shelfCut 181 = .ok (.if_icmp .ne 8, 3) := fx_ok (d := 128) (i := 53) fDX6_shelfCut_2 eX6_shelfCut_156.2.2.2.2.2.2.2.2.2.2.2.2.2.2.1
theorem dX6_shelfCut_184 : decode cX6_shelfCut 184 = .ok (.iload 9, 2) := fx_ok (d := 128) (i := 56) fDX6_shelfCut_2 eX6_shelfCut_156.2.2.2.2.2.2.2.2.2.2.2.2.2.2.2
theorem eX6_shelfCut_186 : (fdecl fTX6_shelfCut_2 58 = some (.goto 8, 3)) ∧ (fdecl fTX6_shelfCut_2 61 = some (.iload 10, 2)) ∧ (fdecl fTX6_shelfCut_2 63 = some (.invokestatic 199, 3)) ∧ (fdecl fTX6_shelfCut_3 2 = some (.invokevirtual 196, 3)) ∧ (fdecl fTX6_shelfCut_3 5 = some (.ireturn, 1)) := by decide +kernel
theorem dX6_shelfCut_186 : decode cX6_shelfCut 186 = .ok (.goto 8, 3) := fx_ok (d := 128) (i := 58) fDX6_shelfCut_2 eX6_shelfCut_186.1
theorem dX6_shelfCut_189 : decode cX6_shelfCut 189 = .ok (.iload 10, 2) := fx_ok (d := 128) (i := 61) fDX6_shelfCut_2 eX6_shelfCut_186.2.1
theorem dX6_shelfCut_191 : decode cX6_shelfCut 191 = .ok (.invokestatic 199, 3) := fx_ok (d := 128) (i := 63) fDX6_shelfCut_2 eX6_shelfCut_186.2.2.1
theorem dX6_shelfCut_194 : decode cX6_shelfCut 194 = .ok (.invokevirtual 196, 3) := fx_ok (d := 192) (i := 2) fDX6_shelfCut_3 eX6_shelfCut_186.2.2.2.1
theorem dX6_shelfCut_197 : decode cX6_shelfCut 197 = .ok (.ireturn, 1) := fx_ok (d := 192) (i := 5) fDX6_shelfCut_3 eX6_shelfCut_186.2.2.2.2
theorem eX6_shelfNear_0 : (fdecl cX6_shelfNear.data.toList 0 = some (.aload_n 0, 1)) ∧ (fdecl cX6_shelfNear.data.toList 1 = some (.iload_n 1, 1)) ∧ (fdecl cX6_shelfNear.data.toList 2 = some (.invokestatic 193, 3)) ∧ (fdecl cX6_shelfNear.data.toList 5 = some (.iload_n 2, 1)) ∧ (fdecl cX6_shelfNear.data.toList 6 = some (.invokestatic 86, 3)) ∧ (fdecl cX6_shelfNear.data.toList 9 = some (.ifCond .eq 16, 3)) ∧ (fdecl cX6_shelfNear.data.toList 12 = some (.iload_n 3, 1)) ∧ (fdecl cX6_shelfNear.data.toList 13 = some (.iconst 0, 1)) ∧ (fdecl cX6_shelfNear.data.toList 14 = some (.iconst 4, 1)) ∧ (fdecl cX6_shelfNear.data.toList 15 = some (.invokestatic 41, 3)) ∧ (fdecl cX6_shelfNear.data.toList 18 = some (.ifCond .eq 7, 3)) ∧ (fdecl cX6_shelfNear.data.toList 21 = some (.iconst 1, 1)) ∧ (fdecl cX6_shelfNear.data.toList 22 = some (.goto 4, 3)) ∧ (fdecl cX6_shelfNear.data.toList 25 = some (.iconst 0, 1)) ∧ (fdecl cX6_shelfNear.data.toList 26 = some (.invokevirtual 63, 3)) ∧ (fdecl cX6_shelfNear.data.toList 29 = some (.ifCond .eq 20, 3)) := by decide +kernel
theorem dX6_shelfNear_0 : decode cX6_shelfNear 0 = .ok (.aload_n 0, 1) := fx_ok0 eX6_shelfNear_0.1
theorem dX6_shelfNear_1 : decode cX6_shelfNear 1 = .ok (.iload_n 1, 1) := fx_ok0 eX6_shelfNear_0.2.1
theorem dX6_shelfNear_2 : decode cX6_shelfNear 2 = .ok (.invokestatic 193, 3) := fx_ok0 eX6_shelfNear_0.2.2.1
theorem dX6_shelfNear_5 : decode cX6_shelfNear 5 = .ok (.iload_n 2, 1) := fx_ok0 eX6_shelfNear_0.2.2.2.1
theorem dX6_shelfNear_6 : decode cX6_shelfNear 6 = .ok (.invokestatic 86, 3) := fx_ok0 eX6_shelfNear_0.2.2.2.2.1
theorem dX6_shelfNear_9 : decode cX6_shelfNear 9 = .ok (.ifCond .eq 16, 3) := fx_ok0 eX6_shelfNear_0.2.2.2.2.2.1
theorem dX6_shelfNear_12 : decode cX6_shelfNear 12 = .ok (.iload_n 3, 1) := fx_ok0 eX6_shelfNear_0.2.2.2.2.2.2.1
theorem dX6_shelfNear_13 : decode cX6_shelfNear 13 = .ok (.iconst 0, 1) := fx_ok0 eX6_shelfNear_0.2.2.2.2.2.2.2.1
theorem dX6_shelfNear_14 : decode cX6_shelfNear 14 = .ok (.iconst 4, 1) := fx_ok0 eX6_shelfNear_0.2.2.2.2.2.2.2.2.1
theorem dX6_shelfNear_15 : decode cX6_shelfNear 15 = .ok (.invokestatic 41, 3) := fx_ok0 eX6_shelfNear_0.2.2.2.2.2.2.2.2.2.1
theorem dX6_shelfNear_18 : decode cX6_shelfNear 18 = .ok (.ifCond .eq 7, 3) := fx_ok0 eX6_shelfNear_0.2.2.2.2.2.2.2.2.2.2.1
theorem dX6_shelfNear_21 : decode cX6_shelfNear 21 = .ok (.iconst 1, 1) := fx_ok0 eX6_shelfNear_0.2.2.2.2.2.2.2.2.2.2.2.1
theorem dX6_shelfNear_22 : decode cX6_shelfNear 22 = .ok (.goto 4, 3) := fx_ok0 eX6_shelfNear_0.2.2.2.2.2.2.2.2.2.2.2.2.1
theorem dX6_shelfNear_25 : decode cX6_shelfNear 25 = .ok (.iconst 0, 1) := fx_ok0 eX6_shelfNear_0.2.2.2.2.2.2.2.2.2.2.2.2.2.1
theorem dX6_shelfNear_26 : decode cX6_shelfNear 26 = .ok (.invokevirtual 63, 3) := fx_ok0 eX6_shelfNear_0.2.2.2.2.2.2.2.2.2.2.2.2.2.2.1
theorem dX6_shelfNear_29 : decode cX6_shelfNear 29 = .ok (.ifCond .eq 20, 3) := fx_ok0 eX6_shelfNear_0.2.2.2.2.2.2.2.2.2.2.2.2.2.2.2
theorem eX6_shelfNear_32 : (fdecl cX6_shelfNear.data.toList 32 = some (.aload_n 0, 1)) ∧ (fdecl cX6_shelfNear.data.toList 33 = some (.getfield 15, 3)) ∧ (fdecl cX6_shelfNear.data.toList 36 = some (.iload_n 1, 1)) ∧ (fdecl cX6_shelfNear.data.toList 37 = some (.aaload, 1)) ∧ (fdecl cX6_shelfNear.data.toList 38 = some (.iload_n 2, 1)) ∧ (fdecl cX6_shelfNear.data.toList 39 = some (.iload_n 3, 1)) ∧ (fdecl cX6_shelfNear.data.toList 40 = some (.iconst 0, 1)) ∧ (fdecl cX6_shelfNear.data.toList 41 = some (.bipush 99, 2)) ∧ (fdecl cX6_shelfNear.data.toList 43 = some (.invokevirtual 124, 3)) ∧ (fdecl cX6_shelfNear.data.toList 46 = some (.goto 4, 3)) ∧ (fdecl cX6_shelfNear.data.toList 49 = some (.iconst 0, 1)) ∧ (fdecl cX6_shelfNear.data.toList 50 = some (.ireturn, 1)) := by decide +kernel
theorem dX6_shelfNear_32 : decode cX6_shelfNear 32 = .ok (.aload_n 0, 1) := fx_ok0 eX6_shelfNear_32.1
theorem dX6_shelfNear_33 : decode cX6_shelfNear 33 = .ok (.getfield 15, 3) := fx_ok0 eX6_shelfNear_32.2.1
theorem dX6_shelfNear_36 : decode cX6_shelfNear 36 = .ok (.iload_n 1, 1) := fx_ok0 eX6_shelfNear_32.2.2.1
theorem dX6_shelfNear_37 : decode cX6_shelfNear 37 = .ok (.aaload, 1) := fx_ok0 eX6_shelfNear_32.2.2.2.1
theorem dX6_shelfNear_38 : decode cX6_shelfNear 38 = .ok (.iload_n 2, 1) := fx_ok0 eX6_shelfNear_32.2.2.2.2.1
theorem dX6_shelfNear_39 : decode cX6_shelfNear 39 = .ok (.iload_n 3, 1) := fx_ok0 eX6_shelfNear_32.2.2.2.2.2.1
theorem dX6_shelfNear_40 : decode cX6_shelfNear 40 = .ok (.iconst 0, 1) := fx_ok0 eX6_shelfNear_32.2.2.2.2.2.2.1
theorem dX6_shelfNear_41 : decode cX6_shelfNear 41 = .ok (.bipush 99, 2) := fx_ok0 eX6_shelfNear_32.2.2.2.2.2.2.2.1
theorem dX6_shelfNear_43 : decode cX6_shelfNear 43 = .ok (.invokevirtual 124, 3) := fx_ok0 eX6_shelfNear_32.2.2.2.2.2.2.2.2.1
theorem dX6_shelfNear_46 : decode cX6_shelfNear 46 = .ok (.goto 4, 3) := fx_ok0 eX6_shelfNear_32.2.2.2.2.2.2.2.2.2.1
theorem dX6_shelfNear_49 : decode cX6_shelfNear 49 = .ok (.iconst 0, 1) := fx_ok0 eX6_shelfNear_32.2.2.2.2.2.2.2.2.2.2.1
theorem dX6_shelfNear_50 : decode cX6_shelfNear 50 = .ok (.ireturn, 1) := fx_ok0 eX6_shelfNear_32.2.2.2.2.2.2.2.2.2.2.2
theorem eX6_sum__0 : (fdecl cX6_sum_.data.toList 0 = some (.iconst 0, 1)) ∧ (fdecl cX6_sum_.data.toList 1 = some (.istore_n 1, 1)) ∧ (fdecl cX6_sum_.data.toList 2 = some (.iconst 0, 1)) ∧ (fdecl cX6_sum_.data.toList 3 = some (.istore_n 2, 1)) ∧ (fdecl cX6_sum_.data.toList 4 = some (.iload_n 2, 1)) ∧ (fdecl cX6_sum_.data.toList 5 = some (.bipush 100, 2)) ∧ (fdecl cX6_sum_.data.toList 7 = some (.if_icmp .ge 25, 3)) ∧ (fdecl cX6_sum_.data.toList 10 = some (.iload_n 1, 1)) ∧ (fdecl cX6_sum_.data.toList 11 = some (.aload_n 0, 1)) ∧ (fdecl cX6_sum_.data.toList 12 = some (.iload_n 2, 1)) ∧ (fdecl cX6_sum_.data.toList 13 = some (.invokevirtual 49, 3)) ∧ (fdecl cX6_sum_.data.toList 16 = some (.ifCond .eq 7, 3)) ∧ (fdecl cX6_sum_.data.toList 19 = some (.iload_n 2, 1)) ∧ (fdecl cX6_sum_.data.toList 20 = some (.goto 4, 3)) ∧ (fdecl cX6_sum_.data.toList 23 = some (.iconst 0, 1)) ∧ (fdecl cX6_sum_.data.toList 24 = some (.iadd, 1)) := by decide +kernel
theorem dX6_sum__0 : decode cX6_sum_ 0 = .ok (.iconst 0, 1) := fx_ok0 eX6_sum__0.1
theorem dX6_sum__1 : decode cX6_sum_ 1 = .ok (.istore_n 1, 1) := fx_ok0 eX6_sum__0.2.1
theorem dX6_sum__2 : decode cX6_sum_ 2 = .ok (.iconst 0, 1) := fx_ok0 eX6_sum__0.2.2.1
theorem dX6_sum__3 : decode cX6_sum_ 3 = .ok (.istore_n 2, 1) := fx_ok0 eX6_sum__0.2.2.2.1
theorem dX6_sum__4 : decode cX6_sum_ 4 = .ok (.iload_n 2, 1) := fx_ok0 eX6_sum__0.2.2.2.2.1
theorem dX6_sum__5 : decode cX6_sum_ 5 = .ok (.bipush 100, 2) := fx_ok0 eX6_sum__0.2.2.2.2.2.1
theorem dX6_sum__7 : decode cX6_sum_ 7 = .ok (.if_icmp .ge 25, 3) := fx_ok0 eX6_sum__0.2.2.2.2.2.2.1
theorem dX6_sum__10 : decode cX6_sum_ 10 = .ok (.iload_n 1, 1) := fx_ok0 eX6_sum__0.2.2.2.2.2.2.2.1
theorem dX6_sum__11 : decode cX6_sum_ 11 = .ok (.aload_n 0, 1) := fx_ok0 eX6_sum__0.2.2.2.2.2.2.2.2.1
theorem dX6_sum__12 : decode cX6_sum_ 12 = .ok (.iload_n 2, 1) := fx_ok0 eX6_sum__0.2.2.2.2.2.2.2.2.2.1
theorem dX6_sum__13 : decode cX6_sum_ 13 = .ok (.invokevirtual 49, 3) := fx_ok0 eX6_sum__0.2.2.2.2.2.2.2.2.2.2.1
theorem dX6_sum__16 : decode cX6_sum_ 16 = .ok (.ifCond .eq 7, 3) := fx_ok0 eX6_sum__0.2.2.2.2.2.2.2.2.2.2.2.1
theorem dX6_sum__19 : decode cX6_sum_ 19 = .ok (.iload_n 2, 1) := fx_ok0 eX6_sum__0.2.2.2.2.2.2.2.2.2.2.2.2.1
theorem dX6_sum__20 : decode cX6_sum_ 20 = .ok (.goto 4, 3) := fx_ok0 eX6_sum__0.2.2.2.2.2.2.2.2.2.2.2.2.2.1
theorem dX6_sum__23 : decode cX6_sum_ 23 = .ok (.iconst 0, 1) := fx_ok0 eX6_sum__0.2.2.2.2.2.2.2.2.2.2.2.2.2.2.1
theorem dX6_sum__24 : decode cX6_sum_ 24 = .ok (.iadd, 1) := fx_ok0 eX6_sum__0.2.2.2.2.2.2.2.2.2.2.2.2.2.2.2
theorem eX6_sum__25 : (fdecl cX6_sum_.data.toList 25 = some (.istore_n 1, 1)) ∧ (fdecl cX6_sum_.data.toList 29 = some (.goto (-25), 3)) ∧ (fdecl cX6_sum_.data.toList 32 = some (.iload_n 1, 1)) ∧ (fdecl cX6_sum_.data.toList 33 = some (.ireturn, 1)) := by decide +kernel
theorem dX6_sum__25 : decode cX6_sum_ 25 = .ok (.istore_n 1, 1) := fx_ok0 eX6_sum__25.1
theorem dX6_sum__29 : decode cX6_sum_ 29 = .ok (.goto (-25), 3) := fx_ok0 eX6_sum__25.2.1
theorem dX6_sum__32 : decode cX6_sum_ 32 = .ok (.iload_n 1, 1) := fx_ok0 eX6_sum__25.2.2.1
theorem dX6_sum__33 : decode cX6_sum_ 33 = .ok (.ireturn, 1) := fx_ok0 eX6_sum__25.2.2.2
theorem dX6_sum__26 : decode cX6_sum_ 26 = .ok (.iinc 2 1, 3) := by decide +kernel
def fAX6_shelfTell_0 : List UInt8 := [42, 27, 184, 0, 193, 28, 3, 7, 184, 0, 41, 182, 0, 63, 154, 0, 5, 3, 172, 42, 180, 0, 15, 27, 50, 78, 28, 6, 162, 0, 34, 28, 154, 0, 13, 45, 3, 16, 99, 182, 0, 67, 167, 0, 19, 28, 4, 160, 0, 10, 45, 180, 0, 75, 167, 0, 7, 45, 184, 0, 200, 172, 28, 6]
def fAX6_shelfTell_1 : List UInt8 := [160, 0, 13, 45, 3, 16, 99, 182, 0, 111, 167, 0, 10, 45, 3, 16, 99, 182, 0, 114, 54, 4, 21, 4, 2, 160, 0, 10, 42, 182, 0, 89, 167, 0, 5, 21, 4, 172]
def fTX6_shelfTell_1 : List UInt8 := fAX6_shelfTell_1
def fTX6_shelfTell_0 : List UInt8 := fAX6_shelfTell_0 ++ fTX6_shelfTell_1
theorem fDX6_shelfTell_0 : cX6_shelfTell.data.toList.drop 0 = fTX6_shelfTell_0 := eq_of_beq (by decide +kernel)
theorem fDX6_shelfTell_1 : cX6_shelfTell.data.toList.drop 64 = fTX6_shelfTell_1 := fx_nx (d := 0) (n := 64) (a := fAX6_shelfTell_0) fDX6_shelfTell_0 rfl
theorem eX6_shelfTell_0 : (fdecl fTX6_shelfTell_0 0 = some (.aload_n 0, 1)) ∧ (fdecl fTX6_shelfTell_0 1 = some (.iload_n 1, 1)) ∧ (fdecl fTX6_shelfTell_0 2 = some (.invokestatic 193, 3)) ∧ (fdecl fTX6_shelfTell_0 5 = some (.iload_n 2, 1)) ∧ (fdecl fTX6_shelfTell_0 6 = some (.iconst 0, 1)) ∧ (fdecl fTX6_shelfTell_0 7 = some (.iconst 4, 1)) ∧ (fdecl fTX6_shelfTell_0 8 = some (.invokestatic 41, 3)) ∧ (fdecl fTX6_shelfTell_0 11 = some (.invokevirtual 63, 3)) ∧ (fdecl fTX6_shelfTell_0 14 = some (.ifCond .ne 5, 3)) ∧ (fdecl fTX6_shelfTell_0 17 = some (.iconst 0, 1)) ∧ (fdecl fTX6_shelfTell_0 18 = some (.ireturn, 1)) ∧ (fdecl fTX6_shelfTell_0 19 = some (.aload_n 0, 1)) ∧ (fdecl fTX6_shelfTell_0 20 = some (.getfield 15, 3)) ∧ (fdecl fTX6_shelfTell_0 23 = some (.iload_n 1, 1)) ∧ (fdecl fTX6_shelfTell_0 24 = some (.aaload, 1)) ∧ (fdecl fTX6_shelfTell_0 25 = some (.astore_n 3, 1)) := by decide +kernel
theorem dX6_shelfTell_0 : decode cX6_shelfTell 0 = .ok (.aload_n 0, 1) := fx_ok (d := 0) (i := 0) fDX6_shelfTell_0 eX6_shelfTell_0.1
theorem dX6_shelfTell_1 : decode cX6_shelfTell 1 = .ok (.iload_n 1, 1) := fx_ok (d := 0) (i := 1) fDX6_shelfTell_0 eX6_shelfTell_0.2.1
theorem dX6_shelfTell_2 : decode cX6_shelfTell 2 = .ok (.invokestatic 193, 3) := fx_ok (d := 0) (i := 2) fDX6_shelfTell_0 eX6_shelfTell_0.2.2.1
theorem dX6_shelfTell_5 : decode cX6_shelfTell 5 = .ok (.iload_n 2, 1) := fx_ok (d := 0) (i := 5) fDX6_shelfTell_0 eX6_shelfTell_0.2.2.2.1
theorem dX6_shelfTell_6 : decode cX6_shelfTell 6 = .ok (.iconst 0, 1) := fx_ok (d := 0) (i := 6) fDX6_shelfTell_0 eX6_shelfTell_0.2.2.2.2.1
theorem dX6_shelfTell_7 : decode cX6_shelfTell 7 = .ok (.iconst 4, 1) := fx_ok (d := 0) (i := 7) fDX6_shelfTell_0 eX6_shelfTell_0.2.2.2.2.2.1
theorem dX6_shelfTell_8 : decode cX6_shelfTell 8 = .ok (.invokestatic 41, 3) := fx_ok (d := 0) (i := 8) fDX6_shelfTell_0 eX6_shelfTell_0.2.2.2.2.2.2.1
theorem dX6_shelfTell_11 : decode cX6_shelfTell 11 = .ok (.invokevirtual 63, 3) := fx_ok (d := 0) (i := 11) fDX6_shelfTell_0 eX6_shelfTell_0.2.2.2.2.2.2.2.1
theorem dX6_shelfTell_14 : decode cX6_shelfTell 14 = .ok (.ifCond .ne 5, 3) := fx_ok (d := 0) (i := 14) fDX6_shelfTell_0 eX6_shelfTell_0.2.2.2.2.2.2.2.2.1
theorem dX6_shelfTell_17 : decode cX6_shelfTell 17 = .ok (.iconst 0, 1) := fx_ok (d := 0) (i := 17) fDX6_shelfTell_0 eX6_shelfTell_0.2.2.2.2.2.2.2.2.2.1
theorem dX6_shelfTell_18 : decode cX6_shelfTell 18 = .ok (.ireturn, 1) := fx_ok (d := 0) (i := 18) fDX6_shelfTell_0 eX6_shelfTell_0.2.2.2.2.2.2.2.2.2.2.1
theorem dX6_shelfTell_19 : decode cX6_shelfTell 19 = .ok (.aload_n 0, 1) := fx_ok (d := 0) (i := 19) fDX6_shelfTell_0 eX6_shelfTell_0.2.2.2.2.2.2.2.2.2.2.2.1
theorem dX6_shelfTell_20 : decode cX6_shelfTell 20 = .ok (.getfield 15, 3) := fx_ok (d := 0) (i := 20) fDX6_shelfTell_0 eX6_shelfTell_0.2.2.2.2.2.2.2.2.2.2.2.2.1
theorem dX6_shelfTell_23 : decode cX6_shelfTell 23 = .ok (.iload_n 1, 1) := fx_ok (d := 0) (i := 23) fDX6_shelfTell_0 eX6_shelfTell_0.2.2.2.2.2.2.2.2.2.2.2.2.2.1
theorem dX6_shelfTell_24 : decode cX6_shelfTell 24 = .ok (.aaload, 1) := fx_ok (d := 0) (i := 24) fDX6_shelfTell_0 eX6_shelfTell_0.2.2.2.2.2.2.2.2.2.2.2.2.2.2.1
theorem dX6_shelfTell_25 : decode cX6_shelfTell 25 = .ok (.astore_n 3, 1) := fx_ok (d := 0) (i := 25) fDX6_shelfTell_0 eX6_shelfTell_0.2.2.2.2.2.2.2.2.2.2.2.2.2.2.2
theorem eX6_shelfTell_26 : (fdecl fTX6_shelfTell_0 26 = some (.iload_n 2, 1)) ∧ (fdecl fTX6_shelfTell_0 27 = some (.iconst 3, 1)) ∧ (fdecl fTX6_shelfTell_0 28 = some (.if_icmp .ge 34, 3)) ∧ (fdecl fTX6_shelfTell_0 31 = some (.iload_n 2, 1)) ∧ (fdecl fTX6_shelfTell_0 32 = some (.ifCond .ne 13, 3)) ∧ (fdecl fTX6_shelfTell_0 35 = some (.aload_n 3, 1)) ∧ (fdecl fTX6_shelfTell_0 36 = some (.iconst 0, 1)) ∧ (fdecl fTX6_shelfTell_0 37 = some (.bipush 99, 2)) ∧ (fdecl fTX6_shelfTell_0 39 = some (.invokevirtual 67, 3)) ∧ (fdecl fTX6_shelfTell_0 42 = some (.goto 19, 3)) ∧ (fdecl fTX6_shelfTell_0 45 = some (.iload_n 2, 1)) ∧ (fdecl fTX6_shelfTell_0 46 = some (.iconst 1, 1)) ∧ (fdecl fTX6_shelfTell_0 47 = some (.if_icmp .ne 10, 3)) ∧ (fdecl fTX6_shelfTell_0 50 = some (.aload_n 3, 1)) ∧ (fdecl fTX6_shelfTell_0 51 = some (.getfield 75, 3)) ∧ (fdecl fTX6_shelfTell_0 54 = some (.goto 7, 3)) := by decide +kernel
theorem dX6_shelfTell_26 : decode cX6_shelfTell 26 = .ok (.iload_n 2, 1) := fx_ok (d := 0) (i := 26) fDX6_shelfTell_0 eX6_shelfTell_26.1
theorem dX6_shelfTell_27 : decode cX6_shelfTell 27 = .ok (.iconst 3, 1) := fx_ok (d := 0) (i := 27) fDX6_shelfTell_0 eX6_shelfTell_26.2.1
theorem dX6_shelfTell_28 : decode cX6_shelfTell 28 = .ok (.if_icmp .ge 34, 3) := fx_ok (d := 0) (i := 28) fDX6_shelfTell_0 eX6_shelfTell_26.2.2.1
theorem dX6_shelfTell_31 : decode cX6_shelfTell 31 = .ok (.iload_n 2, 1) := fx_ok (d := 0) (i := 31) fDX6_shelfTell_0 eX6_shelfTell_26.2.2.2.1
theorem dX6_shelfTell_32 : decode cX6_shelfTell 32 = .ok (.ifCond .ne 13, 3) := fx_ok (d := 0) (i := 32) fDX6_shelfTell_0 eX6_shelfTell_26.2.2.2.2.1
theorem dX6_shelfTell_35 : decode cX6_shelfTell 35 = .ok (.aload_n 3, 1) := fx_ok (d := 0) (i := 35) fDX6_shelfTell_0 eX6_shelfTell_26.2.2.2.2.2.1
theorem dX6_shelfTell_36 : decode cX6_shelfTell 36 = .ok (.iconst 0, 1) := fx_ok (d := 0) (i := 36) fDX6_shelfTell_0 eX6_shelfTell_26.2.2.2.2.2.2.1
theorem dX6_shelfTell_37 : decode cX6_shelfTell 37 = .ok (.bipush 99, 2) := fx_ok (d := 0) (i := 37) fDX6_shelfTell_0 eX6_shelfTell_26.2.2.2.2.2.2.2.1
theorem dX6_shelfTell_39 : decode cX6_shelfTell 39 = .ok (.invokevirtual 67, 3) := fx_ok (d := 0) (i := 39) fDX6_shelfTell_0 eX6_shelfTell_26.2.2.2.2.2.2.2.2.1
theorem dX6_shelfTell_42 : decode cX6_shelfTell 42 = .ok (.goto 19, 3) := fx_ok (d := 0) (i := 42) fDX6_shelfTell_0 eX6_shelfTell_26.2.2.2.2.2.2.2.2.2.1
theorem dX6_shelfTell_45 : decode cX6_shelfTell 45 = .ok (.iload_n 2, 1) := fx_ok (d := 0) (i := 45) fDX6_shelfTell_0 eX6_shelfTell_26.2.2.2.2.2.2.2.2.2.2.1
theorem dX6_shelfTell_46 : decode cX6_shelfTell 46 = .ok (.iconst 1, 1) := fx_ok (d := 0) (i := 46) fDX6_shelfTell_0 eX6_shelfTell_26.2.2.2.2.2.2.2.2.2.2.2.1
theorem dX6_shelfTell_47 : decode cX6_shelfTell 47 = .ok (.if_icmp .ne 10, 3) := fx_ok (d := 0) (i := 47) fDX6_shelfTell_0 eX6_shelfTell_26.2.2.2.2.2.2.2.2.2.2.2.2.1
theorem dX6_shelfTell_50 : decode cX6_shelfTell 50 = .ok (.aload_n 3, 1) := fx_ok (d := 0) (i := 50) fDX6_shelfTell_0 eX6_shelfTell_26.2.2.2.2.2.2.2.2.2.2.2.2.2.1
theorem dX6_shelfTell_51 : decode cX6_shelfTell 51 = .ok (.getfield 75, 3) := fx_ok (d := 0) (i := 51) fDX6_shelfTell_0 eX6_shelfTell_26.2.2.2.2.2.2.2.2.2.2.2.2.2.2.1
theorem dX6_shelfTell_54 : decode cX6_shelfTell 54 = .ok (.goto 7, 3) := fx_ok (d := 0) (i := 54) fDX6_shelfTell_0 eX6_shelfTell_26.2.2.2.2.2.2.2.2.2.2.2.2.2.2.2
theorem eX6_shelfTell_57 : (fdecl fTX6_shelfTell_0 57 = some (.aload_n 3, 1)) ∧ (fdecl fTX6_shelfTell_0 58 = some (.invokestatic 200, 3)) ∧ (fdecl fTX6_shelfTell_0 61 = some (.ireturn, 1)) ∧ (fdecl fTX6_shelfTell_0 62 = some (.iload_n 2, 1)) ∧ (fdecl fTX6_shelfTell_0 63 = some (.iconst 3, 1)) ∧ (fdecl fTX6_shelfTell_1 0 = some (.if_icmp .ne 13, 3)) ∧ (fdecl fTX6_shelfTell_1 3 = some (.aload_n 3, 1)) ∧ (fdecl fTX6_shelfTell_1 4 = some (.iconst 0, 1)) ∧ (fdecl fTX6_shelfTell_1 5 = some (.bipush 99, 2)) ∧ (fdecl fTX6_shelfTell_1 7 = some (.invokevirtual 111, 3)) ∧ (fdecl fTX6_shelfTell_1 10 = some (.goto 10, 3)) ∧ (fdecl fTX6_shelfTell_1 13 = some (.aload_n 3, 1)) ∧ (fdecl fTX6_shelfTell_1 14 = some (.iconst 0, 1)) ∧ (fdecl fTX6_shelfTell_1 15 = some (.bipush 99, 2)) ∧ (fdecl fTX6_shelfTell_1 17 = some (.invokevirtual 114, 3)) ∧ (fdecl fTX6_shelfTell_1 20 = some (.istore 4, 2)) := by decide +kernel
theorem dX6_shelfTell_57 : decode cX6_shelfTell 57 = .ok (.aload_n 3, 1) := fx_ok (d := 0) (i := 57) fDX6_shelfTell_0 eX6_shelfTell_57.1
theorem dX6_shelfTell_58 : decode cX6_shelfTell 58 = .ok (.invokestatic 200, 3) := fx_ok (d := 0) (i := 58) fDX6_shelfTell_0 eX6_shelfTell_57.2.1
theorem dX6_shelfTell_61 : decode cX6_shelfTell 61 = .ok (.ireturn, 1) := fx_ok (d := 0) (i := 61) fDX6_shelfTell_0 eX6_shelfTell_57.2.2.1
theorem dX6_shelfTell_62 : decode cX6_shelfTell 62 = .ok (.iload_n 2, 1) := fx_ok (d := 0) (i := 62) fDX6_shelfTell_0 eX6_shelfTell_57.2.2.2.1
theorem dX6_shelfTell_63 : decode cX6_shelfTell 63 = .ok (.iconst 3, 1) := fx_ok (d := 0) (i := 63) fDX6_shelfTell_0 eX6_shelfTell_57.2.2.2.2.1
theorem dX6_shelfTell_64 : decode cX6_shelfTell 64 = .ok (.if_icmp .ne 13, 3) := fx_ok (d := 64) (i := 0) fDX6_shelfTell_1 eX6_shelfTell_57.2.2.2.2.2.1
theorem dX6_shelfTell_67 : decode cX6_shelfTell 67 = .ok (.aload_n 3, 1) := fx_ok (d := 64) (i := 3) fDX6_shelfTell_1 eX6_shelfTell_57.2.2.2.2.2.2.1
theorem dX6_shelfTell_68 : decode cX6_shelfTell 68 = .ok (.iconst 0, 1) := fx_ok (d := 64) (i := 4) fDX6_shelfTell_1 eX6_shelfTell_57.2.2.2.2.2.2.2.1
theorem dX6_shelfTell_69 : decode cX6_shelfTell 69 = .ok (.bipush 99, 2) := fx_ok (d := 64) (i := 5) fDX6_shelfTell_1 eX6_shelfTell_57.2.2.2.2.2.2.2.2.1
theorem dX6_shelfTell_71 : decode cX6_shelfTell 71 = .ok (.invokevirtual 111, 3) := fx_ok (d := 64) (i := 7) fDX6_shelfTell_1 eX6_shelfTell_57.2.2.2.2.2.2.2.2.2.1
theorem dX6_shelfTell_74 : decode cX6_shelfTell 74 = .ok (.goto 10, 3) := fx_ok (d := 64) (i := 10) fDX6_shelfTell_1 eX6_shelfTell_57.2.2.2.2.2.2.2.2.2.2.1
theorem dX6_shelfTell_77 : decode cX6_shelfTell 77 = .ok (.aload_n 3, 1) := fx_ok (d := 64) (i := 13) fDX6_shelfTell_1 eX6_shelfTell_57.2.2.2.2.2.2.2.2.2.2.2.1
theorem dX6_shelfTell_78 : decode cX6_shelfTell 78 = .ok (.iconst 0, 1) := fx_ok (d := 64) (i := 14) fDX6_shelfTell_1 eX6_shelfTell_57.2.2.2.2.2.2.2.2.2.2.2.2.1
theorem dX6_shelfTell_79 : decode cX6_shelfTell 79 = .ok (.bipush 99, 2) := fx_ok (d := 64) (i := 15) fDX6_shelfTell_1 eX6_shelfTell_57.2.2.2.2.2.2.2.2.2.2.2.2.2.1
theorem dX6_shelfTell_81 : decode cX6_shelfTell 81 = .ok (.invokevirtual 114, 3) := fx_ok (d := 64) (i := 17) fDX6_shelfTell_1 eX6_shelfTell_57.2.2.2.2.2.2.2.2.2.2.2.2.2.2.1
theorem dX6_shelfTell_84 : decode cX6_shelfTell 84 = .ok (.istore 4, 2) := fx_ok (d := 64) (i := 20) fDX6_shelfTell_1 eX6_shelfTell_57.2.2.2.2.2.2.2.2.2.2.2.2.2.2.2
theorem eX6_shelfTell_86 : (fdecl fTX6_shelfTell_1 22 = some (.iload 4, 2)) ∧ (fdecl fTX6_shelfTell_1 24 = some (.iconst (-1), 1)) ∧ (fdecl fTX6_shelfTell_1 25 = some (.if_icmp .ne 10, 3)) ∧ (fdecl fTX6_shelfTell_1 28 = some (.aload_n 0, 1)) ∧ (fdecl fTX6_shelfTell_1 29 = some (.invokevirtual 89, 3)) ∧ (fdecl fTX6_shelfTell_1 32 = some (.goto 5, 3)) ∧ (fdecl fTX6_shelfTell_1 35 = some (.iload 4, 2)) ∧ (fdecl fTX6_shelfTell_1 37 = some (.ireturn, 1)) := by decide +kernel
theorem dX6_shelfTell_86 : decode cX6_shelfTell 86 = .ok (.iload 4, 2) := fx_ok (d := 64) (i := 22) fDX6_shelfTell_1 eX6_shelfTell_86.1
theorem dX6_shelfTell_88 : decode cX6_shelfTell 88 = .ok (.iconst (-1), 1) := fx_ok (d := 64) (i := 24) fDX6_shelfTell_1 eX6_shelfTell_86.2.1
theorem dX6_shelfTell_89 : decode cX6_shelfTell 89 = .ok (.if_icmp .ne 10, 3) := fx_ok (d := 64) (i := 25) fDX6_shelfTell_1 eX6_shelfTell_86.2.2.1
theorem dX6_shelfTell_92 : decode cX6_shelfTell 92 = .ok (.aload_n 0, 1) := fx_ok (d := 64) (i := 28) fDX6_shelfTell_1 eX6_shelfTell_86.2.2.2.1
theorem dX6_shelfTell_93 : decode cX6_shelfTell 93 = .ok (.invokevirtual 89, 3) := fx_ok (d := 64) (i := 29) fDX6_shelfTell_1 eX6_shelfTell_86.2.2.2.2.1
theorem dX6_shelfTell_96 : decode cX6_shelfTell 96 = .ok (.goto 5, 3) := fx_ok (d := 64) (i := 32) fDX6_shelfTell_1 eX6_shelfTell_86.2.2.2.2.2.1
theorem dX6_shelfTell_99 : decode cX6_shelfTell 99 = .ok (.iload 4, 2) := fx_ok (d := 64) (i := 35) fDX6_shelfTell_1 eX6_shelfTell_86.2.2.2.2.2.2.1
theorem dX6_shelfTell_101 : decode cX6_shelfTell 101 = .ok (.ireturn, 1) := fx_ok (d := 64) (i := 37) fDX6_shelfTell_1 eX6_shelfTell_86.2.2.2.2.2.2.2
def fAX6_sameShelves_0 : List UInt8 := [42, 27, 184, 0, 193, 153, 0, 14, 28, 184, 0, 193, 153, 0, 7, 4, 167, 0, 4, 3, 29, 3, 4, 184, 0, 41, 182, 0, 63, 154, 0, 5, 3, 172, 4, 54, 4, 3, 54, 5, 21, 5, 16, 100, 162, 0, 65, 21, 4, 153, 0, 51, 42, 180, 0, 15, 27, 50, 21, 5, 182, 0, 49, 42]
def fAX6_sameShelves_1 : List UInt8 := [180, 0, 15, 28, 50, 21, 5, 182, 0, 49, 159, 0, 22, 29, 4, 160, 0, 21, 42, 180, 0, 15, 27, 50, 21, 5, 182, 0, 49, 153, 0, 7, 4, 167, 0, 4, 3, 54, 4, 132, 5, 1, 167, 255, 190, 21, 4, 172]
def fTX6_sameShelves_1 : List UInt8 := fAX6_sameShelves_1
def fTX6_sameShelves_0 : List UInt8 := fAX6_sameShelves_0 ++ fTX6_sameShelves_1
theorem fDX6_sameShelves_0 : cX6_sameShelves.data.toList.drop 0 = fTX6_sameShelves_0 := eq_of_beq (by decide +kernel)
theorem fDX6_sameShelves_1 : cX6_sameShelves.data.toList.drop 64 = fTX6_sameShelves_1 := fx_nx (d := 0) (n := 64) (a := fAX6_sameShelves_0) fDX6_sameShelves_0 rfl
theorem eX6_sameShelves_0 : (fdecl fTX6_sameShelves_0 0 = some (.aload_n 0, 1)) ∧ (fdecl fTX6_sameShelves_0 1 = some (.iload_n 1, 1)) ∧ (fdecl fTX6_sameShelves_0 2 = some (.invokestatic 193, 3)) ∧ (fdecl fTX6_sameShelves_0 5 = some (.ifCond .eq 14, 3)) ∧ (fdecl fTX6_sameShelves_0 8 = some (.iload_n 2, 1)) ∧ (fdecl fTX6_sameShelves_0 9 = some (.invokestatic 193, 3)) ∧ (fdecl fTX6_sameShelves_0 12 = some (.ifCond .eq 7, 3)) ∧ (fdecl fTX6_sameShelves_0 15 = some (.iconst 1, 1)) ∧ (fdecl fTX6_sameShelves_0 16 = some (.goto 4, 3)) ∧ (fdecl fTX6_sameShelves_0 19 = some (.iconst 0, 1)) ∧ (fdecl fTX6_sameShelves_0 20 = some (.iload_n 3, 1)) ∧ (fdecl fTX6_sameShelves_0 21 = some (.iconst 0, 1)) ∧ (fdecl fTX6_sameShelves_0 22 = some (.iconst 1, 1)) ∧ (fdecl fTX6_sameShelves_0 23 = some (.invokestatic 41, 3)) ∧ (fdecl fTX6_sameShelves_0 26 = some (.invokevirtual 63, 3)) ∧ (fdecl fTX6_sameShelves_0 29 = some (.ifCond .ne 5, 3)) := by decide +kernel
theorem dX6_sameShelves_0 : decode cX6_sameShelves 0 = .ok (.aload_n 0, 1) := fx_ok (d := 0) (i := 0) fDX6_sameShelves_0 eX6_sameShelves_0.1
theorem dX6_sameShelves_1 : decode cX6_sameShelves 1 = .ok (.iload_n 1, 1) := fx_ok (d := 0) (i := 1) fDX6_sameShelves_0 eX6_sameShelves_0.2.1
theorem dX6_sameShelves_2 : decode cX6_sameShelves 2 = .ok (.invokestatic 193, 3) := fx_ok (d := 0) (i := 2) fDX6_sameShelves_0 eX6_sameShelves_0.2.2.1
theorem dX6_sameShelves_5 : decode cX6_sameShelves 5 = .ok (.ifCond .eq 14, 3) := fx_ok (d := 0) (i := 5) fDX6_sameShelves_0 eX6_sameShelves_0.2.2.2.1
theorem dX6_sameShelves_8 : decode cX6_sameShelves 8 = .ok (.iload_n 2, 1) := fx_ok (d := 0) (i := 8) fDX6_sameShelves_0 eX6_sameShelves_0.2.2.2.2.1
theorem dX6_sameShelves_9 : decode cX6_sameShelves 9 = .ok (.invokestatic 193, 3) := fx_ok (d := 0) (i := 9) fDX6_sameShelves_0 eX6_sameShelves_0.2.2.2.2.2.1
theorem dX6_sameShelves_12 : decode cX6_sameShelves 12 = .ok (.ifCond .eq 7, 3) := fx_ok (d := 0) (i := 12) fDX6_sameShelves_0 eX6_sameShelves_0.2.2.2.2.2.2.1
theorem dX6_sameShelves_15 : decode cX6_sameShelves 15 = .ok (.iconst 1, 1) := fx_ok (d := 0) (i := 15) fDX6_sameShelves_0 eX6_sameShelves_0.2.2.2.2.2.2.2.1
theorem dX6_sameShelves_16 : decode cX6_sameShelves 16 = .ok (.goto 4, 3) := fx_ok (d := 0) (i := 16) fDX6_sameShelves_0 eX6_sameShelves_0.2.2.2.2.2.2.2.2.1
theorem dX6_sameShelves_19 : decode cX6_sameShelves 19 = .ok (.iconst 0, 1) := fx_ok (d := 0) (i := 19) fDX6_sameShelves_0 eX6_sameShelves_0.2.2.2.2.2.2.2.2.2.1
theorem dX6_sameShelves_20 : decode cX6_sameShelves 20 = .ok (.iload_n 3, 1) := fx_ok (d := 0) (i := 20) fDX6_sameShelves_0 eX6_sameShelves_0.2.2.2.2.2.2.2.2.2.2.1
theorem dX6_sameShelves_21 : decode cX6_sameShelves 21 = .ok (.iconst 0, 1) := fx_ok (d := 0) (i := 21) fDX6_sameShelves_0 eX6_sameShelves_0.2.2.2.2.2.2.2.2.2.2.2.1
theorem dX6_sameShelves_22 : decode cX6_sameShelves 22 = .ok (.iconst 1, 1) := fx_ok (d := 0) (i := 22) fDX6_sameShelves_0 eX6_sameShelves_0.2.2.2.2.2.2.2.2.2.2.2.2.1
theorem dX6_sameShelves_23 : decode cX6_sameShelves 23 = .ok (.invokestatic 41, 3) := fx_ok (d := 0) (i := 23) fDX6_sameShelves_0 eX6_sameShelves_0.2.2.2.2.2.2.2.2.2.2.2.2.2.1
theorem dX6_sameShelves_26 : decode cX6_sameShelves 26 = .ok (.invokevirtual 63, 3) := fx_ok (d := 0) (i := 26) fDX6_sameShelves_0 eX6_sameShelves_0.2.2.2.2.2.2.2.2.2.2.2.2.2.2.1
theorem dX6_sameShelves_29 : decode cX6_sameShelves 29 = .ok (.ifCond .ne 5, 3) := fx_ok (d := 0) (i := 29) fDX6_sameShelves_0 eX6_sameShelves_0.2.2.2.2.2.2.2.2.2.2.2.2.2.2.2
theorem eX6_sameShelves_32 : (fdecl fTX6_sameShelves_0 32 = some (.iconst 0, 1)) ∧ (fdecl fTX6_sameShelves_0 33 = some (.ireturn, 1)) ∧ (fdecl fTX6_sameShelves_0 34 = some (.iconst 1, 1)) ∧ (fdecl fTX6_sameShelves_0 35 = some (.istore 4, 2)) ∧ (fdecl fTX6_sameShelves_0 37 = some (.iconst 0, 1)) ∧ (fdecl fTX6_sameShelves_0 38 = some (.istore 5, 2)) ∧ (fdecl fTX6_sameShelves_0 40 = some (.iload 5, 2)) ∧ (fdecl fTX6_sameShelves_0 42 = some (.bipush 100, 2)) ∧ (fdecl fTX6_sameShelves_0 44 = some (.if_icmp .ge 65, 3)) ∧ (fdecl fTX6_sameShelves_0 47 = some (.iload 4, 2)) ∧ (fdecl fTX6_sameShelves_0 49 = some (.ifCond .eq 51, 3)) ∧ (fdecl fTX6_sameShelves_0 52 = some (.aload_n 0, 1)) ∧ (fdecl fTX6_sameShelves_0 53 = some (.getfield 15, 3)) ∧ (fdecl fTX6_sameShelves_0 56 = some (.iload_n 1, 1)) ∧ (fdecl fTX6_sameShelves_0 57 = some (.aaload, 1)) ∧ (fdecl fTX6_sameShelves_0 58 = some (.iload 5, 2)) := by decide +kernel
theorem dX6_sameShelves_32 : decode cX6_sameShelves 32 = .ok (.iconst 0, 1) := fx_ok (d := 0) (i := 32) fDX6_sameShelves_0 eX6_sameShelves_32.1
theorem dX6_sameShelves_33 : decode cX6_sameShelves 33 = .ok (.ireturn, 1) := fx_ok (d := 0) (i := 33) fDX6_sameShelves_0 eX6_sameShelves_32.2.1
theorem dX6_sameShelves_34 : decode cX6_sameShelves 34 = .ok (.iconst 1, 1) := fx_ok (d := 0) (i := 34) fDX6_sameShelves_0 eX6_sameShelves_32.2.2.1
theorem dX6_sameShelves_35 : decode cX6_sameShelves 35 = .ok (.istore 4, 2) := fx_ok (d := 0) (i := 35) fDX6_sameShelves_0 eX6_sameShelves_32.2.2.2.1
theorem dX6_sameShelves_37 : decode cX6_sameShelves 37 = .ok (.iconst 0, 1) := fx_ok (d := 0) (i := 37) fDX6_sameShelves_0 eX6_sameShelves_32.2.2.2.2.1
theorem dX6_sameShelves_38 : decode cX6_sameShelves 38 = .ok (.istore 5, 2) := fx_ok (d := 0) (i := 38) fDX6_sameShelves_0 eX6_sameShelves_32.2.2.2.2.2.1
theorem dX6_sameShelves_40 : decode cX6_sameShelves 40 = .ok (.iload 5, 2) := fx_ok (d := 0) (i := 40) fDX6_sameShelves_0 eX6_sameShelves_32.2.2.2.2.2.2.1
theorem dX6_sameShelves_42 : decode cX6_sameShelves 42 = .ok (.bipush 100, 2) := fx_ok (d := 0) (i := 42) fDX6_sameShelves_0 eX6_sameShelves_32.2.2.2.2.2.2.2.1
theorem dX6_sameShelves_44 : decode cX6_sameShelves 44 = .ok (.if_icmp .ge 65, 3) := fx_ok (d := 0) (i := 44) fDX6_sameShelves_0 eX6_sameShelves_32.2.2.2.2.2.2.2.2.1
theorem dX6_sameShelves_47 : decode cX6_sameShelves 47 = .ok (.iload 4, 2) := fx_ok (d := 0) (i := 47) fDX6_sameShelves_0 eX6_sameShelves_32.2.2.2.2.2.2.2.2.2.1
theorem dX6_sameShelves_49 : decode cX6_sameShelves 49 = .ok (.ifCond .eq 51, 3) := fx_ok (d := 0) (i := 49) fDX6_sameShelves_0 eX6_sameShelves_32.2.2.2.2.2.2.2.2.2.2.1
theorem dX6_sameShelves_52 : decode cX6_sameShelves 52 = .ok (.aload_n 0, 1) := fx_ok (d := 0) (i := 52) fDX6_sameShelves_0 eX6_sameShelves_32.2.2.2.2.2.2.2.2.2.2.2.1
theorem dX6_sameShelves_53 : decode cX6_sameShelves 53 = .ok (.getfield 15, 3) := fx_ok (d := 0) (i := 53) fDX6_sameShelves_0 eX6_sameShelves_32.2.2.2.2.2.2.2.2.2.2.2.2.1
theorem dX6_sameShelves_56 : decode cX6_sameShelves 56 = .ok (.iload_n 1, 1) := fx_ok (d := 0) (i := 56) fDX6_sameShelves_0 eX6_sameShelves_32.2.2.2.2.2.2.2.2.2.2.2.2.2.1
theorem dX6_sameShelves_57 : decode cX6_sameShelves 57 = .ok (.aaload, 1) := fx_ok (d := 0) (i := 57) fDX6_sameShelves_0 eX6_sameShelves_32.2.2.2.2.2.2.2.2.2.2.2.2.2.2.1
theorem dX6_sameShelves_58 : decode cX6_sameShelves 58 = .ok (.iload 5, 2) := fx_ok (d := 0) (i := 58) fDX6_sameShelves_0 eX6_sameShelves_32.2.2.2.2.2.2.2.2.2.2.2.2.2.2.2
theorem eX6_sameShelves_60 : (fdecl fTX6_sameShelves_0 60 = some (.invokevirtual 49, 3)) ∧ (fdecl fTX6_sameShelves_0 63 = some (.aload_n 0, 1)) ∧ (fdecl fTX6_sameShelves_1 0 = some (.getfield 15, 3)) ∧ (fdecl fTX6_sameShelves_1 3 = some (.iload_n 2, 1)) ∧ (fdecl fTX6_sameShelves_1 4 = some (.aaload, 1)) ∧ (fdecl fTX6_sameShelves_1 5 = some (.iload 5, 2)) ∧ (fdecl fTX6_sameShelves_1 7 = some (.invokevirtual 49, 3)) ∧ (fdecl fTX6_sameShelves_1 10 = some (.if_icmp .eq 22, 3)) ∧ (fdecl fTX6_sameShelves_1 13 = some (.iload_n 3, 1)) ∧ (fdecl fTX6_sameShelves_1 14 = some (.iconst 1, 1)) ∧ (fdecl fTX6_sameShelves_1 15 = some (.if_icmp .ne 21, 3)) ∧ (fdecl fTX6_sameShelves_1 18 = some (.aload_n 0, 1)) ∧ (fdecl fTX6_sameShelves_1 19 = some (.getfield 15, 3)) ∧ (fdecl fTX6_sameShelves_1 22 = some (.iload_n 1, 1)) ∧ (fdecl fTX6_sameShelves_1 23 = some (.aaload, 1)) ∧ (fdecl fTX6_sameShelves_1 24 = some (.iload 5, 2)) := by decide +kernel
theorem dX6_sameShelves_60 : decode cX6_sameShelves 60 = .ok (.invokevirtual 49, 3) := fx_ok (d := 0) (i := 60) fDX6_sameShelves_0 eX6_sameShelves_60.1
theorem dX6_sameShelves_63 : decode cX6_sameShelves 63 = .ok (.aload_n 0, 1) := fx_ok (d := 0) (i := 63) fDX6_sameShelves_0 eX6_sameShelves_60.2.1
theorem dX6_sameShelves_64 : decode cX6_sameShelves 64 = .ok (.getfield 15, 3) := fx_ok (d := 64) (i := 0) fDX6_sameShelves_1 eX6_sameShelves_60.2.2.1
theorem dX6_sameShelves_67 : decode cX6_sameShelves 67 = .ok (.iload_n 2, 1) := fx_ok (d := 64) (i := 3) fDX6_sameShelves_1 eX6_sameShelves_60.2.2.2.1
theorem dX6_sameShelves_68 : decode cX6_sameShelves 68 = .ok (.aaload, 1) := fx_ok (d := 64) (i := 4) fDX6_sameShelves_1 eX6_sameShelves_60.2.2.2.2.1
theorem dX6_sameShelves_69 : decode cX6_sameShelves 69 = .ok (.iload 5, 2) := fx_ok (d := 64) (i := 5) fDX6_sameShelves_1 eX6_sameShelves_60.2.2.2.2.2.1
theorem dX6_sameShelves_71 : decode cX6_sameShelves 71 = .ok (.invokevirtual 49, 3) := fx_ok (d := 64) (i := 7) fDX6_sameShelves_1 eX6_sameShelves_60.2.2.2.2.2.2.1
theorem dX6_sameShelves_74 : decode cX6_sameShelves 74 = .ok (.if_icmp .eq 22, 3) := fx_ok (d := 64) (i := 10) fDX6_sameShelves_1 eX6_sameShelves_60.2.2.2.2.2.2.2.1
theorem dX6_sameShelves_77 : decode cX6_sameShelves 77 = .ok (.iload_n 3, 1) := fx_ok (d := 64) (i := 13) fDX6_sameShelves_1 eX6_sameShelves_60.2.2.2.2.2.2.2.2.1
theorem dX6_sameShelves_78 : decode cX6_sameShelves 78 = .ok (.iconst 1, 1) := fx_ok (d := 64) (i := 14) fDX6_sameShelves_1 eX6_sameShelves_60.2.2.2.2.2.2.2.2.2.1
theorem dX6_sameShelves_79 : decode cX6_sameShelves 79 = .ok (.if_icmp .ne 21, 3) := fx_ok (d := 64) (i := 15) fDX6_sameShelves_1 eX6_sameShelves_60.2.2.2.2.2.2.2.2.2.2.1
theorem dX6_sameShelves_82 : decode cX6_sameShelves 82 = .ok (.aload_n 0, 1) := fx_ok (d := 64) (i := 18) fDX6_sameShelves_1 eX6_sameShelves_60.2.2.2.2.2.2.2.2.2.2.2.1
theorem dX6_sameShelves_83 : decode cX6_sameShelves 83 = .ok (.getfield 15, 3) := fx_ok (d := 64) (i := 19) fDX6_sameShelves_1 eX6_sameShelves_60.2.2.2.2.2.2.2.2.2.2.2.2.1
theorem dX6_sameShelves_86 : decode cX6_sameShelves 86 = .ok (.iload_n 1, 1) := fx_ok (d := 64) (i := 22) fDX6_sameShelves_1 eX6_sameShelves_60.2.2.2.2.2.2.2.2.2.2.2.2.2.1
theorem dX6_sameShelves_87 : decode cX6_sameShelves 87 = .ok (.aaload, 1) := fx_ok (d := 64) (i := 23) fDX6_sameShelves_1 eX6_sameShelves_60.2.2.2.2.2.2.2.2.2.2.2.2.2.2.1
theorem dX6_sameShelves_88 : decode cX6_sameShelves 88 = .ok (.iload 5, 2) := fx_ok (d := 64) (i := 24) fDX6_sameShelves_1 eX6_sameShelves_60.2.2.2.2.2.2.2.2.2.2.2.2.2.2.2
theorem eX6_sameShelves_90 : (fdecl fTX6_sameShelves_1 26 = some (.invokevirtual 49, 3)) ∧ (fdecl fTX6_sameShelves_1 29 = some (.ifCond .eq 7, 3)) ∧ (fdecl fTX6_sameShelves_1 32 = some (.iconst 1, 1)) ∧ (fdecl fTX6_sameShelves_1 33 = some (.goto 4, 3)) ∧ (fdecl fTX6_sameShelves_1 36 = some (.iconst 0, 1)) ∧ (fdecl fTX6_sameShelves_1 37 = some (.istore 4, 2)) ∧ (fdecl fTX6_sameShelves_1 42 = some (.goto (-66), 3)) ∧ (fdecl fTX6_sameShelves_1 45 = some (.iload 4, 2)) ∧ (fdecl fTX6_sameShelves_1 47 = some (.ireturn, 1)) := by decide +kernel
theorem dX6_sameShelves_90 : decode cX6_sameShelves 90 = .ok (.invokevirtual 49, 3) := fx_ok (d := 64) (i := 26) fDX6_sameShelves_1 eX6_sameShelves_90.1
theorem dX6_sameShelves_93 : decode cX6_sameShelves 93 = .ok (.ifCond .eq 7, 3) := fx_ok (d := 64) (i := 29) fDX6_sameShelves_1 eX6_sameShelves_90.2.1
theorem dX6_sameShelves_96 : decode cX6_sameShelves 96 = .ok (.iconst 1, 1) := fx_ok (d := 64) (i := 32) fDX6_sameShelves_1 eX6_sameShelves_90.2.2.1
theorem dX6_sameShelves_97 : decode cX6_sameShelves 97 = .ok (.goto 4, 3) := fx_ok (d := 64) (i := 33) fDX6_sameShelves_1 eX6_sameShelves_90.2.2.2.1
theorem dX6_sameShelves_100 : decode cX6_sameShelves 100 = .ok (.iconst 0, 1) := fx_ok (d := 64) (i := 36) fDX6_sameShelves_1 eX6_sameShelves_90.2.2.2.2.1
theorem dX6_sameShelves_101 : decode cX6_sameShelves 101 = .ok (.istore 4, 2) := fx_ok (d := 64) (i := 37) fDX6_sameShelves_1 eX6_sameShelves_90.2.2.2.2.2.1
theorem dX6_sameShelves_106 : decode cX6_sameShelves 106 = .ok (.goto (-66), 3) := fx_ok (d := 64) (i := 42) fDX6_sameShelves_1 eX6_sameShelves_90.2.2.2.2.2.2.1
theorem dX6_sameShelves_109 : decode cX6_sameShelves 109 = .ok (.iload 4, 2) := fx_ok (d := 64) (i := 45) fDX6_sameShelves_1 eX6_sameShelves_90.2.2.2.2.2.2.2.1
theorem dX6_sameShelves_111 : decode cX6_sameShelves 111 = .ok (.ireturn, 1) := fx_ok (d := 64) (i := 47) fDX6_sameShelves_1 eX6_sameShelves_90.2.2.2.2.2.2.2.2
theorem dX6_sameShelves_103 : decode cX6_sameShelves 103 = .ok (.iinc 5 1, 3) := by decide +kernel
theorem eX6_house_0 : (fdecl cX6_house.data.toList 0 = some (.aload_n 0, 1)) ∧ (fdecl cX6_house.data.toList 1 = some (.iload_n 1, 1)) ∧ (fdecl cX6_house.data.toList 2 = some (.iconst 0, 1)) ∧ (fdecl cX6_house.data.toList 3 = some (.iconst 3, 1)) ∧ (fdecl cX6_house.data.toList 4 = some (.invokestatic 41, 3)) ∧ (fdecl cX6_house.data.toList 7 = some (.ifCond .eq 7, 3)) ∧ (fdecl cX6_house.data.toList 10 = some (.iconst 0, 1)) ∧ (fdecl cX6_house.data.toList 11 = some (.goto 4, 3)) ∧ (fdecl cX6_house.data.toList 14 = some (.iconst 1, 1)) ∧ (fdecl cX6_house.data.toList 15 = some (.putfield 38, 3)) ∧ (fdecl cX6_house.data.toList 18 = some (.aload_n 0, 1)) ∧ (fdecl cX6_house.data.toList 19 = some (.getfield 38, 3)) ∧ (fdecl cX6_house.data.toList 22 = some (.ifCond .ne 12, 3)) ∧ (fdecl cX6_house.data.toList 25 = some (.aload_n 0, 1)) ∧ (fdecl cX6_house.data.toList 26 = some (.getfield 32, 3)) ∧ (fdecl cX6_house.data.toList 29 = some (.iload_n 1, 1)) := by decide +kernel
theorem dX6_house_0 : decode cX6_house 0 = .ok (.aload_n 0, 1) := fx_ok0 eX6_house_0.1
theorem dX6_house_1 : decode cX6_house 1 = .ok (.iload_n 1, 1) := fx_ok0 eX6_house_0.2.1
theorem dX6_house_2 : decode cX6_house 2 = .ok (.iconst 0, 1) := fx_ok0 eX6_house_0.2.2.1
theorem dX6_house_3 : decode cX6_house 3 = .ok (.iconst 3, 1) := fx_ok0 eX6_house_0.2.2.2.1
theorem dX6_house_4 : decode cX6_house 4 = .ok (.invokestatic 41, 3) := fx_ok0 eX6_house_0.2.2.2.2.1
theorem dX6_house_7 : decode cX6_house 7 = .ok (.ifCond .eq 7, 3) := fx_ok0 eX6_house_0.2.2.2.2.2.1
theorem dX6_house_10 : decode cX6_house 10 = .ok (.iconst 0, 1) := fx_ok0 eX6_house_0.2.2.2.2.2.2.1
theorem dX6_house_11 : decode cX6_house 11 = .ok (.goto 4, 3) := fx_ok0 eX6_house_0.2.2.2.2.2.2.2.1
theorem dX6_house_14 : decode cX6_house 14 = .ok (.iconst 1, 1) := fx_ok0 eX6_house_0.2.2.2.2.2.2.2.2.1
theorem dX6_house_15 : decode cX6_house 15 = .ok (.putfield 38, 3) := fx_ok0 eX6_house_0.2.2.2.2.2.2.2.2.2.1
theorem dX6_house_18 : decode cX6_house 18 = .ok (.aload_n 0, 1) := fx_ok0 eX6_house_0.2.2.2.2.2.2.2.2.2.2.1
theorem dX6_house_19 : decode cX6_house 19 = .ok (.getfield 38, 3) := fx_ok0 eX6_house_0.2.2.2.2.2.2.2.2.2.2.2.1
theorem dX6_house_22 : decode cX6_house 22 = .ok (.ifCond .ne 12, 3) := fx_ok0 eX6_house_0.2.2.2.2.2.2.2.2.2.2.2.2.1
theorem dX6_house_25 : decode cX6_house 25 = .ok (.aload_n 0, 1) := fx_ok0 eX6_house_0.2.2.2.2.2.2.2.2.2.2.2.2.2.1
theorem dX6_house_26 : decode cX6_house 26 = .ok (.getfield 32, 3) := fx_ok0 eX6_house_0.2.2.2.2.2.2.2.2.2.2.2.2.2.2.1
theorem dX6_house_29 : decode cX6_house 29 = .ok (.iload_n 1, 1) := fx_ok0 eX6_house_0.2.2.2.2.2.2.2.2.2.2.2.2.2.2.2
theorem eX6_house_30 : (fdecl cX6_house.data.toList 30 = some (.iaload, 1)) ∧ (fdecl cX6_house.data.toList 31 = some (.goto 4, 3)) ∧ (fdecl cX6_house.data.toList 34 = some (.iconst 0, 1)) ∧ (fdecl cX6_house.data.toList 35 = some (.ireturn, 1)) := by decide +kernel
theorem dX6_house_30 : decode cX6_house 30 = .ok (.iaload, 1) := fx_ok0 eX6_house_30.1
theorem dX6_house_31 : decode cX6_house 31 = .ok (.goto 4, 3) := fx_ok0 eX6_house_30.2.1
theorem dX6_house_34 : decode cX6_house 34 = .ok (.iconst 0, 1) := fx_ok0 eX6_house_30.2.2.1
theorem dX6_house_35 : decode cX6_house 35 = .ok (.ireturn, 1) := fx_ok0 eX6_house_30.2.2.2
theorem eX6_knock_0 : (fdecl cX6_knock.data.toList 0 = some (.aload_n 0, 1)) ∧ (fdecl cX6_knock.data.toList 1 = some (.iconst 0, 1)) ∧ (fdecl cX6_knock.data.toList 2 = some (.putfield 38, 3)) ∧ (fdecl cX6_knock.data.toList 5 = some (.aload_n 0, 1)) ∧ (fdecl cX6_knock.data.toList 6 = some (.getfield 32, 3)) ∧ (fdecl cX6_knock.data.toList 9 = some (.iconst 3, 1)) ∧ (fdecl cX6_knock.data.toList 10 = some (.dup2, 1)) ∧ (fdecl cX6_knock.data.toList 11 = some (.iaload, 1)) ∧ (fdecl cX6_knock.data.toList 12 = some (.iconst 1, 1)) ∧ (fdecl cX6_knock.data.toList 13 = some (.iadd, 1)) ∧ (fdecl cX6_knock.data.toList 14 = some (.iastore, 1)) ∧ (fdecl cX6_knock.data.toList 15 = some (.aload_n 0, 1)) ∧ (fdecl cX6_knock.data.toList 16 = some (.getfield 32, 3)) ∧ (fdecl cX6_knock.data.toList 19 = some (.iconst 3, 1)) ∧ (fdecl cX6_knock.data.toList 20 = some (.iaload, 1)) ∧ (fdecl cX6_knock.data.toList 21 = some (.ireturn, 1)) := by decide +kernel
theorem dX6_knock_0 : decode cX6_knock 0 = .ok (.aload_n 0, 1) := fx_ok0 eX6_knock_0.1
theorem dX6_knock_1 : decode cX6_knock 1 = .ok (.iconst 0, 1) := fx_ok0 eX6_knock_0.2.1
theorem dX6_knock_2 : decode cX6_knock 2 = .ok (.putfield 38, 3) := fx_ok0 eX6_knock_0.2.2.1
theorem dX6_knock_5 : decode cX6_knock 5 = .ok (.aload_n 0, 1) := fx_ok0 eX6_knock_0.2.2.2.1
theorem dX6_knock_6 : decode cX6_knock 6 = .ok (.getfield 32, 3) := fx_ok0 eX6_knock_0.2.2.2.2.1
theorem dX6_knock_9 : decode cX6_knock 9 = .ok (.iconst 3, 1) := fx_ok0 eX6_knock_0.2.2.2.2.2.1
theorem dX6_knock_10 : decode cX6_knock 10 = .ok (.dup2, 1) := fx_ok0 eX6_knock_0.2.2.2.2.2.2.1
theorem dX6_knock_11 : decode cX6_knock 11 = .ok (.iaload, 1) := fx_ok0 eX6_knock_0.2.2.2.2.2.2.2.1
theorem dX6_knock_12 : decode cX6_knock 12 = .ok (.iconst 1, 1) := fx_ok0 eX6_knock_0.2.2.2.2.2.2.2.2.1
theorem dX6_knock_13 : decode cX6_knock 13 = .ok (.iadd, 1) := fx_ok0 eX6_knock_0.2.2.2.2.2.2.2.2.2.1
theorem dX6_knock_14 : decode cX6_knock 14 = .ok (.iastore, 1) := fx_ok0 eX6_knock_0.2.2.2.2.2.2.2.2.2.2.1
theorem dX6_knock_15 : decode cX6_knock 15 = .ok (.aload_n 0, 1) := fx_ok0 eX6_knock_0.2.2.2.2.2.2.2.2.2.2.2.1
theorem dX6_knock_16 : decode cX6_knock 16 = .ok (.getfield 32, 3) := fx_ok0 eX6_knock_0.2.2.2.2.2.2.2.2.2.2.2.2.1
theorem dX6_knock_19 : decode cX6_knock 19 = .ok (.iconst 3, 1) := fx_ok0 eX6_knock_0.2.2.2.2.2.2.2.2.2.2.2.2.2.1
theorem dX6_knock_20 : decode cX6_knock 20 = .ok (.iaload, 1) := fx_ok0 eX6_knock_0.2.2.2.2.2.2.2.2.2.2.2.2.2.2.1
theorem dX6_knock_21 : decode cX6_knock 21 = .ok (.ireturn, 1) := fx_ok0 eX6_knock_0.2.2.2.2.2.2.2.2.2.2.2.2.2.2.2
theorem eX6_isSound_0 : (fdecl cX6_isSound.data.toList 0 = some (.aload_n 0, 1)) ∧ (fdecl cX6_isSound.data.toList 1 = some (.iconst 0, 1)) ∧ (fdecl cX6_isSound.data.toList 2 = some (.putfield 38, 3)) ∧ (fdecl cX6_isSound.data.toList 5 = some (.iconst 1, 1)) ∧ (fdecl cX6_isSound.data.toList 6 = some (.ireturn, 1)) := by decide +kernel
theorem dX6_isSound_0 : decode cX6_isSound 0 = .ok (.aload_n 0, 1) := fx_ok0 eX6_isSound_0.1
theorem dX6_isSound_1 : decode cX6_isSound 1 = .ok (.iconst 0, 1) := fx_ok0 eX6_isSound_0.2.1
theorem dX6_isSound_2 : decode cX6_isSound 2 = .ok (.putfield 38, 3) := fx_ok0 eX6_isSound_0.2.2.1
theorem dX6_isSound_5 : decode cX6_isSound 5 = .ok (.iconst 1, 1) := fx_ok0 eX6_isSound_0.2.2.2.1
theorem dX6_isSound_6 : decode cX6_isSound 6 = .ok (.ireturn, 1) := fx_ok0 eX6_isSound_0.2.2.2.2
theorem eX6_add_0 : (fdecl cX6_add.data.toList 0 = some (.lload_n 0, 1)) ∧ (fdecl cX6_add.data.toList 1 = some (.ldc2_w 202, 3)) ∧ (fdecl cX6_add.data.toList 4 = some (.lmul, 1)) ∧ (fdecl cX6_add.data.toList 5 = some (.lload_n 2, 1)) ∧ (fdecl cX6_add.data.toList 6 = some (.ladd, 1)) ∧ (fdecl cX6_add.data.toList 7 = some (.lreturn, 1)) := by decide +kernel
theorem dX6_add_0 : decode cX6_add 0 = .ok (.lload_n 0, 1) := fx_ok0 eX6_add_0.1
theorem dX6_add_1 : decode cX6_add 1 = .ok (.ldc2_w 202, 3) := fx_ok0 eX6_add_0.2.1
theorem dX6_add_4 : decode cX6_add 4 = .ok (.lmul, 1) := fx_ok0 eX6_add_0.2.2.1
theorem dX6_add_5 : decode cX6_add 5 = .ok (.lload_n 2, 1) := fx_ok0 eX6_add_0.2.2.2.1
theorem dX6_add_6 : decode cX6_add 6 = .ok (.ladd, 1) := fx_ok0 eX6_add_0.2.2.2.2.1
theorem dX6_add_7 : decode cX6_add 7 = .ok (.lreturn, 1) := fx_ok0 eX6_add_0.2.2.2.2.2
def fAX6_digest_0 : List UInt8 := [20, 0, 204, 64, 42, 180, 0, 11, 78, 45, 190, 54, 4, 3, 54, 5, 21, 5, 21, 4, 162, 0, 96, 45, 21, 5, 50, 58, 6, 31, 25, 6, 3, 16, 99, 182, 0, 67, 133, 184, 0, 206, 25, 6, 180, 0, 75, 133, 184, 0, 206, 25, 6, 184, 0, 131, 133, 184, 0, 206, 64, 3, 54, 7]
def fAX6_digest_1 : List UInt8 := [21, 7, 16, 100, 162, 0, 42, 25, 6, 25, 6, 21, 7, 182, 0, 100, 182, 0, 49, 153, 0, 21, 31, 25, 6, 25, 6, 21, 7, 182, 0, 100, 182, 0, 117, 133, 184, 0, 206, 64, 132, 7, 1, 167, 255, 213, 132, 5, 1, 167, 255, 159, 3, 62, 29, 5, 162, 0, 81, 31, 42, 29, 182, 0]
def fAX6_digest_2 : List UInt8 := [171, 133, 184, 0, 206, 42, 180, 0, 18, 29, 50, 42, 180, 0, 21, 29, 46, 42, 180, 0, 25, 29, 46, 182, 0, 111, 133, 184, 0, 206, 64, 31, 42, 180, 0, 18, 29, 50, 42, 180, 0, 21, 29, 46, 42, 180, 0, 25, 29, 46, 182, 0, 114, 133, 184, 0, 206, 42, 29, 182, 0, 183, 133, 184]
def fAX6_digest_3 : List UInt8 := [0, 206, 64, 132, 3, 1, 167, 255, 176, 31, 42, 182, 0, 189, 153, 0, 7, 10, 167, 0, 4, 9, 184, 0, 206, 42, 180, 0, 28, 133, 184, 0, 206, 64, 42, 180, 0, 15, 78, 45, 190, 54, 4, 3, 54, 5, 21, 5, 21, 4, 162, 0, 91, 45, 21, 5, 50, 58, 6, 31, 25, 6, 3, 16]
def fAX6_digest_4 : List UInt8 := [99, 182, 0, 67, 133, 184, 0, 206, 25, 6, 180, 0, 75, 133, 184, 0, 206, 25, 6, 184, 0, 200, 133, 184, 0, 206, 64, 3, 54, 7, 21, 7, 16, 100, 162, 0, 37, 25, 6, 25, 6, 21, 7, 182, 0, 100, 182, 0, 49, 153, 0, 16, 31, 25, 6, 21, 7, 182, 0, 100, 133, 184, 0, 206]
def fAX6_digest_5 : List UInt8 := [64, 132, 7, 1, 167, 255, 218, 132, 5, 1, 167, 255, 164, 42, 180, 0, 32, 78, 45, 190, 54, 4, 3, 54, 5, 21, 5, 21, 4, 162, 0, 23, 45, 21, 5, 46, 54, 6, 31, 21, 6, 133, 184, 0, 206, 64, 132, 5, 1, 167, 255, 232, 42, 3, 181, 0, 38, 31, 10, 184, 0, 206, 173]
def fTX6_digest_5 : List UInt8 := fAX6_digest_5
def fTX6_digest_4 : List UInt8 := fAX6_digest_4 ++ fTX6_digest_5
def fTX6_digest_3 : List UInt8 := fAX6_digest_3 ++ fTX6_digest_4
def fTX6_digest_2 : List UInt8 := fAX6_digest_2 ++ fTX6_digest_3
def fTX6_digest_1 : List UInt8 := fAX6_digest_1 ++ fTX6_digest_2
def fTX6_digest_0 : List UInt8 := fAX6_digest_0 ++ fTX6_digest_1
theorem fDX6_digest_0 : cX6_digest.data.toList.drop 0 = fTX6_digest_0 := eq_of_beq (by decide +kernel)
theorem fDX6_digest_1 : cX6_digest.data.toList.drop 64 = fTX6_digest_1 := fx_nx (d := 0) (n := 64) (a := fAX6_digest_0) fDX6_digest_0 rfl
theorem fDX6_digest_2 : cX6_digest.data.toList.drop 128 = fTX6_digest_2 := fx_nx (d := 64) (n := 64) (a := fAX6_digest_1) fDX6_digest_1 rfl
theorem fDX6_digest_3 : cX6_digest.data.toList.drop 192 = fTX6_digest_3 := fx_nx (d := 128) (n := 64) (a := fAX6_digest_2) fDX6_digest_2 rfl
theorem fDX6_digest_4 : cX6_digest.data.toList.drop 256 = fTX6_digest_4 := fx_nx (d := 192) (n := 64) (a := fAX6_digest_3) fDX6_digest_3 rfl
theorem fDX6_digest_5 : cX6_digest.data.toList.drop 320 = fTX6_digest_5 := fx_nx (d := 256) (n := 64) (a := fAX6_digest_4) fDX6_digest_4 rfl
theorem eX6_digest_0 : (fdecl fTX6_digest_0 0 = some (.ldc2_w 204, 3)) ∧ (fdecl fTX6_digest_0 3 = some (.lstore_n 1, 1)) ∧ (fdecl fTX6_digest_0 4 = some (.aload_n 0, 1)) ∧ (fdecl fTX6_digest_0 5 = some (.getfield 11, 3)) ∧ (fdecl fTX6_digest_0 8 = some (.astore_n 3, 1)) ∧ (fdecl fTX6_digest_0 9 = some (.aload_n 3, 1)) ∧ (fdecl fTX6_digest_0 10 = some (.arraylength, 1)) ∧ (fdecl fTX6_digest_0 11 = some (.istore 4, 2)) ∧ (fdecl fTX6_digest_0 13 = some (.iconst 0, 1)) ∧ (fdecl fTX6_digest_0 14 = some (.istore 5, 2)) ∧ (fdecl fTX6_digest_0 16 = some (.iload 5, 2)) ∧ (fdecl fTX6_digest_0 18 = some (.iload 4, 2)) ∧ (fdecl fTX6_digest_0 20 = some (.if_icmp .ge 96, 3)) ∧ (fdecl fTX6_digest_0 23 = some (.aload_n 3, 1)) ∧ (fdecl fTX6_digest_0 24 = some (.iload 5, 2)) ∧ (fdecl fTX6_digest_0 26 = some (.aaload, 1)) := by decide +kernel
theorem dX6_digest_0 : decode cX6_digest 0 = .ok (.ldc2_w 204, 3) := fx_ok (d := 0) (i := 0) fDX6_digest_0 eX6_digest_0.1
theorem dX6_digest_3 : decode cX6_digest 3 = .ok (.lstore_n 1, 1) := fx_ok (d := 0) (i := 3) fDX6_digest_0 eX6_digest_0.2.1
theorem dX6_digest_4 : decode cX6_digest 4 = .ok (.aload_n 0, 1) := fx_ok (d := 0) (i := 4) fDX6_digest_0 eX6_digest_0.2.2.1
theorem dX6_digest_5 : decode cX6_digest 5 = .ok (.getfield 11, 3) := fx_ok (d := 0) (i := 5) fDX6_digest_0 eX6_digest_0.2.2.2.1
theorem dX6_digest_8 : decode cX6_digest 8 = .ok (.astore_n 3, 1) := fx_ok (d := 0) (i := 8) fDX6_digest_0 eX6_digest_0.2.2.2.2.1
theorem dX6_digest_9 : decode cX6_digest 9 = .ok (.aload_n 3, 1) := fx_ok (d := 0) (i := 9) fDX6_digest_0 eX6_digest_0.2.2.2.2.2.1
theorem dX6_digest_10 : decode cX6_digest 10 = .ok (.arraylength, 1) := fx_ok (d := 0) (i := 10) fDX6_digest_0 eX6_digest_0.2.2.2.2.2.2.1
theorem dX6_digest_11 : decode cX6_digest 11 = .ok (.istore 4, 2) := fx_ok (d := 0) (i := 11) fDX6_digest_0 eX6_digest_0.2.2.2.2.2.2.2.1
theorem dX6_digest_13 : decode cX6_digest 13 = .ok (.iconst 0, 1) := fx_ok (d := 0) (i := 13) fDX6_digest_0 eX6_digest_0.2.2.2.2.2.2.2.2.1
theorem dX6_digest_14 : decode cX6_digest 14 = .ok (.istore 5, 2) := fx_ok (d := 0) (i := 14) fDX6_digest_0 eX6_digest_0.2.2.2.2.2.2.2.2.2.1
theorem dX6_digest_16 : decode cX6_digest 16 = .ok (.iload 5, 2) := fx_ok (d := 0) (i := 16) fDX6_digest_0 eX6_digest_0.2.2.2.2.2.2.2.2.2.2.1
theorem dX6_digest_18 : decode cX6_digest 18 = .ok (.iload 4, 2) := fx_ok (d := 0) (i := 18) fDX6_digest_0 eX6_digest_0.2.2.2.2.2.2.2.2.2.2.2.1
theorem dX6_digest_20 : decode cX6_digest 20 = .ok (.if_icmp .ge 96, 3) := fx_ok (d := 0) (i := 20) fDX6_digest_0 eX6_digest_0.2.2.2.2.2.2.2.2.2.2.2.2.1
theorem dX6_digest_23 : decode cX6_digest 23 = .ok (.aload_n 3, 1) := fx_ok (d := 0) (i := 23) fDX6_digest_0 eX6_digest_0.2.2.2.2.2.2.2.2.2.2.2.2.2.1
theorem dX6_digest_24 : decode cX6_digest 24 = .ok (.iload 5, 2) := fx_ok (d := 0) (i := 24) fDX6_digest_0 eX6_digest_0.2.2.2.2.2.2.2.2.2.2.2.2.2.2.1
theorem dX6_digest_26 : decode cX6_digest 26 = .ok (.aaload, 1) := fx_ok (d := 0) (i := 26) fDX6_digest_0 eX6_digest_0.2.2.2.2.2.2.2.2.2.2.2.2.2.2.2
theorem eX6_digest_27 : (fdecl fTX6_digest_0 27 = some (.astore 6, 2)) ∧ (fdecl fTX6_digest_0 29 = some (.lload_n 1, 1)) ∧ (fdecl fTX6_digest_0 30 = some (.aload 6, 2)) ∧ (fdecl fTX6_digest_0 32 = some (.iconst 0, 1)) ∧ (fdecl fTX6_digest_0 33 = some (.bipush 99, 2)) ∧ (fdecl fTX6_digest_0 35 = some (.invokevirtual 67, 3)) ∧ (fdecl fTX6_digest_0 38 = some (.i2l, 1)) ∧ (fdecl fTX6_digest_0 39 = some (.invokestatic 206, 3)) ∧ (fdecl fTX6_digest_0 42 = some (.aload 6, 2)) ∧ (fdecl fTX6_digest_0 44 = some (.getfield 75, 3)) ∧ (fdecl fTX6_digest_0 47 = some (.i2l, 1)) ∧ (fdecl fTX6_digest_0 48 = some (.invokestatic 206, 3)) ∧ (fdecl fTX6_digest_0 51 = some (.aload 6, 2)) ∧ (fdecl fTX6_digest_0 53 = some (.invokestatic 131, 3)) ∧ (fdecl fTX6_digest_0 56 = some (.i2l, 1)) ∧ (fdecl fTX6_digest_0 57 = some (.invokestatic 206, 3)) := by decide +kernel
theorem dX6_digest_27 : decode cX6_digest 27 = .ok (.astore 6, 2) := fx_ok (d := 0) (i := 27) fDX6_digest_0 eX6_digest_27.1
theorem dX6_digest_29 : decode cX6_digest 29 = .ok (.lload_n 1, 1) := fx_ok (d := 0) (i := 29) fDX6_digest_0 eX6_digest_27.2.1
theorem dX6_digest_30 : decode cX6_digest 30 = .ok (.aload 6, 2) := fx_ok (d := 0) (i := 30) fDX6_digest_0 eX6_digest_27.2.2.1
theorem dX6_digest_32 : decode cX6_digest 32 = .ok (.iconst 0, 1) := fx_ok (d := 0) (i := 32) fDX6_digest_0 eX6_digest_27.2.2.2.1
theorem dX6_digest_33 : decode cX6_digest 33 = .ok (.bipush 99, 2) := fx_ok (d := 0) (i := 33) fDX6_digest_0 eX6_digest_27.2.2.2.2.1
theorem dX6_digest_35 : decode cX6_digest 35 = .ok (.invokevirtual 67, 3) := fx_ok (d := 0) (i := 35) fDX6_digest_0 eX6_digest_27.2.2.2.2.2.1
theorem dX6_digest_38 : decode cX6_digest 38 = .ok (.i2l, 1) := fx_ok (d := 0) (i := 38) fDX6_digest_0 eX6_digest_27.2.2.2.2.2.2.1
theorem dX6_digest_39 : decode cX6_digest 39 = .ok (.invokestatic 206, 3) := fx_ok (d := 0) (i := 39) fDX6_digest_0 eX6_digest_27.2.2.2.2.2.2.2.1
theorem dX6_digest_42 : decode cX6_digest 42 = .ok (.aload 6, 2) := fx_ok (d := 0) (i := 42) fDX6_digest_0 eX6_digest_27.2.2.2.2.2.2.2.2.1
theorem dX6_digest_44 : decode cX6_digest 44 = .ok (.getfield 75, 3) := fx_ok (d := 0) (i := 44) fDX6_digest_0 eX6_digest_27.2.2.2.2.2.2.2.2.2.1
theorem dX6_digest_47 : decode cX6_digest 47 = .ok (.i2l, 1) := fx_ok (d := 0) (i := 47) fDX6_digest_0 eX6_digest_27.2.2.2.2.2.2.2.2.2.2.1
theorem dX6_digest_48 : decode cX6_digest 48 = .ok (.invokestatic 206, 3) := fx_ok (d := 0) (i := 48) fDX6_digest_0 eX6_digest_27.2.2.2.2.2.2.2.2.2.2.2.1
theorem dX6_digest_51 : decode cX6_digest 51 = .ok (.aload 6, 2) := fx_ok (d := 0) (i := 51) fDX6_digest_0 eX6_digest_27.2.2.2.2.2.2.2.2.2.2.2.2.1
theorem dX6_digest_53 : decode cX6_digest 53 = .ok (.invokestatic 131, 3) := fx_ok (d := 0) (i := 53) fDX6_digest_0 eX6_digest_27.2.2.2.2.2.2.2.2.2.2.2.2.2.1
theorem dX6_digest_56 : decode cX6_digest 56 = .ok (.i2l, 1) := fx_ok (d := 0) (i := 56) fDX6_digest_0 eX6_digest_27.2.2.2.2.2.2.2.2.2.2.2.2.2.2.1
theorem dX6_digest_57 : decode cX6_digest 57 = .ok (.invokestatic 206, 3) := fx_ok (d := 0) (i := 57) fDX6_digest_0 eX6_digest_27.2.2.2.2.2.2.2.2.2.2.2.2.2.2.2
theorem eX6_digest_60 : (fdecl fTX6_digest_0 60 = some (.lstore_n 1, 1)) ∧ (fdecl fTX6_digest_0 61 = some (.iconst 0, 1)) ∧ (fdecl fTX6_digest_0 62 = some (.istore 7, 2)) ∧ (fdecl fTX6_digest_1 0 = some (.iload 7, 2)) ∧ (fdecl fTX6_digest_1 2 = some (.bipush 100, 2)) ∧ (fdecl fTX6_digest_1 4 = some (.if_icmp .ge 42, 3)) ∧ (fdecl fTX6_digest_1 7 = some (.aload 6, 2)) ∧ (fdecl fTX6_digest_1 9 = some (.aload 6, 2)) ∧ (fdecl fTX6_digest_1 11 = some (.iload 7, 2)) ∧ (fdecl fTX6_digest_1 13 = some (.invokevirtual 100, 3)) ∧ (fdecl fTX6_digest_1 16 = some (.invokevirtual 49, 3)) ∧ (fdecl fTX6_digest_1 19 = some (.ifCond .eq 21, 3)) ∧ (fdecl fTX6_digest_1 22 = some (.lload_n 1, 1)) ∧ (fdecl fTX6_digest_1 23 = some (.aload 6, 2)) ∧ (fdecl fTX6_digest_1 25 = some (.aload 6, 2)) ∧ (fdecl fTX6_digest_1 27 = some (.iload 7, 2)) := by decide +kernel
theorem dX6_digest_60 : decode cX6_digest 60 = .ok (.lstore_n 1, 1) := fx_ok (d := 0) (i := 60) fDX6_digest_0 eX6_digest_60.1
theorem dX6_digest_61 : decode cX6_digest 61 = .ok (.iconst 0, 1) := fx_ok (d := 0) (i := 61) fDX6_digest_0 eX6_digest_60.2.1
theorem dX6_digest_62 : decode cX6_digest 62 = .ok (.istore 7, 2) := fx_ok (d := 0) (i := 62) fDX6_digest_0 eX6_digest_60.2.2.1
theorem dX6_digest_64 : decode cX6_digest 64 = .ok (.iload 7, 2) := fx_ok (d := 64) (i := 0) fDX6_digest_1 eX6_digest_60.2.2.2.1
theorem dX6_digest_66 : decode cX6_digest 66 = .ok (.bipush 100, 2) := fx_ok (d := 64) (i := 2) fDX6_digest_1 eX6_digest_60.2.2.2.2.1
theorem dX6_digest_68 : decode cX6_digest 68 = .ok (.if_icmp .ge 42, 3) := fx_ok (d := 64) (i := 4) fDX6_digest_1 eX6_digest_60.2.2.2.2.2.1
theorem dX6_digest_71 : decode cX6_digest 71 = .ok (.aload 6, 2) := fx_ok (d := 64) (i := 7) fDX6_digest_1 eX6_digest_60.2.2.2.2.2.2.1
theorem dX6_digest_73 : decode cX6_digest 73 = .ok (.aload 6, 2) := fx_ok (d := 64) (i := 9) fDX6_digest_1 eX6_digest_60.2.2.2.2.2.2.2.1
theorem dX6_digest_75 : decode cX6_digest 75 = .ok (.iload 7, 2) := fx_ok (d := 64) (i := 11) fDX6_digest_1 eX6_digest_60.2.2.2.2.2.2.2.2.1
theorem dX6_digest_77 : decode cX6_digest 77 = .ok (.invokevirtual 100, 3) := fx_ok (d := 64) (i := 13) fDX6_digest_1 eX6_digest_60.2.2.2.2.2.2.2.2.2.1
theorem dX6_digest_80 : decode cX6_digest 80 = .ok (.invokevirtual 49, 3) := fx_ok (d := 64) (i := 16) fDX6_digest_1 eX6_digest_60.2.2.2.2.2.2.2.2.2.2.1
theorem dX6_digest_83 : decode cX6_digest 83 = .ok (.ifCond .eq 21, 3) := fx_ok (d := 64) (i := 19) fDX6_digest_1 eX6_digest_60.2.2.2.2.2.2.2.2.2.2.2.1
theorem dX6_digest_86 : decode cX6_digest 86 = .ok (.lload_n 1, 1) := fx_ok (d := 64) (i := 22) fDX6_digest_1 eX6_digest_60.2.2.2.2.2.2.2.2.2.2.2.2.1
theorem dX6_digest_87 : decode cX6_digest 87 = .ok (.aload 6, 2) := fx_ok (d := 64) (i := 23) fDX6_digest_1 eX6_digest_60.2.2.2.2.2.2.2.2.2.2.2.2.2.1
theorem dX6_digest_89 : decode cX6_digest 89 = .ok (.aload 6, 2) := fx_ok (d := 64) (i := 25) fDX6_digest_1 eX6_digest_60.2.2.2.2.2.2.2.2.2.2.2.2.2.2.1
theorem dX6_digest_91 : decode cX6_digest 91 = .ok (.iload 7, 2) := fx_ok (d := 64) (i := 27) fDX6_digest_1 eX6_digest_60.2.2.2.2.2.2.2.2.2.2.2.2.2.2.2
theorem eX6_digest_93 : (fdecl fTX6_digest_1 29 = some (.invokevirtual 100, 3)) ∧ (fdecl fTX6_digest_1 32 = some (.invokevirtual 117, 3)) ∧ (fdecl fTX6_digest_1 35 = some (.i2l, 1)) ∧ (fdecl fTX6_digest_1 36 = some (.invokestatic 206, 3)) ∧ (fdecl fTX6_digest_1 39 = some (.lstore_n 1, 1)) ∧ (fdecl fTX6_digest_1 43 = some (.goto (-43), 3)) ∧ (fdecl fTX6_digest_1 49 = some (.goto (-97), 3)) ∧ (fdecl fTX6_digest_1 52 = some (.iconst 0, 1)) ∧ (fdecl fTX6_digest_1 53 = some (.istore_n 3, 1)) ∧ (fdecl fTX6_digest_1 54 = some (.iload_n 3, 1)) ∧ (fdecl fTX6_digest_1 55 = some (.iconst 2, 1)) ∧ (fdecl fTX6_digest_1 56 = some (.if_icmp .ge 81, 3)) ∧ (fdecl fTX6_digest_1 59 = some (.lload_n 1, 1)) ∧ (fdecl fTX6_digest_1 60 = some (.aload_n 0, 1)) ∧ (fdecl fTX6_digest_1 61 = some (.iload_n 3, 1)) ∧ (fdecl fTX6_digest_1 62 = some (.invokevirtual 171, 3)) := by decide +kernel
theorem dX6_digest_93 : decode cX6_digest 93 = .ok (.invokevirtual 100, 3) := fx_ok (d := 64) (i := 29) fDX6_digest_1 eX6_digest_93.1
theorem dX6_digest_96 : decode cX6_digest 96 = .ok (.invokevirtual 117, 3) := fx_ok (d := 64) (i := 32) fDX6_digest_1 eX6_digest_93.2.1
theorem dX6_digest_99 : decode cX6_digest 99 = .ok (.i2l, 1) := fx_ok (d := 64) (i := 35) fDX6_digest_1 eX6_digest_93.2.2.1
theorem dX6_digest_100 : decode cX6_digest 100 = .ok (.invokestatic 206, 3) := fx_ok (d := 64) (i := 36) fDX6_digest_1 eX6_digest_93.2.2.2.1
theorem dX6_digest_103 : decode cX6_digest 103 = .ok (.lstore_n 1, 1) := fx_ok (d := 64) (i := 39) fDX6_digest_1 eX6_digest_93.2.2.2.2.1
theorem dX6_digest_107 : decode cX6_digest 107 = .ok (.goto (-43), 3) := fx_ok (d := 64) (i := 43) fDX6_digest_1 eX6_digest_93.2.2.2.2.2.1
theorem dX6_digest_113 : decode cX6_digest 113 = .ok (.goto (-97), 3) := fx_ok (d := 64) (i := 49) fDX6_digest_1 eX6_digest_93.2.2.2.2.2.2.1
theorem dX6_digest_116 : decode cX6_digest 116 = .ok (.iconst 0, 1) := fx_ok (d := 64) (i := 52) fDX6_digest_1 eX6_digest_93.2.2.2.2.2.2.2.1
theorem dX6_digest_117 : decode cX6_digest 117 = .ok (.istore_n 3, 1) := fx_ok (d := 64) (i := 53) fDX6_digest_1 eX6_digest_93.2.2.2.2.2.2.2.2.1
theorem dX6_digest_118 : decode cX6_digest 118 = .ok (.iload_n 3, 1) := fx_ok (d := 64) (i := 54) fDX6_digest_1 eX6_digest_93.2.2.2.2.2.2.2.2.2.1
theorem dX6_digest_119 : decode cX6_digest 119 = .ok (.iconst 2, 1) := fx_ok (d := 64) (i := 55) fDX6_digest_1 eX6_digest_93.2.2.2.2.2.2.2.2.2.2.1
theorem dX6_digest_120 : decode cX6_digest 120 = .ok (.if_icmp .ge 81, 3) := fx_ok (d := 64) (i := 56) fDX6_digest_1 eX6_digest_93.2.2.2.2.2.2.2.2.2.2.2.1
theorem dX6_digest_123 : decode cX6_digest 123 = .ok (.lload_n 1, 1) := fx_ok (d := 64) (i := 59) fDX6_digest_1 eX6_digest_93.2.2.2.2.2.2.2.2.2.2.2.2.1
theorem dX6_digest_124 : decode cX6_digest 124 = .ok (.aload_n 0, 1) := fx_ok (d := 64) (i := 60) fDX6_digest_1 eX6_digest_93.2.2.2.2.2.2.2.2.2.2.2.2.2.1
theorem dX6_digest_125 : decode cX6_digest 125 = .ok (.iload_n 3, 1) := fx_ok (d := 64) (i := 61) fDX6_digest_1 eX6_digest_93.2.2.2.2.2.2.2.2.2.2.2.2.2.2.1
theorem dX6_digest_126 : decode cX6_digest 126 = .ok (.invokevirtual 171, 3) := fx_ok (d := 64) (i := 62) fDX6_digest_1 eX6_digest_93.2.2.2.2.2.2.2.2.2.2.2.2.2.2.2
theorem eX6_digest_129 : (fdecl fTX6_digest_2 1 = some (.i2l, 1)) ∧ (fdecl fTX6_digest_2 2 = some (.invokestatic 206, 3)) ∧ (fdecl fTX6_digest_2 5 = some (.aload_n 0, 1)) ∧ (fdecl fTX6_digest_2 6 = some (.getfield 18, 3)) ∧ (fdecl fTX6_digest_2 9 = some (.iload_n 3, 1)) ∧ (fdecl fTX6_digest_2 10 = some (.aaload, 1)) ∧ (fdecl fTX6_digest_2 11 = some (.aload_n 0, 1)) ∧ (fdecl fTX6_digest_2 12 = some (.getfield 21, 3)) ∧ (fdecl fTX6_digest_2 15 = some (.iload_n 3, 1)) ∧ (fdecl fTX6_digest_2 16 = some (.iaload, 1)) ∧ (fdecl fTX6_digest_2 17 = some (.aload_n 0, 1)) ∧ (fdecl fTX6_digest_2 18 = some (.getfield 25, 3)) ∧ (fdecl fTX6_digest_2 21 = some (.iload_n 3, 1)) ∧ (fdecl fTX6_digest_2 22 = some (.iaload, 1)) ∧ (fdecl fTX6_digest_2 23 = some (.invokevirtual 111, 3)) ∧ (fdecl fTX6_digest_2 26 = some (.i2l, 1)) := by decide +kernel
theorem dX6_digest_129 : decode cX6_digest 129 = .ok (.i2l, 1) := fx_ok (d := 128) (i := 1) fDX6_digest_2 eX6_digest_129.1
theorem dX6_digest_130 : decode cX6_digest 130 = .ok (.invokestatic 206, 3) := fx_ok (d := 128) (i := 2) fDX6_digest_2 eX6_digest_129.2.1
theorem dX6_digest_133 : decode cX6_digest 133 = .ok (.aload_n 0, 1) := fx_ok (d := 128) (i := 5) fDX6_digest_2 eX6_digest_129.2.2.1
theorem dX6_digest_134 : decode cX6_digest 134 = .ok (.getfield 18, 3) := fx_ok (d := 128) (i := 6) fDX6_digest_2 eX6_digest_129.2.2.2.1
theorem dX6_digest_137 : decode cX6_digest 137 = .ok (.iload_n 3, 1) := fx_ok (d := 128) (i := 9) fDX6_digest_2 eX6_digest_129.2.2.2.2.1
theorem dX6_digest_138 : decode cX6_digest 138 = .ok (.aaload, 1) := fx_ok (d := 128) (i := 10) fDX6_digest_2 eX6_digest_129.2.2.2.2.2.1
theorem dX6_digest_139 : decode cX6_digest 139 = .ok (.aload_n 0, 1) := fx_ok (d := 128) (i := 11) fDX6_digest_2 eX6_digest_129.2.2.2.2.2.2.1
theorem dX6_digest_140 : decode cX6_digest 140 = .ok (.getfield 21, 3) := fx_ok (d := 128) (i := 12) fDX6_digest_2 eX6_digest_129.2.2.2.2.2.2.2.1
theorem dX6_digest_143 : decode cX6_digest 143 = .ok (.iload_n 3, 1) := fx_ok (d := 128) (i := 15) fDX6_digest_2 eX6_digest_129.2.2.2.2.2.2.2.2.1
theorem dX6_digest_144 : decode cX6_digest 144 = .ok (.iaload, 1) := fx_ok (d := 128) (i := 16) fDX6_digest_2 eX6_digest_129.2.2.2.2.2.2.2.2.2.1
theorem dX6_digest_145 : decode cX6_digest 145 = .ok (.aload_n 0, 1) := fx_ok (d := 128) (i := 17) fDX6_digest_2 eX6_digest_129.2.2.2.2.2.2.2.2.2.2.1
theorem dX6_digest_146 : decode cX6_digest 146 = .ok (.getfield 25, 3) := fx_ok (d := 128) (i := 18) fDX6_digest_2 eX6_digest_129.2.2.2.2.2.2.2.2.2.2.2.1
theorem dX6_digest_149 : decode cX6_digest 149 = .ok (.iload_n 3, 1) := fx_ok (d := 128) (i := 21) fDX6_digest_2 eX6_digest_129.2.2.2.2.2.2.2.2.2.2.2.2.1
theorem dX6_digest_150 : decode cX6_digest 150 = .ok (.iaload, 1) := fx_ok (d := 128) (i := 22) fDX6_digest_2 eX6_digest_129.2.2.2.2.2.2.2.2.2.2.2.2.2.1
theorem dX6_digest_151 : decode cX6_digest 151 = .ok (.invokevirtual 111, 3) := fx_ok (d := 128) (i := 23) fDX6_digest_2 eX6_digest_129.2.2.2.2.2.2.2.2.2.2.2.2.2.2.1
theorem dX6_digest_154 : decode cX6_digest 154 = .ok (.i2l, 1) := fx_ok (d := 128) (i := 26) fDX6_digest_2 eX6_digest_129.2.2.2.2.2.2.2.2.2.2.2.2.2.2.2
theorem eX6_digest_155 : (fdecl fTX6_digest_2 27 = some (.invokestatic 206, 3)) ∧ (fdecl fTX6_digest_2 30 = some (.lstore_n 1, 1)) ∧ (fdecl fTX6_digest_2 31 = some (.lload_n 1, 1)) ∧ (fdecl fTX6_digest_2 32 = some (.aload_n 0, 1)) ∧ (fdecl fTX6_digest_2 33 = some (.getfield 18, 3)) ∧ (fdecl fTX6_digest_2 36 = some (.iload_n 3, 1)) ∧ (fdecl fTX6_digest_2 37 = some (.aaload, 1)) ∧ (fdecl fTX6_digest_2 38 = some (.aload_n 0, 1)) ∧ (fdecl fTX6_digest_2 39 = some (.getfield 21, 3)) ∧ (fdecl fTX6_digest_2 42 = some (.iload_n 3, 1)) ∧ (fdecl fTX6_digest_2 43 = some (.iaload, 1)) ∧ (fdecl fTX6_digest_2 44 = some (.aload_n 0, 1)) ∧ (fdecl fTX6_digest_2 45 = some (.getfield 25, 3)) ∧ (fdecl fTX6_digest_2 48 = some (.iload_n 3, 1)) ∧ (fdecl fTX6_digest_2 49 = some (.iaload, 1)) ∧ (fdecl fTX6_digest_2 50 = some (.invokevirtual 114, 3)) := by decide +kernel
theorem dX6_digest_155 : decode cX6_digest 155 = .ok (.invokestatic 206, 3) := fx_ok (d := 128) (i := 27) fDX6_digest_2 eX6_digest_155.1
theorem dX6_digest_158 : decode cX6_digest 158 = .ok (.lstore_n 1, 1) := fx_ok (d := 128) (i := 30) fDX6_digest_2 eX6_digest_155.2.1
theorem dX6_digest_159 : decode cX6_digest 159 = .ok (.lload_n 1, 1) := fx_ok (d := 128) (i := 31) fDX6_digest_2 eX6_digest_155.2.2.1
theorem dX6_digest_160 : decode cX6_digest 160 = .ok (.aload_n 0, 1) := fx_ok (d := 128) (i := 32) fDX6_digest_2 eX6_digest_155.2.2.2.1
theorem dX6_digest_161 : decode cX6_digest 161 = .ok (.getfield 18, 3) := fx_ok (d := 128) (i := 33) fDX6_digest_2 eX6_digest_155.2.2.2.2.1
theorem dX6_digest_164 : decode cX6_digest 164 = .ok (.iload_n 3, 1) := fx_ok (d := 128) (i := 36) fDX6_digest_2 eX6_digest_155.2.2.2.2.2.1
theorem dX6_digest_165 : decode cX6_digest 165 = .ok (.aaload, 1) := fx_ok (d := 128) (i := 37) fDX6_digest_2 eX6_digest_155.2.2.2.2.2.2.1
theorem dX6_digest_166 : decode cX6_digest 166 = .ok (.aload_n 0, 1) := fx_ok (d := 128) (i := 38) fDX6_digest_2 eX6_digest_155.2.2.2.2.2.2.2.1
theorem dX6_digest_167 : decode cX6_digest 167 = .ok (.getfield 21, 3) := fx_ok (d := 128) (i := 39) fDX6_digest_2 eX6_digest_155.2.2.2.2.2.2.2.2.1
theorem dX6_digest_170 : decode cX6_digest 170 = .ok (.iload_n 3, 1) := fx_ok (d := 128) (i := 42) fDX6_digest_2 eX6_digest_155.2.2.2.2.2.2.2.2.2.1
theorem dX6_digest_171 : decode cX6_digest 171 = .ok (.iaload, 1) := fx_ok (d := 128) (i := 43) fDX6_digest_2 eX6_digest_155.2.2.2.2.2.2.2.2.2.2.1
theorem dX6_digest_172 : decode cX6_digest 172 = .ok (.aload_n 0, 1) := fx_ok (d := 128) (i := 44) fDX6_digest_2 eX6_digest_155.2.2.2.2.2.2.2.2.2.2.2.1
theorem dX6_digest_173 : decode cX6_digest 173 = .ok (.getfield 25, 3) := fx_ok (d := 128) (i := 45) fDX6_digest_2 eX6_digest_155.2.2.2.2.2.2.2.2.2.2.2.2.1
theorem dX6_digest_176 : decode cX6_digest 176 = .ok (.iload_n 3, 1) := fx_ok (d := 128) (i := 48) fDX6_digest_2 eX6_digest_155.2.2.2.2.2.2.2.2.2.2.2.2.2.1
theorem dX6_digest_177 : decode cX6_digest 177 = .ok (.iaload, 1) := fx_ok (d := 128) (i := 49) fDX6_digest_2 eX6_digest_155.2.2.2.2.2.2.2.2.2.2.2.2.2.2.1
theorem dX6_digest_178 : decode cX6_digest 178 = .ok (.invokevirtual 114, 3) := fx_ok (d := 128) (i := 50) fDX6_digest_2 eX6_digest_155.2.2.2.2.2.2.2.2.2.2.2.2.2.2.2
theorem eX6_digest_181 : (fdecl fTX6_digest_2 53 = some (.i2l, 1)) ∧ (fdecl fTX6_digest_2 54 = some (.invokestatic 206, 3)) ∧ (fdecl fTX6_digest_2 57 = some (.aload_n 0, 1)) ∧ (fdecl fTX6_digest_2 58 = some (.iload_n 3, 1)) ∧ (fdecl fTX6_digest_2 59 = some (.invokevirtual 183, 3)) ∧ (fdecl fTX6_digest_2 62 = some (.i2l, 1)) ∧ (fdecl fTX6_digest_2 63 = some (.invokestatic 206, 3)) ∧ (fdecl fTX6_digest_3 2 = some (.lstore_n 1, 1)) ∧ (fdecl fTX6_digest_3 6 = some (.goto (-80), 3)) ∧ (fdecl fTX6_digest_3 9 = some (.lload_n 1, 1)) ∧ (fdecl fTX6_digest_3 10 = some (.aload_n 0, 1)) ∧ (fdecl fTX6_digest_3 11 = some (.invokevirtual 189, 3)) ∧ (fdecl fTX6_digest_3 14 = some (.ifCond .eq 7, 3)) ∧ (fdecl fTX6_digest_3 17 = some (.lconst 1, 1)) ∧ (fdecl fTX6_digest_3 18 = some (.goto 4, 3)) ∧ (fdecl fTX6_digest_3 21 = some (.lconst 0, 1)) := by decide +kernel
theorem dX6_digest_181 : decode cX6_digest 181 = .ok (.i2l, 1) := fx_ok (d := 128) (i := 53) fDX6_digest_2 eX6_digest_181.1
theorem dX6_digest_182 : decode cX6_digest 182 = .ok (.invokestatic 206, 3) := fx_ok (d := 128) (i := 54) fDX6_digest_2 eX6_digest_181.2.1
theorem dX6_digest_185 : decode cX6_digest 185 = .ok (.aload_n 0, 1) := fx_ok (d := 128) (i := 57) fDX6_digest_2 eX6_digest_181.2.2.1
theorem dX6_digest_186 : decode cX6_digest 186 = .ok (.iload_n 3, 1) := fx_ok (d := 128) (i := 58) fDX6_digest_2 eX6_digest_181.2.2.2.1
theorem dX6_digest_187 : decode cX6_digest 187 = .ok (.invokevirtual 183, 3) := fx_ok (d := 128) (i := 59) fDX6_digest_2 eX6_digest_181.2.2.2.2.1
theorem dX6_digest_190 : decode cX6_digest 190 = .ok (.i2l, 1) := fx_ok (d := 128) (i := 62) fDX6_digest_2 eX6_digest_181.2.2.2.2.2.1
theorem dX6_digest_191 : decode cX6_digest 191 = .ok (.invokestatic 206, 3) := fx_ok (d := 128) (i := 63) fDX6_digest_2 eX6_digest_181.2.2.2.2.2.2.1
theorem dX6_digest_194 : decode cX6_digest 194 = .ok (.lstore_n 1, 1) := fx_ok (d := 192) (i := 2) fDX6_digest_3 eX6_digest_181.2.2.2.2.2.2.2.1
theorem dX6_digest_198 : decode cX6_digest 198 = .ok (.goto (-80), 3) := fx_ok (d := 192) (i := 6) fDX6_digest_3 eX6_digest_181.2.2.2.2.2.2.2.2.1
theorem dX6_digest_201 : decode cX6_digest 201 = .ok (.lload_n 1, 1) := fx_ok (d := 192) (i := 9) fDX6_digest_3 eX6_digest_181.2.2.2.2.2.2.2.2.2.1
theorem dX6_digest_202 : decode cX6_digest 202 = .ok (.aload_n 0, 1) := fx_ok (d := 192) (i := 10) fDX6_digest_3 eX6_digest_181.2.2.2.2.2.2.2.2.2.2.1
theorem dX6_digest_203 : decode cX6_digest 203 = .ok (.invokevirtual 189, 3) := fx_ok (d := 192) (i := 11) fDX6_digest_3 eX6_digest_181.2.2.2.2.2.2.2.2.2.2.2.1
theorem dX6_digest_206 : decode cX6_digest 206 = .ok (.ifCond .eq 7, 3) := fx_ok (d := 192) (i := 14) fDX6_digest_3 eX6_digest_181.2.2.2.2.2.2.2.2.2.2.2.2.1
theorem dX6_digest_209 : decode cX6_digest 209 = .ok (.lconst 1, 1) := fx_ok (d := 192) (i := 17) fDX6_digest_3 eX6_digest_181.2.2.2.2.2.2.2.2.2.2.2.2.2.1
theorem dX6_digest_210 : decode cX6_digest 210 = .ok (.goto 4, 3) := fx_ok (d := 192) (i := 18) fDX6_digest_3 eX6_digest_181.2.2.2.2.2.2.2.2.2.2.2.2.2.2.1
theorem dX6_digest_213 : decode cX6_digest 213 = .ok (.lconst 0, 1) := fx_ok (d := 192) (i := 21) fDX6_digest_3 eX6_digest_181.2.2.2.2.2.2.2.2.2.2.2.2.2.2.2
theorem eX6_digest_214 : (fdecl fTX6_digest_3 22 = some (.invokestatic 206, 3)) ∧ (fdecl fTX6_digest_3 25 = some (.aload_n 0, 1)) ∧ (fdecl fTX6_digest_3 26 = some (.getfield 28, 3)) ∧ (fdecl fTX6_digest_3 29 = some (.i2l, 1)) ∧ (fdecl fTX6_digest_3 30 = some (.invokestatic 206, 3)) ∧ (fdecl fTX6_digest_3 33 = some (.lstore_n 1, 1)) ∧ (fdecl fTX6_digest_3 34 = some (.aload_n 0, 1)) ∧ (fdecl fTX6_digest_3 35 = some (.getfield 15, 3)) ∧ (fdecl fTX6_digest_3 38 = some (.astore_n 3, 1)) ∧ (fdecl fTX6_digest_3 39 = some (.aload_n 3, 1)) ∧ (fdecl fTX6_digest_3 40 = some (.arraylength, 1)) ∧ (fdecl fTX6_digest_3 41 = some (.istore 4, 2)) ∧ (fdecl fTX6_digest_3 43 = some (.iconst 0, 1)) ∧ (fdecl fTX6_digest_3 44 = some (.istore 5, 2)) ∧ (fdecl fTX6_digest_3 46 = some (.iload 5, 2)) ∧ (fdecl fTX6_digest_3 48 = some (.iload 4, 2)) := by decide +kernel
theorem dX6_digest_214 : decode cX6_digest 214 = .ok (.invokestatic 206, 3) := fx_ok (d := 192) (i := 22) fDX6_digest_3 eX6_digest_214.1
theorem dX6_digest_217 : decode cX6_digest 217 = .ok (.aload_n 0, 1) := fx_ok (d := 192) (i := 25) fDX6_digest_3 eX6_digest_214.2.1
theorem dX6_digest_218 : decode cX6_digest 218 = .ok (.getfield 28, 3) := fx_ok (d := 192) (i := 26) fDX6_digest_3 eX6_digest_214.2.2.1
theorem dX6_digest_221 : decode cX6_digest 221 = .ok (.i2l, 1) := fx_ok (d := 192) (i := 29) fDX6_digest_3 eX6_digest_214.2.2.2.1
theorem dX6_digest_222 : decode cX6_digest 222 = .ok (.invokestatic 206, 3) := fx_ok (d := 192) (i := 30) fDX6_digest_3 eX6_digest_214.2.2.2.2.1
theorem dX6_digest_225 : decode cX6_digest 225 = .ok (.lstore_n 1, 1) := fx_ok (d := 192) (i := 33) fDX6_digest_3 eX6_digest_214.2.2.2.2.2.1
theorem dX6_digest_226 : decode cX6_digest 226 = .ok (.aload_n 0, 1) := fx_ok (d := 192) (i := 34) fDX6_digest_3 eX6_digest_214.2.2.2.2.2.2.1
theorem dX6_digest_227 : decode cX6_digest 227 = .ok (.getfield 15, 3) := fx_ok (d := 192) (i := 35) fDX6_digest_3 eX6_digest_214.2.2.2.2.2.2.2.1
theorem dX6_digest_230 : decode cX6_digest 230 = .ok (.astore_n 3, 1) := fx_ok (d := 192) (i := 38) fDX6_digest_3 eX6_digest_214.2.2.2.2.2.2.2.2.1
theorem dX6_digest_231 : decode cX6_digest 231 = .ok (.aload_n 3, 1) := fx_ok (d := 192) (i := 39) fDX6_digest_3 eX6_digest_214.2.2.2.2.2.2.2.2.2.1
theorem dX6_digest_232 : decode cX6_digest 232 = .ok (.arraylength, 1) := fx_ok (d := 192) (i := 40) fDX6_digest_3 eX6_digest_214.2.2.2.2.2.2.2.2.2.2.1
theorem dX6_digest_233 : decode cX6_digest 233 = .ok (.istore 4, 2) := fx_ok (d := 192) (i := 41) fDX6_digest_3 eX6_digest_214.2.2.2.2.2.2.2.2.2.2.2.1
theorem dX6_digest_235 : decode cX6_digest 235 = .ok (.iconst 0, 1) := fx_ok (d := 192) (i := 43) fDX6_digest_3 eX6_digest_214.2.2.2.2.2.2.2.2.2.2.2.2.1
theorem dX6_digest_236 : decode cX6_digest 236 = .ok (.istore 5, 2) := fx_ok (d := 192) (i := 44) fDX6_digest_3 eX6_digest_214.2.2.2.2.2.2.2.2.2.2.2.2.2.1
theorem dX6_digest_238 : decode cX6_digest 238 = .ok (.iload 5, 2) := fx_ok (d := 192) (i := 46) fDX6_digest_3 eX6_digest_214.2.2.2.2.2.2.2.2.2.2.2.2.2.2.1
theorem dX6_digest_240 : decode cX6_digest 240 = .ok (.iload 4, 2) := fx_ok (d := 192) (i := 48) fDX6_digest_3 eX6_digest_214.2.2.2.2.2.2.2.2.2.2.2.2.2.2.2
theorem eX6_digest_242 : (fdecl fTX6_digest_3 50 = some (.if_icmp .ge 91, 3)) ∧ (fdecl fTX6_digest_3 53 = some (.aload_n 3, 1)) ∧ (fdecl fTX6_digest_3 54 = some (.iload 5, 2)) ∧ (fdecl fTX6_digest_3 56 = some (.aaload, 1)) ∧ (fdecl fTX6_digest_3 57 = some (.astore 6, 2)) ∧ (fdecl fTX6_digest_3 59 = some (.lload_n 1, 1)) ∧ (fdecl fTX6_digest_3 60 = some (.aload 6, 2)) ∧ (fdecl fTX6_digest_3 62 = some (.iconst 0, 1)) ∧ (fdecl fTX6_digest_3 63 = some (.bipush 99, 2)) ∧ (fdecl fTX6_digest_4 1 = some (.invokevirtual 67, 3)) ∧ (fdecl fTX6_digest_4 4 = some (.i2l, 1)) ∧ (fdecl fTX6_digest_4 5 = some (.invokestatic 206, 3)) ∧ (fdecl fTX6_digest_4 8 = some (.aload 6, 2)) ∧ (fdecl fTX6_digest_4 10 = some (.getfield 75, 3)) ∧ (fdecl fTX6_digest_4 13 = some (.i2l, 1)) ∧ (fdecl fTX6_digest_4 14 = some (.invokestatic 206, 3)) := by decide +kernel
theorem dX6_digest_242 : decode cX6_digest 242 = .ok (.if_icmp .ge 91, 3) := fx_ok (d := 192) (i := 50) fDX6_digest_3 eX6_digest_242.1
theorem dX6_digest_245 : decode cX6_digest 245 = .ok (.aload_n 3, 1) := fx_ok (d := 192) (i := 53) fDX6_digest_3 eX6_digest_242.2.1
theorem dX6_digest_246 : decode cX6_digest 246 = .ok (.iload 5, 2) := fx_ok (d := 192) (i := 54) fDX6_digest_3 eX6_digest_242.2.2.1
theorem dX6_digest_248 : decode cX6_digest 248 = .ok (.aaload, 1) := fx_ok (d := 192) (i := 56) fDX6_digest_3 eX6_digest_242.2.2.2.1
theorem dX6_digest_249 : decode cX6_digest 249 = .ok (.astore 6, 2) := fx_ok (d := 192) (i := 57) fDX6_digest_3 eX6_digest_242.2.2.2.2.1
theorem dX6_digest_251 : decode cX6_digest 251 = .ok (.lload_n 1, 1) := fx_ok (d := 192) (i := 59) fDX6_digest_3 eX6_digest_242.2.2.2.2.2.1
theorem dX6_digest_252 : decode cX6_digest 252 = .ok (.aload 6, 2) := fx_ok (d := 192) (i := 60) fDX6_digest_3 eX6_digest_242.2.2.2.2.2.2.1
theorem dX6_digest_254 : decode cX6_digest 254 = .ok (.iconst 0, 1) := fx_ok (d := 192) (i := 62) fDX6_digest_3 eX6_digest_242.2.2.2.2.2.2.2.1
theorem dX6_digest_255 : decode cX6_digest 255 = .ok (.bipush 99, 2) := fx_ok (d := 192) (i := 63) fDX6_digest_3 eX6_digest_242.2.2.2.2.2.2.2.2.1
theorem dX6_digest_257 : decode cX6_digest 257 = .ok (.invokevirtual 67, 3) := fx_ok (d := 256) (i := 1) fDX6_digest_4 eX6_digest_242.2.2.2.2.2.2.2.2.2.1
theorem dX6_digest_260 : decode cX6_digest 260 = .ok (.i2l, 1) := fx_ok (d := 256) (i := 4) fDX6_digest_4 eX6_digest_242.2.2.2.2.2.2.2.2.2.2.1
theorem dX6_digest_261 : decode cX6_digest 261 = .ok (.invokestatic 206, 3) := fx_ok (d := 256) (i := 5) fDX6_digest_4 eX6_digest_242.2.2.2.2.2.2.2.2.2.2.2.1
theorem dX6_digest_264 : decode cX6_digest 264 = .ok (.aload 6, 2) := fx_ok (d := 256) (i := 8) fDX6_digest_4 eX6_digest_242.2.2.2.2.2.2.2.2.2.2.2.2.1
theorem dX6_digest_266 : decode cX6_digest 266 = .ok (.getfield 75, 3) := fx_ok (d := 256) (i := 10) fDX6_digest_4 eX6_digest_242.2.2.2.2.2.2.2.2.2.2.2.2.2.1
theorem dX6_digest_269 : decode cX6_digest 269 = .ok (.i2l, 1) := fx_ok (d := 256) (i := 13) fDX6_digest_4 eX6_digest_242.2.2.2.2.2.2.2.2.2.2.2.2.2.2.1
theorem dX6_digest_270 : decode cX6_digest 270 = .ok (.invokestatic 206, 3) := fx_ok (d := 256) (i := 14) fDX6_digest_4 eX6_digest_242.2.2.2.2.2.2.2.2.2.2.2.2.2.2.2
theorem eX6_digest_273 : (fdecl fTX6_digest_4 17 = some (.aload 6, 2)) ∧ (fdecl fTX6_digest_4 19 = some (.invokestatic 200, 3)) ∧ (fdecl fTX6_digest_4 22 = some (.i2l, 1)) ∧ (fdecl fTX6_digest_4 23 = some (.invokestatic 206, 3)) ∧ (fdecl fTX6_digest_4 26 = some (.lstore_n 1, 1)) ∧ (fdecl fTX6_digest_4 27 = some (.iconst 0, 1)) ∧ (fdecl fTX6_digest_4 28 = some (.istore 7, 2)) ∧ (fdecl fTX6_digest_4 30 = some (.iload 7, 2)) ∧ (fdecl fTX6_digest_4 32 = some (.bipush 100, 2)) ∧ (fdecl fTX6_digest_4 34 = some (.if_icmp .ge 37, 3)) ∧ (fdecl fTX6_digest_4 37 = some (.aload 6, 2)) ∧ (fdecl fTX6_digest_4 39 = some (.aload 6, 2)) ∧ (fdecl fTX6_digest_4 41 = some (.iload 7, 2)) ∧ (fdecl fTX6_digest_4 43 = some (.invokevirtual 100, 3)) ∧ (fdecl fTX6_digest_4 46 = some (.invokevirtual 49, 3)) ∧ (fdecl fTX6_digest_4 49 = some (.ifCond .eq 16, 3)) := by decide +kernel
theorem dX6_digest_273 : decode cX6_digest 273 = .ok (.aload 6, 2) := fx_ok (d := 256) (i := 17) fDX6_digest_4 eX6_digest_273.1
theorem dX6_digest_275 : decode cX6_digest 275 = .ok (.invokestatic 200, 3) := fx_ok (d := 256) (i := 19) fDX6_digest_4 eX6_digest_273.2.1
theorem dX6_digest_278 : decode cX6_digest 278 = .ok (.i2l, 1) := fx_ok (d := 256) (i := 22) fDX6_digest_4 eX6_digest_273.2.2.1
theorem dX6_digest_279 : decode cX6_digest 279 = .ok (.invokestatic 206, 3) := fx_ok (d := 256) (i := 23) fDX6_digest_4 eX6_digest_273.2.2.2.1
theorem dX6_digest_282 : decode cX6_digest 282 = .ok (.lstore_n 1, 1) := fx_ok (d := 256) (i := 26) fDX6_digest_4 eX6_digest_273.2.2.2.2.1
theorem dX6_digest_283 : decode cX6_digest 283 = .ok (.iconst 0, 1) := fx_ok (d := 256) (i := 27) fDX6_digest_4 eX6_digest_273.2.2.2.2.2.1
theorem dX6_digest_284 : decode cX6_digest 284 = .ok (.istore 7, 2) := fx_ok (d := 256) (i := 28) fDX6_digest_4 eX6_digest_273.2.2.2.2.2.2.1
theorem dX6_digest_286 : decode cX6_digest 286 = .ok (.iload 7, 2) := fx_ok (d := 256) (i := 30) fDX6_digest_4 eX6_digest_273.2.2.2.2.2.2.2.1
theorem dX6_digest_288 : decode cX6_digest 288 = .ok (.bipush 100, 2) := fx_ok (d := 256) (i := 32) fDX6_digest_4 eX6_digest_273.2.2.2.2.2.2.2.2.1
theorem dX6_digest_290 : decode cX6_digest 290 = .ok (.if_icmp .ge 37, 3) := fx_ok (d := 256) (i := 34) fDX6_digest_4 eX6_digest_273.2.2.2.2.2.2.2.2.2.1
theorem dX6_digest_293 : decode cX6_digest 293 = .ok (.aload 6, 2) := fx_ok (d := 256) (i := 37) fDX6_digest_4 eX6_digest_273.2.2.2.2.2.2.2.2.2.2.1
theorem dX6_digest_295 : decode cX6_digest 295 = .ok (.aload 6, 2) := fx_ok (d := 256) (i := 39) fDX6_digest_4 eX6_digest_273.2.2.2.2.2.2.2.2.2.2.2.1
theorem dX6_digest_297 : decode cX6_digest 297 = .ok (.iload 7, 2) := fx_ok (d := 256) (i := 41) fDX6_digest_4 eX6_digest_273.2.2.2.2.2.2.2.2.2.2.2.2.1
theorem dX6_digest_299 : decode cX6_digest 299 = .ok (.invokevirtual 100, 3) := fx_ok (d := 256) (i := 43) fDX6_digest_4 eX6_digest_273.2.2.2.2.2.2.2.2.2.2.2.2.2.1
theorem dX6_digest_302 : decode cX6_digest 302 = .ok (.invokevirtual 49, 3) := fx_ok (d := 256) (i := 46) fDX6_digest_4 eX6_digest_273.2.2.2.2.2.2.2.2.2.2.2.2.2.2.1
theorem dX6_digest_305 : decode cX6_digest 305 = .ok (.ifCond .eq 16, 3) := fx_ok (d := 256) (i := 49) fDX6_digest_4 eX6_digest_273.2.2.2.2.2.2.2.2.2.2.2.2.2.2.2
theorem eX6_digest_308 : (fdecl fTX6_digest_4 52 = some (.lload_n 1, 1)) ∧ (fdecl fTX6_digest_4 53 = some (.aload 6, 2)) ∧ (fdecl fTX6_digest_4 55 = some (.iload 7, 2)) ∧ (fdecl fTX6_digest_4 57 = some (.invokevirtual 100, 3)) ∧ (fdecl fTX6_digest_4 60 = some (.i2l, 1)) ∧ (fdecl fTX6_digest_4 61 = some (.invokestatic 206, 3)) ∧ (fdecl fTX6_digest_5 0 = some (.lstore_n 1, 1)) ∧ (fdecl fTX6_digest_5 4 = some (.goto (-38), 3)) ∧ (fdecl fTX6_digest_5 10 = some (.goto (-92), 3)) ∧ (fdecl fTX6_digest_5 13 = some (.aload_n 0, 1)) ∧ (fdecl fTX6_digest_5 14 = some (.getfield 32, 3)) ∧ (fdecl fTX6_digest_5 17 = some (.astore_n 3, 1)) ∧ (fdecl fTX6_digest_5 18 = some (.aload_n 3, 1)) ∧ (fdecl fTX6_digest_5 19 = some (.arraylength, 1)) ∧ (fdecl fTX6_digest_5 20 = some (.istore 4, 2)) ∧ (fdecl fTX6_digest_5 22 = some (.iconst 0, 1)) := by decide +kernel
theorem dX6_digest_308 : decode cX6_digest 308 = .ok (.lload_n 1, 1) := fx_ok (d := 256) (i := 52) fDX6_digest_4 eX6_digest_308.1
theorem dX6_digest_309 : decode cX6_digest 309 = .ok (.aload 6, 2) := fx_ok (d := 256) (i := 53) fDX6_digest_4 eX6_digest_308.2.1
theorem dX6_digest_311 : decode cX6_digest 311 = .ok (.iload 7, 2) := fx_ok (d := 256) (i := 55) fDX6_digest_4 eX6_digest_308.2.2.1
theorem dX6_digest_313 : decode cX6_digest 313 = .ok (.invokevirtual 100, 3) := fx_ok (d := 256) (i := 57) fDX6_digest_4 eX6_digest_308.2.2.2.1
theorem dX6_digest_316 : decode cX6_digest 316 = .ok (.i2l, 1) := fx_ok (d := 256) (i := 60) fDX6_digest_4 eX6_digest_308.2.2.2.2.1
theorem dX6_digest_317 : decode cX6_digest 317 = .ok (.invokestatic 206, 3) := fx_ok (d := 256) (i := 61) fDX6_digest_4 eX6_digest_308.2.2.2.2.2.1
theorem dX6_digest_320 : decode cX6_digest 320 = .ok (.lstore_n 1, 1) := fx_ok (d := 320) (i := 0) fDX6_digest_5 eX6_digest_308.2.2.2.2.2.2.1
theorem dX6_digest_324 : decode cX6_digest 324 = .ok (.goto (-38), 3) := fx_ok (d := 320) (i := 4) fDX6_digest_5 eX6_digest_308.2.2.2.2.2.2.2.1
theorem dX6_digest_330 : decode cX6_digest 330 = .ok (.goto (-92), 3) := fx_ok (d := 320) (i := 10) fDX6_digest_5 eX6_digest_308.2.2.2.2.2.2.2.2.1
theorem dX6_digest_333 : decode cX6_digest 333 = .ok (.aload_n 0, 1) := fx_ok (d := 320) (i := 13) fDX6_digest_5 eX6_digest_308.2.2.2.2.2.2.2.2.2.1
theorem dX6_digest_334 : decode cX6_digest 334 = .ok (.getfield 32, 3) := fx_ok (d := 320) (i := 14) fDX6_digest_5 eX6_digest_308.2.2.2.2.2.2.2.2.2.2.1
theorem dX6_digest_337 : decode cX6_digest 337 = .ok (.astore_n 3, 1) := fx_ok (d := 320) (i := 17) fDX6_digest_5 eX6_digest_308.2.2.2.2.2.2.2.2.2.2.2.1
theorem dX6_digest_338 : decode cX6_digest 338 = .ok (.aload_n 3, 1) := fx_ok (d := 320) (i := 18) fDX6_digest_5 eX6_digest_308.2.2.2.2.2.2.2.2.2.2.2.2.1
theorem dX6_digest_339 : decode cX6_digest 339 = .ok (.arraylength, 1) := fx_ok (d := 320) (i := 19) fDX6_digest_5 eX6_digest_308.2.2.2.2.2.2.2.2.2.2.2.2.2.1
theorem dX6_digest_340 : decode cX6_digest 340 = .ok (.istore 4, 2) := fx_ok (d := 320) (i := 20) fDX6_digest_5 eX6_digest_308.2.2.2.2.2.2.2.2.2.2.2.2.2.2.1
theorem dX6_digest_342 : decode cX6_digest 342 = .ok (.iconst 0, 1) := fx_ok (d := 320) (i := 22) fDX6_digest_5 eX6_digest_308.2.2.2.2.2.2.2.2.2.2.2.2.2.2.2
theorem eX6_digest_343 : (fdecl fTX6_digest_5 23 = some (.istore 5, 2)) ∧ (fdecl fTX6_digest_5 25 = some (.iload 5, 2)) ∧ (fdecl fTX6_digest_5 27 = some (.iload 4, 2)) ∧ (fdecl fTX6_digest_5 29 = some (.if_icmp .ge 23, 3)) ∧ (fdecl fTX6_digest_5 32 = some (.aload_n 3, 1)) ∧ (fdecl fTX6_digest_5 33 = some (.iload 5, 2)) ∧ (fdecl fTX6_digest_5 35 = some (.iaload, 1)) ∧ (fdecl fTX6_digest_5 36 = some (.istore 6, 2)) ∧ (fdecl fTX6_digest_5 38 = some (.lload_n 1, 1)) ∧ (fdecl fTX6_digest_5 39 = some (.iload 6, 2)) ∧ (fdecl fTX6_digest_5 41 = some (.i2l, 1)) ∧ (fdecl fTX6_digest_5 42 = some (.invokestatic 206, 3)) ∧ (fdecl fTX6_digest_5 45 = some (.lstore_n 1, 1)) ∧ (fdecl fTX6_digest_5 49 = some (.goto (-24), 3)) ∧ (fdecl fTX6_digest_5 52 = some (.aload_n 0, 1)) ∧ (fdecl fTX6_digest_5 53 = some (.iconst 0, 1)) := by decide +kernel
theorem dX6_digest_343 : decode cX6_digest 343 = .ok (.istore 5, 2) := fx_ok (d := 320) (i := 23) fDX6_digest_5 eX6_digest_343.1
theorem dX6_digest_345 : decode cX6_digest 345 = .ok (.iload 5, 2) := fx_ok (d := 320) (i := 25) fDX6_digest_5 eX6_digest_343.2.1
theorem dX6_digest_347 : decode cX6_digest 347 = .ok (.iload 4, 2) := fx_ok (d := 320) (i := 27) fDX6_digest_5 eX6_digest_343.2.2.1
theorem dX6_digest_349 : decode cX6_digest 349 = .ok (.if_icmp .ge 23, 3) := fx_ok (d := 320) (i := 29) fDX6_digest_5 eX6_digest_343.2.2.2.1
theorem dX6_digest_352 : decode cX6_digest 352 = .ok (.aload_n 3, 1) := fx_ok (d := 320) (i := 32) fDX6_digest_5 eX6_digest_343.2.2.2.2.1
theorem dX6_digest_353 : decode cX6_digest 353 = .ok (.iload 5, 2) := fx_ok (d := 320) (i := 33) fDX6_digest_5 eX6_digest_343.2.2.2.2.2.1
theorem dX6_digest_355 : decode cX6_digest 355 = .ok (.iaload, 1) := fx_ok (d := 320) (i := 35) fDX6_digest_5 eX6_digest_343.2.2.2.2.2.2.1
theorem dX6_digest_356 : decode cX6_digest 356 = .ok (.istore 6, 2) := fx_ok (d := 320) (i := 36) fDX6_digest_5 eX6_digest_343.2.2.2.2.2.2.2.1
theorem dX6_digest_358 : decode cX6_digest 358 = .ok (.lload_n 1, 1) := fx_ok (d := 320) (i := 38) fDX6_digest_5 eX6_digest_343.2.2.2.2.2.2.2.2.1
theorem dX6_digest_359 : decode cX6_digest 359 = .ok (.iload 6, 2) := fx_ok (d := 320) (i := 39) fDX6_digest_5 eX6_digest_343.2.2.2.2.2.2.2.2.2.1
theorem dX6_digest_361 : decode cX6_digest 361 = .ok (.i2l, 1) := fx_ok (d := 320) (i := 41) fDX6_digest_5 eX6_digest_343.2.2.2.2.2.2.2.2.2.2.1
theorem dX6_digest_362 : decode cX6_digest 362 = .ok (.invokestatic 206, 3) := fx_ok (d := 320) (i := 42) fDX6_digest_5 eX6_digest_343.2.2.2.2.2.2.2.2.2.2.2.1
theorem dX6_digest_365 : decode cX6_digest 365 = .ok (.lstore_n 1, 1) := fx_ok (d := 320) (i := 45) fDX6_digest_5 eX6_digest_343.2.2.2.2.2.2.2.2.2.2.2.2.1
theorem dX6_digest_369 : decode cX6_digest 369 = .ok (.goto (-24), 3) := fx_ok (d := 320) (i := 49) fDX6_digest_5 eX6_digest_343.2.2.2.2.2.2.2.2.2.2.2.2.2.1
theorem dX6_digest_372 : decode cX6_digest 372 = .ok (.aload_n 0, 1) := fx_ok (d := 320) (i := 52) fDX6_digest_5 eX6_digest_343.2.2.2.2.2.2.2.2.2.2.2.2.2.2.1
theorem dX6_digest_373 : decode cX6_digest 373 = .ok (.iconst 0, 1) := fx_ok (d := 320) (i := 53) fDX6_digest_5 eX6_digest_343.2.2.2.2.2.2.2.2.2.2.2.2.2.2.2
theorem eX6_digest_374 : (fdecl fTX6_digest_5 54 = some (.putfield 38, 3)) ∧ (fdecl fTX6_digest_5 57 = some (.lload_n 1, 1)) ∧ (fdecl fTX6_digest_5 58 = some (.lconst 1, 1)) ∧ (fdecl fTX6_digest_5 59 = some (.invokestatic 206, 3)) ∧ (fdecl fTX6_digest_5 62 = some (.lreturn, 1)) := by decide +kernel
theorem dX6_digest_374 : decode cX6_digest 374 = .ok (.putfield 38, 3) := fx_ok (d := 320) (i := 54) fDX6_digest_5 eX6_digest_374.1
theorem dX6_digest_377 : decode cX6_digest 377 = .ok (.lload_n 1, 1) := fx_ok (d := 320) (i := 57) fDX6_digest_5 eX6_digest_374.2.1
theorem dX6_digest_378 : decode cX6_digest 378 = .ok (.lconst 1, 1) := fx_ok (d := 320) (i := 58) fDX6_digest_5 eX6_digest_374.2.2.1
theorem dX6_digest_379 : decode cX6_digest 379 = .ok (.invokestatic 206, 3) := fx_ok (d := 320) (i := 59) fDX6_digest_5 eX6_digest_374.2.2.2.1
theorem dX6_digest_382 : decode cX6_digest 382 = .ok (.lreturn, 1) := fx_ok (d := 320) (i := 62) fDX6_digest_5 eX6_digest_374.2.2.2.2
theorem dX6_digest_104 : decode cX6_digest 104 = .ok (.iinc 7 1, 3) := by decide +kernel
theorem dX6_digest_110 : decode cX6_digest 110 = .ok (.iinc 5 1, 3) := by decide +kernel
theorem dX6_digest_195 : decode cX6_digest 195 = .ok (.iinc 3 1, 3) := by decide +kernel
theorem dX6_digest_321 : decode cX6_digest 321 = .ok (.iinc 7 1, 3) := by decide +kernel
theorem dX6_digest_327 : decode cX6_digest 327 = .ok (.iinc 5 1, 3) := by decide +kernel
theorem dX6_digest_366 : decode cX6_digest 366 = .ok (.iinc 5 1, 3) := by decide +kernel
