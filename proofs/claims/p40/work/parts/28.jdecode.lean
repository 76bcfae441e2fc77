theorem eJ5_init_d00df_0 : (fdecl cJ5_init_d00df.data.toList 0 = some (.aload_n 0, 1)) ∧ (fdecl cJ5_init_d00df.data.toList 1 = some (.invokespecial 3, 3)) ∧ (fdecl cJ5_init_d00df.data.toList 4 = some (.getstatic 18, 3)) ∧ (fdecl cJ5_init_d00df.data.toList 7 = some (.ifCond .eq 18, 3)) ∧ (fdecl cJ5_init_d00df.data.toList 10 = some (.aload_n 0, 1)) ∧ (fdecl cJ5_init_d00df.data.toList 11 = some (.iload_n 1, 1)) ∧ (fdecl cJ5_init_d00df.data.toList 14 = some (.putfield 15, 3)) ∧ (fdecl cJ5_init_d00df.data.toList 17 = some (.aload_n 0, 1)) ∧ (fdecl cJ5_init_d00df.data.toList 18 = some (.iconst 0, 1)) ∧ (fdecl cJ5_init_d00df.data.toList 19 = some (.putfield 22, 3)) ∧ (fdecl cJ5_init_d00df.data.toList 22 = some (.goto 16, 3)) ∧ (fdecl cJ5_init_d00df.data.toList 25 = some (.aload_n 0, 1)) ∧ (fdecl cJ5_init_d00df.data.toList 26 = some (.iload_n 1, 1)) ∧ (fdecl cJ5_init_d00df.data.toList 27 = some (.invokestatic 26, 3)) ∧ (fdecl cJ5_init_d00df.data.toList 30 = some (.putfield 15, 3)) ∧ (fdecl cJ5_init_d00df.data.toList 33 = some (.aload_n 0, 1)) := by decide +kernel
theorem dJ5_init_d00df_0 : decode cJ5_init_d00df 0 = .ok (.aload_n 0, 1) := fx_ok0 eJ5_init_d00df_0.1
theorem dJ5_init_d00df_1 : decode cJ5_init_d00df 1 = .ok (.invokespecial 3, 3) := fx_ok0 eJ5_init_d00df_0.2.1
theorem dJ5_init_d00df_4 : decode cJ5_init_d00df 4 = .ok (.getstatic 18, 3) := fx_ok0 eJ5_init_d00df_0.2.2.1
theorem dJ5_init_d00df_7 : decode cJ5_init_d00df 7 = .ok (.ifCond .eq 18, 3) := fx_ok0 eJ5_init_d00df_0.2.2.2.1
theorem dJ5_init_d00df_10 : decode cJ5_init_d00df 10 = .ok (.aload_n 0, 1) := fx_ok0 eJ5_init_d00df_0.2.2.2.2.1
theorem dJ5_init_d00df_11 : decode cJ5_init_d00df 11 = .ok (.iload_n 1, 1) := fx_ok0 eJ5_init_d00df_0.2.2.2.2.2.1
theorem dJ5_init_d00df_14 : decode cJ5_init_d00df 14 = .ok (.putfield 15, 3) := fx_ok0 eJ5_init_d00df_0.2.2.2.2.2.2.1
theorem dJ5_init_d00df_17 : decode cJ5_init_d00df 17 = .ok (.aload_n 0, 1) := fx_ok0 eJ5_init_d00df_0.2.2.2.2.2.2.2.1
theorem dJ5_init_d00df_18 : decode cJ5_init_d00df 18 = .ok (.iconst 0, 1) := fx_ok0 eJ5_init_d00df_0.2.2.2.2.2.2.2.2.1
theorem dJ5_init_d00df_19 : decode cJ5_init_d00df 19 = .ok (.putfield 22, 3) := fx_ok0 eJ5_init_d00df_0.2.2.2.2.2.2.2.2.2.1
theorem dJ5_init_d00df_22 : decode cJ5_init_d00df 22 = .ok (.goto 16, 3) := fx_ok0 eJ5_init_d00df_0.2.2.2.2.2.2.2.2.2.2.1
theorem dJ5_init_d00df_25 : decode cJ5_init_d00df 25 = .ok (.aload_n 0, 1) := fx_ok0 eJ5_init_d00df_0.2.2.2.2.2.2.2.2.2.2.2.1
theorem dJ5_init_d00df_26 : decode cJ5_init_d00df 26 = .ok (.iload_n 1, 1) := fx_ok0 eJ5_init_d00df_0.2.2.2.2.2.2.2.2.2.2.2.2.1
theorem dJ5_init_d00df_27 : decode cJ5_init_d00df 27 = .ok (.invokestatic 26, 3) := fx_ok0 eJ5_init_d00df_0.2.2.2.2.2.2.2.2.2.2.2.2.2.1
theorem dJ5_init_d00df_30 : decode cJ5_init_d00df 30 = .ok (.putfield 15, 3) := fx_ok0 eJ5_init_d00df_0.2.2.2.2.2.2.2.2.2.2.2.2.2.2.1
theorem dJ5_init_d00df_33 : decode cJ5_init_d00df 33 = .ok (.aload_n 0, 1) := fx_ok0 eJ5_init_d00df_0.2.2.2.2.2.2.2.2.2.2.2.2.2.2.2
theorem eJ5_init_d00df_34 : (fdecl cJ5_init_d00df.data.toList 34 = some (.iconst 1, 1)) ∧ (fdecl cJ5_init_d00df.data.toList 35 = some (.putfield 22, 3)) ∧ (fdecl cJ5_init_d00df.data.toList 38 = some (.return_, 1)) := by decide +kernel
theorem dJ5_init_d00df_34 : decode cJ5_init_d00df 34 = .ok (.iconst 1, 1) := fx_ok0 eJ5_init_d00df_34.1
theorem dJ5_init_d00df_35 : decode cJ5_init_d00df 35 = .ok (.putfield 22, 3) := fx_ok0 eJ5_init_d00df_34.2.1
theorem dJ5_init_d00df_38 : decode cJ5_init_d00df 38 = .ok (.return_, 1) := fx_ok0 eJ5_init_d00df_34.2.2
theorem dJ5_init_d00df_12 : decode cJ5_init_d00df 12 = .ok (.newarray .byte, 2) := by decide +kernel
theorem eJ5_init_a7421_0 : (fdecl cJ5_init_a7421.data.toList 0 = some (.aload_n 0, 1)) ∧ (fdecl cJ5_init_a7421.data.toList 1 = some (.invokespecial 3, 3)) ∧ (fdecl cJ5_init_a7421.data.toList 4 = some (.aload_n 1, 1)) ∧ (fdecl cJ5_init_a7421.data.toList 5 = some (.invokevirtual 32, 3)) ∧ (fdecl cJ5_init_a7421.data.toList 8 = some (.istore_n 2, 1)) ∧ (fdecl cJ5_init_a7421.data.toList 9 = some (.iload_n 2, 1)) ∧ (fdecl cJ5_init_a7421.data.toList 10 = some (.ldc 38, 2)) ∧ (fdecl cJ5_init_a7421.data.toList 12 = some (.if_icmp .ge 10, 3)) ∧ (fdecl cJ5_init_a7421.data.toList 15 = some (.iload_n 2, 1)) ∧ (fdecl cJ5_init_a7421.data.toList 16 = some (.bipush 16, 2)) ∧ (fdecl cJ5_init_a7421.data.toList 18 = some (.iadd, 1)) ∧ (fdecl cJ5_init_a7421.data.toList 19 = some (.goto 5, 3)) ∧ (fdecl cJ5_init_a7421.data.toList 22 = some (.ldc 39, 2)) ∧ (fdecl cJ5_init_a7421.data.toList 24 = some (.istore_n 3, 1)) ∧ (fdecl cJ5_init_a7421.data.toList 25 = some (.aload_n 1, 1)) ∧ (fdecl cJ5_init_a7421.data.toList 26 = some (.invokevirtual 40, 3)) := by decide +kernel
theorem dJ5_init_a7421_0 : decode cJ5_init_a7421 0 = .ok (.aload_n 0, 1) := fx_ok0 eJ5_init_a7421_0.1
theorem dJ5_init_a7421_1 : decode cJ5_init_a7421 1 = .ok (.invokespecial 3, 3) := fx_ok0 eJ5_init_a7421_0.2.1
theorem dJ5_init_a7421_4 : decode cJ5_init_a7421 4 = .ok (.aload_n 1, 1) := fx_ok0 eJ5_init_a7421_0.2.2.1
theorem dJ5_init_a7421_5 : decode cJ5_init_a7421 5 = .ok (.invokevirtual 32, 3) := fx_ok0 eJ5_init_a7421_0.2.2.2.1
theorem dJ5_init_a7421_8 : decode cJ5_init_a7421 8 = .ok (.istore_n 2, 1) := fx_ok0 eJ5_init_a7421_0.2.2.2.2.1
theorem dJ5_init_a7421_9 : decode cJ5_init_a7421 9 = .ok (.iload_n 2, 1) := fx_ok0 eJ5_init_a7421_0.2.2.2.2.2.1
theorem dJ5_init_a7421_10 : decode cJ5_init_a7421 10 = .ok (.ldc 38, 2) := fx_ok0 eJ5_init_a7421_0.2.2.2.2.2.2.1
theorem dJ5_init_a7421_12 : decode cJ5_init_a7421 12 = .ok (.if_icmp .ge 10, 3) := fx_ok0 eJ5_init_a7421_0.2.2.2.2.2.2.2.1
theorem dJ5_init_a7421_15 : decode cJ5_init_a7421 15 = .ok (.iload_n 2, 1) := fx_ok0 eJ5_init_a7421_0.2.2.2.2.2.2.2.2.1
theorem dJ5_init_a7421_16 : decode cJ5_init_a7421 16 = .ok (.bipush 16, 2) := fx_ok0 eJ5_init_a7421_0.2.2.2.2.2.2.2.2.2.1
theorem dJ5_init_a7421_18 : decode cJ5_init_a7421 18 = .ok (.iadd, 1) := fx_ok0 eJ5_init_a7421_0.2.2.2.2.2.2.2.2.2.2.1
theorem dJ5_init_a7421_19 : decode cJ5_init_a7421 19 = .ok (.goto 5, 3) := fx_ok0 eJ5_init_a7421_0.2.2.2.2.2.2.2.2.2.2.2.1
theorem dJ5_init_a7421_22 : decode cJ5_init_a7421 22 = .ok (.ldc 39, 2) := fx_ok0 eJ5_init_a7421_0.2.2.2.2.2.2.2.2.2.2.2.2.1
theorem dJ5_init_a7421_24 : decode cJ5_init_a7421 24 = .ok (.istore_n 3, 1) := fx_ok0 eJ5_init_a7421_0.2.2.2.2.2.2.2.2.2.2.2.2.2.1
theorem dJ5_init_a7421_25 : decode cJ5_init_a7421 25 = .ok (.aload_n 1, 1) := fx_ok0 eJ5_init_a7421_0.2.2.2.2.2.2.2.2.2.2.2.2.2.2.1
theorem dJ5_init_a7421_26 : decode cJ5_init_a7421 26 = .ok (.invokevirtual 40, 3) := fx_ok0 eJ5_init_a7421_0.2.2.2.2.2.2.2.2.2.2.2.2.2.2.2
theorem eJ5_init_a7421_29 : (fdecl cJ5_init_a7421.data.toList 29 = some (.istore 4, 2)) ∧ (fdecl cJ5_init_a7421.data.toList 31 = some (.aload_n 0, 1)) ∧ (fdecl cJ5_init_a7421.data.toList 32 = some (.iload 4, 2)) ∧ (fdecl cJ5_init_a7421.data.toList 34 = some (.putfield 22, 3)) ∧ (fdecl cJ5_init_a7421.data.toList 37 = some (.aload_n 0, 1)) ∧ (fdecl cJ5_init_a7421.data.toList 38 = some (.iload 4, 2)) ∧ (fdecl cJ5_init_a7421.data.toList 40 = some (.ifCond .ne 9, 3)) ∧ (fdecl cJ5_init_a7421.data.toList 43 = some (.iload_n 3, 1)) ∧ (fdecl cJ5_init_a7421.data.toList 46 = some (.goto 7, 3)) ∧ (fdecl cJ5_init_a7421.data.toList 49 = some (.iload_n 3, 1)) ∧ (fdecl cJ5_init_a7421.data.toList 50 = some (.invokestatic 26, 3)) ∧ (fdecl cJ5_init_a7421.data.toList 53 = some (.putfield 15, 3)) ∧ (fdecl cJ5_init_a7421.data.toList 56 = some (.aload_n 0, 1)) ∧ (fdecl cJ5_init_a7421.data.toList 57 = some (.aload_n 1, 1)) ∧ (fdecl cJ5_init_a7421.data.toList 58 = some (.invokevirtual 43, 3)) ∧ (fdecl cJ5_init_a7421.data.toList 61 = some (.pop, 1)) := by decide +kernel
theorem dJ5_init_a7421_29 : decode cJ5_init_a7421 29 = .ok (.istore 4, 2) := fx_ok0 eJ5_init_a7421_29.1
theorem dJ5_init_a7421_31 : decode cJ5_init_a7421 31 = .ok (.aload_n 0, 1) := fx_ok0 eJ5_init_a7421_29.2.1
theorem dJ5_init_a7421_32 : decode cJ5_init_a7421 32 = .ok (.iload 4, 2) := fx_ok0 eJ5_init_a7421_29.2.2.1
theorem dJ5_init_a7421_34 : decode cJ5_init_a7421 34 = .ok (.putfield 22, 3) := fx_ok0 eJ5_init_a7421_29.2.2.2.1
theorem dJ5_init_a7421_37 : decode cJ5_init_a7421 37 = .ok (.aload_n 0, 1) := fx_ok0 eJ5_init_a7421_29.2.2.2.2.1
theorem dJ5_init_a7421_38 : decode cJ5_init_a7421 38 = .ok (.iload 4, 2) := fx_ok0 eJ5_init_a7421_29.2.2.2.2.2.1
theorem dJ5_init_a7421_40 : decode cJ5_init_a7421 40 = .ok (.ifCond .ne 9, 3) := fx_ok0 eJ5_init_a7421_29.2.2.2.2.2.2.1
theorem dJ5_init_a7421_43 : decode cJ5_init_a7421 43 = .ok (.iload_n 3, 1) := fx_ok0 eJ5_init_a7421_29.2.2.2.2.2.2.2.1
theorem dJ5_init_a7421_46 : decode cJ5_init_a7421 46 = .ok (.goto 7, 3) := fx_ok0 eJ5_init_a7421_29.2.2.2.2.2.2.2.2.1
theorem dJ5_init_a7421_49 : decode cJ5_init_a7421 49 = .ok (.iload_n 3, 1) := fx_ok0 eJ5_init_a7421_29.2.2.2.2.2.2.2.2.2.1
theorem dJ5_init_a7421_50 : decode cJ5_init_a7421 50 = .ok (.invokestatic 26, 3) := fx_ok0 eJ5_init_a7421_29.2.2.2.2.2.2.2.2.2.2.1
theorem dJ5_init_a7421_53 : decode cJ5_init_a7421 53 = .ok (.putfield 15, 3) := fx_ok0 eJ5_init_a7421_29.2.2.2.2.2.2.2.2.2.2.2.1
theorem dJ5_init_a7421_56 : decode cJ5_init_a7421 56 = .ok (.aload_n 0, 1) := fx_ok0 eJ5_init_a7421_29.2.2.2.2.2.2.2.2.2.2.2.2.1
theorem dJ5_init_a7421_57 : decode cJ5_init_a7421 57 = .ok (.aload_n 1, 1) := fx_ok0 eJ5_init_a7421_29.2.2.2.2.2.2.2.2.2.2.2.2.2.1
theorem dJ5_init_a7421_58 : decode cJ5_init_a7421 58 = .ok (.invokevirtual 43, 3) := fx_ok0 eJ5_init_a7421_29.2.2.2.2.2.2.2.2.2.2.2.2.2.2.1
theorem dJ5_init_a7421_61 : decode cJ5_init_a7421 61 = .ok (.pop, 1) := fx_ok0 eJ5_init_a7421_29.2.2.2.2.2.2.2.2.2.2.2.2.2.2.2
theorem eJ5_init_a7421_62 : (fdecl cJ5_init_a7421.data.toList 62 = some (.return_, 1)) := by decide +kernel
theorem dJ5_init_a7421_62 : decode cJ5_init_a7421 62 = .ok (.return_, 1) := fx_ok0 eJ5_init_a7421_62
theorem dJ5_init_a7421_44 : decode cJ5_init_a7421 44 = .ok (.newarray .byte, 2) := by decide +kernel
theorem eJ5_length_8abf5_0 : (fdecl cJ5_length_8abf5.data.toList 0 = some (.aload_n 0, 1)) ∧ (fdecl cJ5_length_8abf5.data.toList 1 = some (.getfield 79, 3)) ∧ (fdecl cJ5_length_8abf5.data.toList 4 = some (.ireturn, 1)) := by decide +kernel
theorem dJ5_length_8abf5_0 : decode cJ5_length_8abf5 0 = .ok (.aload_n 0, 1) := fx_ok0 eJ5_length_8abf5_0.1
theorem dJ5_length_8abf5_1 : decode cJ5_length_8abf5 1 = .ok (.getfield 79, 3) := fx_ok0 eJ5_length_8abf5_0.2.1
theorem dJ5_length_8abf5_4 : decode cJ5_length_8abf5 4 = .ok (.ireturn, 1) := fx_ok0 eJ5_length_8abf5_0.2.2
theorem eJ5_ensureCapacityInternal_d00df_0 : (fdecl cJ5_ensureCapacityInternal_d00df.data.toList 0 = some (.aload_n 0, 1)) ∧ (fdecl cJ5_ensureCapacityInternal_d00df.data.toList 1 = some (.getfield 15, 3)) ∧ (fdecl cJ5_ensureCapacityInternal_d00df.data.toList 4 = some (.arraylength, 1)) ∧ (fdecl cJ5_ensureCapacityInternal_d00df.data.toList 5 = some (.aload_n 0, 1)) ∧ (fdecl cJ5_ensureCapacityInternal_d00df.data.toList 6 = some (.getfield 22, 3)) ∧ (fdecl cJ5_ensureCapacityInternal_d00df.data.toList 9 = some (.ishr, 1)) ∧ (fdecl cJ5_ensureCapacityInternal_d00df.data.toList 10 = some (.istore_n 2, 1)) ∧ (fdecl cJ5_ensureCapacityInternal_d00df.data.toList 11 = some (.iload_n 1, 1)) ∧ (fdecl cJ5_ensureCapacityInternal_d00df.data.toList 12 = some (.iload_n 2, 1)) ∧ (fdecl cJ5_ensureCapacityInternal_d00df.data.toList 13 = some (.isub, 1)) ∧ (fdecl cJ5_ensureCapacityInternal_d00df.data.toList 14 = some (.ifCond .le 24, 3)) ∧ (fdecl cJ5_ensureCapacityInternal_d00df.data.toList 17 = some (.aload_n 0, 1)) ∧ (fdecl cJ5_ensureCapacityInternal_d00df.data.toList 18 = some (.aload_n 0, 1)) ∧ (fdecl cJ5_ensureCapacityInternal_d00df.data.toList 19 = some (.getfield 15, 3)) ∧ (fdecl cJ5_ensureCapacityInternal_d00df.data.toList 22 = some (.aload_n 0, 1)) ∧ (fdecl cJ5_ensureCapacityInternal_d00df.data.toList 23 = some (.iload_n 1, 1)) := by decide +kernel
theorem dJ5_ensureCapacityInternal_d00df_0 : decode cJ5_ensureCapacityInternal_d00df 0 = .ok (.aload_n 0, 1) := fx_ok0 eJ5_ensureCapacityInternal_d00df_0.1
theorem dJ5_ensureCapacityInternal_d00df_1 : decode cJ5_ensureCapacityInternal_d00df 1 = .ok (.getfield 15, 3) := fx_ok0 eJ5_ensureCapacityInternal_d00df_0.2.1
theorem dJ5_ensureCapacityInternal_d00df_4 : decode cJ5_ensureCapacityInternal_d00df 4 = .ok (.arraylength, 1) := fx_ok0 eJ5_ensureCapacityInternal_d00df_0.2.2.1
theorem dJ5_ensureCapacityInternal_d00df_5 : decode cJ5_ensureCapacityInternal_d00df 5 = .ok (.aload_n 0, 1) := fx_ok0 eJ5_ensureCapacityInternal_d00df_0.2.2.2.1
theorem dJ5_ensureCapacityInternal_d00df_6 : decode cJ5_ensureCapacityInternal_d00df 6 = .ok (.getfield 22, 3) := fx_ok0 eJ5_ensureCapacityInternal_d00df_0.2.2.2.2.1
theorem dJ5_ensureCapacityInternal_d00df_9 : decode cJ5_ensureCapacityInternal_d00df 9 = .ok (.ishr, 1) := fx_ok0 eJ5_ensureCapacityInternal_d00df_0.2.2.2.2.2.1
theorem dJ5_ensureCapacityInternal_d00df_10 : decode cJ5_ensureCapacityInternal_d00df 10 = .ok (.istore_n 2, 1) := fx_ok0 eJ5_ensureCapacityInternal_d00df_0.2.2.2.2.2.2.1
theorem dJ5_ensureCapacityInternal_d00df_11 : decode cJ5_ensureCapacityInternal_d00df 11 = .ok (.iload_n 1, 1) := fx_ok0 eJ5_ensureCapacityInternal_d00df_0.2.2.2.2.2.2.2.1
theorem dJ5_ensureCapacityInternal_d00df_12 : decode cJ5_ensureCapacityInternal_d00df 12 = .ok (.iload_n 2, 1) := fx_ok0 eJ5_ensureCapacityInternal_d00df_0.2.2.2.2.2.2.2.2.1
theorem dJ5_ensureCapacityInternal_d00df_13 : decode cJ5_ensureCapacityInternal_d00df 13 = .ok (.isub, 1) := fx_ok0 eJ5_ensureCapacityInternal_d00df_0.2.2.2.2.2.2.2.2.2.1
theorem dJ5_ensureCapacityInternal_d00df_14 : decode cJ5_ensureCapacityInternal_d00df 14 = .ok (.ifCond .le 24, 3) := fx_ok0 eJ5_ensureCapacityInternal_d00df_0.2.2.2.2.2.2.2.2.2.2.1
theorem dJ5_ensureCapacityInternal_d00df_17 : decode cJ5_ensureCapacityInternal_d00df 17 = .ok (.aload_n 0, 1) := fx_ok0 eJ5_ensureCapacityInternal_d00df_0.2.2.2.2.2.2.2.2.2.2.2.1
theorem dJ5_ensureCapacityInternal_d00df_18 : decode cJ5_ensureCapacityInternal_d00df 18 = .ok (.aload_n 0, 1) := fx_ok0 eJ5_ensureCapacityInternal_d00df_0.2.2.2.2.2.2.2.2.2.2.2.2.1
theorem dJ5_ensureCapacityInternal_d00df_19 : decode cJ5_ensureCapacityInternal_d00df 19 = .ok (.getfield 15, 3) := fx_ok0 eJ5_ensureCapacityInternal_d00df_0.2.2.2.2.2.2.2.2.2.2.2.2.2.1
theorem dJ5_ensureCapacityInternal_d00df_22 : decode cJ5_ensureCapacityInternal_d00df 22 = .ok (.aload_n 0, 1) := fx_ok0 eJ5_ensureCapacityInternal_d00df_0.2.2.2.2.2.2.2.2.2.2.2.2.2.2.1
theorem dJ5_ensureCapacityInternal_d00df_23 : decode cJ5_ensureCapacityInternal_d00df 23 = .ok (.iload_n 1, 1) := fx_ok0 eJ5_ensureCapacityInternal_d00df_0.2.2.2.2.2.2.2.2.2.2.2.2.2.2.2
theorem eJ5_ensureCapacityInternal_d00df_24 : (fdecl cJ5_ensureCapacityInternal_d00df.data.toList 24 = some (.invokevirtual 104, 3)) ∧ (fdecl cJ5_ensureCapacityInternal_d00df.data.toList 27 = some (.aload_n 0, 1)) ∧ (fdecl cJ5_ensureCapacityInternal_d00df.data.toList 28 = some (.getfield 22, 3)) ∧ (fdecl cJ5_ensureCapacityInternal_d00df.data.toList 31 = some (.ishl, 1)) ∧ (fdecl cJ5_ensureCapacityInternal_d00df.data.toList 32 = some (.invokestatic 108, 3)) ∧ (fdecl cJ5_ensureCapacityInternal_d00df.data.toList 35 = some (.putfield 15, 3)) ∧ (fdecl cJ5_ensureCapacityInternal_d00df.data.toList 38 = some (.return_, 1)) := by decide +kernel
theorem dJ5_ensureCapacityInternal_d00df_24 : decode cJ5_ensureCapacityInternal_d00df 24 = .ok (.invokevirtual 104, 3) := fx_ok0 eJ5_ensureCapacityInternal_d00df_24.1
theorem dJ5_ensureCapacityInternal_d00df_27 : decode cJ5_ensureCapacityInternal_d00df 27 = .ok (.aload_n 0, 1) := fx_ok0 eJ5_ensureCapacityInternal_d00df_24.2.1
theorem dJ5_ensureCapacityInternal_d00df_28 : decode cJ5_ensureCapacityInternal_d00df 28 = .ok (.getfield 22, 3) := fx_ok0 eJ5_ensureCapacityInternal_d00df_24.2.2.1
theorem dJ5_ensureCapacityInternal_d00df_31 : decode cJ5_ensureCapacityInternal_d00df 31 = .ok (.ishl, 1) := fx_ok0 eJ5_ensureCapacityInternal_d00df_24.2.2.2.1
theorem dJ5_ensureCapacityInternal_d00df_32 : decode cJ5_ensureCapacityInternal_d00df 32 = .ok (.invokestatic 108, 3) := fx_ok0 eJ5_ensureCapacityInternal_d00df_24.2.2.2.2.1
theorem dJ5_ensureCapacityInternal_d00df_35 : decode cJ5_ensureCapacityInternal_d00df 35 = .ok (.putfield 15, 3) := fx_ok0 eJ5_ensureCapacityInternal_d00df_24.2.2.2.2.2.1
theorem dJ5_ensureCapacityInternal_d00df_38 : decode cJ5_ensureCapacityInternal_d00df 38 = .ok (.return_, 1) := fx_ok0 eJ5_ensureCapacityInternal_d00df_24.2.2.2.2.2.2
theorem eJ5_newCapacity_0f7a4_0 : (fdecl cJ5_newCapacity_0f7a4.data.toList 0 = some (.aload_n 0, 1)) ∧ (fdecl cJ5_newCapacity_0f7a4.data.toList 1 = some (.getfield 15, 3)) ∧ (fdecl cJ5_newCapacity_0f7a4.data.toList 4 = some (.arraylength, 1)) ∧ (fdecl cJ5_newCapacity_0f7a4.data.toList 5 = some (.istore_n 2, 1)) ∧ (fdecl cJ5_newCapacity_0f7a4.data.toList 6 = some (.iload_n 1, 1)) ∧ (fdecl cJ5_newCapacity_0f7a4.data.toList 7 = some (.aload_n 0, 1)) ∧ (fdecl cJ5_newCapacity_0f7a4.data.toList 8 = some (.getfield 22, 3)) ∧ (fdecl cJ5_newCapacity_0f7a4.data.toList 11 = some (.ishl, 1)) ∧ (fdecl cJ5_newCapacity_0f7a4.data.toList 12 = some (.istore_n 3, 1)) ∧ (fdecl cJ5_newCapacity_0f7a4.data.toList 13 = some (.iload_n 3, 1)) ∧ (fdecl cJ5_newCapacity_0f7a4.data.toList 14 = some (.iload_n 2, 1)) ∧ (fdecl cJ5_newCapacity_0f7a4.data.toList 15 = some (.isub, 1)) ∧ (fdecl cJ5_newCapacity_0f7a4.data.toList 16 = some (.istore 4, 2)) ∧ (fdecl cJ5_newCapacity_0f7a4.data.toList 18 = some (.iload_n 2, 1)) ∧ (fdecl cJ5_newCapacity_0f7a4.data.toList 19 = some (.iload 4, 2)) ∧ (fdecl cJ5_newCapacity_0f7a4.data.toList 21 = some (.iload_n 2, 1)) := by decide +kernel
theorem dJ5_newCapacity_0f7a4_0 : decode cJ5_newCapacity_0f7a4 0 = .ok (.aload_n 0, 1) := fx_ok0 eJ5_newCapacity_0f7a4_0.1
theorem dJ5_newCapacity_0f7a4_1 : decode cJ5_newCapacity_0f7a4 1 = .ok (.getfield 15, 3) := fx_ok0 eJ5_newCapacity_0f7a4_0.2.1
theorem dJ5_newCapacity_0f7a4_4 : decode cJ5_newCapacity_0f7a4 4 = .ok (.arraylength, 1) := fx_ok0 eJ5_newCapacity_0f7a4_0.2.2.1
theorem dJ5_newCapacity_0f7a4_5 : decode cJ5_newCapacity_0f7a4 5 = .ok (.istore_n 2, 1) := fx_ok0 eJ5_newCapacity_0f7a4_0.2.2.2.1
theorem dJ5_newCapacity_0f7a4_6 : decode cJ5_newCapacity_0f7a4 6 = .ok (.iload_n 1, 1) := fx_ok0 eJ5_newCapacity_0f7a4_0.2.2.2.2.1
theorem dJ5_newCapacity_0f7a4_7 : decode cJ5_newCapacity_0f7a4 7 = .ok (.aload_n 0, 1) := fx_ok0 eJ5_newCapacity_0f7a4_0.2.2.2.2.2.1
theorem dJ5_newCapacity_0f7a4_8 : decode cJ5_newCapacity_0f7a4 8 = .ok (.getfield 22, 3) := fx_ok0 eJ5_newCapacity_0f7a4_0.2.2.2.2.2.2.1
theorem dJ5_newCapacity_0f7a4_11 : decode cJ5_newCapacity_0f7a4 11 = .ok (.ishl, 1) := fx_ok0 eJ5_newCapacity_0f7a4_0.2.2.2.2.2.2.2.1
theorem dJ5_newCapacity_0f7a4_12 : decode cJ5_newCapacity_0f7a4 12 = .ok (.istore_n 3, 1) := fx_ok0 eJ5_newCapacity_0f7a4_0.2.2.2.2.2.2.2.2.1
theorem dJ5_newCapacity_0f7a4_13 : decode cJ5_newCapacity_0f7a4 13 = .ok (.iload_n 3, 1) := fx_ok0 eJ5_newCapacity_0f7a4_0.2.2.2.2.2.2.2.2.2.1
theorem dJ5_newCapacity_0f7a4_14 : decode cJ5_newCapacity_0f7a4 14 = .ok (.iload_n 2, 1) := fx_ok0 eJ5_newCapacity_0f7a4_0.2.2.2.2.2.2.2.2.2.2.1
theorem dJ5_newCapacity_0f7a4_15 : decode cJ5_newCapacity_0f7a4 15 = .ok (.isub, 1) := fx_ok0 eJ5_newCapacity_0f7a4_0.2.2.2.2.2.2.2.2.2.2.2.1
theorem dJ5_newCapacity_0f7a4_16 : decode cJ5_newCapacity_0f7a4 16 = .ok (.istore 4, 2) := fx_ok0 eJ5_newCapacity_0f7a4_0.2.2.2.2.2.2.2.2.2.2.2.2.1
theorem dJ5_newCapacity_0f7a4_18 : decode cJ5_newCapacity_0f7a4 18 = .ok (.iload_n 2, 1) := fx_ok0 eJ5_newCapacity_0f7a4_0.2.2.2.2.2.2.2.2.2.2.2.2.2.1
theorem dJ5_newCapacity_0f7a4_19 : decode cJ5_newCapacity_0f7a4 19 = .ok (.iload 4, 2) := fx_ok0 eJ5_newCapacity_0f7a4_0.2.2.2.2.2.2.2.2.2.2.2.2.2.2.1
theorem dJ5_newCapacity_0f7a4_21 : decode cJ5_newCapacity_0f7a4 21 = .ok (.iload_n 2, 1) := fx_ok0 eJ5_newCapacity_0f7a4_0.2.2.2.2.2.2.2.2.2.2.2.2.2.2.2
theorem eJ5_newCapacity_0f7a4_22 : (fdecl cJ5_newCapacity_0f7a4.data.toList 22 = some (.iconst 2, 1)) ∧ (fdecl cJ5_newCapacity_0f7a4.data.toList 23 = some (.aload_n 0, 1)) ∧ (fdecl cJ5_newCapacity_0f7a4.data.toList 24 = some (.getfield 22, 3)) ∧ (fdecl cJ5_newCapacity_0f7a4.data.toList 27 = some (.ishl, 1)) ∧ (fdecl cJ5_newCapacity_0f7a4.data.toList 28 = some (.iadd, 1)) ∧ (fdecl cJ5_newCapacity_0f7a4.data.toList 29 = some (.invokestatic 114, 3)) ∧ (fdecl cJ5_newCapacity_0f7a4.data.toList 32 = some (.istore 5, 2)) ∧ (fdecl cJ5_newCapacity_0f7a4.data.toList 34 = some (.iload 5, 2)) ∧ (fdecl cJ5_newCapacity_0f7a4.data.toList 36 = some (.ldc 39, 2)) ∧ (fdecl cJ5_newCapacity_0f7a4.data.toList 38 = some (.if_icmp .ne 13, 3)) ∧ (fdecl cJ5_newCapacity_0f7a4.data.toList 41 = some (.new 120, 3)) ∧ (fdecl cJ5_newCapacity_0f7a4.data.toList 44 = some (.dup, 1)) ∧ (fdecl cJ5_newCapacity_0f7a4.data.toList 45 = some (.ldc 122, 2)) ∧ (fdecl cJ5_newCapacity_0f7a4.data.toList 47 = some (.invokespecial 124, 3)) ∧ (fdecl cJ5_newCapacity_0f7a4.data.toList 50 = some (.athrow, 1)) ∧ (fdecl cJ5_newCapacity_0f7a4.data.toList 51 = some (.iload 5, 2)) := by decide +kernel
theorem dJ5_newCapacity_0f7a4_22 : decode cJ5_newCapacity_0f7a4 22 = .ok (.iconst 2, 1) := fx_ok0 eJ5_newCapacity_0f7a4_22.1
theorem dJ5_newCapacity_0f7a4_23 : decode cJ5_newCapacity_0f7a4 23 = .ok (.aload_n 0, 1) := fx_ok0 eJ5_newCapacity_0f7a4_22.2.1
theorem dJ5_newCapacity_0f7a4_24 : decode cJ5_newCapacity_0f7a4 24 = .ok (.getfield 22, 3) := fx_ok0 eJ5_newCapacity_0f7a4_22.2.2.1
theorem dJ5_newCapacity_0f7a4_27 : decode cJ5_newCapacity_0f7a4 27 = .ok (.ishl, 1) := fx_ok0 eJ5_newCapacity_0f7a4_22.2.2.2.1
theorem dJ5_newCapacity_0f7a4_28 : decode cJ5_newCapacity_0f7a4 28 = .ok (.iadd, 1) := fx_ok0 eJ5_newCapacity_0f7a4_22.2.2.2.2.1
theorem dJ5_newCapacity_0f7a4_29 : decode cJ5_newCapacity_0f7a4 29 = .ok (.invokestatic 114, 3) := fx_ok0 eJ5_newCapacity_0f7a4_22.2.2.2.2.2.1
theorem dJ5_newCapacity_0f7a4_32 : decode cJ5_newCapacity_0f7a4 32 = .ok (.istore 5, 2) := fx_ok0 eJ5_newCapacity_0f7a4_22.2.2.2.2.2.2.1
theorem dJ5_newCapacity_0f7a4_34 : decode cJ5_newCapacity_0f7a4 34 = .ok (.iload 5, 2) := fx_ok0 eJ5_newCapacity_0f7a4_22.2.2.2.2.2.2.2.1
theorem dJ5_newCapacity_0f7a4_36 : decode cJ5_newCapacity_0f7a4 36 = .ok (.ldc 39, 2) := fx_ok0 eJ5_newCapacity_0f7a4_22.2.2.2.2.2.2.2.2.1
theorem dJ5_newCapacity_0f7a4_38 : decode cJ5_newCapacity_0f7a4 38 = .ok (.if_icmp .ne 13, 3) := fx_ok0 eJ5_newCapacity_0f7a4_22.2.2.2.2.2.2.2.2.2.1
theorem dJ5_newCapacity_0f7a4_41 : decode cJ5_newCapacity_0f7a4 41 = .ok (.new 120, 3) := fx_ok0 eJ5_newCapacity_0f7a4_22.2.2.2.2.2.2.2.2.2.2.1
theorem dJ5_newCapacity_0f7a4_44 : decode cJ5_newCapacity_0f7a4 44 = .ok (.dup, 1) := fx_ok0 eJ5_newCapacity_0f7a4_22.2.2.2.2.2.2.2.2.2.2.2.1
theorem dJ5_newCapacity_0f7a4_45 : decode cJ5_newCapacity_0f7a4 45 = .ok (.ldc 122, 2) := fx_ok0 eJ5_newCapacity_0f7a4_22.2.2.2.2.2.2.2.2.2.2.2.2.1
theorem dJ5_newCapacity_0f7a4_47 : decode cJ5_newCapacity_0f7a4 47 = .ok (.invokespecial 124, 3) := fx_ok0 eJ5_newCapacity_0f7a4_22.2.2.2.2.2.2.2.2.2.2.2.2.2.1
theorem dJ5_newCapacity_0f7a4_50 : decode cJ5_newCapacity_0f7a4 50 = .ok (.athrow, 1) := fx_ok0 eJ5_newCapacity_0f7a4_22.2.2.2.2.2.2.2.2.2.2.2.2.2.2.1
theorem dJ5_newCapacity_0f7a4_51 : decode cJ5_newCapacity_0f7a4 51 = .ok (.iload 5, 2) := fx_ok0 eJ5_newCapacity_0f7a4_22.2.2.2.2.2.2.2.2.2.2.2.2.2.2.2
theorem eJ5_newCapacity_0f7a4_53 : (fdecl cJ5_newCapacity_0f7a4.data.toList 53 = some (.aload_n 0, 1)) ∧ (fdecl cJ5_newCapacity_0f7a4.data.toList 54 = some (.getfield 22, 3)) ∧ (fdecl cJ5_newCapacity_0f7a4.data.toList 57 = some (.ishr, 1)) ∧ (fdecl cJ5_newCapacity_0f7a4.data.toList 58 = some (.ireturn, 1)) := by decide +kernel
theorem dJ5_newCapacity_0f7a4_53 : decode cJ5_newCapacity_0f7a4 53 = .ok (.aload_n 0, 1) := fx_ok0 eJ5_newCapacity_0f7a4_53.1
theorem dJ5_newCapacity_0f7a4_54 : decode cJ5_newCapacity_0f7a4 54 = .ok (.getfield 22, 3) := fx_ok0 eJ5_newCapacity_0f7a4_53.2.1
theorem dJ5_newCapacity_0f7a4_57 : decode cJ5_newCapacity_0f7a4 57 = .ok (.ishr, 1) := fx_ok0 eJ5_newCapacity_0f7a4_53.2.2.1
theorem dJ5_newCapacity_0f7a4_58 : decode cJ5_newCapacity_0f7a4 58 = .ok (.ireturn, 1) := fx_ok0 eJ5_newCapacity_0f7a4_53.2.2.2
theorem eJ5_inflate_da8c8_0 : (fdecl cJ5_inflate_da8c8.data.toList 0 = some (.aload_n 0, 1)) ∧ (fdecl cJ5_inflate_da8c8.data.toList 1 = some (.invokevirtual 83, 3)) ∧ (fdecl cJ5_inflate_da8c8.data.toList 4 = some (.ifCond .ne 4, 3)) ∧ (fdecl cJ5_inflate_da8c8.data.toList 7 = some (.return_, 1)) ∧ (fdecl cJ5_inflate_da8c8.data.toList 8 = some (.aload_n 0, 1)) ∧ (fdecl cJ5_inflate_da8c8.data.toList 9 = some (.getfield 15, 3)) ∧ (fdecl cJ5_inflate_da8c8.data.toList 12 = some (.arraylength, 1)) ∧ (fdecl cJ5_inflate_da8c8.data.toList 13 = some (.invokestatic 26, 3)) ∧ (fdecl cJ5_inflate_da8c8.data.toList 16 = some (.astore_n 1, 1)) ∧ (fdecl cJ5_inflate_da8c8.data.toList 17 = some (.aload_n 0, 1)) ∧ (fdecl cJ5_inflate_da8c8.data.toList 18 = some (.getfield 15, 3)) ∧ (fdecl cJ5_inflate_da8c8.data.toList 21 = some (.iconst 0, 1)) ∧ (fdecl cJ5_inflate_da8c8.data.toList 22 = some (.aload_n 1, 1)) ∧ (fdecl cJ5_inflate_da8c8.data.toList 23 = some (.iconst 0, 1)) ∧ (fdecl cJ5_inflate_da8c8.data.toList 24 = some (.aload_n 0, 1)) ∧ (fdecl cJ5_inflate_da8c8.data.toList 25 = some (.getfield 79, 3)) := by decide +kernel
theorem dJ5_inflate_da8c8_0 : decode cJ5_inflate_da8c8 0 = .ok (.aload_n 0, 1) := fx_ok0 eJ5_inflate_da8c8_0.1
theorem dJ5_inflate_da8c8_1 : decode cJ5_inflate_da8c8 1 = .ok (.invokevirtual 83, 3) := fx_ok0 eJ5_inflate_da8c8_0.2.1
theorem dJ5_inflate_da8c8_4 : decode cJ5_inflate_da8c8 4 = .ok (.ifCond .ne 4, 3) := fx_ok0 eJ5_inflate_da8c8_0.2.2.1
theorem dJ5_inflate_da8c8_7 : decode cJ5_inflate_da8c8 7 = .ok (.return_, 1) := fx_ok0 eJ5_inflate_da8c8_0.2.2.2.1
theorem dJ5_inflate_da8c8_8 : decode cJ5_inflate_da8c8 8 = .ok (.aload_n 0, 1) := fx_ok0 eJ5_inflate_da8c8_0.2.2.2.2.1
theorem dJ5_inflate_da8c8_9 : decode cJ5_inflate_da8c8 9 = .ok (.getfield 15, 3) := fx_ok0 eJ5_inflate_da8c8_0.2.2.2.2.2.1
theorem dJ5_inflate_da8c8_12 : decode cJ5_inflate_da8c8 12 = .ok (.arraylength, 1) := fx_ok0 eJ5_inflate_da8c8_0.2.2.2.2.2.2.1
theorem dJ5_inflate_da8c8_13 : decode cJ5_inflate_da8c8 13 = .ok (.invokestatic 26, 3) := fx_ok0 eJ5_inflate_da8c8_0.2.2.2.2.2.2.2.1
theorem dJ5_inflate_da8c8_16 : decode cJ5_inflate_da8c8 16 = .ok (.astore_n 1, 1) := fx_ok0 eJ5_inflate_da8c8_0.2.2.2.2.2.2.2.2.1
theorem dJ5_inflate_da8c8_17 : decode cJ5_inflate_da8c8 17 = .ok (.aload_n 0, 1) := fx_ok0 eJ5_inflate_da8c8_0.2.2.2.2.2.2.2.2.2.1
theorem dJ5_inflate_da8c8_18 : decode cJ5_inflate_da8c8 18 = .ok (.getfield 15, 3) := fx_ok0 eJ5_inflate_da8c8_0.2.2.2.2.2.2.2.2.2.2.1
theorem dJ5_inflate_da8c8_21 : decode cJ5_inflate_da8c8 21 = .ok (.iconst 0, 1) := fx_ok0 eJ5_inflate_da8c8_0.2.2.2.2.2.2.2.2.2.2.2.1
theorem dJ5_inflate_da8c8_22 : decode cJ5_inflate_da8c8 22 = .ok (.aload_n 1, 1) := fx_ok0 eJ5_inflate_da8c8_0.2.2.2.2.2.2.2.2.2.2.2.2.1
theorem dJ5_inflate_da8c8_23 : decode cJ5_inflate_da8c8 23 = .ok (.iconst 0, 1) := fx_ok0 eJ5_inflate_da8c8_0.2.2.2.2.2.2.2.2.2.2.2.2.2.1
theorem dJ5_inflate_da8c8_24 : decode cJ5_inflate_da8c8 24 = .ok (.aload_n 0, 1) := fx_ok0 eJ5_inflate_da8c8_0.2.2.2.2.2.2.2.2.2.2.2.2.2.2.1
theorem dJ5_inflate_da8c8_25 : decode cJ5_inflate_da8c8 25 = .ok (.getfield 79, 3) := fx_ok0 eJ5_inflate_da8c8_0.2.2.2.2.2.2.2.2.2.2.2.2.2.2.2
theorem eJ5_inflate_da8c8_28 : (fdecl cJ5_inflate_da8c8.data.toList 28 = some (.invokestatic 125, 3)) ∧ (fdecl cJ5_inflate_da8c8.data.toList 31 = some (.aload_n 0, 1)) ∧ (fdecl cJ5_inflate_da8c8.data.toList 32 = some (.aload_n 1, 1)) ∧ (fdecl cJ5_inflate_da8c8.data.toList 33 = some (.putfield 15, 3)) ∧ (fdecl cJ5_inflate_da8c8.data.toList 36 = some (.aload_n 0, 1)) ∧ (fdecl cJ5_inflate_da8c8.data.toList 37 = some (.iconst 1, 1)) ∧ (fdecl cJ5_inflate_da8c8.data.toList 38 = some (.putfield 22, 3)) ∧ (fdecl cJ5_inflate_da8c8.data.toList 41 = some (.return_, 1)) := by decide +kernel
theorem dJ5_inflate_da8c8_28 : decode cJ5_inflate_da8c8 28 = .ok (.invokestatic 125, 3) := fx_ok0 eJ5_inflate_da8c8_28.1
theorem dJ5_inflate_da8c8_31 : decode cJ5_inflate_da8c8 31 = .ok (.aload_n 0, 1) := fx_ok0 eJ5_inflate_da8c8_28.2.1
theorem dJ5_inflate_da8c8_32 : decode cJ5_inflate_da8c8 32 = .ok (.aload_n 1, 1) := fx_ok0 eJ5_inflate_da8c8_28.2.2.1
theorem dJ5_inflate_da8c8_33 : decode cJ5_inflate_da8c8 33 = .ok (.putfield 15, 3) := fx_ok0 eJ5_inflate_da8c8_28.2.2.2.1
theorem dJ5_inflate_da8c8_36 : decode cJ5_inflate_da8c8 36 = .ok (.aload_n 0, 1) := fx_ok0 eJ5_inflate_da8c8_28.2.2.2.2.1
theorem dJ5_inflate_da8c8_37 : decode cJ5_inflate_da8c8 37 = .ok (.iconst 1, 1) := fx_ok0 eJ5_inflate_da8c8_28.2.2.2.2.2.1
theorem dJ5_inflate_da8c8_38 : decode cJ5_inflate_da8c8 38 = .ok (.putfield 22, 3) := fx_ok0 eJ5_inflate_da8c8_28.2.2.2.2.2.2.1
theorem dJ5_inflate_da8c8_41 : decode cJ5_inflate_da8c8 41 = .ok (.return_, 1) := fx_ok0 eJ5_inflate_da8c8_28.2.2.2.2.2.2.2
theorem eJ5_append_cf1ce_0 : (fdecl cJ5_append_cf1ce.data.toList 0 = some (.aload_n 1, 1)) ∧ (fdecl cJ5_append_cf1ce.data.toList 1 = some (.ifnonnull 8, 3)) ∧ (fdecl cJ5_append_cf1ce.data.toList 4 = some (.aload_n 0, 1)) ∧ (fdecl cJ5_append_cf1ce.data.toList 5 = some (.invokevirtual 204, 3)) ∧ (fdecl cJ5_append_cf1ce.data.toList 8 = some (.areturn, 1)) ∧ (fdecl cJ5_append_cf1ce.data.toList 9 = some (.aload_n 1, 1)) ∧ (fdecl cJ5_append_cf1ce.data.toList 10 = some (.invokevirtual 32, 3)) ∧ (fdecl cJ5_append_cf1ce.data.toList 13 = some (.istore_n 2, 1)) ∧ (fdecl cJ5_append_cf1ce.data.toList 14 = some (.aload_n 0, 1)) ∧ (fdecl cJ5_append_cf1ce.data.toList 15 = some (.aload_n 0, 1)) ∧ (fdecl cJ5_append_cf1ce.data.toList 16 = some (.getfield 79, 3)) ∧ (fdecl cJ5_append_cf1ce.data.toList 19 = some (.iload_n 2, 1)) ∧ (fdecl cJ5_append_cf1ce.data.toList 20 = some (.iadd, 1)) ∧ (fdecl cJ5_append_cf1ce.data.toList 21 = some (.invokevirtual 100, 3)) ∧ (fdecl cJ5_append_cf1ce.data.toList 24 = some (.aload_n 0, 1)) ∧ (fdecl cJ5_append_cf1ce.data.toList 25 = some (.aload_n 0, 1)) := by decide +kernel
theorem dJ5_append_cf1ce_0 : decode cJ5_append_cf1ce 0 = .ok (.aload_n 1, 1) := fx_ok0 eJ5_append_cf1ce_0.1
theorem dJ5_append_cf1ce_1 : decode cJ5_append_cf1ce 1 = .ok (.ifnonnull 8, 3) := fx_ok0 eJ5_append_cf1ce_0.2.1
theorem dJ5_append_cf1ce_4 : decode cJ5_append_cf1ce 4 = .ok (.aload_n 0, 1) := fx_ok0 eJ5_append_cf1ce_0.2.2.1
theorem dJ5_append_cf1ce_5 : decode cJ5_append_cf1ce 5 = .ok (.invokevirtual 204, 3) := fx_ok0 eJ5_append_cf1ce_0.2.2.2.1
theorem dJ5_append_cf1ce_8 : decode cJ5_append_cf1ce 8 = .ok (.areturn, 1) := fx_ok0 eJ5_append_cf1ce_0.2.2.2.2.1
theorem dJ5_append_cf1ce_9 : decode cJ5_append_cf1ce 9 = .ok (.aload_n 1, 1) := fx_ok0 eJ5_append_cf1ce_0.2.2.2.2.2.1
theorem dJ5_append_cf1ce_10 : decode cJ5_append_cf1ce 10 = .ok (.invokevirtual 32, 3) := fx_ok0 eJ5_append_cf1ce_0.2.2.2.2.2.2.1
theorem dJ5_append_cf1ce_13 : decode cJ5_append_cf1ce 13 = .ok (.istore_n 2, 1) := fx_ok0 eJ5_append_cf1ce_0.2.2.2.2.2.2.2.1
theorem dJ5_append_cf1ce_14 : decode cJ5_append_cf1ce 14 = .ok (.aload_n 0, 1) := fx_ok0 eJ5_append_cf1ce_0.2.2.2.2.2.2.2.2.1
theorem dJ5_append_cf1ce_15 : decode cJ5_append_cf1ce 15 = .ok (.aload_n 0, 1) := fx_ok0 eJ5_append_cf1ce_0.2.2.2.2.2.2.2.2.2.1
theorem dJ5_append_cf1ce_16 : decode cJ5_append_cf1ce 16 = .ok (.getfield 79, 3) := fx_ok0 eJ5_append_cf1ce_0.2.2.2.2.2.2.2.2.2.2.1
theorem dJ5_append_cf1ce_19 : decode cJ5_append_cf1ce 19 = .ok (.iload_n 2, 1) := fx_ok0 eJ5_append_cf1ce_0.2.2.2.2.2.2.2.2.2.2.2.1
theorem dJ5_append_cf1ce_20 : decode cJ5_append_cf1ce 20 = .ok (.iadd, 1) := fx_ok0 eJ5_append_cf1ce_0.2.2.2.2.2.2.2.2.2.2.2.2.1
theorem dJ5_append_cf1ce_21 : decode cJ5_append_cf1ce 21 = .ok (.invokevirtual 100, 3) := fx_ok0 eJ5_append_cf1ce_0.2.2.2.2.2.2.2.2.2.2.2.2.2.1
theorem dJ5_append_cf1ce_24 : decode cJ5_append_cf1ce 24 = .ok (.aload_n 0, 1) := fx_ok0 eJ5_append_cf1ce_0.2.2.2.2.2.2.2.2.2.2.2.2.2.2.1
theorem dJ5_append_cf1ce_25 : decode cJ5_append_cf1ce 25 = .ok (.aload_n 0, 1) := fx_ok0 eJ5_append_cf1ce_0.2.2.2.2.2.2.2.2.2.2.2.2.2.2.2
theorem eJ5_append_cf1ce_26 : (fdecl cJ5_append_cf1ce.data.toList 26 = some (.getfield 79, 3)) ∧ (fdecl cJ5_append_cf1ce.data.toList 29 = some (.aload_n 1, 1)) ∧ (fdecl cJ5_append_cf1ce.data.toList 30 = some (.invokevirtual 208, 3)) ∧ (fdecl cJ5_append_cf1ce.data.toList 33 = some (.aload_n 0, 1)) ∧ (fdecl cJ5_append_cf1ce.data.toList 34 = some (.dup, 1)) ∧ (fdecl cJ5_append_cf1ce.data.toList 35 = some (.getfield 79, 3)) ∧ (fdecl cJ5_append_cf1ce.data.toList 38 = some (.iload_n 2, 1)) ∧ (fdecl cJ5_append_cf1ce.data.toList 39 = some (.iadd, 1)) ∧ (fdecl cJ5_append_cf1ce.data.toList 40 = some (.putfield 79, 3)) ∧ (fdecl cJ5_append_cf1ce.data.toList 43 = some (.aload_n 0, 1)) ∧ (fdecl cJ5_append_cf1ce.data.toList 44 = some (.areturn, 1)) := by decide +kernel
theorem dJ5_append_cf1ce_26 : decode cJ5_append_cf1ce 26 = .ok (.getfield 79, 3) := fx_ok0 eJ5_append_cf1ce_26.1
theorem dJ5_append_cf1ce_29 : decode cJ5_append_cf1ce 29 = .ok (.aload_n 1, 1) := fx_ok0 eJ5_append_cf1ce_26.2.1
theorem dJ5_append_cf1ce_30 : decode cJ5_append_cf1ce 30 = .ok (.invokevirtual 208, 3) := fx_ok0 eJ5_append_cf1ce_26.2.2.1
theorem dJ5_append_cf1ce_33 : decode cJ5_append_cf1ce 33 = .ok (.aload_n 0, 1) := fx_ok0 eJ5_append_cf1ce_26.2.2.2.1
theorem dJ5_append_cf1ce_34 : decode cJ5_append_cf1ce 34 = .ok (.dup, 1) := fx_ok0 eJ5_append_cf1ce_26.2.2.2.2.1
theorem dJ5_append_cf1ce_35 : decode cJ5_append_cf1ce 35 = .ok (.getfield 79, 3) := fx_ok0 eJ5_append_cf1ce_26.2.2.2.2.2.1
theorem dJ5_append_cf1ce_38 : decode cJ5_append_cf1ce 38 = .ok (.iload_n 2, 1) := fx_ok0 eJ5_append_cf1ce_26.2.2.2.2.2.2.1
theorem dJ5_append_cf1ce_39 : decode cJ5_append_cf1ce 39 = .ok (.iadd, 1) := fx_ok0 eJ5_append_cf1ce_26.2.2.2.2.2.2.2.1
theorem dJ5_append_cf1ce_40 : decode cJ5_append_cf1ce 40 = .ok (.putfield 79, 3) := fx_ok0 eJ5_append_cf1ce_26.2.2.2.2.2.2.2.2.1
theorem dJ5_append_cf1ce_43 : decode cJ5_append_cf1ce 43 = .ok (.aload_n 0, 1) := fx_ok0 eJ5_append_cf1ce_26.2.2.2.2.2.2.2.2.2.1
theorem dJ5_append_cf1ce_44 : decode cJ5_append_cf1ce 44 = .ok (.areturn, 1) := fx_ok0 eJ5_append_cf1ce_26.2.2.2.2.2.2.2.2.2.2
theorem eJ5_appendNull_278bc_0 : (fdecl cJ5_appendNull_278bc.data.toList 0 = some (.aload_n 0, 1)) ∧ (fdecl cJ5_appendNull_278bc.data.toList 1 = some (.aload_n 0, 1)) ∧ (fdecl cJ5_appendNull_278bc.data.toList 2 = some (.getfield 79, 3)) ∧ (fdecl cJ5_appendNull_278bc.data.toList 5 = some (.iconst 4, 1)) ∧ (fdecl cJ5_appendNull_278bc.data.toList 6 = some (.iadd, 1)) ∧ (fdecl cJ5_appendNull_278bc.data.toList 7 = some (.invokevirtual 100, 3)) ∧ (fdecl cJ5_appendNull_278bc.data.toList 10 = some (.aload_n 0, 1)) ∧ (fdecl cJ5_appendNull_278bc.data.toList 11 = some (.getfield 79, 3)) ∧ (fdecl cJ5_appendNull_278bc.data.toList 14 = some (.istore_n 1, 1)) ∧ (fdecl cJ5_appendNull_278bc.data.toList 15 = some (.aload_n 0, 1)) ∧ (fdecl cJ5_appendNull_278bc.data.toList 16 = some (.getfield 15, 3)) ∧ (fdecl cJ5_appendNull_278bc.data.toList 19 = some (.astore_n 2, 1)) ∧ (fdecl cJ5_appendNull_278bc.data.toList 20 = some (.aload_n 0, 1)) ∧ (fdecl cJ5_appendNull_278bc.data.toList 21 = some (.invokevirtual 83, 3)) ∧ (fdecl cJ5_appendNull_278bc.data.toList 24 = some (.ifCond .eq 38, 3)) ∧ (fdecl cJ5_appendNull_278bc.data.toList 27 = some (.aload_n 2, 1)) := by decide +kernel
theorem dJ5_appendNull_278bc_0 : decode cJ5_appendNull_278bc 0 = .ok (.aload_n 0, 1) := fx_ok0 eJ5_appendNull_278bc_0.1
theorem dJ5_appendNull_278bc_1 : decode cJ5_appendNull_278bc 1 = .ok (.aload_n 0, 1) := fx_ok0 eJ5_appendNull_278bc_0.2.1
theorem dJ5_appendNull_278bc_2 : decode cJ5_appendNull_278bc 2 = .ok (.getfield 79, 3) := fx_ok0 eJ5_appendNull_278bc_0.2.2.1
theorem dJ5_appendNull_278bc_5 : decode cJ5_appendNull_278bc 5 = .ok (.iconst 4, 1) := fx_ok0 eJ5_appendNull_278bc_0.2.2.2.1
theorem dJ5_appendNull_278bc_6 : decode cJ5_appendNull_278bc 6 = .ok (.iadd, 1) := fx_ok0 eJ5_appendNull_278bc_0.2.2.2.2.1
theorem dJ5_appendNull_278bc_7 : decode cJ5_appendNull_278bc 7 = .ok (.invokevirtual 100, 3) := fx_ok0 eJ5_appendNull_278bc_0.2.2.2.2.2.1
theorem dJ5_appendNull_278bc_10 : decode cJ5_appendNull_278bc 10 = .ok (.aload_n 0, 1) := fx_ok0 eJ5_appendNull_278bc_0.2.2.2.2.2.2.1
theorem dJ5_appendNull_278bc_11 : decode cJ5_appendNull_278bc 11 = .ok (.getfield 79, 3) := fx_ok0 eJ5_appendNull_278bc_0.2.2.2.2.2.2.2.1
theorem dJ5_appendNull_278bc_14 : decode cJ5_appendNull_278bc 14 = .ok (.istore_n 1, 1) := fx_ok0 eJ5_appendNull_278bc_0.2.2.2.2.2.2.2.2.1
theorem dJ5_appendNull_278bc_15 : decode cJ5_appendNull_278bc 15 = .ok (.aload_n 0, 1) := fx_ok0 eJ5_appendNull_278bc_0.2.2.2.2.2.2.2.2.2.1
theorem dJ5_appendNull_278bc_16 : decode cJ5_appendNull_278bc 16 = .ok (.getfield 15, 3) := fx_ok0 eJ5_appendNull_278bc_0.2.2.2.2.2.2.2.2.2.2.1
theorem dJ5_appendNull_278bc_19 : decode cJ5_appendNull_278bc 19 = .ok (.astore_n 2, 1) := fx_ok0 eJ5_appendNull_278bc_0.2.2.2.2.2.2.2.2.2.2.2.1
theorem dJ5_appendNull_278bc_20 : decode cJ5_appendNull_278bc 20 = .ok (.aload_n 0, 1) := fx_ok0 eJ5_appendNull_278bc_0.2.2.2.2.2.2.2.2.2.2.2.2.1
theorem dJ5_appendNull_278bc_21 : decode cJ5_appendNull_278bc 21 = .ok (.invokevirtual 83, 3) := fx_ok0 eJ5_appendNull_278bc_0.2.2.2.2.2.2.2.2.2.2.2.2.2.1
theorem dJ5_appendNull_278bc_24 : decode cJ5_appendNull_278bc 24 = .ok (.ifCond .eq 38, 3) := fx_ok0 eJ5_appendNull_278bc_0.2.2.2.2.2.2.2.2.2.2.2.2.2.2.1
theorem dJ5_appendNull_278bc_27 : decode cJ5_appendNull_278bc 27 = .ok (.aload_n 2, 1) := fx_ok0 eJ5_appendNull_278bc_0.2.2.2.2.2.2.2.2.2.2.2.2.2.2.2
theorem eJ5_appendNull_278bc_28 : (fdecl cJ5_appendNull_278bc.data.toList 28 = some (.iload_n 1, 1)) ∧ (fdecl cJ5_appendNull_278bc.data.toList 32 = some (.bipush 110, 2)) ∧ (fdecl cJ5_appendNull_278bc.data.toList 34 = some (.bastore, 1)) ∧ (fdecl cJ5_appendNull_278bc.data.toList 35 = some (.aload_n 2, 1)) ∧ (fdecl cJ5_appendNull_278bc.data.toList 36 = some (.iload_n 1, 1)) ∧ (fdecl cJ5_appendNull_278bc.data.toList 40 = some (.bipush 117, 2)) ∧ (fdecl cJ5_appendNull_278bc.data.toList 42 = some (.bastore, 1)) ∧ (fdecl cJ5_appendNull_278bc.data.toList 43 = some (.aload_n 2, 1)) ∧ (fdecl cJ5_appendNull_278bc.data.toList 44 = some (.iload_n 1, 1)) ∧ (fdecl cJ5_appendNull_278bc.data.toList 48 = some (.bipush 108, 2)) ∧ (fdecl cJ5_appendNull_278bc.data.toList 50 = some (.bastore, 1)) ∧ (fdecl cJ5_appendNull_278bc.data.toList 51 = some (.aload_n 2, 1)) ∧ (fdecl cJ5_appendNull_278bc.data.toList 52 = some (.iload_n 1, 1)) ∧ (fdecl cJ5_appendNull_278bc.data.toList 56 = some (.bipush 108, 2)) ∧ (fdecl cJ5_appendNull_278bc.data.toList 58 = some (.bastore, 1)) ∧ (fdecl cJ5_appendNull_278bc.data.toList 59 = some (.goto 17, 3)) := by decide +kernel
theorem dJ5_appendNull_278bc_28 : decode cJ5_appendNull_278bc 28 = .ok (.iload_n 1, 1) := fx_ok0 eJ5_appendNull_278bc_28.1
theorem dJ5_appendNull_278bc_32 : decode cJ5_appendNull_278bc 32 = .ok (.bipush 110, 2) := fx_ok0 eJ5_appendNull_278bc_28.2.1
theorem dJ5_appendNull_278bc_34 : decode cJ5_appendNull_278bc 34 = .ok (.bastore, 1) := fx_ok0 eJ5_appendNull_278bc_28.2.2.1
theorem dJ5_appendNull_278bc_35 : decode cJ5_appendNull_278bc 35 = .ok (.aload_n 2, 1) := fx_ok0 eJ5_appendNull_278bc_28.2.2.2.1
theorem dJ5_appendNull_278bc_36 : decode cJ5_appendNull_278bc 36 = .ok (.iload_n 1, 1) := fx_ok0 eJ5_appendNull_278bc_28.2.2.2.2.1
theorem dJ5_appendNull_278bc_40 : decode cJ5_appendNull_278bc 40 = .ok (.bipush 117, 2) := fx_ok0 eJ5_appendNull_278bc_28.2.2.2.2.2.1
theorem dJ5_appendNull_278bc_42 : decode cJ5_appendNull_278bc 42 = .ok (.bastore, 1) := fx_ok0 eJ5_appendNull_278bc_28.2.2.2.2.2.2.1
theorem dJ5_appendNull_278bc_43 : decode cJ5_appendNull_278bc 43 = .ok (.aload_n 2, 1) := fx_ok0 eJ5_appendNull_278bc_28.2.2.2.2.2.2.2.1
theorem dJ5_appendNull_278bc_44 : decode cJ5_appendNull_278bc 44 = .ok (.iload_n 1, 1) := fx_ok0 eJ5_appendNull_278bc_28.2.2.2.2.2.2.2.2.1
theorem dJ5_appendNull_278bc_48 : decode cJ5_appendNull_278bc 48 = .ok (.bipush 108, 2) := fx_ok0 eJ5_appendNull_278bc_28.2.2.2.2.2.2.2.2.2.1
theorem dJ5_appendNull_278bc_50 : decode cJ5_appendNull_278bc 50 = .ok (.bastore, 1) := fx_ok0 eJ5_appendNull_278bc_28.2.2.2.2.2.2.2.2.2.2.1
theorem dJ5_appendNull_278bc_51 : decode cJ5_appendNull_278bc 51 = .ok (.aload_n 2, 1) := fx_ok0 eJ5_appendNull_278bc_28.2.2.2.2.2.2.2.2.2.2.2.1
theorem dJ5_appendNull_278bc_52 : decode cJ5_appendNull_278bc 52 = .ok (.iload_n 1, 1) := fx_ok0 eJ5_appendNull_278bc_28.2.2.2.2.2.2.2.2.2.2.2.2.1
theorem dJ5_appendNull_278bc_56 : decode cJ5_appendNull_278bc 56 = .ok (.bipush 108, 2) := fx_ok0 eJ5_appendNull_278bc_28.2.2.2.2.2.2.2.2.2.2.2.2.2.1
theorem dJ5_appendNull_278bc_58 : decode cJ5_appendNull_278bc 58 = .ok (.bastore, 1) := fx_ok0 eJ5_appendNull_278bc_28.2.2.2.2.2.2.2.2.2.2.2.2.2.2.1
theorem dJ5_appendNull_278bc_59 : decode cJ5_appendNull_278bc 59 = .ok (.goto 17, 3) := fx_ok0 eJ5_appendNull_278bc_28.2.2.2.2.2.2.2.2.2.2.2.2.2.2.2
theorem eJ5_appendNull_278bc_62 : (fdecl cJ5_appendNull_278bc.data.toList 62 = some (.aload_n 2, 1)) ∧ (fdecl cJ5_appendNull_278bc.data.toList 63 = some (.iload_n 1, 1)) ∧ (fdecl cJ5_appendNull_278bc.data.toList 64 = some (.bipush 110, 2)) ∧ (fdecl cJ5_appendNull_278bc.data.toList 66 = some (.bipush 117, 2)) ∧ (fdecl cJ5_appendNull_278bc.data.toList 68 = some (.bipush 108, 2)) ∧ (fdecl cJ5_appendNull_278bc.data.toList 70 = some (.bipush 108, 2)) ∧ (fdecl cJ5_appendNull_278bc.data.toList 72 = some (.invokestatic 226, 3)) ∧ (fdecl cJ5_appendNull_278bc.data.toList 75 = some (.istore_n 1, 1)) ∧ (fdecl cJ5_appendNull_278bc.data.toList 76 = some (.aload_n 0, 1)) ∧ (fdecl cJ5_appendNull_278bc.data.toList 77 = some (.iload_n 1, 1)) ∧ (fdecl cJ5_appendNull_278bc.data.toList 78 = some (.putfield 79, 3)) ∧ (fdecl cJ5_appendNull_278bc.data.toList 81 = some (.aload_n 0, 1)) ∧ (fdecl cJ5_appendNull_278bc.data.toList 82 = some (.areturn, 1)) := by decide +kernel
theorem dJ5_appendNull_278bc_62 : decode cJ5_appendNull_278bc 62 = .ok (.aload_n 2, 1) := fx_ok0 eJ5_appendNull_278bc_62.1
theorem dJ5_appendNull_278bc_63 : decode cJ5_appendNull_278bc 63 = .ok (.iload_n 1, 1) := fx_ok0 eJ5_appendNull_278bc_62.2.1
theorem dJ5_appendNull_278bc_64 : decode cJ5_appendNull_278bc 64 = .ok (.bipush 110, 2) := fx_ok0 eJ5_appendNull_278bc_62.2.2.1
theorem dJ5_appendNull_278bc_66 : decode cJ5_appendNull_278bc 66 = .ok (.bipush 117, 2) := fx_ok0 eJ5_appendNull_278bc_62.2.2.2.1
theorem dJ5_appendNull_278bc_68 : decode cJ5_appendNull_278bc 68 = .ok (.bipush 108, 2) := fx_ok0 eJ5_appendNull_278bc_62.2.2.2.2.1
theorem dJ5_appendNull_278bc_70 : decode cJ5_appendNull_278bc 70 = .ok (.bipush 108, 2) := fx_ok0 eJ5_appendNull_278bc_62.2.2.2.2.2.1
theorem dJ5_appendNull_278bc_72 : decode cJ5_appendNull_278bc 72 = .ok (.invokestatic 226, 3) := fx_ok0 eJ5_appendNull_278bc_62.2.2.2.2.2.2.1
theorem dJ5_appendNull_278bc_75 : decode cJ5_appendNull_278bc 75 = .ok (.istore_n 1, 1) := fx_ok0 eJ5_appendNull_278bc_62.2.2.2.2.2.2.2.1
theorem dJ5_appendNull_278bc_76 : decode cJ5_appendNull_278bc 76 = .ok (.aload_n 0, 1) := fx_ok0 eJ5_appendNull_278bc_62.2.2.2.2.2.2.2.2.1
theorem dJ5_appendNull_278bc_77 : decode cJ5_appendNull_278bc 77 = .ok (.iload_n 1, 1) := fx_ok0 eJ5_appendNull_278bc_62.2.2.2.2.2.2.2.2.2.1
theorem dJ5_appendNull_278bc_78 : decode cJ5_appendNull_278bc 78 = .ok (.putfield 79, 3) := fx_ok0 eJ5_appendNull_278bc_62.2.2.2.2.2.2.2.2.2.2.1
theorem dJ5_appendNull_278bc_81 : decode cJ5_appendNull_278bc 81 = .ok (.aload_n 0, 1) := fx_ok0 eJ5_appendNull_278bc_62.2.2.2.2.2.2.2.2.2.2.2.1
theorem dJ5_appendNull_278bc_82 : decode cJ5_appendNull_278bc 82 = .ok (.areturn, 1) := fx_ok0 eJ5_appendNull_278bc_62.2.2.2.2.2.2.2.2.2.2.2.2
theorem dJ5_appendNull_278bc_29 : decode cJ5_appendNull_278bc 29 = .ok (.iinc 1 1, 3) := by decide +kernel
theorem dJ5_appendNull_278bc_37 : decode cJ5_appendNull_278bc 37 = .ok (.iinc 1 1, 3) := by decide +kernel
theorem dJ5_appendNull_278bc_45 : decode cJ5_appendNull_278bc 45 = .ok (.iinc 1 1, 3) := by decide +kernel
theorem dJ5_appendNull_278bc_53 : decode cJ5_appendNull_278bc 53 = .ok (.iinc 1 1, 3) := by decide +kernel
theorem eJ5_append_3fe6f_0 : (fdecl cJ5_append_3fe6f.data.toList 0 = some (.aload_n 0, 1)) ∧ (fdecl cJ5_append_3fe6f.data.toList 1 = some (.aload_n 0, 1)) ∧ (fdecl cJ5_append_3fe6f.data.toList 2 = some (.getfield 79, 3)) ∧ (fdecl cJ5_append_3fe6f.data.toList 5 = some (.iconst 1, 1)) ∧ (fdecl cJ5_append_3fe6f.data.toList 6 = some (.iadd, 1)) ∧ (fdecl cJ5_append_3fe6f.data.toList 7 = some (.invokevirtual 100, 3)) ∧ (fdecl cJ5_append_3fe6f.data.toList 10 = some (.aload_n 0, 1)) ∧ (fdecl cJ5_append_3fe6f.data.toList 11 = some (.invokevirtual 83, 3)) ∧ (fdecl cJ5_append_3fe6f.data.toList 14 = some (.ifCond .eq 31, 3)) ∧ (fdecl cJ5_append_3fe6f.data.toList 17 = some (.iload_n 1, 1)) ∧ (fdecl cJ5_append_3fe6f.data.toList 18 = some (.invokestatic 191, 3)) ∧ (fdecl cJ5_append_3fe6f.data.toList 21 = some (.ifCond .eq 24, 3)) ∧ (fdecl cJ5_append_3fe6f.data.toList 24 = some (.aload_n 0, 1)) ∧ (fdecl cJ5_append_3fe6f.data.toList 25 = some (.getfield 15, 3)) ∧ (fdecl cJ5_append_3fe6f.data.toList 28 = some (.aload_n 0, 1)) ∧ (fdecl cJ5_append_3fe6f.data.toList 29 = some (.dup, 1)) := by decide +kernel
theorem dJ5_append_3fe6f_0 : decode cJ5_append_3fe6f 0 = .ok (.aload_n 0, 1) := fx_ok0 eJ5_append_3fe6f_0.1
theorem dJ5_append_3fe6f_1 : decode cJ5_append_3fe6f 1 = .ok (.aload_n 0, 1) := fx_ok0 eJ5_append_3fe6f_0.2.1
theorem dJ5_append_3fe6f_2 : decode cJ5_append_3fe6f 2 = .ok (.getfield 79, 3) := fx_ok0 eJ5_append_3fe6f_0.2.2.1
theorem dJ5_append_3fe6f_5 : decode cJ5_append_3fe6f 5 = .ok (.iconst 1, 1) := fx_ok0 eJ5_append_3fe6f_0.2.2.2.1
theorem dJ5_append_3fe6f_6 : decode cJ5_append_3fe6f 6 = .ok (.iadd, 1) := fx_ok0 eJ5_append_3fe6f_0.2.2.2.2.1
theorem dJ5_append_3fe6f_7 : decode cJ5_append_3fe6f 7 = .ok (.invokevirtual 100, 3) := fx_ok0 eJ5_append_3fe6f_0.2.2.2.2.2.1
theorem dJ5_append_3fe6f_10 : decode cJ5_append_3fe6f 10 = .ok (.aload_n 0, 1) := fx_ok0 eJ5_append_3fe6f_0.2.2.2.2.2.2.1
theorem dJ5_append_3fe6f_11 : decode cJ5_append_3fe6f 11 = .ok (.invokevirtual 83, 3) := fx_ok0 eJ5_append_3fe6f_0.2.2.2.2.2.2.2.1
theorem dJ5_append_3fe6f_14 : decode cJ5_append_3fe6f 14 = .ok (.ifCond .eq 31, 3) := fx_ok0 eJ5_append_3fe6f_0.2.2.2.2.2.2.2.2.1
theorem dJ5_append_3fe6f_17 : decode cJ5_append_3fe6f 17 = .ok (.iload_n 1, 1) := fx_ok0 eJ5_append_3fe6f_0.2.2.2.2.2.2.2.2.2.1
theorem dJ5_append_3fe6f_18 : decode cJ5_append_3fe6f 18 = .ok (.invokestatic 191, 3) := fx_ok0 eJ5_append_3fe6f_0.2.2.2.2.2.2.2.2.2.2.1
theorem dJ5_append_3fe6f_21 : decode cJ5_append_3fe6f 21 = .ok (.ifCond .eq 24, 3) := fx_ok0 eJ5_append_3fe6f_0.2.2.2.2.2.2.2.2.2.2.2.1
theorem dJ5_append_3fe6f_24 : decode cJ5_append_3fe6f 24 = .ok (.aload_n 0, 1) := fx_ok0 eJ5_append_3fe6f_0.2.2.2.2.2.2.2.2.2.2.2.2.1
theorem dJ5_append_3fe6f_25 : decode cJ5_append_3fe6f 25 = .ok (.getfield 15, 3) := fx_ok0 eJ5_append_3fe6f_0.2.2.2.2.2.2.2.2.2.2.2.2.2.1
theorem dJ5_append_3fe6f_28 : decode cJ5_append_3fe6f 28 = .ok (.aload_n 0, 1) := fx_ok0 eJ5_append_3fe6f_0.2.2.2.2.2.2.2.2.2.2.2.2.2.2.1
theorem dJ5_append_3fe6f_29 : decode cJ5_append_3fe6f 29 = .ok (.dup, 1) := fx_ok0 eJ5_append_3fe6f_0.2.2.2.2.2.2.2.2.2.2.2.2.2.2.2
theorem eJ5_append_3fe6f_30 : (fdecl cJ5_append_3fe6f.data.toList 30 = some (.getfield 79, 3)) ∧ (fdecl cJ5_append_3fe6f.data.toList 33 = some (.dup_x1, 1)) ∧ (fdecl cJ5_append_3fe6f.data.toList 34 = some (.iconst 1, 1)) ∧ (fdecl cJ5_append_3fe6f.data.toList 35 = some (.iadd, 1)) ∧ (fdecl cJ5_append_3fe6f.data.toList 36 = some (.putfield 79, 3)) ∧ (fdecl cJ5_append_3fe6f.data.toList 39 = some (.iload_n 1, 1)) ∧ (fdecl cJ5_append_3fe6f.data.toList 40 = some (.i2b, 1)) ∧ (fdecl cJ5_append_3fe6f.data.toList 41 = some (.bastore, 1)) ∧ (fdecl cJ5_append_3fe6f.data.toList 42 = some (.goto 33, 3)) ∧ (fdecl cJ5_append_3fe6f.data.toList 45 = some (.aload_n 0, 1)) ∧ (fdecl cJ5_append_3fe6f.data.toList 46 = some (.invokevirtual 83, 3)) ∧ (fdecl cJ5_append_3fe6f.data.toList 49 = some (.ifCond .eq 7, 3)) ∧ (fdecl cJ5_append_3fe6f.data.toList 52 = some (.aload_n 0, 1)) ∧ (fdecl cJ5_append_3fe6f.data.toList 53 = some (.invokevirtual 195, 3)) ∧ (fdecl cJ5_append_3fe6f.data.toList 56 = some (.aload_n 0, 1)) ∧ (fdecl cJ5_append_3fe6f.data.toList 57 = some (.getfield 15, 3)) := by decide +kernel
theorem dJ5_append_3fe6f_30 : decode cJ5_append_3fe6f 30 = .ok (.getfield 79, 3) := fx_ok0 eJ5_append_3fe6f_30.1
theorem dJ5_append_3fe6f_33 : decode cJ5_append_3fe6f 33 = .ok (.dup_x1, 1) := fx_ok0 eJ5_append_3fe6f_30.2.1
theorem dJ5_append_3fe6f_34 : decode cJ5_append_3fe6f 34 = .ok (.iconst 1, 1) := fx_ok0 eJ5_append_3fe6f_30.2.2.1
theorem dJ5_append_3fe6f_35 : decode cJ5_append_3fe6f 35 = .ok (.iadd, 1) := fx_ok0 eJ5_append_3fe6f_30.2.2.2.1
theorem dJ5_append_3fe6f_36 : decode cJ5_append_3fe6f 36 = .ok (.putfield 79, 3) := fx_ok0 eJ5_append_3fe6f_30.2.2.2.2.1
theorem dJ5_append_3fe6f_39 : decode cJ5_append_3fe6f 39 = .ok (.iload_n 1, 1) := fx_ok0 eJ5_append_3fe6f_30.2.2.2.2.2.1
theorem dJ5_append_3fe6f_40 : decode cJ5_append_3fe6f 40 = .ok (.i2b, 1) := fx_ok0 eJ5_append_3fe6f_30.2.2.2.2.2.2.1
theorem dJ5_append_3fe6f_41 : decode cJ5_append_3fe6f 41 = .ok (.bastore, 1) := fx_ok0 eJ5_append_3fe6f_30.2.2.2.2.2.2.2.1
theorem dJ5_append_3fe6f_42 : decode cJ5_append_3fe6f 42 = .ok (.goto 33, 3) := fx_ok0 eJ5_append_3fe6f_30.2.2.2.2.2.2.2.2.1
theorem dJ5_append_3fe6f_45 : decode cJ5_append_3fe6f 45 = .ok (.aload_n 0, 1) := fx_ok0 eJ5_append_3fe6f_30.2.2.2.2.2.2.2.2.2.1
theorem dJ5_append_3fe6f_46 : decode cJ5_append_3fe6f 46 = .ok (.invokevirtual 83, 3) := fx_ok0 eJ5_append_3fe6f_30.2.2.2.2.2.2.2.2.2.2.1
theorem dJ5_append_3fe6f_49 : decode cJ5_append_3fe6f 49 = .ok (.ifCond .eq 7, 3) := fx_ok0 eJ5_append_3fe6f_30.2.2.2.2.2.2.2.2.2.2.2.1
theorem dJ5_append_3fe6f_52 : decode cJ5_append_3fe6f 52 = .ok (.aload_n 0, 1) := fx_ok0 eJ5_append_3fe6f_30.2.2.2.2.2.2.2.2.2.2.2.2.1
theorem dJ5_append_3fe6f_53 : decode cJ5_append_3fe6f 53 = .ok (.invokevirtual 195, 3) := fx_ok0 eJ5_append_3fe6f_30.2.2.2.2.2.2.2.2.2.2.2.2.2.1
theorem dJ5_append_3fe6f_56 : decode cJ5_append_3fe6f 56 = .ok (.aload_n 0, 1) := fx_ok0 eJ5_append_3fe6f_30.2.2.2.2.2.2.2.2.2.2.2.2.2.2.1
theorem dJ5_append_3fe6f_57 : decode cJ5_append_3fe6f 57 = .ok (.getfield 15, 3) := fx_ok0 eJ5_append_3fe6f_30.2.2.2.2.2.2.2.2.2.2.2.2.2.2.2
theorem eJ5_append_3fe6f_60 : (fdecl cJ5_append_3fe6f.data.toList 60 = some (.aload_n 0, 1)) ∧ (fdecl cJ5_append_3fe6f.data.toList 61 = some (.dup, 1)) ∧ (fdecl cJ5_append_3fe6f.data.toList 62 = some (.getfield 79, 3)) ∧ (fdecl cJ5_append_3fe6f.data.toList 65 = some (.dup_x1, 1)) ∧ (fdecl cJ5_append_3fe6f.data.toList 66 = some (.iconst 1, 1)) ∧ (fdecl cJ5_append_3fe6f.data.toList 67 = some (.iadd, 1)) ∧ (fdecl cJ5_append_3fe6f.data.toList 68 = some (.putfield 79, 3)) ∧ (fdecl cJ5_append_3fe6f.data.toList 71 = some (.iload_n 1, 1)) ∧ (fdecl cJ5_append_3fe6f.data.toList 72 = some (.invokestatic 197, 3)) ∧ (fdecl cJ5_append_3fe6f.data.toList 75 = some (.aload_n 0, 1)) ∧ (fdecl cJ5_append_3fe6f.data.toList 76 = some (.areturn, 1)) := by decide +kernel
theorem dJ5_append_3fe6f_60 : decode cJ5_append_3fe6f 60 = .ok (.aload_n 0, 1) := fx_ok0 eJ5_append_3fe6f_60.1
theorem dJ5_append_3fe6f_61 : decode cJ5_append_3fe6f 61 = .ok (.dup, 1) := fx_ok0 eJ5_append_3fe6f_60.2.1
theorem dJ5_append_3fe6f_62 : decode cJ5_append_3fe6f 62 = .ok (.getfield 79, 3) := fx_ok0 eJ5_append_3fe6f_60.2.2.1
theorem dJ5_append_3fe6f_65 : decode cJ5_append_3fe6f 65 = .ok (.dup_x1, 1) := fx_ok0 eJ5_append_3fe6f_60.2.2.2.1
theorem dJ5_append_3fe6f_66 : decode cJ5_append_3fe6f 66 = .ok (.iconst 1, 1) := fx_ok0 eJ5_append_3fe6f_60.2.2.2.2.1
theorem dJ5_append_3fe6f_67 : decode cJ5_append_3fe6f 67 = .ok (.iadd, 1) := fx_ok0 eJ5_append_3fe6f_60.2.2.2.2.2.1
theorem dJ5_append_3fe6f_68 : decode cJ5_append_3fe6f 68 = .ok (.putfield 79, 3) := fx_ok0 eJ5_append_3fe6f_60.2.2.2.2.2.2.1
theorem dJ5_append_3fe6f_71 : decode cJ5_append_3fe6f 71 = .ok (.iload_n 1, 1) := fx_ok0 eJ5_append_3fe6f_60.2.2.2.2.2.2.2.1
theorem dJ5_append_3fe6f_72 : decode cJ5_append_3fe6f 72 = .ok (.invokestatic 197, 3) := fx_ok0 eJ5_append_3fe6f_60.2.2.2.2.2.2.2.2.1
theorem dJ5_append_3fe6f_75 : decode cJ5_append_3fe6f 75 = .ok (.aload_n 0, 1) := fx_ok0 eJ5_append_3fe6f_60.2.2.2.2.2.2.2.2.2.1
theorem dJ5_append_3fe6f_76 : decode cJ5_append_3fe6f 76 = .ok (.areturn, 1) := fx_ok0 eJ5_append_3fe6f_60.2.2.2.2.2.2.2.2.2.2
theorem eJ5_append_c97b9_0 : (fdecl cJ5_append_c97b9.data.toList 0 = some (.aload_n 0, 1)) ∧ (fdecl cJ5_append_c97b9.data.toList 1 = some (.getfield 79, 3)) ∧ (fdecl cJ5_append_c97b9.data.toList 4 = some (.istore_n 2, 1)) ∧ (fdecl cJ5_append_c97b9.data.toList 5 = some (.iload_n 2, 1)) ∧ (fdecl cJ5_append_c97b9.data.toList 6 = some (.iload_n 1, 1)) ∧ (fdecl cJ5_append_c97b9.data.toList 7 = some (.invokestatic 245, 3)) ∧ (fdecl cJ5_append_c97b9.data.toList 10 = some (.iadd, 1)) ∧ (fdecl cJ5_append_c97b9.data.toList 11 = some (.istore_n 3, 1)) ∧ (fdecl cJ5_append_c97b9.data.toList 12 = some (.aload_n 0, 1)) ∧ (fdecl cJ5_append_c97b9.data.toList 13 = some (.iload_n 3, 1)) ∧ (fdecl cJ5_append_c97b9.data.toList 14 = some (.invokevirtual 100, 3)) ∧ (fdecl cJ5_append_c97b9.data.toList 17 = some (.aload_n 0, 1)) ∧ (fdecl cJ5_append_c97b9.data.toList 18 = some (.invokevirtual 83, 3)) ∧ (fdecl cJ5_append_c97b9.data.toList 21 = some (.ifCond .eq 16, 3)) ∧ (fdecl cJ5_append_c97b9.data.toList 24 = some (.iload_n 1, 1)) ∧ (fdecl cJ5_append_c97b9.data.toList 25 = some (.iload_n 3, 1)) := by decide +kernel
theorem dJ5_append_c97b9_0 : decode cJ5_append_c97b9 0 = .ok (.aload_n 0, 1) := fx_ok0 eJ5_append_c97b9_0.1
theorem dJ5_append_c97b9_1 : decode cJ5_append_c97b9 1 = .ok (.getfield 79, 3) := fx_ok0 eJ5_append_c97b9_0.2.1
theorem dJ5_append_c97b9_4 : decode cJ5_append_c97b9 4 = .ok (.istore_n 2, 1) := fx_ok0 eJ5_append_c97b9_0.2.2.1
theorem dJ5_append_c97b9_5 : decode cJ5_append_c97b9 5 = .ok (.iload_n 2, 1) := fx_ok0 eJ5_append_c97b9_0.2.2.2.1
theorem dJ5_append_c97b9_6 : decode cJ5_append_c97b9 6 = .ok (.iload_n 1, 1) := fx_ok0 eJ5_append_c97b9_0.2.2.2.2.1
theorem dJ5_append_c97b9_7 : decode cJ5_append_c97b9 7 = .ok (.invokestatic 245, 3) := fx_ok0 eJ5_append_c97b9_0.2.2.2.2.2.1
theorem dJ5_append_c97b9_10 : decode cJ5_append_c97b9 10 = .ok (.iadd, 1) := fx_ok0 eJ5_append_c97b9_0.2.2.2.2.2.2.1
theorem dJ5_append_c97b9_11 : decode cJ5_append_c97b9 11 = .ok (.istore_n 3, 1) := fx_ok0 eJ5_append_c97b9_0.2.2.2.2.2.2.2.1
theorem dJ5_append_c97b9_12 : decode cJ5_append_c97b9 12 = .ok (.aload_n 0, 1) := fx_ok0 eJ5_append_c97b9_0.2.2.2.2.2.2.2.2.1
theorem dJ5_append_c97b9_13 : decode cJ5_append_c97b9 13 = .ok (.iload_n 3, 1) := fx_ok0 eJ5_append_c97b9_0.2.2.2.2.2.2.2.2.2.1
theorem dJ5_append_c97b9_14 : decode cJ5_append_c97b9 14 = .ok (.invokevirtual 100, 3) := fx_ok0 eJ5_append_c97b9_0.2.2.2.2.2.2.2.2.2.2.1
theorem dJ5_append_c97b9_17 : decode cJ5_append_c97b9 17 = .ok (.aload_n 0, 1) := fx_ok0 eJ5_append_c97b9_0.2.2.2.2.2.2.2.2.2.2.2.1
theorem dJ5_append_c97b9_18 : decode cJ5_append_c97b9 18 = .ok (.invokevirtual 83, 3) := fx_ok0 eJ5_append_c97b9_0.2.2.2.2.2.2.2.2.2.2.2.2.1
theorem dJ5_append_c97b9_21 : decode cJ5_append_c97b9 21 = .ok (.ifCond .eq 16, 3) := fx_ok0 eJ5_append_c97b9_0.2.2.2.2.2.2.2.2.2.2.2.2.2.1
theorem dJ5_append_c97b9_24 : decode cJ5_append_c97b9 24 = .ok (.iload_n 1, 1) := fx_ok0 eJ5_append_c97b9_0.2.2.2.2.2.2.2.2.2.2.2.2.2.2.1
theorem dJ5_append_c97b9_25 : decode cJ5_append_c97b9 25 = .ok (.iload_n 3, 1) := fx_ok0 eJ5_append_c97b9_0.2.2.2.2.2.2.2.2.2.2.2.2.2.2.2
theorem eJ5_append_c97b9_26 : (fdecl cJ5_append_c97b9.data.toList 26 = some (.aload_n 0, 1)) ∧ (fdecl cJ5_append_c97b9.data.toList 27 = some (.getfield 15, 3)) ∧ (fdecl cJ5_append_c97b9.data.toList 30 = some (.invokestatic 248, 3)) ∧ (fdecl cJ5_append_c97b9.data.toList 33 = some (.pop, 1)) ∧ (fdecl cJ5_append_c97b9.data.toList 34 = some (.goto 14, 3)) ∧ (fdecl cJ5_append_c97b9.data.toList 37 = some (.iload_n 1, 1)) ∧ (fdecl cJ5_append_c97b9.data.toList 38 = some (.iload_n 2, 1)) ∧ (fdecl cJ5_append_c97b9.data.toList 39 = some (.iload_n 3, 1)) ∧ (fdecl cJ5_append_c97b9.data.toList 40 = some (.aload_n 0, 1)) ∧ (fdecl cJ5_append_c97b9.data.toList 41 = some (.getfield 15, 3)) ∧ (fdecl cJ5_append_c97b9.data.toList 44 = some (.invokestatic 251, 3)) ∧ (fdecl cJ5_append_c97b9.data.toList 47 = some (.pop, 1)) ∧ (fdecl cJ5_append_c97b9.data.toList 48 = some (.aload_n 0, 1)) ∧ (fdecl cJ5_append_c97b9.data.toList 49 = some (.iload_n 3, 1)) ∧ (fdecl cJ5_append_c97b9.data.toList 50 = some (.putfield 79, 3)) ∧ (fdecl cJ5_append_c97b9.data.toList 53 = some (.aload_n 0, 1)) := by decide +kernel
theorem dJ5_append_c97b9_26 : decode cJ5_append_c97b9 26 = .ok (.aload_n 0, 1) := fx_ok0 eJ5_append_c97b9_26.1
theorem dJ5_append_c97b9_27 : decode cJ5_append_c97b9 27 = .ok (.getfield 15, 3) := fx_ok0 eJ5_append_c97b9_26.2.1
theorem dJ5_append_c97b9_30 : decode cJ5_append_c97b9 30 = .ok (.invokestatic 248, 3) := fx_ok0 eJ5_append_c97b9_26.2.2.1
theorem dJ5_append_c97b9_33 : decode cJ5_append_c97b9 33 = .ok (.pop, 1) := fx_ok0 eJ5_append_c97b9_26.2.2.2.1
theorem dJ5_append_c97b9_34 : decode cJ5_append_c97b9 34 = .ok (.goto 14, 3) := fx_ok0 eJ5_append_c97b9_26.2.2.2.2.1
theorem dJ5_append_c97b9_37 : decode cJ5_append_c97b9 37 = .ok (.iload_n 1, 1) := fx_ok0 eJ5_append_c97b9_26.2.2.2.2.2.1
theorem dJ5_append_c97b9_38 : decode cJ5_append_c97b9 38 = .ok (.iload_n 2, 1) := fx_ok0 eJ5_append_c97b9_26.2.2.2.2.2.2.1
theorem dJ5_append_c97b9_39 : decode cJ5_append_c97b9 39 = .ok (.iload_n 3, 1) := fx_ok0 eJ5_append_c97b9_26.2.2.2.2.2.2.2.1
theorem dJ5_append_c97b9_40 : decode cJ5_append_c97b9 40 = .ok (.aload_n 0, 1) := fx_ok0 eJ5_append_c97b9_26.2.2.2.2.2.2.2.2.1
theorem dJ5_append_c97b9_41 : decode cJ5_append_c97b9 41 = .ok (.getfield 15, 3) := fx_ok0 eJ5_append_c97b9_26.2.2.2.2.2.2.2.2.2.1
theorem dJ5_append_c97b9_44 : decode cJ5_append_c97b9 44 = .ok (.invokestatic 251, 3) := fx_ok0 eJ5_append_c97b9_26.2.2.2.2.2.2.2.2.2.2.1
theorem dJ5_append_c97b9_47 : decode cJ5_append_c97b9 47 = .ok (.pop, 1) := fx_ok0 eJ5_append_c97b9_26.2.2.2.2.2.2.2.2.2.2.2.1
theorem dJ5_append_c97b9_48 : decode cJ5_append_c97b9 48 = .ok (.aload_n 0, 1) := fx_ok0 eJ5_append_c97b9_26.2.2.2.2.2.2.2.2.2.2.2.2.1
theorem dJ5_append_c97b9_49 : decode cJ5_append_c97b9 49 = .ok (.iload_n 3, 1) := fx_ok0 eJ5_append_c97b9_26.2.2.2.2.2.2.2.2.2.2.2.2.2.1
theorem dJ5_append_c97b9_50 : decode cJ5_append_c97b9 50 = .ok (.putfield 79, 3) := fx_ok0 eJ5_append_c97b9_26.2.2.2.2.2.2.2.2.2.2.2.2.2.2.1
theorem dJ5_append_c97b9_53 : decode cJ5_append_c97b9 53 = .ok (.aload_n 0, 1) := fx_ok0 eJ5_append_c97b9_26.2.2.2.2.2.2.2.2.2.2.2.2.2.2.2
theorem eJ5_append_c97b9_54 : (fdecl cJ5_append_c97b9.data.toList 54 = some (.areturn, 1)) := by decide +kernel
theorem dJ5_append_c97b9_54 : decode cJ5_append_c97b9 54 = .ok (.areturn, 1) := fx_ok0 eJ5_append_c97b9_54
theorem eJ5_getValue_6d5f1_0 : (fdecl cJ5_getValue_6d5f1.data.toList 0 = some (.aload_n 0, 1)) ∧ (fdecl cJ5_getValue_6d5f1.data.toList 1 = some (.getfield 15, 3)) ∧ (fdecl cJ5_getValue_6d5f1.data.toList 4 = some (.areturn, 1)) := by decide +kernel
theorem dJ5_getValue_6d5f1_0 : decode cJ5_getValue_6d5f1 0 = .ok (.aload_n 0, 1) := fx_ok0 eJ5_getValue_6d5f1_0.1
theorem dJ5_getValue_6d5f1_1 : decode cJ5_getValue_6d5f1 1 = .ok (.getfield 15, 3) := fx_ok0 eJ5_getValue_6d5f1_0.2.1
theorem dJ5_getValue_6d5f1_4 : decode cJ5_getValue_6d5f1 4 = .ok (.areturn, 1) := fx_ok0 eJ5_getValue_6d5f1_0.2.2
theorem eJ5_isLatin1_aae02_0 : (fdecl cJ5_isLatin1_aae02.data.toList 0 = some (.getstatic 18, 3)) ∧ (fdecl cJ5_isLatin1_aae02.data.toList 3 = some (.ifCond .eq 14, 3)) ∧ (fdecl cJ5_isLatin1_aae02.data.toList 6 = some (.aload_n 0, 1)) ∧ (fdecl cJ5_isLatin1_aae02.data.toList 7 = some (.getfield 22, 3)) ∧ (fdecl cJ5_isLatin1_aae02.data.toList 10 = some (.ifCond .ne 7, 3)) ∧ (fdecl cJ5_isLatin1_aae02.data.toList 13 = some (.iconst 1, 1)) ∧ (fdecl cJ5_isLatin1_aae02.data.toList 14 = some (.goto 4, 3)) ∧ (fdecl cJ5_isLatin1_aae02.data.toList 17 = some (.iconst 0, 1)) ∧ (fdecl cJ5_isLatin1_aae02.data.toList 18 = some (.ireturn, 1)) := by decide +kernel
theorem dJ5_isLatin1_aae02_0 : decode cJ5_isLatin1_aae02 0 = .ok (.getstatic 18, 3) := fx_ok0 eJ5_isLatin1_aae02_0.1
theorem dJ5_isLatin1_aae02_3 : decode cJ5_isLatin1_aae02 3 = .ok (.ifCond .eq 14, 3) := fx_ok0 eJ5_isLatin1_aae02_0.2.1
theorem dJ5_isLatin1_aae02_6 : decode cJ5_isLatin1_aae02 6 = .ok (.aload_n 0, 1) := fx_ok0 eJ5_isLatin1_aae02_0.2.2.1
theorem dJ5_isLatin1_aae02_7 : decode cJ5_isLatin1_aae02 7 = .ok (.getfield 22, 3) := fx_ok0 eJ5_isLatin1_aae02_0.2.2.2.1
theorem dJ5_isLatin1_aae02_10 : decode cJ5_isLatin1_aae02 10 = .ok (.ifCond .ne 7, 3) := fx_ok0 eJ5_isLatin1_aae02_0.2.2.2.2.1
theorem dJ5_isLatin1_aae02_13 : decode cJ5_isLatin1_aae02 13 = .ok (.iconst 1, 1) := fx_ok0 eJ5_isLatin1_aae02_0.2.2.2.2.2.1
theorem dJ5_isLatin1_aae02_14 : decode cJ5_isLatin1_aae02 14 = .ok (.goto 4, 3) := fx_ok0 eJ5_isLatin1_aae02_0.2.2.2.2.2.2.1
theorem dJ5_isLatin1_aae02_17 : decode cJ5_isLatin1_aae02 17 = .ok (.iconst 0, 1) := fx_ok0 eJ5_isLatin1_aae02_0.2.2.2.2.2.2.2.1
theorem dJ5_isLatin1_aae02_18 : decode cJ5_isLatin1_aae02 18 = .ok (.ireturn, 1) := fx_ok0 eJ5_isLatin1_aae02_0.2.2.2.2.2.2.2.2
theorem eJ5_inflateIfNeededFor_a7421_0 : (fdecl cJ5_inflateIfNeededFor_a7421.data.toList 0 = some (.getstatic 18, 3)) ∧ (fdecl cJ5_inflateIfNeededFor_a7421.data.toList 3 = some (.ifCond .eq 18, 3)) ∧ (fdecl cJ5_inflateIfNeededFor_a7421.data.toList 6 = some (.aload_n 0, 1)) ∧ (fdecl cJ5_inflateIfNeededFor_a7421.data.toList 7 = some (.getfield 22, 3)) ∧ (fdecl cJ5_inflateIfNeededFor_a7421.data.toList 10 = some (.aload_n 1, 1)) ∧ (fdecl cJ5_inflateIfNeededFor_a7421.data.toList 11 = some (.invokevirtual 40, 3)) ∧ (fdecl cJ5_inflateIfNeededFor_a7421.data.toList 14 = some (.if_icmp .eq 7, 3)) ∧ (fdecl cJ5_inflateIfNeededFor_a7421.data.toList 17 = some (.aload_n 0, 1)) ∧ (fdecl cJ5_inflateIfNeededFor_a7421.data.toList 18 = some (.invokevirtual 195, 3)) ∧ (fdecl cJ5_inflateIfNeededFor_a7421.data.toList 21 = some (.return_, 1)) := by decide +kernel
theorem dJ5_inflateIfNeededFor_a7421_0 : decode cJ5_inflateIfNeededFor_a7421 0 = .ok (.getstatic 18, 3) := fx_ok0 eJ5_inflateIfNeededFor_a7421_0.1
theorem dJ5_inflateIfNeededFor_a7421_3 : decode cJ5_inflateIfNeededFor_a7421 3 = .ok (.ifCond .eq 18, 3) := fx_ok0 eJ5_inflateIfNeededFor_a7421_0.2.1
theorem dJ5_inflateIfNeededFor_a7421_6 : decode cJ5_inflateIfNeededFor_a7421 6 = .ok (.aload_n 0, 1) := fx_ok0 eJ5_inflateIfNeededFor_a7421_0.2.2.1
theorem dJ5_inflateIfNeededFor_a7421_7 : decode cJ5_inflateIfNeededFor_a7421 7 = .ok (.getfield 22, 3) := fx_ok0 eJ5_inflateIfNeededFor_a7421_0.2.2.2.1
theorem dJ5_inflateIfNeededFor_a7421_10 : decode cJ5_inflateIfNeededFor_a7421 10 = .ok (.aload_n 1, 1) := fx_ok0 eJ5_inflateIfNeededFor_a7421_0.2.2.2.2.1
theorem dJ5_inflateIfNeededFor_a7421_11 : decode cJ5_inflateIfNeededFor_a7421 11 = .ok (.invokevirtual 40, 3) := fx_ok0 eJ5_inflateIfNeededFor_a7421_0.2.2.2.2.2.1
theorem dJ5_inflateIfNeededFor_a7421_14 : decode cJ5_inflateIfNeededFor_a7421 14 = .ok (.if_icmp .eq 7, 3) := fx_ok0 eJ5_inflateIfNeededFor_a7421_0.2.2.2.2.2.2.1
theorem dJ5_inflateIfNeededFor_a7421_17 : decode cJ5_inflateIfNeededFor_a7421 17 = .ok (.aload_n 0, 1) := fx_ok0 eJ5_inflateIfNeededFor_a7421_0.2.2.2.2.2.2.2.1
theorem dJ5_inflateIfNeededFor_a7421_18 : decode cJ5_inflateIfNeededFor_a7421 18 = .ok (.invokevirtual 195, 3) := fx_ok0 eJ5_inflateIfNeededFor_a7421_0.2.2.2.2.2.2.2.2.1
theorem dJ5_inflateIfNeededFor_a7421_21 : decode cJ5_inflateIfNeededFor_a7421 21 = .ok (.return_, 1) := fx_ok0 eJ5_inflateIfNeededFor_a7421_0.2.2.2.2.2.2.2.2.2
theorem eJ5_putStringAt_47b60_0 : (fdecl cJ5_putStringAt_47b60.data.toList 0 = some (.aload_n 0, 1)) ∧ (fdecl cJ5_putStringAt_47b60.data.toList 1 = some (.aload_n 2, 1)) ∧ (fdecl cJ5_putStringAt_47b60.data.toList 2 = some (.invokevirtual 397, 3)) ∧ (fdecl cJ5_putStringAt_47b60.data.toList 5 = some (.aload_n 2, 1)) ∧ (fdecl cJ5_putStringAt_47b60.data.toList 6 = some (.aload_n 0, 1)) ∧ (fdecl cJ5_putStringAt_47b60.data.toList 7 = some (.getfield 15, 3)) ∧ (fdecl cJ5_putStringAt_47b60.data.toList 10 = some (.iload_n 1, 1)) ∧ (fdecl cJ5_putStringAt_47b60.data.toList 11 = some (.aload_n 0, 1)) ∧ (fdecl cJ5_putStringAt_47b60.data.toList 12 = some (.getfield 22, 3)) ∧ (fdecl cJ5_putStringAt_47b60.data.toList 15 = some (.invokevirtual 399, 3)) ∧ (fdecl cJ5_putStringAt_47b60.data.toList 18 = some (.return_, 1)) := by decide +kernel
theorem dJ5_putStringAt_47b60_0 : decode cJ5_putStringAt_47b60 0 = .ok (.aload_n 0, 1) := fx_ok0 eJ5_putStringAt_47b60_0.1
theorem dJ5_putStringAt_47b60_1 : decode cJ5_putStringAt_47b60 1 = .ok (.aload_n 2, 1) := fx_ok0 eJ5_putStringAt_47b60_0.2.1
theorem dJ5_putStringAt_47b60_2 : decode cJ5_putStringAt_47b60 2 = .ok (.invokevirtual 397, 3) := fx_ok0 eJ5_putStringAt_47b60_0.2.2.1
theorem dJ5_putStringAt_47b60_5 : decode cJ5_putStringAt_47b60 5 = .ok (.aload_n 2, 1) := fx_ok0 eJ5_putStringAt_47b60_0.2.2.2.1
theorem dJ5_putStringAt_47b60_6 : decode cJ5_putStringAt_47b60 6 = .ok (.aload_n 0, 1) := fx_ok0 eJ5_putStringAt_47b60_0.2.2.2.2.1
theorem dJ5_putStringAt_47b60_7 : decode cJ5_putStringAt_47b60 7 = .ok (.getfield 15, 3) := fx_ok0 eJ5_putStringAt_47b60_0.2.2.2.2.2.1
theorem dJ5_putStringAt_47b60_10 : decode cJ5_putStringAt_47b60 10 = .ok (.iload_n 1, 1) := fx_ok0 eJ5_putStringAt_47b60_0.2.2.2.2.2.2.1
theorem dJ5_putStringAt_47b60_11 : decode cJ5_putStringAt_47b60 11 = .ok (.aload_n 0, 1) := fx_ok0 eJ5_putStringAt_47b60_0.2.2.2.2.2.2.2.1
theorem dJ5_putStringAt_47b60_12 : decode cJ5_putStringAt_47b60 12 = .ok (.getfield 22, 3) := fx_ok0 eJ5_putStringAt_47b60_0.2.2.2.2.2.2.2.2.1
theorem dJ5_putStringAt_47b60_15 : decode cJ5_putStringAt_47b60 15 = .ok (.invokevirtual 399, 3) := fx_ok0 eJ5_putStringAt_47b60_0.2.2.2.2.2.2.2.2.2.1
theorem dJ5_putStringAt_47b60_18 : decode cJ5_putStringAt_47b60 18 = .ok (.return_, 1) := fx_ok0 eJ5_putStringAt_47b60_0.2.2.2.2.2.2.2.2.2.2
def fAJ6_getChars_ba4f3_0 : List UInt8 := [27, 54, 5, 26, 156, 0, 7, 4, 167, 0, 4, 3, 54, 6, 21, 6, 154, 0, 6, 26, 116, 59, 26, 16, 156, 163, 0, 47, 26, 16, 100, 108, 62, 29, 16, 100, 104, 26, 100, 54, 4, 29, 59, 44, 132, 5, 255, 21, 5, 178, 0, 83, 21, 4, 51, 84, 44, 132, 5, 255, 21, 5, 178, 0]
def fAJ6_getChars_ba4f3_1 : List UInt8 := [87, 21, 4, 51, 84, 167, 255, 209, 44, 132, 5, 255, 21, 5, 178, 0, 83, 26, 116, 51, 84, 26, 16, 247, 162, 0, 16, 44, 132, 5, 255, 21, 5, 178, 0, 87, 26, 116, 51, 84, 21, 6, 153, 0, 12, 44, 132, 5, 255, 21, 5, 16, 45, 84, 21, 5, 172]
def fTJ6_getChars_ba4f3_1 : List UInt8 := fAJ6_getChars_ba4f3_1
def fTJ6_getChars_ba4f3_0 : List UInt8 := fAJ6_getChars_ba4f3_0 ++ fTJ6_getChars_ba4f3_1
theorem fDJ6_getChars_ba4f3_0 : cJ6_getChars_ba4f3.data.toList.drop 0 = fTJ6_getChars_ba4f3_0 := eq_of_beq (by decide +kernel)
theorem fDJ6_getChars_ba4f3_1 : cJ6_getChars_ba4f3.data.toList.drop 64 = fTJ6_getChars_ba4f3_1 := fx_nx (d := 0) (n := 64) (a := fAJ6_getChars_ba4f3_0) fDJ6_getChars_ba4f3_0 rfl
theorem eJ6_getChars_ba4f3_0 : (fdecl fTJ6_getChars_ba4f3_0 0 = some (.iload_n 1, 1)) ∧ (fdecl fTJ6_getChars_ba4f3_0 1 = some (.istore 5, 2)) ∧ (fdecl fTJ6_getChars_ba4f3_0 3 = some (.iload_n 0, 1)) ∧ (fdecl fTJ6_getChars_ba4f3_0 4 = some (.ifCond .ge 7, 3)) ∧ (fdecl fTJ6_getChars_ba4f3_0 7 = some (.iconst 1, 1)) ∧ (fdecl fTJ6_getChars_ba4f3_0 8 = some (.goto 4, 3)) ∧ (fdecl fTJ6_getChars_ba4f3_0 11 = some (.iconst 0, 1)) ∧ (fdecl fTJ6_getChars_ba4f3_0 12 = some (.istore 6, 2)) ∧ (fdecl fTJ6_getChars_ba4f3_0 14 = some (.iload 6, 2)) ∧ (fdecl fTJ6_getChars_ba4f3_0 16 = some (.ifCond .ne 6, 3)) ∧ (fdecl fTJ6_getChars_ba4f3_0 19 = some (.iload_n 0, 1)) ∧ (fdecl fTJ6_getChars_ba4f3_0 20 = some (.ineg, 1)) ∧ (fdecl fTJ6_getChars_ba4f3_0 21 = some (.istore_n 0, 1)) ∧ (fdecl fTJ6_getChars_ba4f3_0 22 = some (.iload_n 0, 1)) ∧ (fdecl fTJ6_getChars_ba4f3_0 23 = some (.bipush (-100), 2)) ∧ (fdecl fTJ6_getChars_ba4f3_0 25 = some (.if_icmp .gt 47, 3)) := by decide +kernel
theorem dJ6_getChars_ba4f3_0 : decode cJ6_getChars_ba4f3 0 = .ok (.iload_n 1, 1) := fx_ok (d := 0) (i := 0) fDJ6_getChars_ba4f3_0 eJ6_getChars_ba4f3_0.1
theorem dJ6_getChars_ba4f3_1 : decode cJ6_getChars_ba4f3 1 = .ok (.istore 5, 2) := fx_ok (d := 0) (i := 1) fDJ6_getChars_ba4f3_0 eJ6_getChars_ba4f3_0.2.1
theorem dJ6_getChars_ba4f3_3 : decode cJ6_getChars_ba4f3 3 = .ok (.iload_n 0, 1) := fx_ok (d := 0) (i := 3) fDJ6_getChars_ba4f3_0 eJ6_getChars_ba4f3_0.2.2.1
theorem dJ6_getChars_ba4f3_4 : decode cJ6_getChars_ba4f3 4 = .ok (.ifCond .ge 7, 3) := fx_ok (d := 0) (i := 4) fDJ6_getChars_ba4f3_0 eJ6_getChars_ba4f3_0.2.2.2.1
theorem dJ6_getChars_ba4f3_7 : decode cJ6_getChars_ba4f3 7 = .ok (.iconst 1, 1) := fx_ok (d := 0) (i := 7) fDJ6_getChars_ba4f3_0 eJ6_getChars_ba4f3_0.2.2.2.2.1
theorem dJ6_getChars_ba4f3_8 : decode cJ6_getChars_ba4f3 8 = .ok (.goto 4, 3) := fx_ok (d := 0) (i := 8) fDJ6_getChars_ba4f3_0 eJ6_getChars_ba4f3_0.2.2.2.2.2.1
theorem dJ6_getChars_ba4f3_11 : decode cJ6_getChars_ba4f3 11 = .ok (.iconst 0, 1) := fx_ok (d := 0) (i := 11) fDJ6_getChars_ba4f3_0 eJ6_getChars_ba4f3_0.2.2.2.2.2.2.1
theorem dJ6_getChars_ba4f3_12 : decode cJ6_getChars_ba4f3 12 = .ok (.istore 6, 2) := fx_ok (d := 0) (i := 12) fDJ6_getChars_ba4f3_0 eJ6_getChars_ba4f3_0.2.2.2.2.2.2.2.1
theorem dJ6_getChars_ba4f3_14 : decode cJ6_getChars_ba4f3 14 = .ok (.iload 6, 2) := fx_ok (d := 0) (i := 14) fDJ6_getChars_ba4f3_0 eJ6_getChars_ba4f3_0.2.2.2.2.2.2.2.2.1
theorem dJ6_getChars_ba4f3_16 : decode cJ6_getChars_ba4f3 16 = .ok (.ifCond .ne 6, 3) := fx_ok (d := 0) (i := 16) fDJ6_getChars_ba4f3_0 eJ6_getChars_ba4f3_0.2.2.2.2.2.2.2.2.2.1
theorem dJ6_getChars_ba4f3_19 : decode cJ6_getChars_ba4f3 19 = .ok (.iload_n 0, 1) := fx_ok (d := 0) (i := 19) fDJ6_getChars_ba4f3_0 eJ6_getChars_ba4f3_0.2.2.2.2.2.2.2.2.2.2.1
theorem dJ6_getChars_ba4f3_20 : decode cJ6_getChars_ba4f3 20 = .ok (.ineg, 1) := fx_ok (d := 0) (i := 20) fDJ6_getChars_ba4f3_0 eJ6_getChars_ba4f3_0.2.2.2.2.2.2.2.2.2.2.2.1
theorem dJ6_getChars_ba4f3_21 : decode cJ6_getChars_ba4f3 21 = .ok (.istore_n 0, 1) := fx_ok (d := 0) (i := 21) fDJ6_getChars_ba4f3_0 eJ6_getChars_ba4f3_0.2.2.2.2.2.2.2.2.2.2.2.2.1
theorem dJ6_getChars_ba4f3_22 : decode cJ6_getChars_ba4f3 22 = .ok (.iload_n 0, 1) := fx_ok (d := 0) (i := 22) fDJ6_getChars_ba4f3_0 eJ6_getChars_ba4f3_0.2.2.2.2.2.2.2.2.2.2.2.2.2.1
theorem dJ6_getChars_ba4f3_23 : decode cJ6_getChars_ba4f3 23 = .ok (.bipush (-100), 2) := fx_ok (d := 0) (i := 23) fDJ6_getChars_ba4f3_0 eJ6_getChars_ba4f3_0.2.2.2.2.2.2.2.2.2.2.2.2.2.2.1
theorem dJ6_getChars_ba4f3_25 : decode cJ6_getChars_ba4f3 25 = .ok (.if_icmp .gt 47, 3) := fx_ok (d := 0) (i := 25) fDJ6_getChars_ba4f3_0 eJ6_getChars_ba4f3_0.2.2.2.2.2.2.2.2.2.2.2.2.2.2.2
theorem eJ6_getChars_ba4f3_28 : (fdecl fTJ6_getChars_ba4f3_0 28 = some (.iload_n 0, 1)) ∧ (fdecl fTJ6_getChars_ba4f3_0 29 = some (.bipush 100, 2)) ∧ (fdecl fTJ6_getChars_ba4f3_0 31 = some (.idiv, 1)) ∧ (fdecl fTJ6_getChars_ba4f3_0 32 = some (.istore_n 3, 1)) ∧ (fdecl fTJ6_getChars_ba4f3_0 33 = some (.iload_n 3, 1)) ∧ (fdecl fTJ6_getChars_ba4f3_0 34 = some (.bipush 100, 2)) ∧ (fdecl fTJ6_getChars_ba4f3_0 36 = some (.imul, 1)) ∧ (fdecl fTJ6_getChars_ba4f3_0 37 = some (.iload_n 0, 1)) ∧ (fdecl fTJ6_getChars_ba4f3_0 38 = some (.isub, 1)) ∧ (fdecl fTJ6_getChars_ba4f3_0 39 = some (.istore 4, 2)) ∧ (fdecl fTJ6_getChars_ba4f3_0 41 = some (.iload_n 3, 1)) ∧ (fdecl fTJ6_getChars_ba4f3_0 42 = some (.istore_n 0, 1)) ∧ (fdecl fTJ6_getChars_ba4f3_0 43 = some (.aload_n 2, 1)) ∧ (fdecl fTJ6_getChars_ba4f3_0 47 = some (.iload 5, 2)) ∧ (fdecl fTJ6_getChars_ba4f3_0 49 = some (.getstatic 83, 3)) ∧ (fdecl fTJ6_getChars_ba4f3_0 52 = some (.iload 4, 2)) := by decide +kernel
theorem dJ6_getChars_ba4f3_28 : decode cJ6_getChars_ba4f3 28 = .ok (.iload_n 0, 1) := fx_ok (d := 0) (i := 28) fDJ6_getChars_ba4f3_0 eJ6_getChars_ba4f3_28.1
theorem dJ6_getChars_ba4f3_29 : decode cJ6_getChars_ba4f3 29 = .ok (.bipush 100, 2) := fx_ok (d := 0) (i := 29) fDJ6_getChars_ba4f3_0 eJ6_getChars_ba4f3_28.2.1
theorem dJ6_getChars_ba4f3_31 : decode cJ6_getChars_ba4f3 31 = .ok (.idiv, 1) := fx_ok (d := 0) (i := 31) fDJ6_getChars_ba4f3_0 eJ6_getChars_ba4f3_28.2.2.1
theorem dJ6_getChars_ba4f3_32 : decode cJ6_getChars_ba4f3 32 = .ok (.istore_n 3, 1) := fx_ok (d := 0) (i := 32) fDJ6_getChars_ba4f3_0 eJ6_getChars_ba4f3_28.2.2.2.1
theorem dJ6_getChars_ba4f3_33 : decode cJ6_getChars_ba4f3 33 = .ok (.iload_n 3, 1) := fx_ok (d := 0) (i := 33) fDJ6_getChars_ba4f3_0 eJ6_getChars_ba4f3_28.2.2.2.2.1
theorem dJ6_getChars_ba4f3_34 : decode cJ6_getChars_ba4f3 34 = .ok (.bipush 100, 2) := fx_ok (d := 0) (i := 34) fDJ6_getChars_ba4f3_0 eJ6_getChars_ba4f3_28.2.2.2.2.2.1
theorem dJ6_getChars_ba4f3_36 : decode cJ6_getChars_ba4f3 36 = .ok (.imul, 1) := fx_ok (d := 0) (i := 36) fDJ6_getChars_ba4f3_0 eJ6_getChars_ba4f3_28.2.2.2.2.2.2.1
theorem dJ6_getChars_ba4f3_37 : decode cJ6_getChars_ba4f3 37 = .ok (.iload_n 0, 1) := fx_ok (d := 0) (i := 37) fDJ6_getChars_ba4f3_0 eJ6_getChars_ba4f3_28.2.2.2.2.2.2.2.1
theorem dJ6_getChars_ba4f3_38 : decode cJ6_getChars_ba4f3 38 = .ok (.isub, 1) := fx_ok (d := 0) (i := 38) fDJ6_getChars_ba4f3_0 eJ6_getChars_ba4f3_28.2.2.2.2.2.2.2.2.1
theorem dJ6_getChars_ba4f3_39 : decode cJ6_getChars_ba4f3 39 = .ok (.istore 4, 2) := fx_ok (d := 0) (i := 39) fDJ6_getChars_ba4f3_0 eJ6_getChars_ba4f3_28.2.2.2.2.2.2.2.2.2.1
theorem dJ6_getChars_ba4f3_41 : decode cJ6_getChars_ba4f3 41 = .ok (.iload_n 3, 1) := fx_ok (d := 0) (i := 41) fDJ6_getChars_ba4f3_0 eJ6_getChars_ba4f3_28.2.2.2.2.2.2.2.2.2.2.1
theorem dJ6_getChars_ba4f3_42 : decode cJ6_getChars_ba4f3 42 = .ok (.istore_n 0, 1) := fx_ok (d := 0) (i := 42) fDJ6_getChars_ba4f3_0 eJ6_getChars_ba4f3_28.2.2.2.2.2.2.2.2.2.2.2.1
theorem dJ6_getChars_ba4f3_43 : decode cJ6_getChars_ba4f3 43 = .ok (.aload_n 2, 1) := fx_ok (d := 0) (i := 43) fDJ6_getChars_ba4f3_0 eJ6_getChars_ba4f3_28.2.2.2.2.2.2.2.2.2.2.2.2.1
theorem dJ6_getChars_ba4f3_47 : decode cJ6_getChars_ba4f3 47 = .ok (.iload 5, 2) := fx_ok (d := 0) (i := 47) fDJ6_getChars_ba4f3_0 eJ6_getChars_ba4f3_28.2.2.2.2.2.2.2.2.2.2.2.2.2.1
theorem dJ6_getChars_ba4f3_49 : decode cJ6_getChars_ba4f3 49 = .ok (.getstatic 83, 3) := fx_ok (d := 0) (i := 49) fDJ6_getChars_ba4f3_0 eJ6_getChars_ba4f3_28.2.2.2.2.2.2.2.2.2.2.2.2.2.2.1
theorem dJ6_getChars_ba4f3_52 : decode cJ6_getChars_ba4f3 52 = .ok (.iload 4, 2) := fx_ok (d := 0) (i := 52) fDJ6_getChars_ba4f3_0 eJ6_getChars_ba4f3_28.2.2.2.2.2.2.2.2.2.2.2.2.2.2.2
theorem eJ6_getChars_ba4f3_54 : (fdecl fTJ6_getChars_ba4f3_0 54 = some (.baload, 1)) ∧ (fdecl fTJ6_getChars_ba4f3_0 55 = some (.bastore, 1)) ∧ (fdecl fTJ6_getChars_ba4f3_0 56 = some (.aload_n 2, 1)) ∧ (fdecl fTJ6_getChars_ba4f3_0 60 = some (.iload 5, 2)) ∧ (fdecl fTJ6_getChars_ba4f3_0 62 = some (.getstatic 87, 3)) ∧ (fdecl fTJ6_getChars_ba4f3_1 1 = some (.iload 4, 2)) ∧ (fdecl fTJ6_getChars_ba4f3_1 3 = some (.baload, 1)) ∧ (fdecl fTJ6_getChars_ba4f3_1 4 = some (.bastore, 1)) ∧ (fdecl fTJ6_getChars_ba4f3_1 5 = some (.goto (-47), 3)) ∧ (fdecl fTJ6_getChars_ba4f3_1 8 = some (.aload_n 2, 1)) ∧ (fdecl fTJ6_getChars_ba4f3_1 12 = some (.iload 5, 2)) ∧ (fdecl fTJ6_getChars_ba4f3_1 14 = some (.getstatic 83, 3)) ∧ (fdecl fTJ6_getChars_ba4f3_1 17 = some (.iload_n 0, 1)) ∧ (fdecl fTJ6_getChars_ba4f3_1 18 = some (.ineg, 1)) ∧ (fdecl fTJ6_getChars_ba4f3_1 19 = some (.baload, 1)) ∧ (fdecl fTJ6_getChars_ba4f3_1 20 = some (.bastore, 1)) := by decide +kernel
theorem dJ6_getChars_ba4f3_54 : decode cJ6_getChars_ba4f3 54 = .ok (.baload, 1) := fx_ok (d := 0) (i := 54) fDJ6_getChars_ba4f3_0 eJ6_getChars_ba4f3_54.1
theorem dJ6_getChars_ba4f3_55 : decode cJ6_getChars_ba4f3 55 = .ok (.bastore, 1) := fx_ok (d := 0) (i := 55) fDJ6_getChars_ba4f3_0 eJ6_getChars_ba4f3_54.2.1
theorem dJ6_getChars_ba4f3_56 : decode cJ6_getChars_ba4f3 56 = .ok (.aload_n 2, 1) := fx_ok (d := 0) (i := 56) fDJ6_getChars_ba4f3_0 eJ6_getChars_ba4f3_54.2.2.1
theorem dJ6_getChars_ba4f3_60 : decode cJ6_getChars_ba4f3 60 = .ok (.iload 5, 2) := fx_ok (d := 0) (i := 60) fDJ6_getChars_ba4f3_0 eJ6_getChars_ba4f3_54.2.2.2.1
theorem dJ6_getChars_ba4f3_62 : decode cJ6_getChars_ba4f3 62 = .ok (.getstatic 87, 3) := fx_ok (d := 0) (i := 62) fDJ6_getChars_ba4f3_0 eJ6_getChars_ba4f3_54.2.2.2.2.1
theorem dJ6_getChars_ba4f3_65 : decode cJ6_getChars_ba4f3 65 = .ok (.iload 4, 2) := fx_ok (d := 64) (i := 1) fDJ6_getChars_ba4f3_1 eJ6_getChars_ba4f3_54.2.2.2.2.2.1
theorem dJ6_getChars_ba4f3_67 : decode cJ6_getChars_ba4f3 67 = .ok (.baload, 1) := fx_ok (d := 64) (i := 3) fDJ6_getChars_ba4f3_1 eJ6_getChars_ba4f3_54.2.2.2.2.2.2.1
theorem dJ6_getChars_ba4f3_68 : decode cJ6_getChars_ba4f3 68 = .ok (.bastore, 1) := fx_ok (d := 64) (i := 4) fDJ6_getChars_ba4f3_1 eJ6_getChars_ba4f3_54.2.2.2.2.2.2.2.1
theorem dJ6_getChars_ba4f3_69 : decode cJ6_getChars_ba4f3 69 = .ok (.goto (-47), 3) := fx_ok (d := 64) (i := 5) fDJ6_getChars_ba4f3_1 eJ6_getChars_ba4f3_54.2.2.2.2.2.2.2.2.1
theorem dJ6_getChars_ba4f3_72 : decode cJ6_getChars_ba4f3 72 = .ok (.aload_n 2, 1) := fx_ok (d := 64) (i := 8) fDJ6_getChars_ba4f3_1 eJ6_getChars_ba4f3_54.2.2.2.2.2.2.2.2.2.1
theorem dJ6_getChars_ba4f3_76 : decode cJ6_getChars_ba4f3 76 = .ok (.iload 5, 2) := fx_ok (d := 64) (i := 12) fDJ6_getChars_ba4f3_1 eJ6_getChars_ba4f3_54.2.2.2.2.2.2.2.2.2.2.1
theorem dJ6_getChars_ba4f3_78 : decode cJ6_getChars_ba4f3 78 = .ok (.getstatic 83, 3) := fx_ok (d := 64) (i := 14) fDJ6_getChars_ba4f3_1 eJ6_getChars_ba4f3_54.2.2.2.2.2.2.2.2.2.2.2.1
theorem dJ6_getChars_ba4f3_81 : decode cJ6_getChars_ba4f3 81 = .ok (.iload_n 0, 1) := fx_ok (d := 64) (i := 17) fDJ6_getChars_ba4f3_1 eJ6_getChars_ba4f3_54.2.2.2.2.2.2.2.2.2.2.2.2.1
theorem dJ6_getChars_ba4f3_82 : decode cJ6_getChars_ba4f3 82 = .ok (.ineg, 1) := fx_ok (d := 64) (i := 18) fDJ6_getChars_ba4f3_1 eJ6_getChars_ba4f3_54.2.2.2.2.2.2.2.2.2.2.2.2.2.1
theorem dJ6_getChars_ba4f3_83 : decode cJ6_getChars_ba4f3 83 = .ok (.baload, 1) := fx_ok (d := 64) (i := 19) fDJ6_getChars_ba4f3_1 eJ6_getChars_ba4f3_54.2.2.2.2.2.2.2.2.2.2.2.2.2.2.1
theorem dJ6_getChars_ba4f3_84 : decode cJ6_getChars_ba4f3 84 = .ok (.bastore, 1) := fx_ok (d := 64) (i := 20) fDJ6_getChars_ba4f3_1 eJ6_getChars_ba4f3_54.2.2.2.2.2.2.2.2.2.2.2.2.2.2.2
theorem eJ6_getChars_ba4f3_85 : (fdecl fTJ6_getChars_ba4f3_1 21 = some (.iload_n 0, 1)) ∧ (fdecl fTJ6_getChars_ba4f3_1 22 = some (.bipush (-9), 2)) ∧ (fdecl fTJ6_getChars_ba4f3_1 24 = some (.if_icmp .ge 16, 3)) ∧ (fdecl fTJ6_getChars_ba4f3_1 27 = some (.aload_n 2, 1)) ∧ (fdecl fTJ6_getChars_ba4f3_1 31 = some (.iload 5, 2)) ∧ (fdecl fTJ6_getChars_ba4f3_1 33 = some (.getstatic 87, 3)) ∧ (fdecl fTJ6_getChars_ba4f3_1 36 = some (.iload_n 0, 1)) ∧ (fdecl fTJ6_getChars_ba4f3_1 37 = some (.ineg, 1)) ∧ (fdecl fTJ6_getChars_ba4f3_1 38 = some (.baload, 1)) ∧ (fdecl fTJ6_getChars_ba4f3_1 39 = some (.bastore, 1)) ∧ (fdecl fTJ6_getChars_ba4f3_1 40 = some (.iload 6, 2)) ∧ (fdecl fTJ6_getChars_ba4f3_1 42 = some (.ifCond .eq 12, 3)) ∧ (fdecl fTJ6_getChars_ba4f3_1 45 = some (.aload_n 2, 1)) ∧ (fdecl fTJ6_getChars_ba4f3_1 49 = some (.iload 5, 2)) ∧ (fdecl fTJ6_getChars_ba4f3_1 51 = some (.bipush 45, 2)) ∧ (fdecl fTJ6_getChars_ba4f3_1 53 = some (.bastore, 1)) := by decide +kernel
theorem dJ6_getChars_ba4f3_85 : decode cJ6_getChars_ba4f3 85 = .ok (.iload_n 0, 1) := fx_ok (d := 64) (i := 21) fDJ6_getChars_ba4f3_1 eJ6_getChars_ba4f3_85.1
theorem dJ6_getChars_ba4f3_86 : decode cJ6_getChars_ba4f3 86 = .ok (.bipush (-9), 2) := fx_ok (d := 64) (i := 22) fDJ6_getChars_ba4f3_1 eJ6_getChars_ba4f3_85.2.1
theorem dJ6_getChars_ba4f3_88 : decode cJ6_getChars_ba4f3 88 = .ok (.if_icmp .ge 16, 3) := fx_ok (d := 64) (i := 24) fDJ6_getChars_ba4f3_1 eJ6_getChars_ba4f3_85.2.2.1
theorem dJ6_getChars_ba4f3_91 : decode cJ6_getChars_ba4f3 91 = .ok (.aload_n 2, 1) := fx_ok (d := 64) (i := 27) fDJ6_getChars_ba4f3_1 eJ6_getChars_ba4f3_85.2.2.2.1
theorem dJ6_getChars_ba4f3_95 : decode cJ6_getChars_ba4f3 95 = .ok (.iload 5, 2) := fx_ok (d := 64) (i := 31) fDJ6_getChars_ba4f3_1 eJ6_getChars_ba4f3_85.2.2.2.2.1
theorem dJ6_getChars_ba4f3_97 : decode cJ6_getChars_ba4f3 97 = .ok (.getstatic 87, 3) := fx_ok (d := 64) (i := 33) fDJ6_getChars_ba4f3_1 eJ6_getChars_ba4f3_85.2.2.2.2.2.1
theorem dJ6_getChars_ba4f3_100 : decode cJ6_getChars_ba4f3 100 = .ok (.iload_n 0, 1) := fx_ok (d := 64) (i := 36) fDJ6_getChars_ba4f3_1 eJ6_getChars_ba4f3_85.2.2.2.2.2.2.1
theorem dJ6_getChars_ba4f3_101 : decode cJ6_getChars_ba4f3 101 = .ok (.ineg, 1) := fx_ok (d := 64) (i := 37) fDJ6_getChars_ba4f3_1 eJ6_getChars_ba4f3_85.2.2.2.2.2.2.2.1
theorem dJ6_getChars_ba4f3_102 : decode cJ6_getChars_ba4f3 102 = .ok (.baload, 1) := fx_ok (d := 64) (i := 38) fDJ6_getChars_ba4f3_1 eJ6_getChars_ba4f3_85.2.2.2.2.2.2.2.2.1
theorem dJ6_getChars_ba4f3_103 : decode cJ6_getChars_ba4f3 103 = .ok (.bastore, 1) := fx_ok (d := 64) (i := 39) fDJ6_getChars_ba4f3_1 eJ6_getChars_ba4f3_85.2.2.2.2.2.2.2.2.2.1
theorem dJ6_getChars_ba4f3_104 : decode cJ6_getChars_ba4f3 104 = .ok (.iload 6, 2) := fx_ok (d := 64) (i := 40) fDJ6_getChars_ba4f3_1 eJ6_getChars_ba4f3_85.2.2.2.2.2.2.2.2.2.2.1
theorem dJ6_getChars_ba4f3_106 : decode cJ6_getChars_ba4f3 106 = .ok (.ifCond .eq 12, 3) := fx_ok (d := 64) (i := 42) fDJ6_getChars_ba4f3_1 eJ6_getChars_ba4f3_85.2.2.2.2.2.2.2.2.2.2.2.1
theorem dJ6_getChars_ba4f3_109 : decode cJ6_getChars_ba4f3 109 = .ok (.aload_n 2, 1) := fx_ok (d := 64) (i := 45) fDJ6_getChars_ba4f3_1 eJ6_getChars_ba4f3_85.2.2.2.2.2.2.2.2.2.2.2.2.1
theorem dJ6_getChars_ba4f3_113 : decode cJ6_getChars_ba4f3 113 = .ok (.iload 5, 2) := fx_ok (d := 64) (i := 49) fDJ6_getChars_ba4f3_1 eJ6_getChars_ba4f3_85.2.2.2.2.2.2.2.2.2.2.2.2.2.1
theorem dJ6_getChars_ba4f3_115 : decode cJ6_getChars_ba4f3 115 = .ok (.bipush 45, 2) := fx_ok (d := 64) (i := 51) fDJ6_getChars_ba4f3_1 eJ6_getChars_ba4f3_85.2.2.2.2.2.2.2.2.2.2.2.2.2.2.1
theorem dJ6_getChars_ba4f3_117 : decode cJ6_getChars_ba4f3 117 = .ok (.bastore, 1) := fx_ok (d := 64) (i := 53) fDJ6_getChars_ba4f3_1 eJ6_getChars_ba4f3_85.2.2.2.2.2.2.2.2.2.2.2.2.2.2.2
theorem eJ6_getChars_ba4f3_118 : (fdecl fTJ6_getChars_ba4f3_1 54 = some (.iload 5, 2)) ∧ (fdecl fTJ6_getChars_ba4f3_1 56 = some (.ireturn, 1)) := by decide +kernel
theorem dJ6_getChars_ba4f3_118 : decode cJ6_getChars_ba4f3 118 = .ok (.iload 5, 2) := fx_ok (d := 64) (i := 54) fDJ6_getChars_ba4f3_1 eJ6_getChars_ba4f3_118.1
theorem dJ6_getChars_ba4f3_120 : decode cJ6_getChars_ba4f3 120 = .ok (.ireturn, 1) := fx_ok (d := 64) (i := 56) fDJ6_getChars_ba4f3_1 eJ6_getChars_ba4f3_118.2
theorem dJ6_getChars_ba4f3_44 : decode cJ6_getChars_ba4f3 44 = .ok (.iinc 5 (-1), 3) := by decide +kernel
theorem dJ6_getChars_ba4f3_57 : decode cJ6_getChars_ba4f3 57 = .ok (.iinc 5 (-1), 3) := by decide +kernel
theorem dJ6_getChars_ba4f3_73 : decode cJ6_getChars_ba4f3 73 = .ok (.iinc 5 (-1), 3) := by decide +kernel
theorem dJ6_getChars_ba4f3_92 : decode cJ6_getChars_ba4f3 92 = .ok (.iinc 5 (-1), 3) := by decide +kernel
theorem dJ6_getChars_ba4f3_110 : decode cJ6_getChars_ba4f3 110 = .ok (.iinc 5 (-1), 3) := by decide +kernel
theorem eJ6_stringSize_0f7a4_0 : (fdecl cJ6_stringSize_0f7a4.data.toList 0 = some (.iconst 1, 1)) ∧ (fdecl cJ6_stringSize_0f7a4.data.toList 1 = some (.istore_n 1, 1)) ∧ (fdecl cJ6_stringSize_0f7a4.data.toList 2 = some (.iload_n 0, 1)) ∧ (fdecl cJ6_stringSize_0f7a4.data.toList 3 = some (.ifCond .lt 8, 3)) ∧ (fdecl cJ6_stringSize_0f7a4.data.toList 6 = some (.iconst 0, 1)) ∧ (fdecl cJ6_stringSize_0f7a4.data.toList 7 = some (.istore_n 1, 1)) ∧ (fdecl cJ6_stringSize_0f7a4.data.toList 8 = some (.iload_n 0, 1)) ∧ (fdecl cJ6_stringSize_0f7a4.data.toList 9 = some (.ineg, 1)) ∧ (fdecl cJ6_stringSize_0f7a4.data.toList 10 = some (.istore_n 0, 1)) ∧ (fdecl cJ6_stringSize_0f7a4.data.toList 11 = some (.bipush (-10), 2)) ∧ (fdecl cJ6_stringSize_0f7a4.data.toList 13 = some (.istore_n 2, 1)) ∧ (fdecl cJ6_stringSize_0f7a4.data.toList 14 = some (.iconst 1, 1)) ∧ (fdecl cJ6_stringSize_0f7a4.data.toList 15 = some (.istore_n 3, 1)) ∧ (fdecl cJ6_stringSize_0f7a4.data.toList 16 = some (.iload_n 3, 1)) ∧ (fdecl cJ6_stringSize_0f7a4.data.toList 17 = some (.bipush 10, 2)) ∧ (fdecl cJ6_stringSize_0f7a4.data.toList 19 = some (.if_icmp .ge 23, 3)) := by decide +kernel
theorem dJ6_stringSize_0f7a4_0 : decode cJ6_stringSize_0f7a4 0 = .ok (.iconst 1, 1) := fx_ok0 eJ6_stringSize_0f7a4_0.1
theorem dJ6_stringSize_0f7a4_1 : decode cJ6_stringSize_0f7a4 1 = .ok (.istore_n 1, 1) := fx_ok0 eJ6_stringSize_0f7a4_0.2.1
theorem dJ6_stringSize_0f7a4_2 : decode cJ6_stringSize_0f7a4 2 = .ok (.iload_n 0, 1) := fx_ok0 eJ6_stringSize_0f7a4_0.2.2.1
theorem dJ6_stringSize_0f7a4_3 : decode cJ6_stringSize_0f7a4 3 = .ok (.ifCond .lt 8, 3) := fx_ok0 eJ6_stringSize_0f7a4_0.2.2.2.1
theorem dJ6_stringSize_0f7a4_6 : decode cJ6_stringSize_0f7a4 6 = .ok (.iconst 0, 1) := fx_ok0 eJ6_stringSize_0f7a4_0.2.2.2.2.1
theorem dJ6_stringSize_0f7a4_7 : decode cJ6_stringSize_0f7a4 7 = .ok (.istore_n 1, 1) := fx_ok0 eJ6_stringSize_0f7a4_0.2.2.2.2.2.1
theorem dJ6_stringSize_0f7a4_8 : decode cJ6_stringSize_0f7a4 8 = .ok (.iload_n 0, 1) := fx_ok0 eJ6_stringSize_0f7a4_0.2.2.2.2.2.2.1
theorem dJ6_stringSize_0f7a4_9 : decode cJ6_stringSize_0f7a4 9 = .ok (.ineg, 1) := fx_ok0 eJ6_stringSize_0f7a4_0.2.2.2.2.2.2.2.1
theorem dJ6_stringSize_0f7a4_10 : decode cJ6_stringSize_0f7a4 10 = .ok (.istore_n 0, 1) := fx_ok0 eJ6_stringSize_0f7a4_0.2.2.2.2.2.2.2.2.1
theorem dJ6_stringSize_0f7a4_11 : decode cJ6_stringSize_0f7a4 11 = .ok (.bipush (-10), 2) := fx_ok0 eJ6_stringSize_0f7a4_0.2.2.2.2.2.2.2.2.2.1
theorem dJ6_stringSize_0f7a4_13 : decode cJ6_stringSize_0f7a4 13 = .ok (.istore_n 2, 1) := fx_ok0 eJ6_stringSize_0f7a4_0.2.2.2.2.2.2.2.2.2.2.1
theorem dJ6_stringSize_0f7a4_14 : decode cJ6_stringSize_0f7a4 14 = .ok (.iconst 1, 1) := fx_ok0 eJ6_stringSize_0f7a4_0.2.2.2.2.2.2.2.2.2.2.2.1
theorem dJ6_stringSize_0f7a4_15 : decode cJ6_stringSize_0f7a4 15 = .ok (.istore_n 3, 1) := fx_ok0 eJ6_stringSize_0f7a4_0.2.2.2.2.2.2.2.2.2.2.2.2.1
theorem dJ6_stringSize_0f7a4_16 : decode cJ6_stringSize_0f7a4 16 = .ok (.iload_n 3, 1) := fx_ok0 eJ6_stringSize_0f7a4_0.2.2.2.2.2.2.2.2.2.2.2.2.2.1
theorem dJ6_stringSize_0f7a4_17 : decode cJ6_stringSize_0f7a4 17 = .ok (.bipush 10, 2) := fx_ok0 eJ6_stringSize_0f7a4_0.2.2.2.2.2.2.2.2.2.2.2.2.2.2.1
theorem dJ6_stringSize_0f7a4_19 : decode cJ6_stringSize_0f7a4 19 = .ok (.if_icmp .ge 23, 3) := fx_ok0 eJ6_stringSize_0f7a4_0.2.2.2.2.2.2.2.2.2.2.2.2.2.2.2
theorem eJ6_stringSize_0f7a4_22 : (fdecl cJ6_stringSize_0f7a4.data.toList 22 = some (.iload_n 0, 1)) ∧ (fdecl cJ6_stringSize_0f7a4.data.toList 23 = some (.iload_n 2, 1)) ∧ (fdecl cJ6_stringSize_0f7a4.data.toList 24 = some (.if_icmp .le 7, 3)) ∧ (fdecl cJ6_stringSize_0f7a4.data.toList 27 = some (.iload_n 3, 1)) ∧ (fdecl cJ6_stringSize_0f7a4.data.toList 28 = some (.iload_n 1, 1)) ∧ (fdecl cJ6_stringSize_0f7a4.data.toList 29 = some (.iadd, 1)) ∧ (fdecl cJ6_stringSize_0f7a4.data.toList 30 = some (.ireturn, 1)) ∧ (fdecl cJ6_stringSize_0f7a4.data.toList 31 = some (.bipush 10, 2)) ∧ (fdecl cJ6_stringSize_0f7a4.data.toList 33 = some (.iload_n 2, 1)) ∧ (fdecl cJ6_stringSize_0f7a4.data.toList 34 = some (.imul, 1)) ∧ (fdecl cJ6_stringSize_0f7a4.data.toList 35 = some (.istore_n 2, 1)) ∧ (fdecl cJ6_stringSize_0f7a4.data.toList 39 = some (.goto (-23), 3)) ∧ (fdecl cJ6_stringSize_0f7a4.data.toList 42 = some (.bipush 10, 2)) ∧ (fdecl cJ6_stringSize_0f7a4.data.toList 44 = some (.iload_n 1, 1)) ∧ (fdecl cJ6_stringSize_0f7a4.data.toList 45 = some (.iadd, 1)) ∧ (fdecl cJ6_stringSize_0f7a4.data.toList 46 = some (.ireturn, 1)) := by decide +kernel
theorem dJ6_stringSize_0f7a4_22 : decode cJ6_stringSize_0f7a4 22 = .ok (.iload_n 0, 1) := fx_ok0 eJ6_stringSize_0f7a4_22.1
theorem dJ6_stringSize_0f7a4_23 : decode cJ6_stringSize_0f7a4 23 = .ok (.iload_n 2, 1) := fx_ok0 eJ6_stringSize_0f7a4_22.2.1
theorem dJ6_stringSize_0f7a4_24 : decode cJ6_stringSize_0f7a4 24 = .ok (.if_icmp .le 7, 3) := fx_ok0 eJ6_stringSize_0f7a4_22.2.2.1
theorem dJ6_stringSize_0f7a4_27 : decode cJ6_stringSize_0f7a4 27 = .ok (.iload_n 3, 1) := fx_ok0 eJ6_stringSize_0f7a4_22.2.2.2.1
theorem dJ6_stringSize_0f7a4_28 : decode cJ6_stringSize_0f7a4 28 = .ok (.iload_n 1, 1) := fx_ok0 eJ6_stringSize_0f7a4_22.2.2.2.2.1
theorem dJ6_stringSize_0f7a4_29 : decode cJ6_stringSize_0f7a4 29 = .ok (.iadd, 1) := fx_ok0 eJ6_stringSize_0f7a4_22.2.2.2.2.2.1
theorem dJ6_stringSize_0f7a4_30 : decode cJ6_stringSize_0f7a4 30 = .ok (.ireturn, 1) := fx_ok0 eJ6_stringSize_0f7a4_22.2.2.2.2.2.2.1
theorem dJ6_stringSize_0f7a4_31 : decode cJ6_stringSize_0f7a4 31 = .ok (.bipush 10, 2) := fx_ok0 eJ6_stringSize_0f7a4_22.2.2.2.2.2.2.2.1
theorem dJ6_stringSize_0f7a4_33 : decode cJ6_stringSize_0f7a4 33 = .ok (.iload_n 2, 1) := fx_ok0 eJ6_stringSize_0f7a4_22.2.2.2.2.2.2.2.2.1
theorem dJ6_stringSize_0f7a4_34 : decode cJ6_stringSize_0f7a4 34 = .ok (.imul, 1) := fx_ok0 eJ6_stringSize_0f7a4_22.2.2.2.2.2.2.2.2.2.1
theorem dJ6_stringSize_0f7a4_35 : decode cJ6_stringSize_0f7a4 35 = .ok (.istore_n 2, 1) := fx_ok0 eJ6_stringSize_0f7a4_22.2.2.2.2.2.2.2.2.2.2.1
theorem dJ6_stringSize_0f7a4_39 : decode cJ6_stringSize_0f7a4 39 = .ok (.goto (-23), 3) := fx_ok0 eJ6_stringSize_0f7a4_22.2.2.2.2.2.2.2.2.2.2.2.1
theorem dJ6_stringSize_0f7a4_42 : decode cJ6_stringSize_0f7a4 42 = .ok (.bipush 10, 2) := fx_ok0 eJ6_stringSize_0f7a4_22.2.2.2.2.2.2.2.2.2.2.2.2.1
theorem dJ6_stringSize_0f7a4_44 : decode cJ6_stringSize_0f7a4 44 = .ok (.iload_n 1, 1) := fx_ok0 eJ6_stringSize_0f7a4_22.2.2.2.2.2.2.2.2.2.2.2.2.2.1
theorem dJ6_stringSize_0f7a4_45 : decode cJ6_stringSize_0f7a4 45 = .ok (.iadd, 1) := fx_ok0 eJ6_stringSize_0f7a4_22.2.2.2.2.2.2.2.2.2.2.2.2.2.2.1
theorem dJ6_stringSize_0f7a4_46 : decode cJ6_stringSize_0f7a4 46 = .ok (.ireturn, 1) := fx_ok0 eJ6_stringSize_0f7a4_22.2.2.2.2.2.2.2.2.2.2.2.2.2.2.2
theorem dJ6_stringSize_0f7a4_36 : decode cJ6_stringSize_0f7a4 36 = .ok (.iinc 3 1, 3) := by decide +kernel
theorem eJ0_init_81219_0 : (fdecl cJ0_init_81219.data.toList 0 = some (.aload_n 0, 1)) ∧ (fdecl cJ0_init_81219.data.toList 1 = some (.aload_n 1, 1)) ∧ (fdecl cJ0_init_81219.data.toList 2 = some (.aconst_null, 1)) ∧ (fdecl cJ0_init_81219.data.toList 3 = some (.invokespecial 489, 3)) ∧ (fdecl cJ0_init_81219.data.toList 6 = some (.return_, 1)) := by decide +kernel
theorem dJ0_init_81219_0 : decode cJ0_init_81219 0 = .ok (.aload_n 0, 1) := fx_ok0 eJ0_init_81219_0.1
theorem dJ0_init_81219_1 : decode cJ0_init_81219 1 = .ok (.aload_n 1, 1) := fx_ok0 eJ0_init_81219_0.2.1
theorem dJ0_init_81219_2 : decode cJ0_init_81219 2 = .ok (.aconst_null, 1) := fx_ok0 eJ0_init_81219_0.2.2.1
theorem dJ0_init_81219_3 : decode cJ0_init_81219 3 = .ok (.invokespecial 489, 3) := fx_ok0 eJ0_init_81219_0.2.2.2.1
theorem dJ0_init_81219_6 : decode cJ0_init_81219 6 = .ok (.return_, 1) := fx_ok0 eJ0_init_81219_0.2.2.2.2
theorem eJ0_length_8abf5_0 : (fdecl cJ0_length_8abf5.data.toList 0 = some (.aload_n 0, 1)) ∧ (fdecl cJ0_length_8abf5.data.toList 1 = some (.getfield 9, 3)) ∧ (fdecl cJ0_length_8abf5.data.toList 4 = some (.arraylength, 1)) ∧ (fdecl cJ0_length_8abf5.data.toList 5 = some (.aload_n 0, 1)) ∧ (fdecl cJ0_length_8abf5.data.toList 6 = some (.invokevirtual 335, 3)) ∧ (fdecl cJ0_length_8abf5.data.toList 9 = some (.ishr, 1)) ∧ (fdecl cJ0_length_8abf5.data.toList 10 = some (.ireturn, 1)) := by decide +kernel
theorem dJ0_length_8abf5_0 : decode cJ0_length_8abf5 0 = .ok (.aload_n 0, 1) := fx_ok0 eJ0_length_8abf5_0.1
theorem dJ0_length_8abf5_1 : decode cJ0_length_8abf5 1 = .ok (.getfield 9, 3) := fx_ok0 eJ0_length_8abf5_0.2.1
theorem dJ0_length_8abf5_4 : decode cJ0_length_8abf5 4 = .ok (.arraylength, 1) := fx_ok0 eJ0_length_8abf5_0.2.2.1
theorem dJ0_length_8abf5_5 : decode cJ0_length_8abf5 5 = .ok (.aload_n 0, 1) := fx_ok0 eJ0_length_8abf5_0.2.2.2.1
theorem dJ0_length_8abf5_6 : decode cJ0_length_8abf5 6 = .ok (.invokevirtual 335, 3) := fx_ok0 eJ0_length_8abf5_0.2.2.2.2.1
theorem dJ0_length_8abf5_9 : decode cJ0_length_8abf5 9 = .ok (.ishr, 1) := fx_ok0 eJ0_length_8abf5_0.2.2.2.2.2.1
theorem dJ0_length_8abf5_10 : decode cJ0_length_8abf5 10 = .ok (.ireturn, 1) := fx_ok0 eJ0_length_8abf5_0.2.2.2.2.2.2
theorem eJ0_getBytes_840e7_0 : (fdecl cJ0_getBytes_840e7.data.toList 0 = some (.aload_n 0, 1)) ∧ (fdecl cJ0_getBytes_840e7.data.toList 1 = some (.invokevirtual 335, 3)) ∧ (fdecl cJ0_getBytes_840e7.data.toList 4 = some (.iload_n 3, 1)) ∧ (fdecl cJ0_getBytes_840e7.data.toList 5 = some (.if_icmp .ne 23, 3)) ∧ (fdecl cJ0_getBytes_840e7.data.toList 8 = some (.aload_n 0, 1)) ∧ (fdecl cJ0_getBytes_840e7.data.toList 9 = some (.getfield 9, 3)) ∧ (fdecl cJ0_getBytes_840e7.data.toList 12 = some (.iconst 0, 1)) ∧ (fdecl cJ0_getBytes_840e7.data.toList 13 = some (.aload_n 1, 1)) ∧ (fdecl cJ0_getBytes_840e7.data.toList 14 = some (.iload_n 2, 1)) ∧ (fdecl cJ0_getBytes_840e7.data.toList 15 = some (.iload_n 3, 1)) ∧ (fdecl cJ0_getBytes_840e7.data.toList 16 = some (.ishl, 1)) ∧ (fdecl cJ0_getBytes_840e7.data.toList 17 = some (.aload_n 0, 1)) ∧ (fdecl cJ0_getBytes_840e7.data.toList 18 = some (.getfield 9, 3)) ∧ (fdecl cJ0_getBytes_840e7.data.toList 21 = some (.arraylength, 1)) ∧ (fdecl cJ0_getBytes_840e7.data.toList 22 = some (.invokestatic 212, 3)) ∧ (fdecl cJ0_getBytes_840e7.data.toList 25 = some (.goto 18, 3)) := by decide +kernel
theorem dJ0_getBytes_840e7_0 : decode cJ0_getBytes_840e7 0 = .ok (.aload_n 0, 1) := fx_ok0 eJ0_getBytes_840e7_0.1
theorem dJ0_getBytes_840e7_1 : decode cJ0_getBytes_840e7 1 = .ok (.invokevirtual 335, 3) := fx_ok0 eJ0_getBytes_840e7_0.2.1
theorem dJ0_getBytes_840e7_4 : decode cJ0_getBytes_840e7 4 = .ok (.iload_n 3, 1) := fx_ok0 eJ0_getBytes_840e7_0.2.2.1
theorem dJ0_getBytes_840e7_5 : decode cJ0_getBytes_840e7 5 = .ok (.if_icmp .ne 23, 3) := fx_ok0 eJ0_getBytes_840e7_0.2.2.2.1
theorem dJ0_getBytes_840e7_8 : decode cJ0_getBytes_840e7 8 = .ok (.aload_n 0, 1) := fx_ok0 eJ0_getBytes_840e7_0.2.2.2.2.1
theorem dJ0_getBytes_840e7_9 : decode cJ0_getBytes_840e7 9 = .ok (.getfield 9, 3) := fx_ok0 eJ0_getBytes_840e7_0.2.2.2.2.2.1
theorem dJ0_getBytes_840e7_12 : decode cJ0_getBytes_840e7 12 = .ok (.iconst 0, 1) := fx_ok0 eJ0_getBytes_840e7_0.2.2.2.2.2.2.1
theorem dJ0_getBytes_840e7_13 : decode cJ0_getBytes_840e7 13 = .ok (.aload_n 1, 1) := fx_ok0 eJ0_getBytes_840e7_0.2.2.2.2.2.2.2.1
theorem dJ0_getBytes_840e7_14 : decode cJ0_getBytes_840e7 14 = .ok (.iload_n 2, 1) := fx_ok0 eJ0_getBytes_840e7_0.2.2.2.2.2.2.2.2.1
theorem dJ0_getBytes_840e7_15 : decode cJ0_getBytes_840e7 15 = .ok (.iload_n 3, 1) := fx_ok0 eJ0_getBytes_840e7_0.2.2.2.2.2.2.2.2.2.1
theorem dJ0_getBytes_840e7_16 : decode cJ0_getBytes_840e7 16 = .ok (.ishl, 1) := fx_ok0 eJ0_getBytes_840e7_0.2.2.2.2.2.2.2.2.2.2.1
theorem dJ0_getBytes_840e7_17 : decode cJ0_getBytes_840e7 17 = .ok (.aload_n 0, 1) := fx_ok0 eJ0_getBytes_840e7_0.2.2.2.2.2.2.2.2.2.2.2.1
theorem dJ0_getBytes_840e7_18 : decode cJ0_getBytes_840e7 18 = .ok (.getfield 9, 3) := fx_ok0 eJ0_getBytes_840e7_0.2.2.2.2.2.2.2.2.2.2.2.2.1
theorem dJ0_getBytes_840e7_21 : decode cJ0_getBytes_840e7 21 = .ok (.arraylength, 1) := fx_ok0 eJ0_getBytes_840e7_0.2.2.2.2.2.2.2.2.2.2.2.2.2.1
theorem dJ0_getBytes_840e7_22 : decode cJ0_getBytes_840e7 22 = .ok (.invokestatic 212, 3) := fx_ok0 eJ0_getBytes_840e7_0.2.2.2.2.2.2.2.2.2.2.2.2.2.2.1
theorem dJ0_getBytes_840e7_25 : decode cJ0_getBytes_840e7 25 = .ok (.goto 18, 3) := fx_ok0 eJ0_getBytes_840e7_0.2.2.2.2.2.2.2.2.2.2.2.2.2.2.2
theorem eJ0_getBytes_840e7_28 : (fdecl cJ0_getBytes_840e7.data.toList 28 = some (.aload_n 0, 1)) ∧ (fdecl cJ0_getBytes_840e7.data.toList 29 = some (.getfield 9, 3)) ∧ (fdecl cJ0_getBytes_840e7.data.toList 32 = some (.iconst 0, 1)) ∧ (fdecl cJ0_getBytes_840e7.data.toList 33 = some (.aload_n 1, 1)) ∧ (fdecl cJ0_getBytes_840e7.data.toList 34 = some (.iload_n 2, 1)) ∧ (fdecl cJ0_getBytes_840e7.data.toList 35 = some (.aload_n 0, 1)) ∧ (fdecl cJ0_getBytes_840e7.data.toList 36 = some (.getfield 9, 3)) ∧ (fdecl cJ0_getBytes_840e7.data.toList 39 = some (.arraylength, 1)) ∧ (fdecl cJ0_getBytes_840e7.data.toList 40 = some (.invokestatic 106, 3)) ∧ (fdecl cJ0_getBytes_840e7.data.toList 43 = some (.return_, 1)) := by decide +kernel
theorem dJ0_getBytes_840e7_28 : decode cJ0_getBytes_840e7 28 = .ok (.aload_n 0, 1) := fx_ok0 eJ0_getBytes_840e7_28.1
theorem dJ0_getBytes_840e7_29 : decode cJ0_getBytes_840e7 29 = .ok (.getfield 9, 3) := fx_ok0 eJ0_getBytes_840e7_28.2.1
theorem dJ0_getBytes_840e7_32 : decode cJ0_getBytes_840e7 32 = .ok (.iconst 0, 1) := fx_ok0 eJ0_getBytes_840e7_28.2.2.1
theorem dJ0_getBytes_840e7_33 : decode cJ0_getBytes_840e7 33 = .ok (.aload_n 1, 1) := fx_ok0 eJ0_getBytes_840e7_28.2.2.2.1
theorem dJ0_getBytes_840e7_34 : decode cJ0_getBytes_840e7 34 = .ok (.iload_n 2, 1) := fx_ok0 eJ0_getBytes_840e7_28.2.2.2.2.1
theorem dJ0_getBytes_840e7_35 : decode cJ0_getBytes_840e7 35 = .ok (.aload_n 0, 1) := fx_ok0 eJ0_getBytes_840e7_28.2.2.2.2.2.1
theorem dJ0_getBytes_840e7_36 : decode cJ0_getBytes_840e7 36 = .ok (.getfield 9, 3) := fx_ok0 eJ0_getBytes_840e7_28.2.2.2.2.2.2.1
theorem dJ0_getBytes_840e7_39 : decode cJ0_getBytes_840e7 39 = .ok (.arraylength, 1) := fx_ok0 eJ0_getBytes_840e7_28.2.2.2.2.2.2.2.1
theorem dJ0_getBytes_840e7_40 : decode cJ0_getBytes_840e7 40 = .ok (.invokestatic 106, 3) := fx_ok0 eJ0_getBytes_840e7_28.2.2.2.2.2.2.2.2.1
theorem dJ0_getBytes_840e7_43 : decode cJ0_getBytes_840e7 43 = .ok (.return_, 1) := fx_ok0 eJ0_getBytes_840e7_28.2.2.2.2.2.2.2.2.2
def fAJ0_init_db425_0 : List UInt8 := [42, 183, 0, 1, 43, 182, 2, 40, 78, 43, 182, 2, 37, 54, 4, 43, 182, 4, 23, 153, 0, 22, 42, 3, 181, 0, 15, 42, 45, 3, 21, 4, 184, 0, 54, 181, 0, 9, 167, 0, 59, 178, 0, 38, 153, 0, 35, 43, 180, 4, 24, 153, 0, 28, 42, 45, 3, 21, 4, 184, 4, 27, 181, 0]
def fAJ0_init_db425_1 : List UInt8 := [9, 42, 42, 180, 0, 9, 21, 4, 184, 0, 47, 181, 0, 15, 177, 42, 4, 181, 0, 15, 42, 45, 3, 21, 4, 4, 120, 184, 0, 54, 181, 0, 9, 177]
def fTJ0_init_db425_1 : List UInt8 := fAJ0_init_db425_1
def fTJ0_init_db425_0 : List UInt8 := fAJ0_init_db425_0 ++ fTJ0_init_db425_1
theorem fDJ0_init_db425_0 : cJ0_init_db425.data.toList.drop 0 = fTJ0_init_db425_0 := eq_of_beq (by decide +kernel)
theorem fDJ0_init_db425_1 : cJ0_init_db425.data.toList.drop 64 = fTJ0_init_db425_1 := fx_nx (d := 0) (n := 64) (a := fAJ0_init_db425_0) fDJ0_init_db425_0 rfl
theorem eJ0_init_db425_0 : (fdecl fTJ0_init_db425_0 0 = some (.aload_n 0, 1)) ∧ (fdecl fTJ0_init_db425_0 1 = some (.invokespecial 1, 3)) ∧ (fdecl fTJ0_init_db425_0 4 = some (.aload_n 1, 1)) ∧ (fdecl fTJ0_init_db425_0 5 = some (.invokevirtual 552, 3)) ∧ (fdecl fTJ0_init_db425_0 8 = some (.astore_n 3, 1)) ∧ (fdecl fTJ0_init_db425_0 9 = some (.aload_n 1, 1)) ∧ (fdecl fTJ0_init_db425_0 10 = some (.invokevirtual 549, 3)) ∧ (fdecl fTJ0_init_db425_0 13 = some (.istore 4, 2)) ∧ (fdecl fTJ0_init_db425_0 15 = some (.aload_n 1, 1)) ∧ (fdecl fTJ0_init_db425_0 16 = some (.invokevirtual 1047, 3)) ∧ (fdecl fTJ0_init_db425_0 19 = some (.ifCond .eq 22, 3)) ∧ (fdecl fTJ0_init_db425_0 22 = some (.aload_n 0, 1)) ∧ (fdecl fTJ0_init_db425_0 23 = some (.iconst 0, 1)) ∧ (fdecl fTJ0_init_db425_0 24 = some (.putfield 15, 3)) ∧ (fdecl fTJ0_init_db425_0 27 = some (.aload_n 0, 1)) ∧ (fdecl fTJ0_init_db425_0 28 = some (.aload_n 3, 1)) := by decide +kernel
theorem dJ0_init_db425_0 : decode cJ0_init_db425 0 = .ok (.aload_n 0, 1) := fx_ok (d := 0) (i := 0) fDJ0_init_db425_0 eJ0_init_db425_0.1
theorem dJ0_init_db425_1 : decode cJ0_init_db425 1 = .ok (.invokespecial 1, 3) := fx_ok (d := 0) (i := 1) fDJ0_init_db425_0 eJ0_init_db425_0.2.1
theorem dJ0_init_db425_4 : decode cJ0_init_db425 4 = .ok (.aload_n 1, 1) := fx_ok (d := 0) (i := 4) fDJ0_init_db425_0 eJ0_init_db425_0.2.2.1
theorem dJ0_init_db425_5 : decode cJ0_init_db425 5 = .ok (.invokevirtual 552, 3) := fx_ok (d := 0) (i := 5) fDJ0_init_db425_0 eJ0_init_db425_0.2.2.2.1
theorem dJ0_init_db425_8 : decode cJ0_init_db425 8 = .ok (.astore_n 3, 1) := fx_ok (d := 0) (i := 8) fDJ0_init_db425_0 eJ0_init_db425_0.2.2.2.2.1
theorem dJ0_init_db425_9 : decode cJ0_init_db425 9 = .ok (.aload_n 1, 1) := fx_ok (d := 0) (i := 9) fDJ0_init_db425_0 eJ0_init_db425_0.2.2.2.2.2.1
theorem dJ0_init_db425_10 : decode cJ0_init_db425 10 = .ok (.invokevirtual 549, 3) := fx_ok (d := 0) (i := 10) fDJ0_init_db425_0 eJ0_init_db425_0.2.2.2.2.2.2.1
theorem dJ0_init_db425_13 : decode cJ0_init_db425 13 = .ok (.istore 4, 2) := fx_ok (d := 0) (i := 13) fDJ0_init_db425_0 eJ0_init_db425_0.2.2.2.2.2.2.2.1
theorem dJ0_init_db425_15 : decode cJ0_init_db425 15 = .ok (.aload_n 1, 1) := fx_ok (d := 0) (i := 15) fDJ0_init_db425_0 eJ0_init_db425_0.2.2.2.2.2.2.2.2.1
theorem dJ0_init_db425_16 : decode cJ0_init_db425 16 = .ok (.invokevirtual 1047, 3) := fx_ok (d := 0) (i := 16) fDJ0_init_db425_0 eJ0_init_db425_0.2.2.2.2.2.2.2.2.2.1
theorem dJ0_init_db425_19 : decode cJ0_init_db425 19 = .ok (.ifCond .eq 22, 3) := fx_ok (d := 0) (i := 19) fDJ0_init_db425_0 eJ0_init_db425_0.2.2.2.2.2.2.2.2.2.2.1
theorem dJ0_init_db425_22 : decode cJ0_init_db425 22 = .ok (.aload_n 0, 1) := fx_ok (d := 0) (i := 22) fDJ0_init_db425_0 eJ0_init_db425_0.2.2.2.2.2.2.2.2.2.2.2.1
theorem dJ0_init_db425_23 : decode cJ0_init_db425 23 = .ok (.iconst 0, 1) := fx_ok (d := 0) (i := 23) fDJ0_init_db425_0 eJ0_init_db425_0.2.2.2.2.2.2.2.2.2.2.2.2.1
theorem dJ0_init_db425_24 : decode cJ0_init_db425 24 = .ok (.putfield 15, 3) := fx_ok (d := 0) (i := 24) fDJ0_init_db425_0 eJ0_init_db425_0.2.2.2.2.2.2.2.2.2.2.2.2.2.1
theorem dJ0_init_db425_27 : decode cJ0_init_db425 27 = .ok (.aload_n 0, 1) := fx_ok (d := 0) (i := 27) fDJ0_init_db425_0 eJ0_init_db425_0.2.2.2.2.2.2.2.2.2.2.2.2.2.2.1
theorem dJ0_init_db425_28 : decode cJ0_init_db425 28 = .ok (.aload_n 3, 1) := fx_ok (d := 0) (i := 28) fDJ0_init_db425_0 eJ0_init_db425_0.2.2.2.2.2.2.2.2.2.2.2.2.2.2.2
theorem eJ0_init_db425_29 : (fdecl fTJ0_init_db425_0 29 = some (.iconst 0, 1)) ∧ (fdecl fTJ0_init_db425_0 30 = some (.iload 4, 2)) ∧ (fdecl fTJ0_init_db425_0 32 = some (.invokestatic 54, 3)) ∧ (fdecl fTJ0_init_db425_0 35 = some (.putfield 9, 3)) ∧ (fdecl fTJ0_init_db425_0 38 = some (.goto 59, 3)) ∧ (fdecl fTJ0_init_db425_0 41 = some (.getstatic 38, 3)) ∧ (fdecl fTJ0_init_db425_0 44 = some (.ifCond .eq 35, 3)) ∧ (fdecl fTJ0_init_db425_0 47 = some (.aload_n 1, 1)) ∧ (fdecl fTJ0_init_db425_0 48 = some (.getfield 1048, 3)) ∧ (fdecl fTJ0_init_db425_0 51 = some (.ifCond .eq 28, 3)) ∧ (fdecl fTJ0_init_db425_0 54 = some (.aload_n 0, 1)) ∧ (fdecl fTJ0_init_db425_0 55 = some (.aload_n 3, 1)) ∧ (fdecl fTJ0_init_db425_0 56 = some (.iconst 0, 1)) ∧ (fdecl fTJ0_init_db425_0 57 = some (.iload 4, 2)) ∧ (fdecl fTJ0_init_db425_0 59 = some (.invokestatic 1051, 3)) ∧ (fdecl fTJ0_init_db425_0 62 = some (.putfield 9, 3)) := by decide +kernel
theorem dJ0_init_db425_29 : decode cJ0_init_db425 29 = .ok (.iconst 0, 1) := fx_ok (d := 0) (i := 29) fDJ0_init_db425_0 eJ0_init_db425_29.1
theorem dJ0_init_db425_30 : decode cJ0_init_db425 30 = .ok (.iload 4, 2) := fx_ok (d := 0) (i := 30) fDJ0_init_db425_0 eJ0_init_db425_29.2.1
theorem dJ0_init_db425_32 : decode cJ0_init_db425 32 = .ok (.invokestatic 54, 3) := fx_ok (d := 0) (i := 32) fDJ0_init_db425_0 eJ0_init_db425_29.2.2.1
theorem dJ0_init_db425_35 : decode cJ0_init_db425 35 = .ok (.putfield 9, 3) := fx_ok (d := 0) (i := 35) fDJ0_init_db425_0 eJ0_init_db425_29.2.2.2.1
theorem dJ0_init_db425_38 : decode cJ0_init_db425 38 = .ok (.goto 59, 3) := fx_ok (d := 0) (i := 38) fDJ0_init_db425_0 eJ0_init_db425_29.2.2.2.2.1
theorem dJ0_init_db425_41 : decode cJ0_init_db425 41 = .ok (.getstatic 38, 3) := fx_ok (d := 0) (i := 41) fDJ0_init_db425_0 eJ0_init_db425_29.2.2.2.2.2.1
theorem dJ0_init_db425_44 : decode cJ0_init_db425 44 = .ok (.ifCond .eq 35, 3) := fx_ok (d := 0) (i := 44) fDJ0_init_db425_0 eJ0_init_db425_29.2.2.2.2.2.2.1
theorem dJ0_init_db425_47 : decode cJ0_init_db425 47 = .ok (.aload_n 1, 1) := fx_ok (d := 0) (i := 47) fDJ0_init_db425_0 eJ0_init_db425_29.2.2.2.2.2.2.2.1
theorem dJ0_init_db425_48 : decode cJ0_init_db425 48 = .ok (.getfield 1048, 3) := fx_ok (d := 0) (i := 48) fDJ0_init_db425_0 eJ0_init_db425_29.2.2.2.2.2.2.2.2.1
theorem dJ0_init_db425_51 : decode cJ0_init_db425 51 = .ok (.ifCond .eq 28, 3) := fx_ok (d := 0) (i := 51) fDJ0_init_db425_0 eJ0_init_db425_29.2.2.2.2.2.2.2.2.2.1
theorem dJ0_init_db425_54 : decode cJ0_init_db425 54 = .ok (.aload_n 0, 1) := fx_ok (d := 0) (i := 54) fDJ0_init_db425_0 eJ0_init_db425_29.2.2.2.2.2.2.2.2.2.2.1
theorem dJ0_init_db425_55 : decode cJ0_init_db425 55 = .ok (.aload_n 3, 1) := fx_ok (d := 0) (i := 55) fDJ0_init_db425_0 eJ0_init_db425_29.2.2.2.2.2.2.2.2.2.2.2.1
theorem dJ0_init_db425_56 : decode cJ0_init_db425 56 = .ok (.iconst 0, 1) := fx_ok (d := 0) (i := 56) fDJ0_init_db425_0 eJ0_init_db425_29.2.2.2.2.2.2.2.2.2.2.2.2.1
theorem dJ0_init_db425_57 : decode cJ0_init_db425 57 = .ok (.iload 4, 2) := fx_ok (d := 0) (i := 57) fDJ0_init_db425_0 eJ0_init_db425_29.2.2.2.2.2.2.2.2.2.2.2.2.2.1
theorem dJ0_init_db425_59 : decode cJ0_init_db425 59 = .ok (.invokestatic 1051, 3) := fx_ok (d := 0) (i := 59) fDJ0_init_db425_0 eJ0_init_db425_29.2.2.2.2.2.2.2.2.2.2.2.2.2.2.1
theorem dJ0_init_db425_62 : decode cJ0_init_db425 62 = .ok (.putfield 9, 3) := fx_ok (d := 0) (i := 62) fDJ0_init_db425_0 eJ0_init_db425_29.2.2.2.2.2.2.2.2.2.2.2.2.2.2.2
theorem eJ0_init_db425_65 : (fdecl fTJ0_init_db425_1 1 = some (.aload_n 0, 1)) ∧ (fdecl fTJ0_init_db425_1 2 = some (.aload_n 0, 1)) ∧ (fdecl fTJ0_init_db425_1 3 = some (.getfield 9, 3)) ∧ (fdecl fTJ0_init_db425_1 6 = some (.iload 4, 2)) ∧ (fdecl fTJ0_init_db425_1 8 = some (.invokestatic 47, 3)) ∧ (fdecl fTJ0_init_db425_1 11 = some (.putfield 15, 3)) ∧ (fdecl fTJ0_init_db425_1 14 = some (.return_, 1)) ∧ (fdecl fTJ0_init_db425_1 15 = some (.aload_n 0, 1)) ∧ (fdecl fTJ0_init_db425_1 16 = some (.iconst 1, 1)) ∧ (fdecl fTJ0_init_db425_1 17 = some (.putfield 15, 3)) ∧ (fdecl fTJ0_init_db425_1 20 = some (.aload_n 0, 1)) ∧ (fdecl fTJ0_init_db425_1 21 = some (.aload_n 3, 1)) ∧ (fdecl fTJ0_init_db425_1 22 = some (.iconst 0, 1)) ∧ (fdecl fTJ0_init_db425_1 23 = some (.iload 4, 2)) ∧ (fdecl fTJ0_init_db425_1 25 = some (.iconst 1, 1)) ∧ (fdecl fTJ0_init_db425_1 26 = some (.ishl, 1)) := by decide +kernel
theorem dJ0_init_db425_65 : decode cJ0_init_db425 65 = .ok (.aload_n 0, 1) := fx_ok (d := 64) (i := 1) fDJ0_init_db425_1 eJ0_init_db425_65.1
theorem dJ0_init_db425_66 : decode cJ0_init_db425 66 = .ok (.aload_n 0, 1) := fx_ok (d := 64) (i := 2) fDJ0_init_db425_1 eJ0_init_db425_65.2.1
theorem dJ0_init_db425_67 : decode cJ0_init_db425 67 = .ok (.getfield 9, 3) := fx_ok (d := 64) (i := 3) fDJ0_init_db425_1 eJ0_init_db425_65.2.2.1
theorem dJ0_init_db425_70 : decode cJ0_init_db425 70 = .ok (.iload 4, 2) := fx_ok (d := 64) (i := 6) fDJ0_init_db425_1 eJ0_init_db425_65.2.2.2.1
theorem dJ0_init_db425_72 : decode cJ0_init_db425 72 = .ok (.invokestatic 47, 3) := fx_ok (d := 64) (i := 8) fDJ0_init_db425_1 eJ0_init_db425_65.2.2.2.2.1
theorem dJ0_init_db425_75 : decode cJ0_init_db425 75 = .ok (.putfield 15, 3) := fx_ok (d := 64) (i := 11) fDJ0_init_db425_1 eJ0_init_db425_65.2.2.2.2.2.1
theorem dJ0_init_db425_78 : decode cJ0_init_db425 78 = .ok (.return_, 1) := fx_ok (d := 64) (i := 14) fDJ0_init_db425_1 eJ0_init_db425_65.2.2.2.2.2.2.1
theorem dJ0_init_db425_79 : decode cJ0_init_db425 79 = .ok (.aload_n 0, 1) := fx_ok (d := 64) (i := 15) fDJ0_init_db425_1 eJ0_init_db425_65.2.2.2.2.2.2.2.1
theorem dJ0_init_db425_80 : decode cJ0_init_db425 80 = .ok (.iconst 1, 1) := fx_ok (d := 64) (i := 16) fDJ0_init_db425_1 eJ0_init_db425_65.2.2.2.2.2.2.2.2.1
theorem dJ0_init_db425_81 : decode cJ0_init_db425 81 = .ok (.putfield 15, 3) := fx_ok (d := 64) (i := 17) fDJ0_init_db425_1 eJ0_init_db425_65.2.2.2.2.2.2.2.2.2.1
theorem dJ0_init_db425_84 : decode cJ0_init_db425 84 = .ok (.aload_n 0, 1) := fx_ok (d := 64) (i := 20) fDJ0_init_db425_1 eJ0_init_db425_65.2.2.2.2.2.2.2.2.2.2.1
theorem dJ0_init_db425_85 : decode cJ0_init_db425 85 = .ok (.aload_n 3, 1) := fx_ok (d := 64) (i := 21) fDJ0_init_db425_1 eJ0_init_db425_65.2.2.2.2.2.2.2.2.2.2.2.1
theorem dJ0_init_db425_86 : decode cJ0_init_db425 86 = .ok (.iconst 0, 1) := fx_ok (d := 64) (i := 22) fDJ0_init_db425_1 eJ0_init_db425_65.2.2.2.2.2.2.2.2.2.2.2.2.1
theorem dJ0_init_db425_87 : decode cJ0_init_db425 87 = .ok (.iload 4, 2) := fx_ok (d := 64) (i := 23) fDJ0_init_db425_1 eJ0_init_db425_65.2.2.2.2.2.2.2.2.2.2.2.2.2.1
theorem dJ0_init_db425_89 : decode cJ0_init_db425 89 = .ok (.iconst 1, 1) := fx_ok (d := 64) (i := 25) fDJ0_init_db425_1 eJ0_init_db425_65.2.2.2.2.2.2.2.2.2.2.2.2.2.2.1
theorem dJ0_init_db425_90 : decode cJ0_init_db425 90 = .ok (.ishl, 1) := fx_ok (d := 64) (i := 26) fDJ0_init_db425_1 eJ0_init_db425_65.2.2.2.2.2.2.2.2.2.2.2.2.2.2.2
theorem eJ0_init_db425_91 : (fdecl fTJ0_init_db425_1 27 = some (.invokestatic 54, 3)) ∧ (fdecl fTJ0_init_db425_1 30 = some (.putfield 9, 3)) ∧ (fdecl fTJ0_init_db425_1 33 = some (.return_, 1)) := by decide +kernel
theorem dJ0_init_db425_91 : decode cJ0_init_db425 91 = .ok (.invokestatic 54, 3) := fx_ok (d := 64) (i := 27) fDJ0_init_db425_1 eJ0_init_db425_91.1
theorem dJ0_init_db425_94 : decode cJ0_init_db425 94 = .ok (.putfield 9, 3) := fx_ok (d := 64) (i := 30) fDJ0_init_db425_1 eJ0_init_db425_91.2.1
theorem dJ0_init_db425_97 : decode cJ0_init_db425 97 = .ok (.return_, 1) := fx_ok (d := 64) (i := 33) fDJ0_init_db425_1 eJ0_init_db425_91.2.2
theorem eJ0_coder_7d493_0 : (fdecl cJ0_coder_7d493.data.toList 0 = some (.getstatic 38, 3)) ∧ (fdecl cJ0_coder_7d493.data.toList 3 = some (.ifCond .eq 10, 3)) ∧ (fdecl cJ0_coder_7d493.data.toList 6 = some (.aload_n 0, 1)) ∧ (fdecl cJ0_coder_7d493.data.toList 7 = some (.getfield 15, 3)) ∧ (fdecl cJ0_coder_7d493.data.toList 10 = some (.goto 4, 3)) ∧ (fdecl cJ0_coder_7d493.data.toList 13 = some (.iconst 1, 1)) ∧ (fdecl cJ0_coder_7d493.data.toList 14 = some (.ireturn, 1)) := by decide +kernel
theorem dJ0_coder_7d493_0 : decode cJ0_coder_7d493 0 = .ok (.getstatic 38, 3) := fx_ok0 eJ0_coder_7d493_0.1
theorem dJ0_coder_7d493_3 : decode cJ0_coder_7d493 3 = .ok (.ifCond .eq 10, 3) := fx_ok0 eJ0_coder_7d493_0.2.1
theorem dJ0_coder_7d493_6 : decode cJ0_coder_7d493 6 = .ok (.aload_n 0, 1) := fx_ok0 eJ0_coder_7d493_0.2.2.1
theorem dJ0_coder_7d493_7 : decode cJ0_coder_7d493 7 = .ok (.getfield 15, 3) := fx_ok0 eJ0_coder_7d493_0.2.2.2.1
theorem dJ0_coder_7d493_10 : decode cJ0_coder_7d493 10 = .ok (.goto 4, 3) := fx_ok0 eJ0_coder_7d493_0.2.2.2.2.1
theorem dJ0_coder_7d493_13 : decode cJ0_coder_7d493 13 = .ok (.iconst 1, 1) := fx_ok0 eJ0_coder_7d493_0.2.2.2.2.2.1
theorem dJ0_coder_7d493_14 : decode cJ0_coder_7d493 14 = .ok (.ireturn, 1) := fx_ok0 eJ0_coder_7d493_0.2.2.2.2.2.2
theorem eJ0_checkIndex_df160_0 : (fdecl cJ0_checkIndex_df160.data.toList 0 = some (.iload_n 0, 1)) ∧ (fdecl cJ0_checkIndex_df160.data.toList 1 = some (.iload_n 1, 1)) ∧ (fdecl cJ0_checkIndex_df160.data.toList 2 = some (.getstatic 1053, 3)) ∧ (fdecl cJ0_checkIndex_df160.data.toList 5 = some (.invokestatic 1059, 3)) ∧ (fdecl cJ0_checkIndex_df160.data.toList 8 = some (.pop, 1)) ∧ (fdecl cJ0_checkIndex_df160.data.toList 9 = some (.return_, 1)) := by decide +kernel
theorem dJ0_checkIndex_df160_0 : decode cJ0_checkIndex_df160 0 = .ok (.iload_n 0, 1) := fx_ok0 eJ0_checkIndex_df160_0.1
theorem dJ0_checkIndex_df160_1 : decode cJ0_checkIndex_df160 1 = .ok (.iload_n 1, 1) := fx_ok0 eJ0_checkIndex_df160_0.2.1
theorem dJ0_checkIndex_df160_2 : decode cJ0_checkIndex_df160 2 = .ok (.getstatic 1053, 3) := fx_ok0 eJ0_checkIndex_df160_0.2.2.1
theorem dJ0_checkIndex_df160_5 : decode cJ0_checkIndex_df160 5 = .ok (.invokestatic 1059, 3) := fx_ok0 eJ0_checkIndex_df160_0.2.2.2.1
theorem dJ0_checkIndex_df160_8 : decode cJ0_checkIndex_df160 8 = .ok (.pop, 1) := fx_ok0 eJ0_checkIndex_df160_0.2.2.2.2.1
theorem dJ0_checkIndex_df160_9 : decode cJ0_checkIndex_df160 9 = .ok (.return_, 1) := fx_ok0 eJ0_checkIndex_df160_0.2.2.2.2.2
theorem eJ0_checkBoundsOffCount_cabcc_0 : (fdecl cJ0_checkBoundsOffCount_cabcc.data.toList 0 = some (.iload_n 0, 1)) ∧ (fdecl cJ0_checkBoundsOffCount_cabcc.data.toList 1 = some (.iload_n 1, 1)) ∧ (fdecl cJ0_checkBoundsOffCount_cabcc.data.toList 2 = some (.iload_n 2, 1)) ∧ (fdecl cJ0_checkBoundsOffCount_cabcc.data.toList 3 = some (.getstatic 1053, 3)) ∧ (fdecl cJ0_checkBoundsOffCount_cabcc.data.toList 6 = some (.invokestatic 1065, 3)) ∧ (fdecl cJ0_checkBoundsOffCount_cabcc.data.toList 9 = some (.ireturn, 1)) := by decide +kernel
theorem dJ0_checkBoundsOffCount_cabcc_0 : decode cJ0_checkBoundsOffCount_cabcc 0 = .ok (.iload_n 0, 1) := fx_ok0 eJ0_checkBoundsOffCount_cabcc_0.1
theorem dJ0_checkBoundsOffCount_cabcc_1 : decode cJ0_checkBoundsOffCount_cabcc 1 = .ok (.iload_n 1, 1) := fx_ok0 eJ0_checkBoundsOffCount_cabcc_0.2.1
theorem dJ0_checkBoundsOffCount_cabcc_2 : decode cJ0_checkBoundsOffCount_cabcc 2 = .ok (.iload_n 2, 1) := fx_ok0 eJ0_checkBoundsOffCount_cabcc_0.2.2.1
theorem dJ0_checkBoundsOffCount_cabcc_3 : decode cJ0_checkBoundsOffCount_cabcc 3 = .ok (.getstatic 1053, 3) := fx_ok0 eJ0_checkBoundsOffCount_cabcc_0.2.2.2.1
theorem dJ0_checkBoundsOffCount_cabcc_6 : decode cJ0_checkBoundsOffCount_cabcc 6 = .ok (.invokestatic 1065, 3) := fx_ok0 eJ0_checkBoundsOffCount_cabcc_0.2.2.2.2.1
theorem dJ0_checkBoundsOffCount_cabcc_9 : decode cJ0_checkBoundsOffCount_cabcc 9 = .ok (.ireturn, 1) := fx_ok0 eJ0_checkBoundsOffCount_cabcc_0.2.2.2.2.2
theorem eJ0_checkBoundsBeginEnd_23922_0 : (fdecl cJ0_checkBoundsBeginEnd_23922.data.toList 0 = some (.iload_n 0, 1)) ∧ (fdecl cJ0_checkBoundsBeginEnd_23922.data.toList 1 = some (.iload_n 1, 1)) ∧ (fdecl cJ0_checkBoundsBeginEnd_23922.data.toList 2 = some (.iload_n 2, 1)) ∧ (fdecl cJ0_checkBoundsBeginEnd_23922.data.toList 3 = some (.getstatic 1053, 3)) ∧ (fdecl cJ0_checkBoundsBeginEnd_23922.data.toList 6 = some (.invokestatic 1062, 3)) ∧ (fdecl cJ0_checkBoundsBeginEnd_23922.data.toList 9 = some (.pop, 1)) ∧ (fdecl cJ0_checkBoundsBeginEnd_23922.data.toList 10 = some (.return_, 1)) := by decide +kernel
theorem dJ0_checkBoundsBeginEnd_23922_0 : decode cJ0_checkBoundsBeginEnd_23922 0 = .ok (.iload_n 0, 1) := fx_ok0 eJ0_checkBoundsBeginEnd_23922_0.1
theorem dJ0_checkBoundsBeginEnd_23922_1 : decode cJ0_checkBoundsBeginEnd_23922 1 = .ok (.iload_n 1, 1) := fx_ok0 eJ0_checkBoundsBeginEnd_23922_0.2.1
theorem dJ0_checkBoundsBeginEnd_23922_2 : decode cJ0_checkBoundsBeginEnd_23922 2 = .ok (.iload_n 2, 1) := fx_ok0 eJ0_checkBoundsBeginEnd_23922_0.2.2.1
theorem dJ0_checkBoundsBeginEnd_23922_3 : decode cJ0_checkBoundsBeginEnd_23922 3 = .ok (.getstatic 1053, 3) := fx_ok0 eJ0_checkBoundsBeginEnd_23922_0.2.2.2.1
theorem dJ0_checkBoundsBeginEnd_23922_6 : decode cJ0_checkBoundsBeginEnd_23922 6 = .ok (.invokestatic 1062, 3) := fx_ok0 eJ0_checkBoundsBeginEnd_23922_0.2.2.2.2.1
theorem dJ0_checkBoundsBeginEnd_23922_9 : decode cJ0_checkBoundsBeginEnd_23922 9 = .ok (.pop, 1) := fx_ok0 eJ0_checkBoundsBeginEnd_23922_0.2.2.2.2.2.1
theorem dJ0_checkBoundsBeginEnd_23922_10 : decode cJ0_checkBoundsBeginEnd_23922 10 = .ok (.return_, 1) := fx_ok0 eJ0_checkBoundsBeginEnd_23922_0.2.2.2.2.2.2
theorem eJ4_init_da8c8_0 : (fdecl cJ4_init_da8c8.data.toList 0 = some (.aload_n 0, 1)) ∧ (fdecl cJ4_init_da8c8.data.toList 1 = some (.bipush 16, 2)) ∧ (fdecl cJ4_init_da8c8.data.toList 3 = some (.invokespecial 1, 3)) ∧ (fdecl cJ4_init_da8c8.data.toList 6 = some (.return_, 1)) := by decide +kernel
theorem dJ4_init_da8c8_0 : decode cJ4_init_da8c8 0 = .ok (.aload_n 0, 1) := fx_ok0 eJ4_init_da8c8_0.1
theorem dJ4_init_da8c8_1 : decode cJ4_init_da8c8 1 = .ok (.bipush 16, 2) := fx_ok0 eJ4_init_da8c8_0.2.1
theorem dJ4_init_da8c8_3 : decode cJ4_init_da8c8 3 = .ok (.invokespecial 1, 3) := fx_ok0 eJ4_init_da8c8_0.2.2.1
theorem dJ4_init_da8c8_6 : decode cJ4_init_da8c8 6 = .ok (.return_, 1) := fx_ok0 eJ4_init_da8c8_0.2.2.2
theorem eJ4_init_a7421_0 : (fdecl cJ4_init_a7421.data.toList 0 = some (.aload_n 0, 1)) ∧ (fdecl cJ4_init_a7421.data.toList 1 = some (.aload_n 1, 1)) ∧ (fdecl cJ4_init_a7421.data.toList 2 = some (.invokespecial 7, 3)) ∧ (fdecl cJ4_init_a7421.data.toList 5 = some (.return_, 1)) := by decide +kernel
theorem dJ4_init_a7421_0 : decode cJ4_init_a7421 0 = .ok (.aload_n 0, 1) := fx_ok0 eJ4_init_a7421_0.1
theorem dJ4_init_a7421_1 : decode cJ4_init_a7421 1 = .ok (.aload_n 1, 1) := fx_ok0 eJ4_init_a7421_0.2.1
theorem dJ4_init_a7421_2 : decode cJ4_init_a7421 2 = .ok (.invokespecial 7, 3) := fx_ok0 eJ4_init_a7421_0.2.2.1
theorem dJ4_init_a7421_5 : decode cJ4_init_a7421 5 = .ok (.return_, 1) := fx_ok0 eJ4_init_a7421_0.2.2.2
theorem eJ4_append_15ec4_0 : (fdecl cJ4_append_15ec4.data.toList 0 = some (.aload_n 0, 1)) ∧ (fdecl cJ4_append_15ec4.data.toList 1 = some (.aload_n 1, 1)) ∧ (fdecl cJ4_append_15ec4.data.toList 2 = some (.invokespecial 29, 3)) ∧ (fdecl cJ4_append_15ec4.data.toList 5 = some (.pop, 1)) ∧ (fdecl cJ4_append_15ec4.data.toList 6 = some (.aload_n 0, 1)) ∧ (fdecl cJ4_append_15ec4.data.toList 7 = some (.areturn, 1)) := by decide +kernel
theorem dJ4_append_15ec4_0 : decode cJ4_append_15ec4 0 = .ok (.aload_n 0, 1) := fx_ok0 eJ4_append_15ec4_0.1
theorem dJ4_append_15ec4_1 : decode cJ4_append_15ec4 1 = .ok (.aload_n 1, 1) := fx_ok0 eJ4_append_15ec4_0.2.1
theorem dJ4_append_15ec4_2 : decode cJ4_append_15ec4 2 = .ok (.invokespecial 29, 3) := fx_ok0 eJ4_append_15ec4_0.2.2.1
theorem dJ4_append_15ec4_5 : decode cJ4_append_15ec4 5 = .ok (.pop, 1) := fx_ok0 eJ4_append_15ec4_0.2.2.2.1
theorem dJ4_append_15ec4_6 : decode cJ4_append_15ec4 6 = .ok (.aload_n 0, 1) := fx_ok0 eJ4_append_15ec4_0.2.2.2.2.1
theorem dJ4_append_15ec4_7 : decode cJ4_append_15ec4 7 = .ok (.areturn, 1) := fx_ok0 eJ4_append_15ec4_0.2.2.2.2.2
theorem eJ4_append_cf468_0 : (fdecl cJ4_append_cf468.data.toList 0 = some (.aload_n 0, 1)) ∧ (fdecl cJ4_append_cf468.data.toList 1 = some (.iload_n 1, 1)) ∧ (fdecl cJ4_append_cf468.data.toList 2 = some (.invokespecial 50, 3)) ∧ (fdecl cJ4_append_cf468.data.toList 5 = some (.pop, 1)) ∧ (fdecl cJ4_append_cf468.data.toList 6 = some (.aload_n 0, 1)) ∧ (fdecl cJ4_append_cf468.data.toList 7 = some (.areturn, 1)) := by decide +kernel
theorem dJ4_append_cf468_0 : decode cJ4_append_cf468 0 = .ok (.aload_n 0, 1) := fx_ok0 eJ4_append_cf468_0.1
theorem dJ4_append_cf468_1 : decode cJ4_append_cf468 1 = .ok (.iload_n 1, 1) := fx_ok0 eJ4_append_cf468_0.2.1
theorem dJ4_append_cf468_2 : decode cJ4_append_cf468 2 = .ok (.invokespecial 50, 3) := fx_ok0 eJ4_append_cf468_0.2.2.1
theorem dJ4_append_cf468_5 : decode cJ4_append_cf468 5 = .ok (.pop, 1) := fx_ok0 eJ4_append_cf468_0.2.2.2.1
theorem dJ4_append_cf468_6 : decode cJ4_append_cf468 6 = .ok (.aload_n 0, 1) := fx_ok0 eJ4_append_cf468_0.2.2.2.2.1
theorem dJ4_append_cf468_7 : decode cJ4_append_cf468 7 = .ok (.areturn, 1) := fx_ok0 eJ4_append_cf468_0.2.2.2.2.2
theorem eJ4_append_bf812_0 : (fdecl cJ4_append_bf812.data.toList 0 = some (.aload_n 0, 1)) ∧ (fdecl cJ4_append_bf812.data.toList 1 = some (.iload_n 1, 1)) ∧ (fdecl cJ4_append_bf812.data.toList 2 = some (.invokespecial 53, 3)) ∧ (fdecl cJ4_append_bf812.data.toList 5 = some (.pop, 1)) ∧ (fdecl cJ4_append_bf812.data.toList 6 = some (.aload_n 0, 1)) ∧ (fdecl cJ4_append_bf812.data.toList 7 = some (.areturn, 1)) := by decide +kernel
theorem dJ4_append_bf812_0 : decode cJ4_append_bf812 0 = .ok (.aload_n 0, 1) := fx_ok0 eJ4_append_bf812_0.1
theorem dJ4_append_bf812_1 : decode cJ4_append_bf812 1 = .ok (.iload_n 1, 1) := fx_ok0 eJ4_append_bf812_0.2.1
theorem dJ4_append_bf812_2 : decode cJ4_append_bf812 2 = .ok (.invokespecial 53, 3) := fx_ok0 eJ4_append_bf812_0.2.2.1
theorem dJ4_append_bf812_5 : decode cJ4_append_bf812 5 = .ok (.pop, 1) := fx_ok0 eJ4_append_bf812_0.2.2.2.1
theorem dJ4_append_bf812_6 : decode cJ4_append_bf812 6 = .ok (.aload_n 0, 1) := fx_ok0 eJ4_append_bf812_0.2.2.2.2.1
theorem dJ4_append_bf812_7 : decode cJ4_append_bf812 7 = .ok (.areturn, 1) := fx_ok0 eJ4_append_bf812_0.2.2.2.2.2
theorem eJ4_toString_0e30d_0 : (fdecl cJ4_toString_0e30d.data.toList 0 = some (.new 18, 3)) ∧ (fdecl cJ4_toString_0e30d.data.toList 3 = some (.dup, 1)) ∧ (fdecl cJ4_toString_0e30d.data.toList 4 = some (.aload_n 0, 1)) ∧ (fdecl cJ4_toString_0e30d.data.toList 5 = some (.invokespecial 137, 3)) ∧ (fdecl cJ4_toString_0e30d.data.toList 8 = some (.areturn, 1)) := by decide +kernel
theorem dJ4_toString_0e30d_0 : decode cJ4_toString_0e30d 0 = .ok (.new 18, 3) := fx_ok0 eJ4_toString_0e30d_0.1
theorem dJ4_toString_0e30d_3 : decode cJ4_toString_0e30d 3 = .ok (.dup, 1) := fx_ok0 eJ4_toString_0e30d_0.2.1
theorem dJ4_toString_0e30d_4 : decode cJ4_toString_0e30d 4 = .ok (.aload_n 0, 1) := fx_ok0 eJ4_toString_0e30d_0.2.2.1
theorem dJ4_toString_0e30d_5 : decode cJ4_toString_0e30d 5 = .ok (.invokespecial 137, 3) := fx_ok0 eJ4_toString_0e30d_0.2.2.2.1
theorem dJ4_toString_0e30d_8 : decode cJ4_toString_0e30d 8 = .ok (.areturn, 1) := fx_ok0 eJ4_toString_0e30d_0.2.2.2.2
theorem eJ4_append_cf1ce_0 : (fdecl cJ4_append_cf1ce.data.toList 0 = some (.aload_n 0, 1)) ∧ (fdecl cJ4_append_cf1ce.data.toList 1 = some (.aload_n 1, 1)) ∧ (fdecl cJ4_append_cf1ce.data.toList 2 = some (.invokevirtual 23, 3)) ∧ (fdecl cJ4_append_cf1ce.data.toList 5 = some (.areturn, 1)) := by decide +kernel
theorem dJ4_append_cf1ce_0 : decode cJ4_append_cf1ce 0 = .ok (.aload_n 0, 1) := fx_ok0 eJ4_append_cf1ce_0.1
theorem dJ4_append_cf1ce_1 : decode cJ4_append_cf1ce 1 = .ok (.aload_n 1, 1) := fx_ok0 eJ4_append_cf1ce_0.2.1
theorem dJ4_append_cf1ce_2 : decode cJ4_append_cf1ce 2 = .ok (.invokevirtual 23, 3) := fx_ok0 eJ4_append_cf1ce_0.2.2.1
theorem dJ4_append_cf1ce_5 : decode cJ4_append_cf1ce 5 = .ok (.areturn, 1) := fx_ok0 eJ4_append_cf1ce_0.2.2.2
theorem eJ4_length_8abf5_0 : (fdecl cJ4_length_8abf5.data.toList 0 = some (.aload_n 0, 1)) ∧ (fdecl cJ4_length_8abf5.data.toList 1 = some (.invokespecial 343, 3)) ∧ (fdecl cJ4_length_8abf5.data.toList 4 = some (.ireturn, 1)) := by decide +kernel
theorem dJ4_length_8abf5_0 : decode cJ4_length_8abf5 0 = .ok (.aload_n 0, 1) := fx_ok0 eJ4_length_8abf5_0.1
theorem dJ4_length_8abf5_1 : decode cJ4_length_8abf5 1 = .ok (.invokespecial 343, 3) := fx_ok0 eJ4_length_8abf5_0.2.1
theorem dJ4_length_8abf5_4 : decode cJ4_length_8abf5 4 = .ok (.ireturn, 1) := fx_ok0 eJ4_length_8abf5_0.2.2
theorem eJ1_canEncode_fc78d_0 : (fdecl cJ1_canEncode_fc78d.data.toList 0 = some (.iload_n 0, 1)) ∧ (fdecl cJ1_canEncode_fc78d.data.toList 1 = some (.sipush 255, 3)) ∧ (fdecl cJ1_canEncode_fc78d.data.toList 4 = some (.if_icmp .gt 7, 3)) ∧ (fdecl cJ1_canEncode_fc78d.data.toList 7 = some (.iconst 1, 1)) ∧ (fdecl cJ1_canEncode_fc78d.data.toList 8 = some (.goto 4, 3)) ∧ (fdecl cJ1_canEncode_fc78d.data.toList 11 = some (.iconst 0, 1)) ∧ (fdecl cJ1_canEncode_fc78d.data.toList 12 = some (.ireturn, 1)) := by decide +kernel
theorem dJ1_canEncode_fc78d_0 : decode cJ1_canEncode_fc78d 0 = .ok (.iload_n 0, 1) := fx_ok0 eJ1_canEncode_fc78d_0.1
theorem dJ1_canEncode_fc78d_1 : decode cJ1_canEncode_fc78d 1 = .ok (.sipush 255, 3) := fx_ok0 eJ1_canEncode_fc78d_0.2.1
theorem dJ1_canEncode_fc78d_4 : decode cJ1_canEncode_fc78d 4 = .ok (.if_icmp .gt 7, 3) := fx_ok0 eJ1_canEncode_fc78d_0.2.2.1
theorem dJ1_canEncode_fc78d_7 : decode cJ1_canEncode_fc78d 7 = .ok (.iconst 1, 1) := fx_ok0 eJ1_canEncode_fc78d_0.2.2.2.1
theorem dJ1_canEncode_fc78d_8 : decode cJ1_canEncode_fc78d 8 = .ok (.goto 4, 3) := fx_ok0 eJ1_canEncode_fc78d_0.2.2.2.2.1
theorem dJ1_canEncode_fc78d_11 : decode cJ1_canEncode_fc78d 11 = .ok (.iconst 0, 1) := fx_ok0 eJ1_canEncode_fc78d_0.2.2.2.2.2.1
theorem dJ1_canEncode_fc78d_12 : decode cJ1_canEncode_fc78d 12 = .ok (.ireturn, 1) := fx_ok0 eJ1_canEncode_fc78d_0.2.2.2.2.2.2
theorem eJ1_inflate_0e8fd_0 : (fdecl cJ1_inflate_0e8fd.data.toList 0 = some (.aload_n 0, 1)) ∧ (fdecl cJ1_inflate_0e8fd.data.toList 1 = some (.iload_n 1, 1)) ∧ (fdecl cJ1_inflate_0e8fd.data.toList 2 = some (.aload_n 2, 1)) ∧ (fdecl cJ1_inflate_0e8fd.data.toList 3 = some (.iload_n 3, 1)) ∧ (fdecl cJ1_inflate_0e8fd.data.toList 4 = some (.iload 4, 2)) ∧ (fdecl cJ1_inflate_0e8fd.data.toList 6 = some (.invokestatic 240, 3)) ∧ (fdecl cJ1_inflate_0e8fd.data.toList 9 = some (.return_, 1)) := by decide +kernel
theorem dJ1_inflate_0e8fd_0 : decode cJ1_inflate_0e8fd 0 = .ok (.aload_n 0, 1) := fx_ok0 eJ1_inflate_0e8fd_0.1
theorem dJ1_inflate_0e8fd_1 : decode cJ1_inflate_0e8fd 1 = .ok (.iload_n 1, 1) := fx_ok0 eJ1_inflate_0e8fd_0.2.1
theorem dJ1_inflate_0e8fd_2 : decode cJ1_inflate_0e8fd 2 = .ok (.aload_n 2, 1) := fx_ok0 eJ1_inflate_0e8fd_0.2.2.1
theorem dJ1_inflate_0e8fd_3 : decode cJ1_inflate_0e8fd 3 = .ok (.iload_n 3, 1) := fx_ok0 eJ1_inflate_0e8fd_0.2.2.2.1
theorem dJ1_inflate_0e8fd_4 : decode cJ1_inflate_0e8fd 4 = .ok (.iload 4, 2) := fx_ok0 eJ1_inflate_0e8fd_0.2.2.2.2.1
theorem dJ1_inflate_0e8fd_6 : decode cJ1_inflate_0e8fd 6 = .ok (.invokestatic 240, 3) := fx_ok0 eJ1_inflate_0e8fd_0.2.2.2.2.2.1
theorem dJ1_inflate_0e8fd_9 : decode cJ1_inflate_0e8fd 9 = .ok (.return_, 1) := fx_ok0 eJ1_inflate_0e8fd_0.2.2.2.2.2.2
theorem eJ8_newLength_cabcc_0 : (fdecl cJ8_newLength_cabcc.data.toList 0 = some (.iload_n 0, 1)) ∧ (fdecl cJ8_newLength_cabcc.data.toList 1 = some (.iload_n 1, 1)) ∧ (fdecl cJ8_newLength_cabcc.data.toList 2 = some (.iload_n 2, 1)) ∧ (fdecl cJ8_newLength_cabcc.data.toList 3 = some (.invokestatic 194, 3)) ∧ (fdecl cJ8_newLength_cabcc.data.toList 6 = some (.iadd, 1)) ∧ (fdecl cJ8_newLength_cabcc.data.toList 7 = some (.istore_n 3, 1)) ∧ (fdecl cJ8_newLength_cabcc.data.toList 8 = some (.iconst 0, 1)) ∧ (fdecl cJ8_newLength_cabcc.data.toList 9 = some (.iload_n 3, 1)) ∧ (fdecl cJ8_newLength_cabcc.data.toList 10 = some (.if_icmp .ge 11, 3)) ∧ (fdecl cJ8_newLength_cabcc.data.toList 13 = some (.iload_n 3, 1)) ∧ (fdecl cJ8_newLength_cabcc.data.toList 14 = some (.ldc 200, 2)) ∧ (fdecl cJ8_newLength_cabcc.data.toList 16 = some (.if_icmp .gt 5, 3)) ∧ (fdecl cJ8_newLength_cabcc.data.toList 19 = some (.iload_n 3, 1)) ∧ (fdecl cJ8_newLength_cabcc.data.toList 20 = some (.ireturn, 1)) ∧ (fdecl cJ8_newLength_cabcc.data.toList 21 = some (.iload_n 0, 1)) ∧ (fdecl cJ8_newLength_cabcc.data.toList 22 = some (.iload_n 1, 1)) := by decide +kernel
theorem dJ8_newLength_cabcc_0 : decode cJ8_newLength_cabcc 0 = .ok (.iload_n 0, 1) := fx_ok0 eJ8_newLength_cabcc_0.1
theorem dJ8_newLength_cabcc_1 : decode cJ8_newLength_cabcc 1 = .ok (.iload_n 1, 1) := fx_ok0 eJ8_newLength_cabcc_0.2.1
theorem dJ8_newLength_cabcc_2 : decode cJ8_newLength_cabcc 2 = .ok (.iload_n 2, 1) := fx_ok0 eJ8_newLength_cabcc_0.2.2.1
theorem dJ8_newLength_cabcc_3 : decode cJ8_newLength_cabcc 3 = .ok (.invokestatic 194, 3) := fx_ok0 eJ8_newLength_cabcc_0.2.2.2.1
theorem dJ8_newLength_cabcc_6 : decode cJ8_newLength_cabcc 6 = .ok (.iadd, 1) := fx_ok0 eJ8_newLength_cabcc_0.2.2.2.2.1
theorem dJ8_newLength_cabcc_7 : decode cJ8_newLength_cabcc 7 = .ok (.istore_n 3, 1) := fx_ok0 eJ8_newLength_cabcc_0.2.2.2.2.2.1
theorem dJ8_newLength_cabcc_8 : decode cJ8_newLength_cabcc 8 = .ok (.iconst 0, 1) := fx_ok0 eJ8_newLength_cabcc_0.2.2.2.2.2.2.1
theorem dJ8_newLength_cabcc_9 : decode cJ8_newLength_cabcc 9 = .ok (.iload_n 3, 1) := fx_ok0 eJ8_newLength_cabcc_0.2.2.2.2.2.2.2.1
theorem dJ8_newLength_cabcc_10 : decode cJ8_newLength_cabcc 10 = .ok (.if_icmp .ge 11, 3) := fx_ok0 eJ8_newLength_cabcc_0.2.2.2.2.2.2.2.2.1
theorem dJ8_newLength_cabcc_13 : decode cJ8_newLength_cabcc 13 = .ok (.iload_n 3, 1) := fx_ok0 eJ8_newLength_cabcc_0.2.2.2.2.2.2.2.2.2.1
theorem dJ8_newLength_cabcc_14 : decode cJ8_newLength_cabcc 14 = .ok (.ldc 200, 2) := fx_ok0 eJ8_newLength_cabcc_0.2.2.2.2.2.2.2.2.2.2.1
theorem dJ8_newLength_cabcc_16 : decode cJ8_newLength_cabcc 16 = .ok (.if_icmp .gt 5, 3) := fx_ok0 eJ8_newLength_cabcc_0.2.2.2.2.2.2.2.2.2.2.2.1
theorem dJ8_newLength_cabcc_19 : decode cJ8_newLength_cabcc 19 = .ok (.iload_n 3, 1) := fx_ok0 eJ8_newLength_cabcc_0.2.2.2.2.2.2.2.2.2.2.2.2.1
theorem dJ8_newLength_cabcc_20 : decode cJ8_newLength_cabcc 20 = .ok (.ireturn, 1) := fx_ok0 eJ8_newLength_cabcc_0.2.2.2.2.2.2.2.2.2.2.2.2.2.1
theorem dJ8_newLength_cabcc_21 : decode cJ8_newLength_cabcc 21 = .ok (.iload_n 0, 1) := fx_ok0 eJ8_newLength_cabcc_0.2.2.2.2.2.2.2.2.2.2.2.2.2.2.1
theorem dJ8_newLength_cabcc_22 : decode cJ8_newLength_cabcc 22 = .ok (.iload_n 1, 1) := fx_ok0 eJ8_newLength_cabcc_0.2.2.2.2.2.2.2.2.2.2.2.2.2.2.2
theorem eJ8_newLength_cabcc_23 : (fdecl cJ8_newLength_cabcc.data.toList 23 = some (.invokestatic 201, 3)) ∧ (fdecl cJ8_newLength_cabcc.data.toList 26 = some (.ireturn, 1)) := by decide +kernel
theorem dJ8_newLength_cabcc_23 : decode cJ8_newLength_cabcc 23 = .ok (.invokestatic 201, 3) := fx_ok0 eJ8_newLength_cabcc_23.1
theorem dJ8_newLength_cabcc_26 : decode cJ8_newLength_cabcc 26 = .ok (.ireturn, 1) := fx_ok0 eJ8_newLength_cabcc_23.2
theorem eJ8_hugeLength_7cf53_0 : (fdecl cJ8_hugeLength_7cf53.data.toList 0 = some (.iload_n 0, 1)) ∧ (fdecl cJ8_hugeLength_7cf53.data.toList 1 = some (.iload_n 1, 1)) ∧ (fdecl cJ8_hugeLength_7cf53.data.toList 2 = some (.iadd, 1)) ∧ (fdecl cJ8_hugeLength_7cf53.data.toList 3 = some (.istore_n 2, 1)) ∧ (fdecl cJ8_hugeLength_7cf53.data.toList 4 = some (.iload_n 2, 1)) ∧ (fdecl cJ8_hugeLength_7cf53.data.toList 5 = some (.ifCond .ge 44, 3)) ∧ (fdecl cJ8_hugeLength_7cf53.data.toList 8 = some (.new 204, 3)) ∧ (fdecl cJ8_hugeLength_7cf53.data.toList 11 = some (.dup, 1)) ∧ (fdecl cJ8_hugeLength_7cf53.data.toList 12 = some (.new 89, 3)) ∧ (fdecl cJ8_hugeLength_7cf53.data.toList 15 = some (.dup, 1)) ∧ (fdecl cJ8_hugeLength_7cf53.data.toList 16 = some (.invokespecial 91, 3)) ∧ (fdecl cJ8_hugeLength_7cf53.data.toList 19 = some (.ldc 206, 2)) ∧ (fdecl cJ8_hugeLength_7cf53.data.toList 21 = some (.invokevirtual 94, 3)) ∧ (fdecl cJ8_hugeLength_7cf53.data.toList 24 = some (.iload_n 0, 1)) ∧ (fdecl cJ8_hugeLength_7cf53.data.toList 25 = some (.invokevirtual 98, 3)) ∧ (fdecl cJ8_hugeLength_7cf53.data.toList 28 = some (.ldc 208, 2)) := by decide +kernel
theorem dJ8_hugeLength_7cf53_0 : decode cJ8_hugeLength_7cf53 0 = .ok (.iload_n 0, 1) := fx_ok0 eJ8_hugeLength_7cf53_0.1
theorem dJ8_hugeLength_7cf53_1 : decode cJ8_hugeLength_7cf53 1 = .ok (.iload_n 1, 1) := fx_ok0 eJ8_hugeLength_7cf53_0.2.1
theorem dJ8_hugeLength_7cf53_2 : decode cJ8_hugeLength_7cf53 2 = .ok (.iadd, 1) := fx_ok0 eJ8_hugeLength_7cf53_0.2.2.1
theorem dJ8_hugeLength_7cf53_3 : decode cJ8_hugeLength_7cf53 3 = .ok (.istore_n 2, 1) := fx_ok0 eJ8_hugeLength_7cf53_0.2.2.2.1
theorem dJ8_hugeLength_7cf53_4 : decode cJ8_hugeLength_7cf53 4 = .ok (.iload_n 2, 1) := fx_ok0 eJ8_hugeLength_7cf53_0.2.2.2.2.1
theorem dJ8_hugeLength_7cf53_5 : decode cJ8_hugeLength_7cf53 5 = .ok (.ifCond .ge 44, 3) := fx_ok0 eJ8_hugeLength_7cf53_0.2.2.2.2.2.1
theorem dJ8_hugeLength_7cf53_8 : decode cJ8_hugeLength_7cf53 8 = .ok (.new 204, 3) := fx_ok0 eJ8_hugeLength_7cf53_0.2.2.2.2.2.2.1
theorem dJ8_hugeLength_7cf53_11 : decode cJ8_hugeLength_7cf53 11 = .ok (.dup, 1) := fx_ok0 eJ8_hugeLength_7cf53_0.2.2.2.2.2.2.2.1
theorem dJ8_hugeLength_7cf53_12 : decode cJ8_hugeLength_7cf53 12 = .ok (.new 89, 3) := fx_ok0 eJ8_hugeLength_7cf53_0.2.2.2.2.2.2.2.2.1
theorem dJ8_hugeLength_7cf53_15 : decode cJ8_hugeLength_7cf53 15 = .ok (.dup, 1) := fx_ok0 eJ8_hugeLength_7cf53_0.2.2.2.2.2.2.2.2.2.1
theorem dJ8_hugeLength_7cf53_16 : decode cJ8_hugeLength_7cf53 16 = .ok (.invokespecial 91, 3) := fx_ok0 eJ8_hugeLength_7cf53_0.2.2.2.2.2.2.2.2.2.2.1
theorem dJ8_hugeLength_7cf53_19 : decode cJ8_hugeLength_7cf53 19 = .ok (.ldc 206, 2) := fx_ok0 eJ8_hugeLength_7cf53_0.2.2.2.2.2.2.2.2.2.2.2.1
theorem dJ8_hugeLength_7cf53_21 : decode cJ8_hugeLength_7cf53 21 = .ok (.invokevirtual 94, 3) := fx_ok0 eJ8_hugeLength_7cf53_0.2.2.2.2.2.2.2.2.2.2.2.2.1
theorem dJ8_hugeLength_7cf53_24 : decode cJ8_hugeLength_7cf53 24 = .ok (.iload_n 0, 1) := fx_ok0 eJ8_hugeLength_7cf53_0.2.2.2.2.2.2.2.2.2.2.2.2.2.1
theorem dJ8_hugeLength_7cf53_25 : decode cJ8_hugeLength_7cf53 25 = .ok (.invokevirtual 98, 3) := fx_ok0 eJ8_hugeLength_7cf53_0.2.2.2.2.2.2.2.2.2.2.2.2.2.2.1
theorem dJ8_hugeLength_7cf53_28 : decode cJ8_hugeLength_7cf53 28 = .ok (.ldc 208, 2) := fx_ok0 eJ8_hugeLength_7cf53_0.2.2.2.2.2.2.2.2.2.2.2.2.2.2.2
theorem eJ8_hugeLength_7cf53_30 : (fdecl cJ8_hugeLength_7cf53.data.toList 30 = some (.invokevirtual 94, 3)) ∧ (fdecl cJ8_hugeLength_7cf53.data.toList 33 = some (.iload_n 1, 1)) ∧ (fdecl cJ8_hugeLength_7cf53.data.toList 34 = some (.invokevirtual 98, 3)) ∧ (fdecl cJ8_hugeLength_7cf53.data.toList 37 = some (.ldc 210, 2)) ∧ (fdecl cJ8_hugeLength_7cf53.data.toList 39 = some (.invokevirtual 94, 3)) ∧ (fdecl cJ8_hugeLength_7cf53.data.toList 42 = some (.invokevirtual 101, 3)) ∧ (fdecl cJ8_hugeLength_7cf53.data.toList 45 = some (.invokespecial 212, 3)) ∧ (fdecl cJ8_hugeLength_7cf53.data.toList 48 = some (.athrow, 1)) ∧ (fdecl cJ8_hugeLength_7cf53.data.toList 49 = some (.iload_n 2, 1)) ∧ (fdecl cJ8_hugeLength_7cf53.data.toList 50 = some (.ldc 200, 2)) ∧ (fdecl cJ8_hugeLength_7cf53.data.toList 52 = some (.if_icmp .gt 6, 3)) ∧ (fdecl cJ8_hugeLength_7cf53.data.toList 55 = some (.ldc 200, 2)) ∧ (fdecl cJ8_hugeLength_7cf53.data.toList 57 = some (.ireturn, 1)) ∧ (fdecl cJ8_hugeLength_7cf53.data.toList 58 = some (.iload_n 2, 1)) ∧ (fdecl cJ8_hugeLength_7cf53.data.toList 59 = some (.ireturn, 1)) := by decide +kernel
theorem dJ8_hugeLength_7cf53_30 : decode cJ8_hugeLength_7cf53 30 = .ok (.invokevirtual 94, 3) := fx_ok0 eJ8_hugeLength_7cf53_30.1
theorem dJ8_hugeLength_7cf53_33 : decode cJ8_hugeLength_7cf53 33 = .ok (.iload_n 1, 1) := fx_ok0 eJ8_hugeLength_7cf53_30.2.1
theorem dJ8_hugeLength_7cf53_34 : decode cJ8_hugeLength_7cf53 34 = .ok (.invokevirtual 98, 3) := fx_ok0 eJ8_hugeLength_7cf53_30.2.2.1
theorem dJ8_hugeLength_7cf53_37 : decode cJ8_hugeLength_7cf53 37 = .ok (.ldc 210, 2) := fx_ok0 eJ8_hugeLength_7cf53_30.2.2.2.1
theorem dJ8_hugeLength_7cf53_39 : decode cJ8_hugeLength_7cf53 39 = .ok (.invokevirtual 94, 3) := fx_ok0 eJ8_hugeLength_7cf53_30.2.2.2.2.1
theorem dJ8_hugeLength_7cf53_42 : decode cJ8_hugeLength_7cf53 42 = .ok (.invokevirtual 101, 3) := fx_ok0 eJ8_hugeLength_7cf53_30.2.2.2.2.2.1
theorem dJ8_hugeLength_7cf53_45 : decode cJ8_hugeLength_7cf53 45 = .ok (.invokespecial 212, 3) := fx_ok0 eJ8_hugeLength_7cf53_30.2.2.2.2.2.2.1
theorem dJ8_hugeLength_7cf53_48 : decode cJ8_hugeLength_7cf53 48 = .ok (.athrow, 1) := fx_ok0 eJ8_hugeLength_7cf53_30.2.2.2.2.2.2.2.1
theorem dJ8_hugeLength_7cf53_49 : decode cJ8_hugeLength_7cf53 49 = .ok (.iload_n 2, 1) := fx_ok0 eJ8_hugeLength_7cf53_30.2.2.2.2.2.2.2.2.1
theorem dJ8_hugeLength_7cf53_50 : decode cJ8_hugeLength_7cf53 50 = .ok (.ldc 200, 2) := fx_ok0 eJ8_hugeLength_7cf53_30.2.2.2.2.2.2.2.2.2.1
theorem dJ8_hugeLength_7cf53_52 : decode cJ8_hugeLength_7cf53 52 = .ok (.if_icmp .gt 6, 3) := fx_ok0 eJ8_hugeLength_7cf53_30.2.2.2.2.2.2.2.2.2.2.1
theorem dJ8_hugeLength_7cf53_55 : decode cJ8_hugeLength_7cf53 55 = .ok (.ldc 200, 2) := fx_ok0 eJ8_hugeLength_7cf53_30.2.2.2.2.2.2.2.2.2.2.2.1
theorem dJ8_hugeLength_7cf53_57 : decode cJ8_hugeLength_7cf53 57 = .ok (.ireturn, 1) := fx_ok0 eJ8_hugeLength_7cf53_30.2.2.2.2.2.2.2.2.2.2.2.2.1
theorem dJ8_hugeLength_7cf53_58 : decode cJ8_hugeLength_7cf53 58 = .ok (.iload_n 2, 1) := fx_ok0 eJ8_hugeLength_7cf53_30.2.2.2.2.2.2.2.2.2.2.2.2.2.1
theorem dJ8_hugeLength_7cf53_59 : decode cJ8_hugeLength_7cf53 59 = .ok (.ireturn, 1) := fx_ok0 eJ8_hugeLength_7cf53_30.2.2.2.2.2.2.2.2.2.2.2.2.2.2
